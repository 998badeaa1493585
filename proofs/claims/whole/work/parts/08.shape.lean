/-! the shapes of all cells behind the constructors; cell 0 is the script -/
def T0r : sxT := [(8, 12, [some 2, some 4, some 7, some 12, some 17, some 119, some 126, some 133, some 141, some 146, some 148, none]),
  (6, 2, [some 3, none]),
  (20, 1600, []),
  (5, 9, [some 2, some 5, some 6, none, none, none, none, none, none]),
  (20, 40, []),
  (20, 40, []),
  (2, 7, [some 8, some 9, some 10, some 11, none, none, none]),
  (20, 40, []),
  (20, 40, []),
  (20, 40, []),
  (20, 40, []),
  (2, 7, [some 13, some 14, some 15, some 16, none, none, none]),
  (20, 40, []),
  (20, 40, []),
  (20, 40, []),
  (20, 40, []),
  (0, 3, [some 18, none, none]),
  (22, 20, [some 19, some 24, some 29, some 34, some 39, some 44, some 49, some 54, some 59, some 64, some 69, some 74, some 79, some 84, some 89, some 94, some 99, some 104, some 109, some 114]),
  (2, 7, [some 20, some 21, some 22, some 23, none, none, none]),
  (20, 40, []),
  (20, 40, []),
  (20, 40, []),
  (20, 40, []),
  (2, 7, [some 25, some 26, some 27, some 28, none, none, none]),
  (20, 40, []),
  (20, 40, []),
  (20, 40, []),
  (20, 40, []),
  (2, 7, [some 30, some 31, some 32, some 33, none, none, none]),
  (20, 40, []),
  (20, 40, []),
  (20, 40, []),
  (20, 40, []),
  (2, 7, [some 35, some 36, some 37, some 38, none, none, none]),
  (20, 40, []),
  (20, 40, []),
  (20, 40, []),
  (20, 40, []),
  (2, 7, [some 40, some 41, some 42, some 43, none, none, none]),
  (20, 40, []),
  (20, 40, []),
  (20, 40, []),
  (20, 40, []),
  (2, 7, [some 45, some 46, some 47, some 48, none, none, none]),
  (20, 40, []),
  (20, 40, []),
  (20, 40, []),
  (20, 40, []),
  (2, 7, [some 50, some 51, some 52, some 53, none, none, none]),
  (20, 40, []),
  (20, 40, []),
  (20, 40, []),
  (20, 40, []),
  (2, 7, [some 55, some 56, some 57, some 58, none, none, none]),
  (20, 40, []),
  (20, 40, []),
  (20, 40, []),
  (20, 40, []),
  (2, 7, [some 60, some 61, some 62, some 63, none, none, none]),
  (20, 40, []),
  (20, 40, []),
  (20, 40, []),
  (20, 40, []),
  (2, 7, [some 65, some 66, some 67, some 68, none, none, none]),
  (20, 40, []),
  (20, 40, []),
  (20, 40, []),
  (20, 40, []),
  (2, 7, [some 70, some 71, some 72, some 73, none, none, none]),
  (20, 40, []),
  (20, 40, []),
  (20, 40, []),
  (20, 40, []),
  (2, 7, [some 75, some 76, some 77, some 78, none, none, none]),
  (20, 40, []),
  (20, 40, []),
  (20, 40, []),
  (20, 40, []),
  (2, 7, [some 80, some 81, some 82, some 83, none, none, none]),
  (20, 40, []),
  (20, 40, []),
  (20, 40, []),
  (20, 40, []),
  (2, 7, [some 85, some 86, some 87, some 88, none, none, none]),
  (20, 40, []),
  (20, 40, []),
  (20, 40, []),
  (20, 40, []),
  (2, 7, [some 90, some 91, some 92, some 93, none, none, none]),
  (20, 40, []),
  (20, 40, []),
  (20, 40, []),
  (20, 40, []),
  (2, 7, [some 95, some 96, some 97, some 98, none, none, none]),
  (20, 40, []),
  (20, 40, []),
  (20, 40, []),
  (20, 40, []),
  (2, 7, [some 100, some 101, some 102, some 103, none, none, none]),
  (20, 40, []),
  (20, 40, []),
  (20, 40, []),
  (20, 40, []),
  (2, 7, [some 105, some 106, some 107, some 108, none, none, none]),
  (20, 40, []),
  (20, 40, []),
  (20, 40, []),
  (20, 40, []),
  (2, 7, [some 110, some 111, some 112, some 113, none, none, none]),
  (20, 40, []),
  (20, 40, []),
  (20, 40, []),
  (20, 40, []),
  (2, 7, [some 115, some 116, some 117, some 118, none, none, none]),
  (20, 40, []),
  (20, 40, []),
  (20, 40, []),
  (20, 40, []),
  (3, 12, [some 7, none, some 120, some 121, some 122, some 123, some 124, some 125, none, none, none, none]),
  (20, 40, []),
  (21, 40, []),
  (20, 40, []),
  (20, 40, []),
  (20, 40, []),
  (20, 40, []),
  (3, 12, [some 7, none, some 127, some 128, some 129, some 130, some 131, some 132, none, none, none, none]),
  (20, 40, []),
  (21, 40, []),
  (20, 40, []),
  (20, 40, []),
  (20, 40, []),
  (20, 40, []),
  (7, 9, [some 7, some 134, some 135, some 136, some 137, some 138, some 139, some 140, none]),
  (20, 40, []),
  (20, 40, []),
  (20, 40, []),
  (20, 40, []),
  (20, 40, []),
  (20, 40, []),
  (21, 40, []),
  (4, 6, [some 7, some 142, some 143, some 144, some 145, none]),
  (20, 12, []),
  (20, 12, []),
  (20, 12, []),
  (21, 3, []),
  (1, 2, [some 147, none]),
  (20, 243, []),
  (20, 6, []),
  (9, 42, [some 150, some 151, some 152, some 153, none, none, none, some 154, none, some 155, none, none, none, none, none, none, none, some 156, none, none, some 157, some 158, some 159, some 160, none, none, none, none, none, none, none, some 161, some 162, some 163, some 164, some 165, none, some 166, some 167, some 168, some 169, none]),
  (20, 481, []),
  (20, 9620, []),
  (20, 481, []),
  (20, 481, []),
  (20, 1600, []),
  (20, 6, []),
  (20, 30, []),
  (20, 120, []),
  (20, 240, []),
  (20, 40, []),
  (20, 40, []),
  (20, 160, []),
  (20, 40, []),
  (20, 40, []),
  (20, 40, []),
  (20, 120, []),
  (20, 12, []),
  (20, 12, []),
  (20, 12, []),
  (20, 243, [])]
def T0 (n : Nat) : sxT := (23, n, []) :: T0r
set_option maxRecDepth 20000 in
theorem tf {n : Nat} : sx_kd (T0 n) 1 = 8 ∧
  sx_rf (T0 n) 1 0 = some 2 ∧
  sx_rf (T0 n) 1 1 = some 4 ∧
  sx_rf (T0 n) 1 2 = some 7 ∧
  sx_rf (T0 n) 1 3 = some 12 ∧
  sx_rf (T0 n) 1 4 = some 17 ∧
  sx_rf (T0 n) 1 5 = some 119 ∧
  sx_rf (T0 n) 1 6 = some 126 ∧
  sx_rf (T0 n) 1 7 = some 133 ∧
  sx_rf (T0 n) 1 8 = some 141 ∧
  sx_rf (T0 n) 1 9 = some 146 ∧
  sx_rf (T0 n) 1 10 = some 148 ∧
  sx_kd (T0 n) 2 = 6 ∧
  sx_rf (T0 n) 2 0 = some 3 ∧
  sx_kd (T0 n) 3 = 20 ∧
  sx_ln (T0 n) 3 = 1600 ∧
  sx_kd (T0 n) 4 = 5 ∧
  sx_rf (T0 n) 4 0 = some 2 ∧
  sx_rf (T0 n) 4 1 = some 5 ∧
  sx_rf (T0 n) 4 2 = some 6 ∧
  sx_kd (T0 n) 5 = 20 ∧
  sx_ln (T0 n) 5 = 40 ∧
  sx_kd (T0 n) 6 = 20 ∧
  sx_ln (T0 n) 6 = 40 ∧
  sx_kd (T0 n) 7 = 2 ∧
  sx_rf (T0 n) 7 0 = some 8 ∧
  sx_rf (T0 n) 7 1 = some 9 ∧
  sx_rf (T0 n) 7 2 = some 10 ∧
  sx_rf (T0 n) 7 3 = some 11 ∧
  sx_kd (T0 n) 8 = 20 ∧
  sx_ln (T0 n) 8 = 40 ∧
  sx_kd (T0 n) 9 = 20 ∧
  sx_ln (T0 n) 9 = 40 ∧
  sx_kd (T0 n) 10 = 20 ∧
  sx_ln (T0 n) 10 = 40 ∧
  sx_kd (T0 n) 11 = 20 ∧
  sx_ln (T0 n) 11 = 40 ∧
  sx_kd (T0 n) 17 = 0 ∧
  sx_rf (T0 n) 17 0 = some 18 ∧
  sx_kd (T0 n) 18 = 22 ∧
  sx_ln (T0 n) 18 = 20 ∧
  sx_kd (T0 n) 119 = 3 ∧
  sx_rf (T0 n) 119 0 = some 7 ∧
  sx_rf (T0 n) 119 2 = some 120 ∧
  sx_rf (T0 n) 119 3 = some 121 ∧
  sx_rf (T0 n) 119 4 = some 122 ∧
  sx_rf (T0 n) 119 5 = some 123 ∧
  sx_rf (T0 n) 119 6 = some 124 ∧
  sx_rf (T0 n) 119 7 = some 125 ∧
  sx_kd (T0 n) 120 = 20 ∧
  sx_ln (T0 n) 120 = 40 ∧
  sx_kd (T0 n) 121 = 21 ∧
  sx_ln (T0 n) 121 = 40 ∧
  sx_kd (T0 n) 122 = 20 ∧
  sx_ln (T0 n) 122 = 40 ∧
  sx_kd (T0 n) 123 = 20 ∧
  sx_ln (T0 n) 123 = 40 ∧
  sx_kd (T0 n) 124 = 20 ∧
  sx_ln (T0 n) 124 = 40 ∧
  sx_kd (T0 n) 125 = 20 ∧
  sx_ln (T0 n) 125 = 40 ∧
  sx_kd (T0 n) 126 = 3 ∧
  sx_rf (T0 n) 126 0 = some 7 ∧
  sx_rf (T0 n) 126 2 = some 127 ∧
  sx_rf (T0 n) 126 3 = some 128 ∧
  sx_rf (T0 n) 126 4 = some 129 ∧
  sx_rf (T0 n) 126 5 = some 130 ∧
  sx_rf (T0 n) 126 6 = some 131 ∧
  sx_rf (T0 n) 126 7 = some 132 ∧
  sx_kd (T0 n) 127 = 20 ∧
  sx_ln (T0 n) 127 = 40 ∧
  sx_kd (T0 n) 128 = 21 ∧
  sx_ln (T0 n) 128 = 40 ∧
  sx_kd (T0 n) 129 = 20 ∧
  sx_ln (T0 n) 129 = 40 ∧
  sx_kd (T0 n) 130 = 20 ∧
  sx_ln (T0 n) 130 = 40 ∧
  sx_kd (T0 n) 131 = 20 ∧
  sx_ln (T0 n) 131 = 40 ∧
  sx_kd (T0 n) 132 = 20 ∧
  sx_ln (T0 n) 132 = 40 ∧
  sx_kd (T0 n) 133 = 7 ∧
  sx_rf (T0 n) 133 0 = some 7 ∧
  sx_rf (T0 n) 133 1 = some 134 ∧
  sx_rf (T0 n) 133 2 = some 135 ∧
  sx_rf (T0 n) 133 3 = some 136 ∧
  sx_rf (T0 n) 133 4 = some 137 ∧
  sx_rf (T0 n) 133 5 = some 138 ∧
  sx_rf (T0 n) 133 6 = some 139 ∧
  sx_rf (T0 n) 133 7 = some 140 ∧
  sx_kd (T0 n) 134 = 20 ∧
  sx_ln (T0 n) 134 = 40 ∧
  sx_kd (T0 n) 135 = 20 ∧
  sx_ln (T0 n) 135 = 40 ∧
  sx_kd (T0 n) 136 = 20 ∧
  sx_ln (T0 n) 136 = 40 ∧
  sx_kd (T0 n) 137 = 20 ∧
  sx_ln (T0 n) 137 = 40 ∧
  sx_kd (T0 n) 138 = 20 ∧
  sx_ln (T0 n) 138 = 40 ∧
  sx_kd (T0 n) 139 = 20 ∧
  sx_ln (T0 n) 139 = 40 ∧
  sx_kd (T0 n) 140 = 21 ∧
  sx_ln (T0 n) 140 = 40 ∧
  sx_kd (T0 n) 141 = 4 ∧
  sx_rf (T0 n) 141 0 = some 7 ∧
  sx_rf (T0 n) 141 1 = some 142 ∧
  sx_rf (T0 n) 141 2 = some 143 ∧
  sx_rf (T0 n) 141 3 = some 144 ∧
  sx_rf (T0 n) 141 4 = some 145 ∧
  sx_kd (T0 n) 142 = 20 ∧
  sx_ln (T0 n) 142 = 12 ∧
  sx_kd (T0 n) 143 = 20 ∧
  sx_ln (T0 n) 143 = 12 ∧
  sx_kd (T0 n) 144 = 20 ∧
  sx_ln (T0 n) 144 = 12 ∧
  sx_kd (T0 n) 145 = 21 ∧
  sx_ln (T0 n) 145 = 3 ∧
  sx_kd (T0 n) 146 = 1 ∧
  sx_rf (T0 n) 146 0 = some 147 ∧
  sx_kd (T0 n) 147 = 20 ∧
  sx_ln (T0 n) 147 = 243 ∧
  sx_kd (T0 n) 148 = 20 ∧
  sx_ln (T0 n) 148 = 6 ∧
  sx_kd (T0 n) 149 = 9 ∧
  sx_rf (T0 n) 149 0 = some 150 ∧
  sx_rf (T0 n) 149 1 = some 151 ∧
  sx_rf (T0 n) 149 2 = some 152 ∧
  sx_rf (T0 n) 149 3 = some 153 ∧
  sx_rf (T0 n) 149 7 = some 154 ∧
  sx_rf (T0 n) 149 9 = some 155 ∧
  sx_rf (T0 n) 149 17 = some 156 ∧
  sx_rf (T0 n) 149 20 = some 157 ∧
  sx_rf (T0 n) 149 21 = some 158 ∧
  sx_rf (T0 n) 149 22 = some 159 ∧
  sx_rf (T0 n) 149 23 = some 160 ∧
  sx_rf (T0 n) 149 31 = some 161 ∧
  sx_rf (T0 n) 149 32 = some 162 ∧
  sx_rf (T0 n) 149 33 = some 163 ∧
  sx_rf (T0 n) 149 34 = some 164 ∧
  sx_rf (T0 n) 149 35 = some 165 ∧
  sx_rf (T0 n) 149 37 = some 166 ∧
  sx_rf (T0 n) 149 38 = some 167 ∧
  sx_rf (T0 n) 149 39 = some 168 ∧
  sx_rf (T0 n) 149 40 = some 169 ∧
  sx_kd (T0 n) 150 = 20 ∧
  sx_ln (T0 n) 150 = 481 ∧
  sx_kd (T0 n) 151 = 20 ∧
  sx_ln (T0 n) 151 = 9620 ∧
  sx_kd (T0 n) 152 = 20 ∧
  sx_ln (T0 n) 152 = 481 ∧
  sx_kd (T0 n) 153 = 20 ∧
  sx_ln (T0 n) 153 = 481 ∧
  sx_kd (T0 n) 154 = 20 ∧
  sx_ln (T0 n) 154 = 1600 ∧
  sx_kd (T0 n) 155 = 20 ∧
  sx_ln (T0 n) 155 = 6 ∧
  sx_kd (T0 n) 156 = 20 ∧
  sx_ln (T0 n) 156 = 30 ∧
  sx_kd (T0 n) 157 = 20 ∧
  sx_ln (T0 n) 157 = 120 ∧
  sx_kd (T0 n) 158 = 20 ∧
  sx_ln (T0 n) 158 = 240 ∧
  sx_kd (T0 n) 159 = 20 ∧
  sx_ln (T0 n) 159 = 40 ∧
  sx_kd (T0 n) 160 = 20 ∧
  sx_ln (T0 n) 160 = 40 ∧
  sx_kd (T0 n) 161 = 20 ∧
  sx_ln (T0 n) 161 = 160 ∧
  sx_kd (T0 n) 162 = 20 ∧
  sx_ln (T0 n) 162 = 40 ∧
  sx_kd (T0 n) 163 = 20 ∧
  sx_ln (T0 n) 163 = 40 ∧
  sx_kd (T0 n) 164 = 20 ∧
  sx_ln (T0 n) 164 = 40 ∧
  sx_kd (T0 n) 165 = 20 ∧
  sx_ln (T0 n) 165 = 120 ∧
  sx_kd (T0 n) 166 = 20 ∧
  sx_ln (T0 n) 166 = 12 ∧
  sx_kd (T0 n) 167 = 20 ∧
  sx_ln (T0 n) 167 = 12 ∧
  sx_kd (T0 n) 168 = 20 ∧
  sx_ln (T0 n) 168 = 12 ∧
  sx_kd (T0 n) 169 = 20 ∧
  sx_ln (T0 n) 169 = 243 := ⟨rfl, rfl, rfl, rfl, rfl, rfl, rfl, rfl, rfl, rfl, rfl, rfl, rfl, rfl, rfl, rfl, rfl, rfl, rfl, rfl, rfl, rfl, rfl, rfl, rfl, rfl, rfl, rfl, rfl, rfl, rfl, rfl, rfl, rfl, rfl, rfl, rfl, rfl, rfl, rfl, rfl, rfl, rfl, rfl, rfl, rfl, rfl, rfl, rfl, rfl, rfl, rfl, rfl, rfl, rfl, rfl, rfl, rfl, rfl, rfl, rfl, rfl, rfl, rfl, rfl, rfl, rfl, rfl, rfl, rfl, rfl, rfl, rfl, rfl, rfl, rfl, rfl, rfl, rfl, rfl, rfl, rfl, rfl, rfl, rfl, rfl, rfl, rfl, rfl, rfl, rfl, rfl, rfl, rfl, rfl, rfl, rfl, rfl, rfl, rfl, rfl, rfl, rfl, rfl, rfl, rfl, rfl, rfl, rfl, rfl, rfl, rfl, rfl, rfl, rfl, rfl, rfl, rfl, rfl, rfl, rfl, rfl, rfl, rfl, rfl, rfl, rfl, rfl, rfl, rfl, rfl, rfl, rfl, rfl, rfl, rfl, rfl, rfl, rfl, rfl, rfl, rfl, rfl, rfl, rfl, rfl, rfl, rfl, rfl, rfl, rfl, rfl, rfl, rfl, rfl, rfl, rfl, rfl, rfl, rfl, rfl, rfl, rfl, rfl, rfl, rfl, rfl, rfl, rfl, rfl, rfl, rfl, rfl, rfl, rfl, rfl, rfl, rfl, rfl, rfl, rfl, rfl, rfl, rfl, rfl⟩
def isP (o : Nat) : Prop := o ∈ [7, 12, 19, 24, 29, 34, 39, 44, 49, 54, 59, 64, 69, 74, 79, 84, 89, 94, 99, 104, 109, 114]
theorem tp {n o : Nat} (h : isP o) : sx_kd (T0 n) o = 2 ∧ sx_kd (T0 n) (o + 1) = 20 ∧ sx_kd (T0 n) (o + 2) = 20 ∧ sx_kd (T0 n) (o + 3) = 20 ∧ sx_kd (T0 n) (o + 4) = 20 ∧ sx_ln (T0 n) (o + 1) = 40 ∧ sx_ln (T0 n) (o + 2) = 40 ∧ sx_ln (T0 n) (o + 3) = 40 ∧ sx_ln (T0 n) (o + 4) = 40 ∧ sx_rf (T0 n) o 0 = some (o + 1) ∧ sx_rf (T0 n) o 1 = some (o + 2) ∧ sx_rf (T0 n) o 2 = some (o + 3) ∧ sx_rf (T0 n) o 3 = some (o + 4) := by
  simp only [isP, List.mem_cons, List.not_mem_nil, or_false] at h
  rcases h with rfl | rfl | rfl | rfl | rfl | rfl | rfl | rfl | rfl | rfl | rfl | rfl | rfl | rfl | rfl | rfl | rfl | rfl | rfl | rfl | rfl | rfl <;> exact ⟨rfl, rfl, rfl, rfl, rfl, rfl, rfl, rfl, rfl, rfl, rfl, rfl, rfl⟩
theorem isP7 : isP 7 := by simp [isP]
theorem isP12 : isP 12 := by simp [isP]
theorem isPk {i : Nat} (h : i < 20) : isP (19 + 5 * i) := by
  have : ∀ i : Fin 20, (19 + 5 * (i : Nat)) ∈ [7, 12, 19, 24, 29, 34, 39, 44, 49, 54, 59, 64, 69, 74, 79, 84, 89, 94, 99, 104, 109, 114] := by decide
  exact this ⟨i, h⟩
theorem tk {n i : Nat} (h : i < 20) : sx_rf (T0 n) 18 i = some (19 + 5 * i) := by
  have : ∀ i : Fin 20, ([some 19, some 24, some 29, some 34, some 39, some 44, some 49, some 54, some 59, some 64, some 69, some 74, some 79, some 84, some 89, some 94, some 99, some 104, some 109, some 114] : List (Option Nat)).getD (i : Nat) none = some (19 + 5 * (i : Nat)) := by decide
  exact this ⟨i, h⟩
def isS (o : Nat) : Prop := o = 119 ∨ o = 126
theorem ts {n o : Nat} (h : isS o) : sx_kd (T0 n) o = 3 ∧ sx_kd (T0 n) (o + 1) = 20 ∧ sx_kd (T0 n) (o + 2) = 21 ∧ sx_kd (T0 n) (o + 3) = 20 ∧ sx_kd (T0 n) (o + 4) = 20 ∧ sx_kd (T0 n) (o + 5) = 20 ∧ sx_kd (T0 n) (o + 6) = 20 ∧ sx_ln (T0 n) (o + 1) = 40 ∧ sx_ln (T0 n) (o + 2) = 40 ∧ sx_ln (T0 n) (o + 3) = 40 ∧ sx_ln (T0 n) (o + 4) = 40 ∧ sx_ln (T0 n) (o + 5) = 40 ∧ sx_ln (T0 n) (o + 6) = 40 ∧ sx_rf (T0 n) o 0 = some 7 ∧ sx_rf (T0 n) o 2 = some (o + 1) ∧ sx_rf (T0 n) o 3 = some (o + 2) ∧ sx_rf (T0 n) o 4 = some (o + 3) ∧ sx_rf (T0 n) o 5 = some (o + 4) ∧ sx_rf (T0 n) o 6 = some (o + 5) ∧ sx_rf (T0 n) o 7 = some (o + 6) := by
  rcases h with rfl | rfl <;> exact ⟨rfl, rfl, rfl, rfl, rfl, rfl, rfl, rfl, rfl, rfl, rfl, rfl, rfl, rfl, rfl, rfl, rfl, rfl, rfl, rfl⟩
