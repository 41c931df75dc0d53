theorem q_inX0 : ∀ w ∈ u_ws RX0 TX0 9, w ∈ q_WS := by
  intro w hw
  obtain ⟨k, hk, rfl⟩ := List.mem_map.mp hw
  have hk := List.mem_range.mp hk
  match k, hk with
  | 0, _ => exact q_w1 100 rfl rfl
  | 1, _ => exact q_w1 102 rfl rfl
  | 2, _ => exact q_w1 104 rfl rfl
  | 3, _ => exact q_w1 106 rfl rfl
  | 4, _ => exact q_w1 108 rfl rfl
  | 5, _ => exact q_w1 110 rfl rfl
  | 6, _ => exact q_w1 112 rfl rfl
  | 7, _ => exact q_w1 114 rfl rfl
  | 8, _ => exact q_w1 116 rfl rfl
  | n + 9, h => exact absurd h (by omega)
theorem q_inX1 : ∀ w ∈ u_ws RX1 TX1 2, w ∈ q_WS := by
  intro w hw
  obtain ⟨k, hk, rfl⟩ := List.mem_map.mp hw
  have hk := List.mem_range.mp hk
  match k, hk with
  | 0, _ => exact q_w1 34 rfl rfl
  | 1, _ => exact q_w1 36 rfl rfl
  | n + 2, h => exact absurd h (by omega)
theorem q_inX2 : ∀ w ∈ u_ws RX2 TX2 11, w ∈ q_WS := by
  intro w hw
  obtain ⟨k, hk, rfl⟩ := List.mem_map.mp hw
  have hk := List.mem_range.mp hk
  match k, hk with
  | 0, _ => exact q_w2 15 rfl rfl
  | 1, _ => exact q_w2 17 rfl rfl
  | 2, _ => exact q_w2 19 rfl rfl
  | 3, _ => exact q_w2 21 rfl rfl
  | 4, _ => exact q_w2 23 rfl rfl
  | 5, _ => exact q_w2 25 rfl rfl
  | 6, _ => exact q_w2 27 rfl rfl
  | 7, _ => exact q_w2 29 rfl rfl
  | 8, _ => exact q_w2 31 rfl rfl
  | 9, _ => exact q_w2 33 rfl rfl
  | 10, _ => exact q_w2 35 rfl rfl
  | n + 11, h => exact absurd h (by omega)
theorem q_inX3 : ∀ w ∈ u_ws RX3 TX3 11, w ∈ q_WS := by
  intro w hw
  obtain ⟨k, hk, rfl⟩ := List.mem_map.mp hw
  have hk := List.mem_range.mp hk
  match k, hk with
  | 0, _ => exact q_w1 146 rfl rfl
  | 1, _ => exact q_w1 148 rfl rfl
  | 2, _ => exact q_w1 150 rfl rfl
  | 3, _ => exact q_w1 152 rfl rfl
  | 4, _ => exact q_w1 154 rfl rfl
  | 5, _ => exact q_w1 156 rfl rfl
  | 6, _ => exact q_w1 158 rfl rfl
  | 7, _ => exact q_w1 160 rfl rfl
  | 8, _ => exact q_w1 162 rfl rfl
  | 9, _ => exact q_w1 164 rfl rfl
  | 10, _ => exact q_w1 166 rfl rfl
  | n + 11, h => exact absurd h (by omega)
theorem q_inX4 : ∀ w ∈ u_ws RX4 TX4 11, w ∈ q_WS := by
  intro w hw
  obtain ⟨k, hk, rfl⟩ := List.mem_map.mp hw
  have hk := List.mem_range.mp hk
  match k, hk with
  | 0, _ => exact q_w3 144 rfl rfl
  | 1, _ => exact q_w3 146 rfl rfl
  | 2, _ => exact q_w3 148 rfl rfl
  | 3, _ => exact q_w3 150 rfl rfl
  | 4, _ => exact q_w3 152 rfl rfl
  | 5, _ => exact q_w3 154 rfl rfl
  | 6, _ => exact q_w3 156 rfl rfl
  | 7, _ => exact q_w3 158 rfl rfl
  | 8, _ => exact q_w3 160 rfl rfl
  | 9, _ => exact q_w3 162 rfl rfl
  | 10, _ => exact q_w3 164 rfl rfl
  | n + 11, h => exact absurd h (by omega)
theorem q_inX5 : ∀ w ∈ u_ws RX5 TX5 3, w ∈ q_WS := by
  intro w hw
  obtain ⟨k, hk, rfl⟩ := List.mem_map.mp hw
  have hk := List.mem_range.mp hk
  match k, hk with
  | 0, _ => exact q_w2 52 rfl rfl
  | 1, _ => exact q_w2 54 rfl rfl
  | 2, _ => exact q_w2 56 rfl rfl
  | n + 3, h => exact absurd h (by omega)
theorem q_inX6 : ∀ w ∈ u_ws RX6 TX6 6, w ∈ q_WS := by
  intro w hw
  obtain ⟨k, hk, rfl⟩ := List.mem_map.mp hw
  have hk := List.mem_range.mp hk
  match k, hk with
  | 0, _ => exact q_w1 183 rfl rfl
  | 1, _ => exact q_w1 185 rfl rfl
  | 2, _ => exact q_w1 187 rfl rfl
  | 3, _ => exact q_w1 189 rfl rfl
  | 4, _ => exact q_w1 191 rfl rfl
  | 5, _ => exact q_w1 193 rfl rfl
  | n + 6, h => exact absurd h (by omega)
theorem q_inX7 : ∀ w ∈ u_ws RX7 TX7 7, w ∈ q_WS := by
  intro w hw
  obtain ⟨k, hk, rfl⟩ := List.mem_map.mp hw
  have hk := List.mem_range.mp hk
  match k, hk with
  | 0, _ => exact q_w1 68 rfl rfl
  | 1, _ => exact q_w1 70 rfl rfl
  | 2, _ => exact q_w1 72 rfl rfl
  | 3, _ => exact q_w1 74 rfl rfl
  | 4, _ => exact q_w1 76 rfl rfl
  | 5, _ => exact q_w1 78 rfl rfl
  | 6, _ => exact q_w1 80 rfl rfl
  | n + 7, h => exact absurd h (by omega)
theorem q_inX8 : ∀ w ∈ u_ws RX8 TX8 6, w ∈ q_WS := by
  intro w hw
  obtain ⟨k, hk, rfl⟩ := List.mem_map.mp hw
  have hk := List.mem_range.mp hk
  match k, hk with
  | 0, _ => exact q_w1 217 rfl rfl
  | 1, _ => exact q_w1 219 rfl rfl
  | 2, _ => exact q_w1 221 rfl rfl
  | 3, _ => exact q_w1 223 rfl rfl
  | 4, _ => exact q_w1 225 rfl rfl
  | 5, _ => exact q_w1 227 rfl rfl
  | n + 6, h => exact absurd h (by omega)
theorem q_inX9 : ∀ w ∈ u_ws RX9 TX9 12, w ∈ q_WS := by
  intro w hw
  obtain ⟨k, hk, rfl⟩ := List.mem_map.mp hw
  have hk := List.mem_range.mp hk
  match k, hk with
  | 0, _ => exact q_w2 71 rfl rfl
  | 1, _ => exact q_w2 73 rfl rfl
  | 2, _ => exact q_w2 75 rfl rfl
  | 3, _ => exact q_w2 77 rfl rfl
  | 4, _ => exact q_w2 79 rfl rfl
  | 5, _ => exact q_w2 81 rfl rfl
  | 6, _ => exact q_w2 83 rfl rfl
  | 7, _ => exact q_w2 85 rfl rfl
  | 8, _ => exact q_w2 87 rfl rfl
  | 9, _ => exact q_w2 89 rfl rfl
  | 10, _ => exact q_w2 91 rfl rfl
  | 11, _ => exact q_w2 93 rfl rfl
  | n + 12, h => exact absurd h (by omega)
theorem q_inX10 : ∀ w ∈ u_ws RX10 TX10 52, w ∈ q_WS := by
  intro w hw
  obtain ⟨k, hk, rfl⟩ := List.mem_map.mp hw
  have hk := List.mem_range.mp hk
  match k, hk with
  | 0, _ => exact q_w4 156 rfl rfl
  | 1, _ => exact q_w4 158 rfl rfl
  | 2, _ => exact q_w4 160 rfl rfl
  | 3, _ => exact q_w4 162 rfl rfl
  | 4, _ => exact q_w4 164 rfl rfl
  | 5, _ => exact q_w4 166 rfl rfl
  | 6, _ => exact q_w4 168 rfl rfl
  | 7, _ => exact q_w4 170 rfl rfl
  | 8, _ => exact q_w4 172 rfl rfl
  | 9, _ => exact q_w4 174 rfl rfl
  | 10, _ => exact q_w4 176 rfl rfl
  | 11, _ => exact q_w4 178 rfl rfl
  | 12, _ => exact q_w4 180 rfl rfl
  | 13, _ => exact q_w4 182 rfl rfl
  | 14, _ => exact q_w4 184 rfl rfl
  | 15, _ => exact q_w4 186 rfl rfl
  | 16, _ => exact q_w4 188 rfl rfl
  | 17, _ => exact q_w4 190 rfl rfl
  | 18, _ => exact q_w4 192 rfl rfl
  | 19, _ => exact q_w4 194 rfl rfl
  | 20, _ => exact q_w4 196 rfl rfl
  | 21, _ => exact q_w4 198 rfl rfl
  | 22, _ => exact q_w4 200 rfl rfl
  | 23, _ => exact q_w4 202 rfl rfl
  | 24, _ => exact q_w4 204 rfl rfl
  | 25, _ => exact q_w4 206 rfl rfl
  | 26, _ => exact q_w4 208 rfl rfl
  | 27, _ => exact q_w4 210 rfl rfl
  | 28, _ => exact q_w4 212 rfl rfl
  | 29, _ => exact q_w4 214 rfl rfl
  | 30, _ => exact q_w4 216 rfl rfl
  | 31, _ => exact q_w4 218 rfl rfl
  | 32, _ => exact q_w4 220 rfl rfl
  | 33, _ => exact q_w4 222 rfl rfl
  | 34, _ => exact q_w4 224 rfl rfl
  | 35, _ => exact q_w4 226 rfl rfl
  | 36, _ => exact q_w4 228 rfl rfl
  | 37, _ => exact q_w4 230 rfl rfl
  | 38, _ => exact q_w4 232 rfl rfl
  | 39, _ => exact q_w4 234 rfl rfl
  | 40, _ => exact q_w4 236 rfl rfl
  | 41, _ => exact q_w4 238 rfl rfl
  | 42, _ => exact q_w5 0 rfl rfl
  | 43, _ => exact q_w5 2 rfl rfl
  | 44, _ => exact q_w5 4 rfl rfl
  | 45, _ => exact q_w5 6 rfl rfl
  | 46, _ => exact q_w5 8 rfl rfl
  | 47, _ => exact q_w5 10 rfl rfl
  | 48, _ => exact q_w5 12 rfl rfl
  | 49, _ => exact q_w5 14 rfl rfl
  | 50, _ => exact q_w5 16 rfl rfl
  | 51, _ => exact q_w5 18 rfl rfl
  | n + 52, h => exact absurd h (by omega)
