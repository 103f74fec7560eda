theorem cl0_ws : ∀ w ∈ u_ws RX0 TX0 2, w ∈ TBL := by
  intro w hw
  unfold u_ws at hw
  obtain ⟨k, hk, rfl⟩ := List.mem_map.mp hw
  have hk := List.mem_range.mp hk
  match k, hk with
  | 0, _ => exact tb_in 278 (by decide +kernel) (by decide +kernel)
  | 1, _ => exact tb_in 280 (by decide +kernel) (by decide +kernel)
  | n + 2, h => exact absurd h (by omega)
theorem cl0 : jCl 0 RX0 TX0 2 tyX0 := by
  refine ⟨rfl, cl0_ws, tyX0_ok, nmX0, fun j hj => ?_, fun j hj => ?_⟩
  · match j, hj with
    | 0, _ => rfl
    | 1, _ => rfl
    | n + 2, h => exact absurd h (by omega)
  · match j, hj with
    | 0, _ => rfl
    | 1, _ => rfl
    | n + 2, h => exact absurd h (by omega)
theorem in0 : Cond.initialized RX0 ∈ TBL := tb_in 9 (by decide +kernel) rfl
theorem inst0 : Cond.instantiable RX0 2 ∈ TBL := tb_in 267 (by decide +kernel) rfl
theorem cl1_ws : ∀ w ∈ u_ws RX1 TX1 11, w ∈ TBL := by
  intro w hw
  unfold u_ws at hw
  obtain ⟨k, hk, rfl⟩ := List.mem_map.mp hw
  have hk := List.mem_range.mp hk
  match k, hk with
  | 0, _ => exact tb_in 196 (by decide +kernel) (by decide +kernel)
  | 1, _ => exact tb_in 198 (by decide +kernel) (by decide +kernel)
  | 2, _ => exact tb_in 200 (by decide +kernel) (by decide +kernel)
  | 3, _ => exact tb_in 202 (by decide +kernel) (by decide +kernel)
  | 4, _ => exact tb_in 204 (by decide +kernel) (by decide +kernel)
  | 5, _ => exact tb_in 206 (by decide +kernel) (by decide +kernel)
  | 6, _ => exact tb_in 208 (by decide +kernel) (by decide +kernel)
  | 7, _ => exact tb_in 210 (by decide +kernel) (by decide +kernel)
  | 8, _ => exact tb_in 212 (by decide +kernel) (by decide +kernel)
  | 9, _ => exact tb_in 214 (by decide +kernel) (by decide +kernel)
  | 10, _ => exact tb_in 216 (by decide +kernel) (by decide +kernel)
  | n + 11, h => exact absurd h (by omega)
theorem cl1 : jCl 1 RX1 TX1 11 tyX1 := by
  refine ⟨rfl, cl1_ws, tyX1_ok, nmX1, fun j hj => ?_, fun j hj => ?_⟩
  · match j, hj with
    | 0, _ => rfl
    | 1, _ => rfl
    | 2, _ => rfl
    | 3, _ => rfl
    | 4, _ => rfl
    | 5, _ => rfl
    | 6, _ => rfl
    | 7, _ => rfl
    | 8, _ => rfl
    | 9, _ => rfl
    | 10, _ => rfl
    | n + 11, h => exact absurd h (by omega)
  · match j, hj with
    | 0, _ => rfl
    | 1, _ => rfl
    | 2, _ => rfl
    | 3, _ => rfl
    | 4, _ => rfl
    | 5, _ => rfl
    | 6, _ => rfl
    | 7, _ => rfl
    | 8, _ => rfl
    | 9, _ => rfl
    | 10, _ => rfl
    | n + 11, h => exact absurd h (by omega)
theorem in1 : Cond.initialized RX1 ∈ TBL := tb_in 8 (by decide +kernel) rfl
theorem inst1 : Cond.instantiable RX1 11 ∈ TBL := tb_in 171 (by decide +kernel) rfl
theorem cl2_ws : ∀ w ∈ u_ws RX2 TX2 9, w ∈ TBL := by
  intro w hw
  unfold u_ws at hw
  obtain ⟨k, hk, rfl⟩ := List.mem_map.mp hw
  have hk := List.mem_range.mp hk
  match k, hk with
  | 0, _ => exact tb_in 128 (by decide +kernel) (by decide +kernel)
  | 1, _ => exact tb_in 130 (by decide +kernel) (by decide +kernel)
  | 2, _ => exact tb_in 132 (by decide +kernel) (by decide +kernel)
  | 3, _ => exact tb_in 134 (by decide +kernel) (by decide +kernel)
  | 4, _ => exact tb_in 136 (by decide +kernel) (by decide +kernel)
  | 5, _ => exact tb_in 138 (by decide +kernel) (by decide +kernel)
  | 6, _ => exact tb_in 140 (by decide +kernel) (by decide +kernel)
  | 7, _ => exact tb_in 142 (by decide +kernel) (by decide +kernel)
  | 8, _ => exact tb_in 144 (by decide +kernel) (by decide +kernel)
  | n + 9, h => exact absurd h (by omega)
theorem cl2 : jCl 2 RX2 TX2 9 tyX2 := by
  refine ⟨rfl, cl2_ws, tyX2_ok, nmX2, fun j hj => ?_, fun j hj => ?_⟩
  · match j, hj with
    | 0, _ => rfl
    | 1, _ => rfl
    | 2, _ => rfl
    | 3, _ => rfl
    | 4, _ => rfl
    | 5, _ => rfl
    | 6, _ => rfl
    | 7, _ => rfl
    | 8, _ => rfl
    | n + 9, h => exact absurd h (by omega)
  · match j, hj with
    | 0, _ => rfl
    | 1, _ => rfl
    | 2, _ => rfl
    | 3, _ => rfl
    | 4, _ => rfl
    | 5, _ => rfl
    | 6, _ => rfl
    | 7, _ => rfl
    | 8, _ => rfl
    | n + 9, h => exact absurd h (by omega)
theorem in2 : Cond.initialized RX2 ∈ TBL := tb_in 7 (by decide +kernel) rfl
theorem inst2 : Cond.instantiable RX2 9 ∈ TBL := tb_in 102 (by decide +kernel) rfl
theorem cl3_ws : ∀ w ∈ u_ws RX3 TX3 6, w ∈ TBL := by
  intro w hw
  unfold u_ws at hw
  obtain ⟨k, hk, rfl⟩ := List.mem_map.mp hw
  have hk := List.mem_range.mp hk
  match k, hk with
  | 0, _ => exact tb_in 157 (by decide +kernel) (by decide +kernel)
  | 1, _ => exact tb_in 159 (by decide +kernel) (by decide +kernel)
  | 2, _ => exact tb_in 161 (by decide +kernel) (by decide +kernel)
  | 3, _ => exact tb_in 163 (by decide +kernel) (by decide +kernel)
  | 4, _ => exact tb_in 165 (by decide +kernel) (by decide +kernel)
  | 5, _ => exact tb_in 167 (by decide +kernel) (by decide +kernel)
  | n + 6, h => exact absurd h (by omega)
theorem cl3 : jCl 3 RX3 TX3 6 tyX3 := by
  refine ⟨rfl, cl3_ws, tyX3_ok, nmX3, fun j hj => ?_, fun j hj => ?_⟩
  · match j, hj with
    | 0, _ => rfl
    | 1, _ => rfl
    | 2, _ => rfl
    | 3, _ => rfl
    | 4, _ => rfl
    | 5, _ => rfl
    | n + 6, h => exact absurd h (by omega)
  · match j, hj with
    | 0, _ => rfl
    | 1, _ => rfl
    | 2, _ => rfl
    | 3, _ => rfl
    | 4, _ => rfl
    | 5, _ => rfl
    | n + 6, h => exact absurd h (by omega)
theorem in3 : Cond.initialized RX3 ∈ TBL := tb_in 6 (by decide +kernel) rfl
theorem inst3 : Cond.instantiable RX3 6 ∈ TBL := tb_in 95 (by decide +kernel) rfl
theorem cl4_ws : ∀ w ∈ u_ws RX4 TX4 12, w ∈ TBL := by
  intro w hw
  unfold u_ws at hw
  obtain ⟨k, hk, rfl⟩ := List.mem_map.mp hw
  have hk := List.mem_range.mp hk
  match k, hk with
  | 0, _ => exact tb_in 241 (by decide +kernel) (by decide +kernel)
  | 1, _ => exact tb_in 243 (by decide +kernel) (by decide +kernel)
  | 2, _ => exact tb_in 245 (by decide +kernel) (by decide +kernel)
  | 3, _ => exact tb_in 247 (by decide +kernel) (by decide +kernel)
  | 4, _ => exact tb_in 249 (by decide +kernel) (by decide +kernel)
  | 5, _ => exact tb_in 251 (by decide +kernel) (by decide +kernel)
  | 6, _ => exact tb_in 253 (by decide +kernel) (by decide +kernel)
  | 7, _ => exact tb_in 255 (by decide +kernel) (by decide +kernel)
  | 8, _ => exact tb_in 257 (by decide +kernel) (by decide +kernel)
  | 9, _ => exact tb_in 259 (by decide +kernel) (by decide +kernel)
  | 10, _ => exact tb_in 261 (by decide +kernel) (by decide +kernel)
  | 11, _ => exact tb_in 263 (by decide +kernel) (by decide +kernel)
  | n + 12, h => exact absurd h (by omega)
theorem cl4 : jCl 4 RX4 TX4 12 tyX4 := by
  refine ⟨rfl, cl4_ws, tyX4_ok, nmX4, fun j hj => ?_, fun j hj => ?_⟩
  · match j, hj with
    | 0, _ => rfl
    | 1, _ => rfl
    | 2, _ => rfl
    | 3, _ => rfl
    | 4, _ => rfl
    | 5, _ => rfl
    | 6, _ => rfl
    | 7, _ => rfl
    | 8, _ => rfl
    | 9, _ => rfl
    | 10, _ => rfl
    | 11, _ => rfl
    | n + 12, h => exact absurd h (by omega)
  · match j, hj with
    | 0, _ => rfl
    | 1, _ => rfl
    | 2, _ => rfl
    | 3, _ => rfl
    | 4, _ => rfl
    | 5, _ => rfl
    | 6, _ => rfl
    | 7, _ => rfl
    | 8, _ => rfl
    | 9, _ => rfl
    | 10, _ => rfl
    | 11, _ => rfl
    | n + 12, h => exact absurd h (by omega)
theorem in4 : Cond.initialized RX4 ∈ TBL := tb_in 2 (by decide +kernel) rfl
theorem inst4 : Cond.instantiable RX4 12 ∈ TBL := tb_in 26 (by decide +kernel) rfl
theorem cl5_ws : ∀ w ∈ u_ws RX5 TX5 4, w ∈ TBL := by
  intro w hw
  unfold u_ws at hw
  obtain ⟨k, hk, rfl⟩ := List.mem_map.mp hw
  have hk := List.mem_range.mp hk
  match k, hk with
  | 0, _ => exact tb_in 85 (by decide +kernel) (by decide +kernel)
  | 1, _ => exact tb_in 87 (by decide +kernel) (by decide +kernel)
  | 2, _ => exact tb_in 89 (by decide +kernel) (by decide +kernel)
  | 3, _ => exact tb_in 91 (by decide +kernel) (by decide +kernel)
  | n + 4, h => exact absurd h (by omega)
theorem cl5 : jCl 5 RX5 TX5 4 tyX5 := by
  refine ⟨rfl, cl5_ws, tyX5_ok, nmX5, fun j hj => ?_, fun j hj => ?_⟩
  · match j, hj with
    | 0, _ => rfl
    | 1, _ => rfl
    | 2, _ => rfl
    | 3, _ => rfl
    | n + 4, h => exact absurd h (by omega)
  · match j, hj with
    | 0, _ => rfl
    | 1, _ => rfl
    | 2, _ => rfl
    | 3, _ => rfl
    | n + 4, h => exact absurd h (by omega)
theorem in5 : Cond.initialized RX5 ∈ TBL := tb_in 5 (by decide +kernel) rfl
theorem inst5 : Cond.instantiable RX5 4 ∈ TBL := tb_in 71 (by decide +kernel) rfl
theorem cl6_ws : ∀ w ∈ u_ws RX6 TX6 2, w ∈ TBL := by
  intro w hw
  unfold u_ws at hw
  obtain ⟨k, hk, rfl⟩ := List.mem_map.mp hw
  have hk := List.mem_range.mp hk
  match k, hk with
  | 0, _ => exact tb_in 48 (by decide +kernel) (by decide +kernel)
  | 1, _ => exact tb_in 50 (by decide +kernel) (by decide +kernel)
  | n + 2, h => exact absurd h (by omega)
