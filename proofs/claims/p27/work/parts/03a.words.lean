theorem cl0_ws : ∀ w ∈ u_ws RX0 TX0 2, w ∈ TBL := by
  intro w hw
  unfold u_ws at hw
  obtain ⟨k, hk, rfl⟩ := List.mem_map.mp hw
  have hk := List.mem_range.mp hk
  match k, hk with
  | 0, _ => exact tb_in 278 (by decide +kernel) (by decide +kernel)
  | 1, _ => exact tb_in 280 (by decide +kernel) (by decide +kernel)
  | n + 2, h => exact absurd h (by omega)
theorem cl0 : jCl 0 RX0 TX0 2 tyX0 := by
  refine ⟨rfl, cl0_ws, tyX0_ok, nmX0, fun j hj => ?_, fun j hj => ?_⟩
  · match j, hj with
    | 0, _ => rfl
    | 1, _ => rfl
    | n + 2, h => exact absurd h (by omega)
  · match j, hj with
    | 0, _ => rfl
    | 1, _ => rfl
    | n + 2, h => exact absurd h (by omega)
theorem in0 : Cond.initialized RX0 ∈ TBL := tb_in 9 (by decide +kernel) rfl
theorem inst0 : Cond.instantiable RX0 2 ∈ TBL := tb_in 267 (by decide +kernel) rfl
theorem cl1_ws : ∀ w ∈ u_ws RX1 TX1 11, w ∈ TBL := by
  intro w hw
  unfold u_ws at hw
  obtain ⟨k, hk, rfl⟩ := List.mem_map.mp hw
  have hk := List.mem_range.mp hk
  match k, hk with
  | 0, _ => exact tb_in 196 (by decide +kernel) (by decide +kernel)
  | 1, _ => exact tb_in 198 (by decide +kernel) (by decide +kernel)
  | 2, _ => exact tb_in 200 (by decide +kernel) (by decide +kernel)
  | 3, _ => exact tb_in 202 (by decide +kernel) (by decide +kernel)
  | 4, _ => exact tb_in 204 (by decide +kernel) (by decide +kernel)
  | 5, _ => exact tb_in 206 (by decide +kernel) (by decide +kernel)
  | 6, _ => exact tb_in 208 (by decide +kernel) (by decide +kernel)
  | 7, _ => exact tb_in 210 (by decide +kernel) (by decide +kernel)
  | 8, _ => exact tb_in 212 (by decide +kernel) (by decide +kernel)
  | 9, _ => exact tb_in 214 (by decide +kernel) (by decide +kernel)
  | 10, _ => exact tb_in 216 (by decide +kernel) (by decide +kernel)
  | n + 11, h => exact absurd h (by omega)
theorem cl1 : jCl 1 RX1 TX1 11 tyX1 := by
  refine ⟨rfl, cl1_ws, tyX1_ok, nmX1, fun j hj => ?_, fun j hj => ?_⟩
  · match j, hj with
    | 0, _ => rfl
    | 1, _ => rfl
    | 2, _ => rfl
    | 3, _ => rfl
    | 4, _ => rfl
    | 5, _ => rfl
    | 6, _ => rfl
    | 7, _ => rfl
    | 8, _ => rfl
    | 9, _ => rfl
    | 10, _ => rfl
    | n + 11, h => exact absurd h (by omega)
  · match j, hj with
    | 0, _ => rfl
    | 1, _ => rfl
    | 2, _ => rfl
    | 3, _ => rfl
    | 4, _ => rfl
    | 5, _ => rfl
    | 6, _ => rfl
    | 7, _ => rfl
    | 8, _ => rfl
    | 9, _ => rfl
    | 10, _ => rfl
    | n + 11, h => exact absurd h (by omega)
theorem in1 : Cond.initialized RX1 ∈ TBL := tb_in 8 (by decide +kernel) rfl
theorem inst1 : Cond.instantiable RX1 11 ∈ TBL := tb_in 171 (by decide +kernel) rfl
theorem cl2_ws : ∀ w ∈ u_ws RX2 TX2 9, w ∈ TBL := by
  intro w hw
  unfold u_ws at hw
  obtain ⟨k, hk, rfl⟩ := List.mem_map.mp hw
  have hk := List.mem_range.mp hk
  match k, hk with
  | 0, _ => exact tb_in 128 (by decide +kernel) (by decide +kernel)
  | 1, _ => exact tb_in 130 (by decide +kernel) (by decide +kernel)
  | 2, _ => exact tb_in 132 (by decide +kernel) (by decide +kernel)
  | 3, _ => exact tb_in 134 (by decide +kernel) (by decide +kernel)
  | 4, _ => exact tb_in 136 (by decide +kernel) (by decide +kernel)
  | 5, _ => exact tb_in 138 (by decide +kernel) (by decide +kernel)
  | 6, _ => exact tb_in 140 (by decide +kernel) (by decide +kernel)
  | 7, _ => exact tb_in 142 (by decide +kernel) (by decide +kernel)
  | 8, _ => exact tb_in 144 (by decide +kernel) (by decide +kernel)
  | n + 9, h => exact absurd h (by omega)
theorem cl2 : jCl 2 RX2 TX2 9 tyX2 := by
  refine ⟨rfl, cl2_ws, tyX2_ok, nmX2, fun j hj => ?_, fun j hj => ?_⟩
  · match j, hj with
    | 0, _ => rfl
    | 1, _ => rfl
    | 2, _ => rfl
    | 3, _ => rfl
    | 4, _ => rfl
    | 5, _ => rfl
    | 6, _ => rfl
    | 7, _ => rfl
    | 8, _ => rfl
    | n + 9, h => exact absurd h (by omega)
  · match j, hj with
    | 0, _ => rfl
    | 1, _ => rfl
    | 2, _ => rfl
    | 3, _ => rfl
    | 4, _ => rfl
    | 5, _ => rfl
    | 6, _ => rfl
    | 7, _ => rfl
    | 8, _ => rfl
    | n + 9, h => exact absurd h (by omega)
theorem in2 : Cond.initialized RX2 ∈ TBL := tb_in 7 (by decide +kernel) rfl
theorem inst2 : Cond.instantiable RX2 9 ∈ TBL := tb_in 102 (by decide +kernel) rfl
theorem cl3_ws : ∀ w ∈ u_ws RX3 TX3 6, w ∈ TBL := by
  intro w hw
  unfold u_ws at hw
  obtain ⟨k, hk, rfl⟩ := List.mem_map.mp hw
  have hk := List.mem_range.mp hk
  match k, hk with
  | 0, _ => exact tb_in 157 (by decide +kernel) (by decide +kernel)
  | 1, _ => exact tb_in 159 (by decide +kernel) (by decide +kernel)
  | 2, _ => exact tb_in 161 (by decide +kernel) (by decide +kernel)
  | 3, _ => exact tb_in 163 (by decide +kernel) (by decide +kernel)
  | 4, _ => exact tb_in 165 (by decide +kernel) (by decide +kernel)
  | 5, _ => exact tb_in 167 (by decide +kernel) (by decide +kernel)
  | n + 6, h => exact absurd h (by omega)
theorem cl3 : jCl 3 RX3 TX3 6 tyX3 := by
  refine ⟨rfl, cl3_ws, tyX3_ok, nmX3, fun j hj => ?_, fun j hj => ?_⟩
  · match j, hj with
    | 0, _ => rfl
    | 1, _ => rfl
    | 2, _ => rfl
    | 3, _ => rfl
    | 4, _ => rfl
    | 5, _ => rfl
    | n + 6, h => exact absurd h (by omega)
  · match j, hj with
    | 0, _ => rfl
    | 1, _ => rfl
    | 2, _ => rfl
    | 3, _ => rfl
    | 4, _ => rfl
    | 5, _ => rfl
    | n + 6, h => exact absurd h (by omega)
theorem in3 : Cond.initialized RX3 ∈ TBL := tb_in 6 (by decide +kernel) rfl
theorem inst3 : Cond.instantiable RX3 6 ∈ TBL := tb_in 95 (by decide +kernel) rfl
theorem cl4_ws : ∀ w ∈ u_ws RX4 TX4 12, w ∈ TBL := by
  intro w hw
  unfold u_ws at hw
  obtain ⟨k, hk, rfl⟩ := List.mem_map.mp hw
  have hk := List.mem_range.mp hk
  match k, hk with
  | 0, _ => exact tb_in 241 (by decide +kernel) (by decide +kernel)
  | 1, _ => exact tb_in 243 (by decide +kernel) (by decide +kernel)
  | 2, _ => exact tb_in 245 (by decide +kernel) (by decide +kernel)
  | 3, _ => exact tb_in 247 (by decide +kernel) (by decide +kernel)
  | 4, _ => exact tb_in 249 (by decide +kernel) (by decide +kernel)
  | 5, _ => exact tb_in 251 (by decide +kernel) (by decide +kernel)
  | 6, _ => exact tb_in 253 (by decide +kernel) (by decide +kernel)
  | 7, _ => exact tb_in 255 (by decide +kernel) (by decide +kernel)
  | 8, _ => exact tb_in 257 (by decide +kernel) (by decide +kernel)
  | 9, _ => exact tb_in 259 (by decide +kernel) (by decide +kernel)
  | 10, _ => exact tb_in 261 (by decide +kernel) (by decide +kernel)
  | 11, _ => exact tb_in 263 (by decide +kernel) (by decide +kernel)
  | n + 12, h => exact absurd h (by omega)
theorem cl4 : jCl 4 RX4 TX4 12 tyX4 := by
  refine ⟨rfl, cl4_ws, tyX4_ok, nmX4, fun j hj => ?_, fun j hj => ?_⟩
  · match j, hj with
    | 0, _ => rfl
    | 1, _ => rfl
    | 2, _ => rfl
    | 3, _ => rfl
    | 4, _ => rfl
    | 5, _ => rfl
    | 6, _ => rfl
    | 7, _ => rfl
    | 8, _ => rfl
    | 9, _ => rfl
    | 10, _ => rfl
    | 11, _ => rfl
    | n + 12, h => exact absurd h (by omega)
  · match j, hj with
    | 0, _ => rfl
    | 1, _ => rfl
    | 2, _ => rfl
    | 3, _ => rfl
    | 4, _ => rfl
    | 5, _ => rfl
    | 6, _ => rfl
    | 7, _ => rfl
    | 8, _ => rfl
    | 9, _ => rfl
    | 10, _ => rfl
    | 11, _ => rfl
    | n + 12, h => exact absurd h (by omega)
theorem in4 : Cond.initialized RX4 ∈ TBL := tb_in 2 (by decide +kernel) rfl
theorem inst4 : Cond.instantiable RX4 12 ∈ TBL := tb_in 26 (by decide +kernel) rfl
theorem cl5_ws : ∀ w ∈ u_ws RX5 TX5 4, w ∈ TBL := by
  intro w hw
  unfold u_ws at hw
  obtain ⟨k, hk, rfl⟩ := List.mem_map.mp hw
  have hk := List.mem_range.mp hk
  match k, hk with
  | 0, _ => exact tb_in 85 (by decide +kernel) (by decide +kernel)
  | 1, _ => exact tb_in 87 (by decide +kernel) (by decide +kernel)
  | 2, _ => exact tb_in 89 (by decide +kernel) (by decide +kernel)
  | 3, _ => exact tb_in 91 (by decide +kernel) (by decide +kernel)
  | n + 4, h => exact absurd h (by omega)
theorem cl5 : jCl 5 RX5 TX5 4 tyX5 := by
  refine ⟨rfl, cl5_ws, tyX5_ok, nmX5, fun j hj => ?_, fun j hj => ?_⟩
  · match j, hj with
    | 0, _ => rfl
    | 1, _ => rfl
    | 2, _ => rfl
    | 3, _ => rfl
    | n + 4, h => exact absurd h (by omega)
  · match j, hj with
    | 0, _ => rfl
    | 1, _ => rfl
    | 2, _ => rfl
    | 3, _ => rfl
    | n + 4, h => exact absurd h (by omega)
theorem in5 : Cond.initialized RX5 ∈ TBL := tb_in 5 (by decide +kernel) rfl
theorem inst5 : Cond.instantiable RX5 4 ∈ TBL := tb_in 71 (by decide +kernel) rfl
theorem cl6_ws : ∀ w ∈ u_ws RX6 TX6 2, w ∈ TBL := by
  intro w hw
  unfold u_ws at hw
  obtain ⟨k, hk, rfl⟩ := List.mem_map.mp hw
  have hk := List.mem_range.mp hk
  match k, hk with
  | 0, _ => exact tb_in 48 (by decide +kernel) (by decide +kernel)
  | 1, _ => exact tb_in 50 (by decide +kernel) (by decide +kernel)
  | n + 2, h => exact absurd h (by omega)
theorem cl6 : jCl 6 RX6 TX6 2 tyX6 := by
  refine ⟨rfl, cl6_ws, tyX6_ok, nmX6, fun j hj => ?_, fun j hj => ?_⟩
  · match j, hj with
    | 0, _ => rfl
    | 1, _ => rfl
    | n + 2, h => exact absurd h (by omega)
  · match j, hj with
    | 0, _ => rfl
    | 1, _ => rfl
    | n + 2, h => exact absurd h (by omega)
theorem in6 : Cond.initialized RX6 ∈ TBL := tb_in 4 (by decide +kernel) rfl
theorem inst6 : Cond.instantiable RX6 2 ∈ TBL := tb_in 38 (by decide +kernel) rfl
theorem cl7_ws : ∀ w ∈ u_ws RX7 TX7 3, w ∈ TBL := by
  intro w hw
  unfold u_ws at hw
  obtain ⟨k, hk, rfl⟩ := List.mem_map.mp hw
  have hk := List.mem_range.mp hk
  match k, hk with
  | 0, _ => exact tb_in 60 (by decide +kernel) (by decide +kernel)
  | 1, _ => exact tb_in 62 (by decide +kernel) (by decide +kernel)
  | 2, _ => exact tb_in 64 (by decide +kernel) (by decide +kernel)
  | n + 3, h => exact absurd h (by omega)
theorem cl7 : jCl 7 RX7 TX7 3 tyX7 := by
  refine ⟨rfl, cl7_ws, tyX7_ok, nmX7, fun j hj => ?_, fun j hj => ?_⟩
  · match j, hj with
    | 0, _ => rfl
    | 1, _ => rfl
    | 2, _ => rfl
    | n + 3, h => exact absurd h (by omega)
  · match j, hj with
    | 0, _ => rfl
    | 1, _ => rfl
    | 2, _ => rfl
    | n + 3, h => exact absurd h (by omega)
theorem in7 : Cond.initialized RX7 ∈ TBL := tb_in 3 (by decide +kernel) rfl
theorem inst7 : Cond.instantiable RX7 3 ∈ TBL := tb_in 32 (by decide +kernel) rfl
theorem cl8_ws : ∀ w ∈ u_ws RX8 TX8 2, w ∈ TBL := by
  intro w hw
  unfold u_ws at hw
  obtain ⟨k, hk, rfl⟩ := List.mem_map.mp hw
  have hk := List.mem_range.mp hk
  match k, hk with
  | 0, _ => exact tb_in 292 (by decide +kernel) (by decide +kernel)
  | 1, _ => exact tb_in 294 (by decide +kernel) (by decide +kernel)
  | n + 2, h => exact absurd h (by omega)
theorem cl8 : jCl 8 RX8 TX8 2 tyX8 := by
  refine ⟨rfl, cl8_ws, tyX8_ok, nmX8, fun j hj => ?_, fun j hj => ?_⟩
  · match j, hj with
    | 0, _ => rfl
    | 1, _ => rfl
    | n + 2, h => exact absurd h (by omega)
  · match j, hj with
    | 0, _ => rfl
    | 1, _ => rfl
    | n + 2, h => exact absurd h (by omega)
theorem in8 : Cond.initialized RX8 ∈ TBL := tb_in 10 (by decide +kernel) rfl
theorem inst8 : Cond.instantiable RX8 2 ∈ TBL := tb_in 284 (by decide +kernel) rfl
theorem cl9_ws : ∀ w ∈ u_ws RX9 TX9 4, w ∈ TBL := by
  intro w hw
  unfold u_ws at hw
  obtain ⟨k, hk, rfl⟩ := List.mem_map.mp hw
  have hk := List.mem_range.mp hk
  match k, hk with
  | 0, _ => exact tb_in 302 (by decide +kernel) (by decide +kernel)
  | 1, _ => exact tb_in 304 (by decide +kernel) (by decide +kernel)
  | 2, _ => exact tb_in 306 (by decide +kernel) (by decide +kernel)
  | 3, _ => exact tb_in 308 (by decide +kernel) (by decide +kernel)
  | n + 4, h => exact absurd h (by omega)
theorem cl9 : jCl 9 RX9 TX9 4 tyX9 := by
  refine ⟨rfl, cl9_ws, tyX9_ok, nmX9, fun j hj => ?_, fun j hj => ?_⟩
  · match j, hj with
    | 0, _ => rfl
    | 1, _ => rfl
    | 2, _ => rfl
    | 3, _ => rfl
    | n + 4, h => exact absurd h (by omega)
  · match j, hj with
    | 0, _ => rfl
    | 1, _ => rfl
    | 2, _ => rfl
    | 3, _ => rfl
    | n + 4, h => exact absurd h (by omega)
theorem in9 : Cond.initialized RX9 ∈ TBL := tb_in 1 (by decide +kernel) rfl
theorem inst9 : Cond.instantiable RX9 4 ∈ TBL := tb_in 18 (by decide +kernel) rfl
theorem fl_X9_10 : jFL RX9 10 9 0 (.object "PlanShelves$State") true := ⟨RX9, TX9, 4, tyX9, cl9, by decide, rfl, rfl, Or.inl (tb_in 298 (by decide +kernel) rfl)⟩
theorem flw_X9_10 : Cond.fieldLink RX9 10 (TX9 0).1 (TX9 0).2.1 (TX9 0).2.2.1 ∈ TBL := tb_in 298 (by decide +kernel) rfl
theorem fl_X9_19 : jFL RX9 19 9 1 (.object "PlanShelves$History") true := ⟨RX9, TX9, 4, tyX9, cl9, by decide, rfl, rfl, Or.inl (tb_in 299 (by decide +kernel) rfl)⟩
theorem flw_X9_19 : Cond.fieldLink RX9 19 (TX9 1).1 (TX9 1).2.1 (TX9 1).2.2.1 ∈ TBL := tb_in 299 (by decide +kernel) rfl
theorem fl_X9_26 : jFL RX9 26 9 2 (.object "PlanShelves$Text") true := ⟨RX9, TX9, 4, tyX9, cl9, by decide, rfl, rfl, Or.inl (tb_in 300 (by decide +kernel) rfl)⟩
theorem flw_X9_26 : Cond.fieldLink RX9 26 (TX9 2).1 (TX9 2).2.1 (TX9 2).2.2.1 ∈ TBL := tb_in 300 (by decide +kernel) rfl
theorem fl_X9_30 : jFL RX9 30 9 3 (.array .int) true := ⟨RX9, TX9, 4, tyX9, cl9, by decide, rfl, rfl, Or.inl (tb_in 301 (by decide +kernel) rfl)⟩
theorem flw_X9_30 : Cond.fieldLink RX9 30 (TX9 3).1 (TX9 3).2.1 (TX9 3).2.2.1 ∈ TBL := tb_in 301 (by decide +kernel) rfl
theorem fl_X9_42 : jFL RX9 42 4 0 (.object "PlanShelves$Table") true := ⟨RX4, TX4, 12, tyX4, cl4, by decide, rfl, rfl, Or.inr ⟨"PlanShelves", nw_in 220 (by decide +kernel) rfl⟩⟩
theorem fl_X9_46 : jFL RX9 46 7 2 .int false := ⟨RX7, TX7, 3, tyX7, cl7, by decide, rfl, rfl, Or.inr ⟨"PlanShelves", nw_in 59 (by decide +kernel) rfl⟩⟩
theorem fl_X9_83 : jFL RX9 83 4 1 (.object "PlanShelves$Sums") true := ⟨RX4, TX4, 12, tyX4, cl4, by decide, rfl, rfl, Or.inr ⟨"PlanShelves", nw_in 222 (by decide +kernel) rfl⟩⟩
theorem fl_X9_87 : jFL RX9 87 7 1 (.object "PlanShelves$Sums") true := ⟨RX7, TX7, 3, tyX7, cl7, by decide, rfl, rfl, Or.inr ⟨"PlanShelves", nw_in 56 (by decide +kernel) rfl⟩⟩
theorem fl_X9_96 : jFL RX9 96 6 1 .int false := ⟨RX6, TX6, 2, tyX6, cl6, by decide, rfl, rfl, Or.inr ⟨"PlanShelves", nw_in 45 (by decide +kernel) rfl⟩⟩
theorem fl_X9_114 : jFL RX9 114 4 8 .int false := ⟨RX4, TX4, 12, tyX4, cl4, by decide, rfl, rfl, Or.inr ⟨"PlanShelves", nw_in 234 (by decide +kernel) rfl⟩⟩
theorem fl_X9_127 : jFL RX9 127 5 2 .int false := ⟨RX5, TX5, 4, tyX5, cl5, by decide, rfl, rfl, Or.inr ⟨"PlanShelves", nw_in 80 (by decide +kernel) rfl⟩⟩
theorem fl_X9_132 : jFL RX9 132 4 4 (.object "PlanShelves$Shelf") true := ⟨RX4, TX4, 12, tyX4, cl4, by decide, rfl, rfl, Or.inr ⟨"PlanShelves", nw_in 226 (by decide +kernel) rfl⟩⟩
theorem fl_X9_141 : jFL RX9 141 5 3 .int false := ⟨RX5, TX5, 4, tyX5, cl5, by decide, rfl, rfl, Or.inr ⟨"PlanShelves", nw_in 83 (by decide +kernel) rfl⟩⟩
theorem fl_X9_161 : jFL RX9 161 4 5 (.object "PlanShelves$LastRun") true := ⟨RX4, TX4, 12, tyX4, cl4, by decide, rfl, rfl, Or.inr ⟨"PlanShelves", nw_in 228 (by decide +kernel) rfl⟩⟩
theorem fl_X9_177 : jFL RX9 177 2 7 .boolean false := ⟨RX2, TX2, 9, tyX2, cl2, by decide, rfl, rfl, Or.inr ⟨"PlanShelves", nw_in 125 (by decide +kernel) rfl⟩⟩
theorem fl_X9_188 : jFL RX9 188 3 2 .int false := ⟨RX3, TX3, 6, tyX3, cl3, by decide, rfl, rfl, Or.inr ⟨"PlanShelves", nw_in 151 (by decide +kernel) rfl⟩⟩
theorem fl_X9_203 : jFL RX9 203 4 9 .int false := ⟨RX4, TX4, 12, tyX4, cl4, by decide, rfl, rfl, Or.inr ⟨"PlanShelves", nw_in 236 (by decide +kernel) rfl⟩⟩
theorem fl_X9_215 : jFL RX9 215 4 7 .int false := ⟨RX4, TX4, 12, tyX4, cl4, by decide, rfl, rfl, Or.inr ⟨"PlanShelves", nw_in 232 (by decide +kernel) rfl⟩⟩
theorem fl_X9_218 : jFL RX9 218 4 10 .int false := ⟨RX4, TX4, 12, tyX4, cl4, by decide, rfl, rfl, Or.inr ⟨"PlanShelves", nw_in 238 (by decide +kernel) rfl⟩⟩
theorem fl_X9_221 : jFL RX9 221 3 4 .int false := ⟨RX3, TX3, 6, tyX3, cl3, by decide, rfl, rfl, Or.inr ⟨"PlanShelves", nw_in 154 (by decide +kernel) rfl⟩⟩
theorem fl_X9_224 : jFL RX9 224 4 11 .int false := ⟨RX4, TX4, 12, tyX4, cl4, by decide, rfl, rfl, Or.inr ⟨"PlanShelves", nw_in 240 (by decide +kernel) rfl⟩⟩
theorem fl_X9_227 : jFL RX9 227 3 5 .int false := ⟨RX3, TX3, 6, tyX3, cl3, by decide, rfl, rfl, Or.inr ⟨"PlanShelves", nw_in 156 (by decide +kernel) rfl⟩⟩
theorem fl_X9_230 : jFL RX9 230 0 1 .int false := ⟨RX0, TX0, 2, tyX0, cl0, by decide, rfl, rfl, Or.inr ⟨"PlanShelves", nw_in 277 (by decide +kernel) rfl⟩⟩
theorem fl_X9_231 : jFL RX9 231 8 1 .int false := ⟨RX8, TX8, 2, tyX8, cl8, by decide, rfl, rfl, Or.inr ⟨"PlanShelves", nw_in 291 (by decide +kernel) rfl⟩⟩
theorem fl_X9_234 : jFL RX9 234 4 6 (.array .int) true := ⟨RX4, TX4, 12, tyX4, cl4, by decide, rfl, rfl, Or.inr ⟨"PlanShelves", nw_in 230 (by decide +kernel) rfl⟩⟩
theorem fl_X0_11 : jFL RX0 11 0 0 (.array (.object "PlanShelves$State")) true := ⟨RX0, TX0, 2, tyX0, cl0, by decide, rfl, rfl, Or.inl (tb_in 275 (by decide +kernel) rfl)⟩
theorem flw_X0_11 : Cond.fieldLink RX0 11 (TX0 0).1 (TX0 0).2.1 (TX0 0).2.2.1 ∈ TBL := tb_in 275 (by decide +kernel) rfl
theorem fl_X0_18 : jFL RX0 18 0 1 .int false := ⟨RX0, TX0, 2, tyX0, cl0, by decide, rfl, rfl, Or.inl (tb_in 276 (by decide +kernel) rfl)⟩
theorem fl_X1_9 : jFL RX1 9 1 0 (.array .int) true := ⟨RX1, TX1, 11, tyX1, cl1, by decide, rfl, rfl, Or.inl (tb_in 176 (by decide +kernel) rfl)⟩
theorem flw_X1_9 : Cond.fieldLink RX1 9 (TX1 0).1 (TX1 0).2.1 (TX1 0).2.2.1 ∈ TBL := tb_in 176 (by decide +kernel) rfl
theorem fl_X1_15 : jFL RX1 15 1 1 .boolean false := ⟨RX1, TX1, 11, tyX1, cl1, by decide, rfl, rfl, Or.inl (tb_in 177 (by decide +kernel) rfl)⟩
theorem fl_X1_19 : jFL RX1 19 1 2 .int false := ⟨RX1, TX1, 11, tyX1, cl1, by decide, rfl, rfl, Or.inl (tb_in 178 (by decide +kernel) rfl)⟩
theorem fl_X1_27 : jFL RX1 27 1 3 .int false := ⟨RX1, TX1, 11, tyX1, cl1, by decide, rfl, rfl, Or.inl (tb_in 180 (by decide +kernel) rfl)⟩
theorem fl_X1_30 : jFL RX1 30 1 10 .int false := ⟨RX1, TX1, 11, tyX1, cl1, by decide, rfl, rfl, Or.inl (tb_in 194 (by decide +kernel) rfl)⟩
theorem fl_X1_33 : jFL RX1 33 1 4 .int false := ⟨RX1, TX1, 11, tyX1, cl1, by decide, rfl, rfl, Or.inl (tb_in 182 (by decide +kernel) rfl)⟩
theorem fl_X1_36 : jFL RX1 36 1 5 .int false := ⟨RX1, TX1, 11, tyX1, cl1, by decide, rfl, rfl, Or.inl (tb_in 184 (by decide +kernel) rfl)⟩
theorem fl_X1_39 : jFL RX1 39 1 6 .int false := ⟨RX1, TX1, 11, tyX1, cl1, by decide, rfl, rfl, Or.inl (tb_in 186 (by decide +kernel) rfl)⟩
theorem fl_X1_42 : jFL RX1 42 1 7 .int false := ⟨RX1, TX1, 11, tyX1, cl1, by decide, rfl, rfl, Or.inl (tb_in 188 (by decide +kernel) rfl)⟩
theorem fl_X1_45 : jFL RX1 45 1 8 .int false := ⟨RX1, TX1, 11, tyX1, cl1, by decide, rfl, rfl, Or.inl (tb_in 190 (by decide +kernel) rfl)⟩
theorem fl_X1_48 : jFL RX1 48 1 9 .boolean false := ⟨RX1, TX1, 11, tyX1, cl1, by decide, rfl, rfl, Or.inl (tb_in 192 (by decide +kernel) rfl)⟩
theorem fl_X2_9 : jFL RX2 9 2 0 .int false := ⟨RX2, TX2, 9, tyX2, cl2, by decide, rfl, rfl, Or.inl (tb_in 107 (by decide +kernel) rfl)⟩
theorem fl_X2_15 : jFL RX2 15 2 1 .int false := ⟨RX2, TX2, 9, tyX2, cl2, by decide, rfl, rfl, Or.inl (tb_in 110 (by decide +kernel) rfl)⟩
theorem fl_X2_18 : jFL RX2 18 2 2 .int false := ⟨RX2, TX2, 9, tyX2, cl2, by decide, rfl, rfl, Or.inl (tb_in 113 (by decide +kernel) rfl)⟩
theorem fl_X2_21 : jFL RX2 21 2 5 .int false := ⟨RX2, TX2, 9, tyX2, cl2, by decide, rfl, rfl, Or.inl (tb_in 119 (by decide +kernel) rfl)⟩
theorem fl_X2_24 : jFL RX2 24 2 6 .int false := ⟨RX2, TX2, 9, tyX2, cl2, by decide, rfl, rfl, Or.inl (tb_in 121 (by decide +kernel) rfl)⟩
theorem fl_X2_27 : jFL RX2 27 2 7 .boolean false := ⟨RX2, TX2, 9, tyX2, cl2, by decide, rfl, rfl, Or.inl (tb_in 123 (by decide +kernel) rfl)⟩
theorem fl_X2_31 : jFL RX2 31 2 8 .int false := ⟨RX2, TX2, 9, tyX2, cl2, by decide, rfl, rfl, Or.inl (tb_in 126 (by decide +kernel) rfl)⟩
theorem fl_X2_34 : jFL RX2 34 2 3 .int false := ⟨RX2, TX2, 9, tyX2, cl2, by decide, rfl, rfl, Or.inl (tb_in 116 (by decide +kernel) rfl)⟩
theorem fl_X2_37 : jFL RX2 37 2 4 .int false := ⟨RX2, TX2, 9, tyX2, cl2, by decide, rfl, rfl, Or.inl (tb_in 117 (by decide +kernel) rfl)⟩
theorem fl_X3_11 : jFL RX3 11 3 0 (.array (.object "PlanShelves$Plan")) true := ⟨RX3, TX3, 6, tyX3, cl3, by decide, rfl, rfl, Or.inl (tb_in 147 (by decide +kernel) rfl)⟩
theorem flw_X3_11 : Cond.fieldLink RX3 11 (TX3 0).1 (TX3 0).2.1 (TX3 0).2.2.1 ∈ TBL := tb_in 147 (by decide +kernel) rfl
theorem fl_X3_18 : jFL RX3 18 3 1 (.object "PlanShelves$Plan") true := ⟨RX3, TX3, 6, tyX3, cl3, by decide, rfl, rfl, Or.inl (tb_in 148 (by decide +kernel) rfl)⟩
theorem flw_X3_18 : Cond.fieldLink RX3 18 (TX3 1).1 (TX3 1).2.1 (TX3 1).2.2.1 ∈ TBL := tb_in 148 (by decide +kernel) rfl
theorem fl_X3_22 : jFL RX3 22 3 2 .int false := ⟨RX3, TX3, 6, tyX3, cl3, by decide, rfl, rfl, Or.inl (tb_in 149 (by decide +kernel) rfl)⟩
theorem fl_X3_30 : jFL RX3 30 2 0 .int false := ⟨RX2, TX2, 9, tyX2, cl2, by decide, rfl, rfl, Or.inr ⟨"PlanShelves", nw_in 108 (by decide +kernel) rfl⟩⟩
theorem fl_X3_33 : jFL RX3 33 2 1 .int false := ⟨RX2, TX2, 9, tyX2, cl2, by decide, rfl, rfl, Or.inr ⟨"PlanShelves", nw_in 112 (by decide +kernel) rfl⟩⟩
theorem fl_X3_36 : jFL RX3 36 2 2 .int false := ⟨RX2, TX2, 9, tyX2, cl2, by decide, rfl, rfl, Or.inr ⟨"PlanShelves", nw_in 114 (by decide +kernel) rfl⟩⟩
theorem fl_X3_39 : jFL RX3 39 2 7 .boolean false := ⟨RX2, TX2, 9, tyX2, cl2, by decide, rfl, rfl, Or.inr ⟨"PlanShelves", nw_in 124 (by decide +kernel) rfl⟩⟩
