theorem cl6 : jCl 6 RX6 TX6 2 tyX6 := by
  refine ⟨rfl, cl6_ws, tyX6_ok, nmX6, fun j hj => ?_, fun j hj => ?_⟩
  · match j, hj with
    | 0, _ => rfl
    | 1, _ => rfl
    | n + 2, h => exact absurd h (by omega)
  · match j, hj with
    | 0, _ => rfl
    | 1, _ => rfl
    | n + 2, h => exact absurd h (by omega)
theorem in6 : Cond.initialized RX6 ∈ TBL := tb_in 4 (by decide +kernel) rfl
theorem inst6 : Cond.instantiable RX6 2 ∈ TBL := tb_in 38 (by decide +kernel) rfl
theorem cl7_ws : ∀ w ∈ u_ws RX7 TX7 3, w ∈ TBL := by
  intro w hw
  unfold u_ws at hw
  obtain ⟨k, hk, rfl⟩ := List.mem_map.mp hw
  have hk := List.mem_range.mp hk
  match k, hk with
  | 0, _ => exact tb_in 60 (by decide +kernel) (by decide +kernel)
  | 1, _ => exact tb_in 62 (by decide +kernel) (by decide +kernel)
  | 2, _ => exact tb_in 64 (by decide +kernel) (by decide +kernel)
  | n + 3, h => exact absurd h (by omega)
theorem cl7 : jCl 7 RX7 TX7 3 tyX7 := by
  refine ⟨rfl, cl7_ws, tyX7_ok, nmX7, fun j hj => ?_, fun j hj => ?_⟩
  · match j, hj with
    | 0, _ => rfl
    | 1, _ => rfl
    | 2, _ => rfl
    | n + 3, h => exact absurd h (by omega)
  · match j, hj with
    | 0, _ => rfl
    | 1, _ => rfl
    | 2, _ => rfl
    | n + 3, h => exact absurd h (by omega)
theorem in7 : Cond.initialized RX7 ∈ TBL := tb_in 3 (by decide +kernel) rfl
theorem inst7 : Cond.instantiable RX7 3 ∈ TBL := tb_in 32 (by decide +kernel) rfl
theorem cl8_ws : ∀ w ∈ u_ws RX8 TX8 2, w ∈ TBL := by
  intro w hw
  unfold u_ws at hw
  obtain ⟨k, hk, rfl⟩ := List.mem_map.mp hw
  have hk := List.mem_range.mp hk
  match k, hk with
  | 0, _ => exact tb_in 292 (by decide +kernel) (by decide +kernel)
  | 1, _ => exact tb_in 294 (by decide +kernel) (by decide +kernel)
  | n + 2, h => exact absurd h (by omega)
theorem cl8 : jCl 8 RX8 TX8 2 tyX8 := by
  refine ⟨rfl, cl8_ws, tyX8_ok, nmX8, fun j hj => ?_, fun j hj => ?_⟩
  · match j, hj with
    | 0, _ => rfl
    | 1, _ => rfl
    | n + 2, h => exact absurd h (by omega)
  · match j, hj with
    | 0, _ => rfl
    | 1, _ => rfl
    | n + 2, h => exact absurd h (by omega)
theorem in8 : Cond.initialized RX8 ∈ TBL := tb_in 10 (by decide +kernel) rfl
theorem inst8 : Cond.instantiable RX8 2 ∈ TBL := tb_in 284 (by decide +kernel) rfl
theorem cl9_ws : ∀ w ∈ u_ws RX9 TX9 4, w ∈ TBL := by
  intro w hw
  unfold u_ws at hw
  obtain ⟨k, hk, rfl⟩ := List.mem_map.mp hw
  have hk := List.mem_range.mp hk
  match k, hk with
  | 0, _ => exact tb_in 302 (by decide +kernel) (by decide +kernel)
  | 1, _ => exact tb_in 304 (by decide +kernel) (by decide +kernel)
  | 2, _ => exact tb_in 306 (by decide +kernel) (by decide +kernel)
  | 3, _ => exact tb_in 308 (by decide +kernel) (by decide +kernel)
  | n + 4, h => exact absurd h (by omega)
theorem cl9 : jCl 9 RX9 TX9 4 tyX9 := by
  refine ⟨rfl, cl9_ws, tyX9_ok, nmX9, fun j hj => ?_, fun j hj => ?_⟩
  · match j, hj with
    | 0, _ => rfl
    | 1, _ => rfl
    | 2, _ => rfl
    | 3, _ => rfl
    | n + 4, h => exact absurd h (by omega)
  · match j, hj with
    | 0, _ => rfl
    | 1, _ => rfl
    | 2, _ => rfl
    | 3, _ => rfl
    | n + 4, h => exact absurd h (by omega)
theorem in9 : Cond.initialized RX9 ∈ TBL := tb_in 1 (by decide +kernel) rfl
theorem inst9 : Cond.instantiable RX9 4 ∈ TBL := tb_in 18 (by decide +kernel) rfl
theorem fl_X9_10 : jFL RX9 10 9 0 (.object "PlanShelves$State") true := ⟨RX9, TX9, 4, tyX9, cl9, by decide, rfl, rfl, Or.inl (tb_in 298 (by decide +kernel) rfl)⟩
theorem flw_X9_10 : Cond.fieldLink RX9 10 (TX9 0).1 (TX9 0).2.1 (TX9 0).2.2.1 ∈ TBL := tb_in 298 (by decide +kernel) rfl
theorem fl_X9_19 : jFL RX9 19 9 1 (.object "PlanShelves$History") true := ⟨RX9, TX9, 4, tyX9, cl9, by decide, rfl, rfl, Or.inl (tb_in 299 (by decide +kernel) rfl)⟩
theorem flw_X9_19 : Cond.fieldLink RX9 19 (TX9 1).1 (TX9 1).2.1 (TX9 1).2.2.1 ∈ TBL := tb_in 299 (by decide +kernel) rfl
theorem fl_X9_26 : jFL RX9 26 9 2 (.object "PlanShelves$Text") true := ⟨RX9, TX9, 4, tyX9, cl9, by decide, rfl, rfl, Or.inl (tb_in 300 (by decide +kernel) rfl)⟩
theorem flw_X9_26 : Cond.fieldLink RX9 26 (TX9 2).1 (TX9 2).2.1 (TX9 2).2.2.1 ∈ TBL := tb_in 300 (by decide +kernel) rfl
theorem fl_X9_30 : jFL RX9 30 9 3 (.array .int) true := ⟨RX9, TX9, 4, tyX9, cl9, by decide, rfl, rfl, Or.inl (tb_in 301 (by decide +kernel) rfl)⟩
theorem flw_X9_30 : Cond.fieldLink RX9 30 (TX9 3).1 (TX9 3).2.1 (TX9 3).2.2.1 ∈ TBL := tb_in 301 (by decide +kernel) rfl
theorem fl_X9_42 : jFL RX9 42 4 0 (.object "PlanShelves$Table") true := ⟨RX4, TX4, 12, tyX4, cl4, by decide, rfl, rfl, Or.inr ⟨"PlanShelves", nw_in 220 (by decide +kernel) rfl⟩⟩
theorem fl_X9_46 : jFL RX9 46 7 2 .int false := ⟨RX7, TX7, 3, tyX7, cl7, by decide, rfl, rfl, Or.inr ⟨"PlanShelves", nw_in 59 (by decide +kernel) rfl⟩⟩
theorem fl_X9_83 : jFL RX9 83 4 1 (.object "PlanShelves$Sums") true := ⟨RX4, TX4, 12, tyX4, cl4, by decide, rfl, rfl, Or.inr ⟨"PlanShelves", nw_in 222 (by decide +kernel) rfl⟩⟩
theorem fl_X9_87 : jFL RX9 87 7 1 (.object "PlanShelves$Sums") true := ⟨RX7, TX7, 3, tyX7, cl7, by decide, rfl, rfl, Or.inr ⟨"PlanShelves", nw_in 56 (by decide +kernel) rfl⟩⟩
theorem fl_X9_96 : jFL RX9 96 6 1 .int false := ⟨RX6, TX6, 2, tyX6, cl6, by decide, rfl, rfl, Or.inr ⟨"PlanShelves", nw_in 45 (by decide +kernel) rfl⟩⟩
theorem fl_X9_114 : jFL RX9 114 4 8 .int false := ⟨RX4, TX4, 12, tyX4, cl4, by decide, rfl, rfl, Or.inr ⟨"PlanShelves", nw_in 234 (by decide +kernel) rfl⟩⟩
theorem fl_X9_127 : jFL RX9 127 5 2 .int false := ⟨RX5, TX5, 4, tyX5, cl5, by decide, rfl, rfl, Or.inr ⟨"PlanShelves", nw_in 80 (by decide +kernel) rfl⟩⟩
theorem fl_X9_132 : jFL RX9 132 4 4 (.object "PlanShelves$Shelf") true := ⟨RX4, TX4, 12, tyX4, cl4, by decide, rfl, rfl, Or.inr ⟨"PlanShelves", nw_in 226 (by decide +kernel) rfl⟩⟩
theorem fl_X9_141 : jFL RX9 141 5 3 .int false := ⟨RX5, TX5, 4, tyX5, cl5, by decide, rfl, rfl, Or.inr ⟨"PlanShelves", nw_in 83 (by decide +kernel) rfl⟩⟩
theorem fl_X9_161 : jFL RX9 161 4 5 (.object "PlanShelves$LastRun") true := ⟨RX4, TX4, 12, tyX4, cl4, by decide, rfl, rfl, Or.inr ⟨"PlanShelves", nw_in 228 (by decide +kernel) rfl⟩⟩
theorem fl_X9_177 : jFL RX9 177 2 7 .boolean false := ⟨RX2, TX2, 9, tyX2, cl2, by decide, rfl, rfl, Or.inr ⟨"PlanShelves", nw_in 125 (by decide +kernel) rfl⟩⟩
theorem fl_X9_188 : jFL RX9 188 3 2 .int false := ⟨RX3, TX3, 6, tyX3, cl3, by decide, rfl, rfl, Or.inr ⟨"PlanShelves", nw_in 151 (by decide +kernel) rfl⟩⟩
theorem fl_X9_203 : jFL RX9 203 4 9 .int false := ⟨RX4, TX4, 12, tyX4, cl4, by decide, rfl, rfl, Or.inr ⟨"PlanShelves", nw_in 236 (by decide +kernel) rfl⟩⟩
theorem fl_X9_215 : jFL RX9 215 4 7 .int false := ⟨RX4, TX4, 12, tyX4, cl4, by decide, rfl, rfl, Or.inr ⟨"PlanShelves", nw_in 232 (by decide +kernel) rfl⟩⟩
theorem fl_X9_218 : jFL RX9 218 4 10 .int false := ⟨RX4, TX4, 12, tyX4, cl4, by decide, rfl, rfl, Or.inr ⟨"PlanShelves", nw_in 238 (by decide +kernel) rfl⟩⟩
theorem fl_X9_221 : jFL RX9 221 3 4 .int false := ⟨RX3, TX3, 6, tyX3, cl3, by decide, rfl, rfl, Or.inr ⟨"PlanShelves", nw_in 154 (by decide +kernel) rfl⟩⟩
theorem fl_X9_224 : jFL RX9 224 4 11 .int false := ⟨RX4, TX4, 12, tyX4, cl4, by decide, rfl, rfl, Or.inr ⟨"PlanShelves", nw_in 240 (by decide +kernel) rfl⟩⟩
theorem fl_X9_227 : jFL RX9 227 3 5 .int false := ⟨RX3, TX3, 6, tyX3, cl3, by decide, rfl, rfl, Or.inr ⟨"PlanShelves", nw_in 156 (by decide +kernel) rfl⟩⟩
theorem fl_X9_230 : jFL RX9 230 0 1 .int false := ⟨RX0, TX0, 2, tyX0, cl0, by decide, rfl, rfl, Or.inr ⟨"PlanShelves", nw_in 277 (by decide +kernel) rfl⟩⟩
theorem fl_X9_231 : jFL RX9 231 8 1 .int false := ⟨RX8, TX8, 2, tyX8, cl8, by decide, rfl, rfl, Or.inr ⟨"PlanShelves", nw_in 291 (by decide +kernel) rfl⟩⟩
theorem fl_X9_234 : jFL RX9 234 4 6 (.array .int) true := ⟨RX4, TX4, 12, tyX4, cl4, by decide, rfl, rfl, Or.inr ⟨"PlanShelves", nw_in 230 (by decide +kernel) rfl⟩⟩
theorem fl_X0_11 : jFL RX0 11 0 0 (.array (.object "PlanShelves$State")) true := ⟨RX0, TX0, 2, tyX0, cl0, by decide, rfl, rfl, Or.inl (tb_in 275 (by decide +kernel) rfl)⟩
theorem flw_X0_11 : Cond.fieldLink RX0 11 (TX0 0).1 (TX0 0).2.1 (TX0 0).2.2.1 ∈ TBL := tb_in 275 (by decide +kernel) rfl
theorem fl_X0_18 : jFL RX0 18 0 1 .int false := ⟨RX0, TX0, 2, tyX0, cl0, by decide, rfl, rfl, Or.inl (tb_in 276 (by decide +kernel) rfl)⟩
theorem fl_X1_9 : jFL RX1 9 1 0 (.array .int) true := ⟨RX1, TX1, 11, tyX1, cl1, by decide, rfl, rfl, Or.inl (tb_in 176 (by decide +kernel) rfl)⟩
theorem flw_X1_9 : Cond.fieldLink RX1 9 (TX1 0).1 (TX1 0).2.1 (TX1 0).2.2.1 ∈ TBL := tb_in 176 (by decide +kernel) rfl
theorem fl_X1_15 : jFL RX1 15 1 1 .boolean false := ⟨RX1, TX1, 11, tyX1, cl1, by decide, rfl, rfl, Or.inl (tb_in 177 (by decide +kernel) rfl)⟩
theorem fl_X1_19 : jFL RX1 19 1 2 .int false := ⟨RX1, TX1, 11, tyX1, cl1, by decide, rfl, rfl, Or.inl (tb_in 178 (by decide +kernel) rfl)⟩
theorem fl_X1_27 : jFL RX1 27 1 3 .int false := ⟨RX1, TX1, 11, tyX1, cl1, by decide, rfl, rfl, Or.inl (tb_in 180 (by decide +kernel) rfl)⟩
theorem fl_X1_30 : jFL RX1 30 1 10 .int false := ⟨RX1, TX1, 11, tyX1, cl1, by decide, rfl, rfl, Or.inl (tb_in 194 (by decide +kernel) rfl)⟩
theorem fl_X1_33 : jFL RX1 33 1 4 .int false := ⟨RX1, TX1, 11, tyX1, cl1, by decide, rfl, rfl, Or.inl (tb_in 182 (by decide +kernel) rfl)⟩
theorem fl_X1_36 : jFL RX1 36 1 5 .int false := ⟨RX1, TX1, 11, tyX1, cl1, by decide, rfl, rfl, Or.inl (tb_in 184 (by decide +kernel) rfl)⟩
theorem fl_X1_39 : jFL RX1 39 1 6 .int false := ⟨RX1, TX1, 11, tyX1, cl1, by decide, rfl, rfl, Or.inl (tb_in 186 (by decide +kernel) rfl)⟩
theorem fl_X1_42 : jFL RX1 42 1 7 .int false := ⟨RX1, TX1, 11, tyX1, cl1, by decide, rfl, rfl, Or.inl (tb_in 188 (by decide +kernel) rfl)⟩
theorem fl_X1_45 : jFL RX1 45 1 8 .int false := ⟨RX1, TX1, 11, tyX1, cl1, by decide, rfl, rfl, Or.inl (tb_in 190 (by decide +kernel) rfl)⟩
theorem fl_X1_48 : jFL RX1 48 1 9 .boolean false := ⟨RX1, TX1, 11, tyX1, cl1, by decide, rfl, rfl, Or.inl (tb_in 192 (by decide +kernel) rfl)⟩
theorem fl_X2_9 : jFL RX2 9 2 0 .int false := ⟨RX2, TX2, 9, tyX2, cl2, by decide, rfl, rfl, Or.inl (tb_in 107 (by decide +kernel) rfl)⟩
theorem fl_X2_15 : jFL RX2 15 2 1 .int false := ⟨RX2, TX2, 9, tyX2, cl2, by decide, rfl, rfl, Or.inl (tb_in 110 (by decide +kernel) rfl)⟩
theorem fl_X2_18 : jFL RX2 18 2 2 .int false := ⟨RX2, TX2, 9, tyX2, cl2, by decide, rfl, rfl, Or.inl (tb_in 113 (by decide +kernel) rfl)⟩
theorem fl_X2_21 : jFL RX2 21 2 5 .int false := ⟨RX2, TX2, 9, tyX2, cl2, by decide, rfl, rfl, Or.inl (tb_in 119 (by decide +kernel) rfl)⟩
theorem fl_X2_24 : jFL RX2 24 2 6 .int false := ⟨RX2, TX2, 9, tyX2, cl2, by decide, rfl, rfl, Or.inl (tb_in 121 (by decide +kernel) rfl)⟩
theorem fl_X2_27 : jFL RX2 27 2 7 .boolean false := ⟨RX2, TX2, 9, tyX2, cl2, by decide, rfl, rfl, Or.inl (tb_in 123 (by decide +kernel) rfl)⟩
theorem fl_X2_31 : jFL RX2 31 2 8 .int false := ⟨RX2, TX2, 9, tyX2, cl2, by decide, rfl, rfl, Or.inl (tb_in 126 (by decide +kernel) rfl)⟩
theorem fl_X2_34 : jFL RX2 34 2 3 .int false := ⟨RX2, TX2, 9, tyX2, cl2, by decide, rfl, rfl, Or.inl (tb_in 116 (by decide +kernel) rfl)⟩
theorem fl_X2_37 : jFL RX2 37 2 4 .int false := ⟨RX2, TX2, 9, tyX2, cl2, by decide, rfl, rfl, Or.inl (tb_in 117 (by decide +kernel) rfl)⟩
theorem fl_X3_11 : jFL RX3 11 3 0 (.array (.object "PlanShelves$Plan")) true := ⟨RX3, TX3, 6, tyX3, cl3, by decide, rfl, rfl, Or.inl (tb_in 147 (by decide +kernel) rfl)⟩
theorem flw_X3_11 : Cond.fieldLink RX3 11 (TX3 0).1 (TX3 0).2.1 (TX3 0).2.2.1 ∈ TBL := tb_in 147 (by decide +kernel) rfl
theorem fl_X3_18 : jFL RX3 18 3 1 (.object "PlanShelves$Plan") true := ⟨RX3, TX3, 6, tyX3, cl3, by decide, rfl, rfl, Or.inl (tb_in 148 (by decide +kernel) rfl)⟩
theorem flw_X3_18 : Cond.fieldLink RX3 18 (TX3 1).1 (TX3 1).2.1 (TX3 1).2.2.1 ∈ TBL := tb_in 148 (by decide +kernel) rfl
theorem fl_X3_22 : jFL RX3 22 3 2 .int false := ⟨RX3, TX3, 6, tyX3, cl3, by decide, rfl, rfl, Or.inl (tb_in 149 (by decide +kernel) rfl)⟩
theorem fl_X3_30 : jFL RX3 30 2 0 .int false := ⟨RX2, TX2, 9, tyX2, cl2, by decide, rfl, rfl, Or.inr ⟨"PlanShelves", nw_in 108 (by decide +kernel) rfl⟩⟩
theorem fl_X3_33 : jFL RX3 33 2 1 .int false := ⟨RX2, TX2, 9, tyX2, cl2, by decide, rfl, rfl, Or.inr ⟨"PlanShelves", nw_in 112 (by decide +kernel) rfl⟩⟩
theorem fl_X3_36 : jFL RX3 36 2 2 .int false := ⟨RX2, TX2, 9, tyX2, cl2, by decide, rfl, rfl, Or.inr ⟨"PlanShelves", nw_in 114 (by decide +kernel) rfl⟩⟩
theorem fl_X3_39 : jFL RX3 39 2 7 .boolean false := ⟨RX2, TX2, 9, tyX2, cl2, by decide, rfl, rfl, Or.inr ⟨"PlanShelves", nw_in 124 (by decide +kernel) rfl⟩⟩
theorem fl_X3_62 : jFL RX3 62 3 4 .int false := ⟨RX3, TX3, 6, tyX3, cl3, by decide, rfl, rfl, Or.inl (tb_in 153 (by decide +kernel) rfl)⟩
theorem fl_X3_69 : jFL RX3 69 3 3 .int false := ⟨RX3, TX3, 6, tyX3, cl3, by decide, rfl, rfl, Or.inl (tb_in 152 (by decide +kernel) rfl)⟩
theorem fl_X3_72 : jFL RX3 72 3 5 .int false := ⟨RX3, TX3, 6, tyX3, cl3, by decide, rfl, rfl, Or.inl (tb_in 155 (by decide +kernel) rfl)⟩
theorem fl_X4_12 : jFL RX4 12 4 0 (.object "PlanShelves$Table") true := ⟨RX4, TX4, 12, tyX4, cl4, by decide, rfl, rfl, Or.inl (tb_in 219 (by decide +kernel) rfl)⟩
theorem flw_X4_12 : Cond.fieldLink RX4 12 (TX4 0).1 (TX4 0).2.1 (TX4 0).2.2.1 ∈ TBL := tb_in 219 (by decide +kernel) rfl
theorem fl_X4_21 : jFL RX4 21 4 1 (.object "PlanShelves$Sums") true := ⟨RX4, TX4, 12, tyX4, cl4, by decide, rfl, rfl, Or.inl (tb_in 221 (by decide +kernel) rfl)⟩
theorem flw_X4_21 : Cond.fieldLink RX4 21 (TX4 1).1 (TX4 1).2.1 (TX4 1).2.2.1 ∈ TBL := tb_in 221 (by decide +kernel) rfl
theorem fl_X4_27 : jFL RX4 27 4 2 (.array (.object "PlanShelves$Statement")) true := ⟨RX4, TX4, 12, tyX4, cl4, by decide, rfl, rfl, Or.inl (tb_in 223 (by decide +kernel) rfl)⟩
theorem flw_X4_27 : Cond.fieldLink RX4 27 (TX4 2).1 (TX4 2).2.1 (TX4 2).2.2.1 ∈ TBL := tb_in 223 (by decide +kernel) rfl
theorem fl_X4_32 : jFL RX4 32 4 3 (.object "PlanShelves$Statement") true := ⟨RX4, TX4, 12, tyX4, cl4, by decide, rfl, rfl, Or.inl (tb_in 224 (by decide +kernel) rfl)⟩
theorem flw_X4_32 : Cond.fieldLink RX4 32 (TX4 3).1 (TX4 3).2.1 (TX4 3).2.2.1 ∈ TBL := tb_in 224 (by decide +kernel) rfl
theorem fl_X4_39 : jFL RX4 39 4 4 (.object "PlanShelves$Shelf") true := ⟨RX4, TX4, 12, tyX4, cl4, by decide, rfl, rfl, Or.inl (tb_in 225 (by decide +kernel) rfl)⟩
theorem flw_X4_39 : Cond.fieldLink RX4 39 (TX4 4).1 (TX4 4).2.1 (TX4 4).2.2.1 ∈ TBL := tb_in 225 (by decide +kernel) rfl
theorem fl_X4_46 : jFL RX4 46 4 5 (.object "PlanShelves$LastRun") true := ⟨RX4, TX4, 12, tyX4, cl4, by decide, rfl, rfl, Or.inl (tb_in 227 (by decide +kernel) rfl)⟩
theorem flw_X4_46 : Cond.fieldLink RX4 46 (TX4 5).1 (TX4 5).2.1 (TX4 5).2.2.1 ∈ TBL := tb_in 227 (by decide +kernel) rfl
theorem fl_X4_50 : jFL RX4 50 4 6 (.array .int) true := ⟨RX4, TX4, 12, tyX4, cl4, by decide, rfl, rfl, Or.inl (tb_in 229 (by decide +kernel) rfl)⟩
theorem flw_X4_50 : Cond.fieldLink RX4 50 (TX4 6).1 (TX4 6).2.1 (TX4 6).2.2.1 ∈ TBL := tb_in 229 (by decide +kernel) rfl
theorem fl_X4_54 : jFL RX4 54 4 7 .int false := ⟨RX4, TX4, 12, tyX4, cl4, by decide, rfl, rfl, Or.inl (tb_in 231 (by decide +kernel) rfl)⟩
theorem fl_X4_58 : jFL RX4 58 3 2 .int false := ⟨RX3, TX3, 6, tyX3, cl3, by decide, rfl, rfl, Or.inr ⟨"PlanShelves", nw_in 150 (by decide +kernel) rfl⟩⟩
theorem fl_X4_65 : jFL RX4 65 2 3 .int false := ⟨RX2, TX2, 9, tyX2, cl2, by decide, rfl, rfl, Or.inr ⟨"PlanShelves", nw_in 115 (by decide +kernel) rfl⟩⟩
theorem fl_X4_70 : jFL RX4 70 2 1 .int false := ⟨RX2, TX2, 9, tyX2, cl2, by decide, rfl, rfl, Or.inr ⟨"PlanShelves", nw_in 111 (by decide +kernel) rfl⟩⟩
theorem fl_X4_93 : jFL RX4 93 4 8 .int false := ⟨RX4, TX4, 12, tyX4, cl4, by decide, rfl, rfl, Or.inl (tb_in 233 (by decide +kernel) rfl)⟩
theorem fl_X4_104 : jFL RX4 104 5 2 .int false := ⟨RX5, TX5, 4, tyX5, cl5, by decide, rfl, rfl, Or.inr ⟨"PlanShelves", nw_in 81 (by decide +kernel) rfl⟩⟩
theorem fl_X4_114 : jFL RX4 114 6 1 .int false := ⟨RX6, TX6, 2, tyX6, cl6, by decide, rfl, rfl, Or.inr ⟨"PlanShelves", nw_in 47 (by decide +kernel) rfl⟩⟩
theorem fl_X4_128 : jFL RX4 128 4 9 .int false := ⟨RX4, TX4, 12, tyX4, cl4, by decide, rfl, rfl, Or.inl (tb_in 235 (by decide +kernel) rfl)⟩
theorem fl_X4_131 : jFL RX4 131 5 3 .int false := ⟨RX5, TX5, 4, tyX5, cl5, by decide, rfl, rfl, Or.inr ⟨"PlanShelves", nw_in 84 (by decide +kernel) rfl⟩⟩
theorem fl_X4_150 : jFL RX4 150 1 2 .int false := ⟨RX1, TX1, 11, tyX1, cl1, by decide, rfl, rfl, Or.inr ⟨"PlanShelves", nw_in 179 (by decide +kernel) rfl⟩⟩
theorem fl_X4_151 : jFL RX4 151 1 3 .int false := ⟨RX1, TX1, 11, tyX1, cl1, by decide, rfl, rfl, Or.inr ⟨"PlanShelves", nw_in 181 (by decide +kernel) rfl⟩⟩
theorem fl_X4_158 : jFL RX4 158 4 10 .int false := ⟨RX4, TX4, 12, tyX4, cl4, by decide, rfl, rfl, Or.inl (tb_in 237 (by decide +kernel) rfl)⟩
theorem fl_X4_161 : jFL RX4 161 1 8 .int false := ⟨RX1, TX1, 11, tyX1, cl1, by decide, rfl, rfl, Or.inr ⟨"PlanShelves", nw_in 191 (by decide +kernel) rfl⟩⟩
theorem fl_X4_167 : jFL RX4 167 1 10 .int false := ⟨RX1, TX1, 11, tyX1, cl1, by decide, rfl, rfl, Or.inr ⟨"PlanShelves", nw_in 195 (by decide +kernel) rfl⟩⟩
theorem fl_X4_178 : jFL RX4 178 2 4 .int false := ⟨RX2, TX2, 9, tyX2, cl2, by decide, rfl, rfl, Or.inr ⟨"PlanShelves", nw_in 118 (by decide +kernel) rfl⟩⟩
theorem fl_X4_181 : jFL RX4 181 2 0 .int false := ⟨RX2, TX2, 9, tyX2, cl2, by decide, rfl, rfl, Or.inr ⟨"PlanShelves", nw_in 109 (by decide +kernel) rfl⟩⟩
theorem fl_X4_184 : jFL RX4 184 2 5 .int false := ⟨RX2, TX2, 9, tyX2, cl2, by decide, rfl, rfl, Or.inr ⟨"PlanShelves", nw_in 120 (by decide +kernel) rfl⟩⟩
theorem fl_X4_187 : jFL RX4 187 2 8 .int false := ⟨RX2, TX2, 9, tyX2, cl2, by decide, rfl, rfl, Or.inr ⟨"PlanShelves", nw_in 127 (by decide +kernel) rfl⟩⟩
theorem fl_X4_190 : jFL RX4 190 1 4 .int false := ⟨RX1, TX1, 11, tyX1, cl1, by decide, rfl, rfl, Or.inr ⟨"PlanShelves", nw_in 183 (by decide +kernel) rfl⟩⟩
theorem fl_X4_193 : jFL RX4 193 1 5 .int false := ⟨RX1, TX1, 11, tyX1, cl1, by decide, rfl, rfl, Or.inr ⟨"PlanShelves", nw_in 185 (by decide +kernel) rfl⟩⟩
theorem fl_X4_194 : jFL RX4 194 1 6 .int false := ⟨RX1, TX1, 11, tyX1, cl1, by decide, rfl, rfl, Or.inr ⟨"PlanShelves", nw_in 187 (by decide +kernel) rfl⟩⟩
theorem fl_X4_195 : jFL RX4 195 7 1 (.object "PlanShelves$Sums") true := ⟨RX7, TX7, 3, tyX7, cl7, by decide, rfl, rfl, Or.inr ⟨"PlanShelves", nw_in 57 (by decide +kernel) rfl⟩⟩
theorem fl_X4_198 : jFL RX4 198 1 7 .int false := ⟨RX1, TX1, 11, tyX1, cl1, by decide, rfl, rfl, Or.inr ⟨"PlanShelves", nw_in 189 (by decide +kernel) rfl⟩⟩
theorem fl_X4_200 : jFL RX4 200 1 9 .boolean false := ⟨RX1, TX1, 11, tyX1, cl1, by decide, rfl, rfl, Or.inr ⟨"PlanShelves", nw_in 193 (by decide +kernel) rfl⟩⟩
theorem fl_X4_207 : jFL RX4 207 4 11 .int false := ⟨RX4, TX4, 12, tyX4, cl4, by decide, rfl, rfl, Or.inl (tb_in 239 (by decide +kernel) rfl)⟩
theorem fl_X4_210 : jFL RX4 210 2 6 .int false := ⟨RX2, TX2, 9, tyX2, cl2, by decide, rfl, rfl, Or.inr ⟨"PlanShelves", nw_in 122 (by decide +kernel) rfl⟩⟩
theorem fl_X5_9 : jFL RX5 9 5 0 (.array .int) true := ⟨RX5, TX5, 4, tyX5, cl5, by decide, rfl, rfl, Or.inl (tb_in 76 (by decide +kernel) rfl)⟩
theorem flw_X5_9 : Cond.fieldLink RX5 9 (TX5 0).1 (TX5 0).2.1 (TX5 0).2.2.1 ∈ TBL := tb_in 76 (by decide +kernel) rfl
theorem fl_X5_15 : jFL RX5 15 5 1 (.array .int) true := ⟨RX5, TX5, 4, tyX5, cl5, by decide, rfl, rfl, Or.inl (tb_in 77 (by decide +kernel) rfl)⟩
theorem flw_X5_15 : Cond.fieldLink RX5 15 (TX5 1).1 (TX5 1).2.1 (TX5 1).2.2.1 ∈ TBL := tb_in 77 (by decide +kernel) rfl
theorem fl_X5_18 : jFL RX5 18 5 2 .int false := ⟨RX5, TX5, 4, tyX5, cl5, by decide, rfl, rfl, Or.inl (tb_in 78 (by decide +kernel) rfl)⟩
theorem fl_X5_61 : jFL RX5 61 5 3 .int false := ⟨RX5, TX5, 4, tyX5, cl5, by decide, rfl, rfl, Or.inl (tb_in 82 (by decide +kernel) rfl)⟩
theorem fl_X6_9 : jFL RX6 9 6 0 (.array .int) true := ⟨RX6, TX6, 2, tyX6, cl6, by decide, rfl, rfl, Or.inl (tb_in 43 (by decide +kernel) rfl)⟩
theorem flw_X6_9 : Cond.fieldLink RX6 9 (TX6 0).1 (TX6 0).2.1 (TX6 0).2.2.1 ∈ TBL := tb_in 43 (by decide +kernel) rfl
theorem fl_X6_31 : jFL RX6 31 6 1 .int false := ⟨RX6, TX6, 2, tyX6, cl6, by decide, rfl, rfl, Or.inl (tb_in 44 (by decide +kernel) rfl)⟩
theorem fl_X7_11 : jFL RX7 11 7 0 (.array .int) true := ⟨RX7, TX7, 3, tyX7, cl7, by decide, rfl, rfl, Or.inl (tb_in 54 (by decide +kernel) rfl)⟩
theorem flw_X7_11 : Cond.fieldLink RX7 11 (TX7 0).1 (TX7 0).2.1 (TX7 0).2.2.1 ∈ TBL := tb_in 54 (by decide +kernel) rfl
theorem fl_X7_18 : jFL RX7 18 7 1 (.object "PlanShelves$Sums") true := ⟨RX7, TX7, 3, tyX7, cl7, by decide, rfl, rfl, Or.inl (tb_in 55 (by decide +kernel) rfl)⟩
theorem flw_X7_18 : Cond.fieldLink RX7 18 (TX7 1).1 (TX7 1).2.1 (TX7 1).2.2.1 ∈ TBL := tb_in 55 (by decide +kernel) rfl
theorem fl_X7_22 : jFL RX7 22 7 2 .int false := ⟨RX7, TX7, 3, tyX7, cl7, by decide, rfl, rfl, Or.inl (tb_in 58 (by decide +kernel) rfl)⟩
theorem fl_X7_46 : jFL RX7 46 5 2 .int false := ⟨RX5, TX5, 4, tyX5, cl5, by decide, rfl, rfl, Or.inr ⟨"PlanShelves", nw_in 79 (by decide +kernel) rfl⟩⟩
theorem fl_X7_66 : jFL RX7 66 6 1 .int false := ⟨RX6, TX6, 2, tyX6, cl6, by decide, rfl, rfl, Or.inr ⟨"PlanShelves", nw_in 46 (by decide +kernel) rfl⟩⟩
theorem fl_X8_9 : jFL RX8 9 8 0 (.array .char) true := ⟨RX8, TX8, 2, tyX8, cl8, by decide, rfl, rfl, Or.inl (tb_in 289 (by decide +kernel) rfl)⟩
theorem flw_X8_9 : Cond.fieldLink RX8 9 (TX8 0).1 (TX8 0).2.1 (TX8 0).2.2.1 ∈ TBL := tb_in 289 (by decide +kernel) rfl
theorem fl_X8_15 : jFL RX8 15 8 1 .int false := ⟨RX8, TX8, 2, tyX8, cl8, by decide, rfl, rfl, Or.inl (tb_in 290 (by decide +kernel) rfl)⟩
theorem inL : Cond.initialized RL ∈ TBL := tb_in 0 (by decide +kernel) rfl
