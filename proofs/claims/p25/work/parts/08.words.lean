set_option maxRecDepth 100000 in
theorem gwm (i : Nat) {w : Cond} (h : lw_tbl[i]? = some w) (hg : goodWord w = true) : w ∈ GW := List.mem_filter.mpr ⟨List.mem_of_getElem? h, hg⟩
theorem nwm (i : Nat) {w : Cond} (h : lw_tbl[i]? = some w) (hg : am_nest w = true) : w ∈ NWL := List.mem_filter.mpr ⟨List.mem_of_getElem? h, hg⟩
set_option maxRecDepth 100000 in
theorem inG0 : ∀ w ∈ wsX00, w ∈ GW := by
  intro w hw
  obtain ⟨k, hk, rfl⟩ := List.mem_map.mp hw
  have hk2 := List.mem_range.mp hk
  match k, hk2 with
  | 0, _ => exact (gwm 158 (by rfl) rfl)
  | 1, _ => exact (gwm 160 (by rfl) rfl)
  | 2, _ => exact (gwm 162 (by rfl) rfl)
  | 3, _ => exact (gwm 164 (by rfl) rfl)
  | 4, _ => exact (gwm 166 (by rfl) rfl)
  | k + 5, h => exact absurd h (by omega)
theorem kX0 : aCl 0 RX0 TX0 5 tyX0 := ⟨rfl, inG0, tyX0_ok, nmX0⟩
set_option maxRecDepth 100000 in
theorem inG1 : ∀ w ∈ wsX10, w ∈ GW := by
  intro w hw
  obtain ⟨k, hk, rfl⟩ := List.mem_map.mp hw
  have hk2 := List.mem_range.mp hk
  match k, hk2 with
  | 0, _ => exact (gwm 206 (by rfl) rfl)
  | 1, _ => exact (gwm 208 (by rfl) rfl)
  | 2, _ => exact (gwm 210 (by rfl) rfl)
  | 3, _ => exact (gwm 212 (by rfl) rfl)
  | 4, _ => exact (gwm 214 (by rfl) rfl)
  | 5, _ => exact (gwm 216 (by rfl) rfl)
  | k + 6, h => exact absurd h (by omega)
theorem kX1 : aCl 1 RX1 TX1 6 tyX1 := ⟨rfl, inG1, tyX1_ok, nmX1⟩
set_option maxRecDepth 100000 in
theorem inG2 : ∀ w ∈ wsX20, w ∈ GW := by
  intro w hw
  obtain ⟨k, hk, rfl⟩ := List.mem_map.mp hw
  have hk2 := List.mem_range.mp hk
  match k, hk2 with
  | 0, _ => exact (gwm 182 (by rfl) rfl)
  | 1, _ => exact (gwm 184 (by rfl) rfl)
  | 2, _ => exact (gwm 186 (by rfl) rfl)
  | k + 3, h => exact absurd h (by omega)
theorem kX2 : aCl 2 RX2 TX2 3 tyX2 := ⟨rfl, inG2, tyX2_ok, nmX2⟩
set_option maxRecDepth 100000 in
theorem inG3 : ∀ w ∈ wsX30, w ∈ GW := by
  intro w hw
  obtain ⟨k, hk, rfl⟩ := List.mem_map.mp hw
  have hk2 := List.mem_range.mp hk
  match k, hk2 with
  | 0, _ => exact (gwm 87 (by rfl) rfl)
  | 1, _ => exact (gwm 89 (by rfl) rfl)
  | 2, _ => exact (gwm 91 (by rfl) rfl)
  | 3, _ => exact (gwm 93 (by rfl) rfl)
  | k + 4, h => exact absurd h (by omega)
theorem kX3 : aCl 3 RX3 TX3 4 tyX3 := ⟨rfl, inG3, tyX3_ok, nmX3⟩
set_option maxRecDepth 100000 in
theorem inG4 : ∀ w ∈ wsX40, w ∈ GW := by
  intro w hw
  obtain ⟨k, hk, rfl⟩ := List.mem_map.mp hw
  have hk2 := List.mem_range.mp hk
  match k, hk2 with
  | 0, _ => exact (gwm 240 (by rfl) rfl)
  | 1, _ => exact (gwm 242 (by rfl) rfl)
  | 2, _ => exact (gwm 244 (by rfl) rfl)
  | 3, _ => exact (gwm 246 (by rfl) rfl)
  | 4, _ => exact (gwm 248 (by rfl) rfl)
  | 5, _ => exact (gwm 250 (by rfl) rfl)
  | 6, _ => exact (gwm 252 (by rfl) rfl)
  | 7, _ => exact (gwm 254 (by rfl) rfl)
  | k + 8, h => exact absurd h (by omega)
theorem kX4 : aCl 4 RX4 TX4 8 tyX4 := ⟨rfl, inG4, tyX4_ok, nmX4⟩
set_option maxRecDepth 100000 in
theorem inG5 : ∀ w ∈ wsX50, w ∈ GW := by
  intro w hw
  obtain ⟨k, hk, rfl⟩ := List.mem_map.mp hw
  have hk2 := List.mem_range.mp hk
  match k, hk2 with
  | 0, _ => exact (gwm 118 (by rfl) rfl)
  | 1, _ => exact (gwm 120 (by rfl) rfl)
  | 2, _ => exact (gwm 122 (by rfl) rfl)
  | 3, _ => exact (gwm 124 (by rfl) rfl)
  | 4, _ => exact (gwm 126 (by rfl) rfl)
  | k + 5, h => exact absurd h (by omega)
theorem kX5 : aCl 5 RX5 TX5 5 tyX5 := ⟨rfl, inG5, tyX5_ok, nmX5⟩
set_option maxRecDepth 100000 in
theorem inG6 : ∀ w ∈ wsX60, w ∈ GW := by
  intro w hw
  obtain ⟨k, hk, rfl⟩ := List.mem_map.mp hw
  have hk2 := List.mem_range.mp hk
  match k, hk2 with
  | 0, _ => exact (gwm 270 (by rfl) rfl)
  | 1, _ => exact (gwm 272 (by rfl) rfl)
  | 2, _ => exact (gwm 274 (by rfl) rfl)
  | 3, _ => exact (gwm 276 (by rfl) rfl)
  | k + 4, h => exact absurd h (by omega)
theorem kX6 : aCl 6 RX6 TX6 4 tyX6 := ⟨rfl, inG6, tyX6_ok, nmX6⟩
set_option maxRecDepth 100000 in
theorem inG7 : ∀ w ∈ wsX70, w ∈ GW := by
  intro w hw
  obtain ⟨k, hk, rfl⟩ := List.mem_map.mp hw
  have hk2 := List.mem_range.mp hk
  match k, hk2 with
  | 0, _ => exact (gwm 141 (by rfl) rfl)
  | 1, _ => exact (gwm 143 (by rfl) rfl)
  | k + 2, h => exact absurd h (by omega)
theorem kX7 : aCl 7 RX7 TX7 2 tyX7 := ⟨rfl, inG7, tyX7_ok, nmX7⟩
set_option maxRecDepth 100000 in
theorem inG8 : ∀ w ∈ wsX80, w ∈ GW := by
  intro w hw
  obtain ⟨k, hk, rfl⟩ := List.mem_map.mp hw
  have hk2 := List.mem_range.mp hk
  match k, hk2 with
  | 0, _ => exact (gwm 287 (by rfl) rfl)
  | 1, _ => exact (gwm 289 (by rfl) rfl)
  | 2, _ => exact (gwm 291 (by rfl) rfl)
  | 3, _ => exact (gwm 293 (by rfl) rfl)
  | 4, _ => exact (gwm 295 (by rfl) rfl)
  | 5, _ => exact (gwm 297 (by rfl) rfl)
  | 6, _ => exact (gwm 299 (by rfl) rfl)
  | k + 7, h => exact absurd h (by omega)
theorem kX8 : aCl 8 RX8 TX8 7 tyX8 := ⟨rfl, inG8, tyX8_ok, nmX8⟩
abbrev mX8_init : MI := (yX8_init, cX8_init, 1, none)
abbrev mX8_bestHeat : MI := (yX8_bestHeat, cX8_bestHeat, 5, (some .int))
abbrev mX8_bringPlanUpToDate : MI := (yX8_bringPlanUpToDate, cX8_bringPlanUpToDate, 1, none)
abbrev mX8_clean : MI := (yX8_clean, cX8_clean, 2, (some .int))
abbrev mX8_color : MI := (yX8_color, cX8_color, 4, (some .int))
abbrev mX8_colorInfo : MI := (yX8_colorInfo, cX8_colorInfo, 3, (some .int))
abbrev mX8_copyRow : MI := (yX8_copyRow, cX8_copyRow, 2, none)
abbrev mX8_count : MI := (yX8_count, cX8_count, 2, (some .int))
abbrev mX8_counter : MI := (yX8_counter, cX8_counter, 5, (some .int))
abbrev mX8_fault : MI := (yX8_fault, cX8_fault, 2, (some .int))
abbrev mX8_field : MI := (yX8_field, cX8_field, 3, (some .int))
abbrev mX8_fire : MI := (yX8_fire, cX8_fire, 3, (some .int))
abbrev mX8_ifFired : MI := (yX8_ifFired, cX8_ifFired, 3, (some .int))
abbrev mX8_isColor : MI := (yX8_isColor, cX8_isColor, 2, (some .boolean))
abbrev mX8_isField : MI := (yX8_isField, cX8_isField, 1, (some .boolean))
abbrev mX8_isFrontField : MI := (yX8_isFrontField, cX8_isFrontField, 1, (some .boolean))
abbrev mX8_layer : MI := (yX8_layer, cX8_layer, 5, (some .int))
abbrev mX8_leastFirings : MI := (yX8_leastFirings, cX8_leastFirings, 1, (some .int))
abbrev mX8_placeOf : MI := (yX8_placeOf, cX8_placeOf, 2, (some .int))
abbrev mX8_planned : MI := (yX8_planned, cX8_planned, 3, (some .int))
abbrev mX8_put : MI := (yX8_put, cX8_put, 3, (some .int))
abbrev mX8_set : MI := (yX8_set, cX8_set, 4, (some .int))
abbrev mX8_takeOff : MI := (yX8_takeOff, cX8_takeOff, 2, (some .int))
abbrev mX8_tryHeat : MI := (yX8_tryHeat, cX8_tryHeat, 2, none)
abbrev mX8_type : MI := (yX8_type, cX8_type, 2, (some .int))
abbrev mX8_undo : MI := (yX8_undo, cX8_undo, 1, (some .int))
abbrev mX8_wish : MI := (yX8_wish, cX8_wish, 3, (some .int))
abbrev mX8_wished : MI := (yX8_wished, cX8_wished, 3, (some .int))
abbrev mX8_within : MI := (yX8_within, cX8_within, 3, (some .boolean))
abbrev mX0_init : MI := (yX0_init, cX0_init, 1, none)
abbrev mX0_copyFrom : MI := (yX0_copyFrom, cX0_copyFrom, 2, none)
abbrev mX1_init : MI := (yX1_init, cX1_init, 1, none)
abbrev mX1_coolField : MI := (yX1_coolField, cX1_coolField, 4, none)
abbrev mX1_happen : MI := (yX1_happen, cX1_happen, 8, none)
abbrev mX1_heatLayer : MI := (yX1_heatLayer, cX1_heatLayer, 8, none)
abbrev mX1_mendField : MI := (yX1_mendField, cX1_mendField, 4, none)
abbrev mX1_soften : MI := (yX1_soften, cX1_soften, 4, none)
abbrev mX2_init : MI := (yX2_init, cX2_init, 1, none)
abbrev mX2_keep : MI := (yX2_keep, cX2_keep, 2, none)
abbrev mX2_restore : MI := (yX2_restore, cX2_restore, 2, none)
abbrev mX3_init : MI := (yX3_init, cX3_init, 1, none)
abbrev mX3_append : MI := (yX3_append, cX3_append, 4, (some .int))
abbrev mX3_copyFrom : MI := (yX3_copyFrom, cX3_copyFrom, 2, none)
abbrev mX3_pullOf : MI := (yX3_pullOf, cX3_pullOf, 2, (some .int))
abbrev mX4_init : MI := (yX4_init, cX4_init, 3, none)
abbrev mX4_bestSet : MI := (yX4_bestSet, cX4_bestSet, 10, (some .int))
abbrev mX4_burningOfPut : MI := (yX4_burningOfPut, cX4_burningOfPut, 7, (some .int))
abbrev mX4_isStage : MI := (yX4_isStage, cX4_isStage, 3, (some .boolean))
abbrev mX4_lastStage : MI := (yX4_lastStage, cX4_lastStage, 3, (some .int))
abbrev mX4_layersAt : MI := (yX4_layersAt, cX4_layersAt, 2, (some .int))
abbrev mX4_lookAtNext : MI := (yX4_lookAtNext, cX4_lookAtNext, 8, (some .int))
abbrev mX4_search : MI := (yX4_search, cX4_search, 6, none)
abbrev mX5_init : MI := (yX5_init, cX5_init, 1, none)
abbrev mX5_append : MI := (yX5_append, cX5_append, 5, (some .int))
abbrev mX5_copyFrom : MI := (yX5_copyFrom, cX5_copyFrom, 2, none)
abbrev mX5_crackedFields : MI := (yX5_crackedFields, cX5_crackedFields, 3, (some .int))
abbrev mX5_greatestStrainWith : MI := (yX5_greatestStrainWith, cX5_greatestStrainWith, 6, (some .int))
abbrev mX5_hasHold : MI := (yX5_hasHold, cX5_hasHold, 3, (some .boolean))
abbrev mX5_heatThatMelts : MI := (yX5_heatThatMelts, cX5_heatThatMelts, 5, (some .int))
abbrev mX5_heatThatSpares : MI := (yX5_heatThatSpares, cX5_heatThatSpares, 7, (some .int))
abbrev mX5_holdsOn : MI := (yX5_holdsOn, cX5_holdsOn, 2, (some .boolean))
abbrev mX5_layers : MI := (yX5_layers, cX5_layers, 3, (some .int))
abbrev mX5_layersOfColor : MI := (yX5_layersOfColor, cX5_layersOfColor, 2, (some .int))
abbrev mX5_layersOfState : MI := (yX5_layersOfState, cX5_layersOfState, 2, (some .int))
abbrev mX5_layersWith : MI := (yX5_layersWith, cX5_layersWith, 6, (some .int))
abbrev mX5_makeBare : MI := (yX5_makeBare, cX5_makeBare, 2, none)
abbrev mX5_outermostIsRaw : MI := (yX5_outermostIsRaw, cX5_outermostIsRaw, 2, (some .boolean))
abbrev mX5_pullOf : MI := (yX5_pullOf, cX5_pullOf, 6, (some .int))
abbrev mX5_removeOutermost : MI := (yX5_removeOutermost, cX5_removeOutermost, 2, (some .int))
abbrev mX5_strainOf : MI := (yX5_strainOf, cX5_strainOf, 3, (some .int))
abbrev mX6_init : MI := (yX6_init, cX6_init, 1, none)
abbrev mX6_append : MI := (yX6_append, cX6_append, 2, (some .int))
abbrev mX6_hasFault : MI := (yX6_hasFault, cX6_hasFault, 1, (some .boolean))
abbrev mX6_isFieldDigit : MI := (yX6_isFieldDigit, cX6_isFieldDigit, 1, (some .boolean))
abbrev mX6_isLetter : MI := (yX6_isLetter, cX6_isLetter, 1, (some .boolean))
abbrev mX6_lookForFault : MI := (yX6_lookForFault, cX6_lookForFault, 5, none)
abbrev mX6_reasonOf : MI := (yX6_reasonOf, cX6_reasonOf, 3, (some .int))
abbrev mX7_init : MI := (yX7_init, cX7_init, 1, none)
abbrev mX7_append : MI := (yX7_append, cX7_append, 3, none)
abbrev mX7_colorsTogether : MI := (yX7_colorsTogether, cX7_colorsTogether, 3, (some .int))
abbrev mX7_copyFrom : MI := (yX7_copyFrom, cX7_copyFrom, 2, none)
abbrev mX7_timesOfColor : MI := (yX7_timesOfColor, cX7_timesOfColor, 5, (some .int))
abbrev mL_acts : MI := (yL_acts, cL_acts, 6, (some .int))
abbrev mL_areLayers : MI := (yL_areLayers, cL_areLayers, 10, (some .boolean))
abbrev mL_cell : MI := (yL_cell, cL_cell, 3, (some .int))
abbrev mL_isBest : MI := (yL_isBest, cL_isBest, 7, (some .boolean))
abbrev mL_isCounter : MI := (yL_isCounter, cL_isCounter, 8, (some .boolean))
abbrev mL_isFired : MI := (yL_isFired, cL_isFired, 22, (some .boolean))
abbrev mL_isPlan : MI := (yL_isPlan, cL_isPlan, 14, (some .boolean))
abbrev mL_low : MI := (yL_low, cL_low, 2, (some .int))
abbrev mL_print : MI := (yL_print, cL_print, 5, (some .long))
abbrev mL_refused : MI := (yL_refused, cL_refused, 6, (some .boolean))
abbrev mL_size : MI := (yL_size, cL_size, 1, (some .int))
abbrev mL_law : MI := (yL_law, cL_law, 11, some .boolean)
set_option maxRecDepth 100000 in
theorem fl_RX8_10 : aFl RX8 10 8 0 := ⟨RX8, TX8, 7, tyX8, kX8, by decide, rfl, Or.inl (gwm 280 (by rfl) rfl)⟩
set_option maxRecDepth 100000 in
theorem ff_RX8_10 : aFf RX8 10 8 0 := ⟨RX8, TX8, 7, tyX8, kX8, by decide, rfl, rfl, (gwm 280 (by rfl) rfl), rfl, fun a => ⟨rfl, rfl⟩⟩
set_option maxRecDepth 100000 in
theorem fl_RX8_19 : aFl RX8 19 8 1 := ⟨RX8, TX8, 7, tyX8, kX8, by decide, rfl, Or.inl (gwm 281 (by rfl) rfl)⟩
set_option maxRecDepth 100000 in
theorem ff_RX8_19 : aFf RX8 19 8 1 := ⟨RX8, TX8, 7, tyX8, kX8, by decide, rfl, rfl, (gwm 281 (by rfl) rfl), rfl, fun a => ⟨rfl, rfl⟩⟩
set_option maxRecDepth 100000 in
theorem fl_RX8_26 : aFl RX8 26 8 2 := ⟨RX8, TX8, 7, tyX8, kX8, by decide, rfl, Or.inl (gwm 282 (by rfl) rfl)⟩
set_option maxRecDepth 100000 in
theorem ff_RX8_26 : aFf RX8 26 8 2 := ⟨RX8, TX8, 7, tyX8, kX8, by decide, rfl, rfl, (gwm 282 (by rfl) rfl), rfl, fun a => ⟨rfl, rfl⟩⟩
set_option maxRecDepth 100000 in
theorem fl_RX8_33 : aFl RX8 33 8 3 := ⟨RX8, TX8, 7, tyX8, kX8, by decide, rfl, Or.inl (gwm 283 (by rfl) rfl)⟩
set_option maxRecDepth 100000 in
theorem ff_RX8_33 : aFf RX8 33 8 3 := ⟨RX8, TX8, 7, tyX8, kX8, by decide, rfl, rfl, (gwm 283 (by rfl) rfl), rfl, fun a => ⟨rfl, rfl⟩⟩
set_option maxRecDepth 100000 in
theorem fl_RX8_40 : aFl RX8 40 8 4 := ⟨RX8, TX8, 7, tyX8, kX8, by decide, rfl, Or.inl (gwm 284 (by rfl) rfl)⟩
set_option maxRecDepth 100000 in
theorem ff_RX8_40 : aFf RX8 40 8 4 := ⟨RX8, TX8, 7, tyX8, kX8, by decide, rfl, rfl, (gwm 284 (by rfl) rfl), rfl, fun a => ⟨rfl, rfl⟩⟩
set_option maxRecDepth 100000 in
theorem fl_RX8_47 : aFl RX8 47 8 5 := ⟨RX8, TX8, 7, tyX8, kX8, by decide, rfl, Or.inl (gwm 285 (by rfl) rfl)⟩
set_option maxRecDepth 100000 in
theorem ff_RX8_47 : aFf RX8 47 8 5 := ⟨RX8, TX8, 7, tyX8, kX8, by decide, rfl, rfl, (gwm 285 (by rfl) rfl), rfl, fun a => ⟨rfl, rfl⟩⟩
set_option maxRecDepth 100000 in
theorem fl_RX8_51 : aFl RX8 51 8 6 := ⟨RX8, TX8, 7, tyX8, kX8, by decide, rfl, Or.inl (gwm 286 (by rfl) rfl)⟩
set_option maxRecDepth 100000 in
theorem fn_RX8_51 : aFn RX8 51 8 6 true := ⟨RX8, TX8, 7, tyX8, kX8, by decide, rfl, Or.inl (gwm 286 (by rfl) rfl), rfl, rfl⟩
set_option maxRecDepth 100000 in
theorem fl_RX8_59 : aFl RX8 59 0 0 := ⟨RX0, TX0, 5, tyX0, kX0, by decide, rfl, Or.inr ⟨_, (nwm 147 (by rfl) rfl)⟩⟩
set_option maxRecDepth 100000 in
theorem fl_RX8_63 : aFl RX8 63 3 3 := ⟨RX3, TX3, 4, tyX3, kX3, by decide, rfl, Or.inr ⟨_, (nwm 86 (by rfl) rfl)⟩⟩
set_option maxRecDepth 100000 in
theorem fn_RX8_63 : aFn RX8 63 3 3 false := ⟨RX3, TX3, 4, tyX3, kX3, by decide, rfl, Or.inr ⟨_, (nwm 86 (by rfl) rfl)⟩, rfl, rfl⟩
set_option maxRecDepth 100000 in
theorem fl_RX8_81 : aFl RX8 81 3 0 := ⟨RX3, TX3, 4, tyX3, kX3, by decide, rfl, Or.inr ⟨_, (nwm 75 (by rfl) rfl)⟩⟩
set_option maxRecDepth 100000 in
theorem fl_RX8_85 : aFl RX8 85 3 1 := ⟨RX3, TX3, 4, tyX3, kX3, by decide, rfl, Or.inr ⟨_, (nwm 80 (by rfl) rfl)⟩⟩
set_option maxRecDepth 100000 in
theorem fl_RX8_88 : aFl RX8 88 3 2 := ⟨RX3, TX3, 4, tyX3, kX3, by decide, rfl, Or.inr ⟨_, (nwm 84 (by rfl) rfl)⟩⟩
set_option maxRecDepth 100000 in
theorem fl_RX8_95 : aFl RX8 95 0 1 := ⟨RX0, TX0, 5, tyX0, kX0, by decide, rfl, Or.inr ⟨_, (nwm 150 (by rfl) rfl)⟩⟩
set_option maxRecDepth 100000 in
theorem fl_RX8_101 : aFl RX8 101 0 2 := ⟨RX0, TX0, 5, tyX0, kX0, by decide, rfl, Or.inr ⟨_, (nwm 152 (by rfl) rfl)⟩⟩
set_option maxRecDepth 100000 in
theorem fl_RX8_116 : aFl RX8 116 5 0 := ⟨RX5, TX5, 5, tyX5, kX5, by decide, rfl, Or.inr ⟨_, (nwm 105 (by rfl) rfl)⟩⟩
set_option maxRecDepth 100000 in
theorem fl_RX8_119 : aFl RX8 119 0 4 := ⟨RX0, TX0, 5, tyX0, kX0, by decide, rfl, Or.inr ⟨_, (nwm 157 (by rfl) rfl)⟩⟩
set_option maxRecDepth 100000 in
theorem fl_RX8_138 : aFl RX8 138 5 1 := ⟨RX5, TX5, 5, tyX5, kX5, by decide, rfl, Or.inr ⟨_, (nwm 108 (by rfl) rfl)⟩⟩
set_option maxRecDepth 100000 in
theorem fl_RX8_141 : aFl RX8 141 5 2 := ⟨RX5, TX5, 5, tyX5, kX5, by decide, rfl, Or.inr ⟨_, (nwm 111 (by rfl) rfl)⟩⟩
set_option maxRecDepth 100000 in
theorem fl_RX8_144 : aFl RX8 144 5 3 := ⟨RX5, TX5, 5, tyX5, kX5, by decide, rfl, Or.inr ⟨_, (nwm 114 (by rfl) rfl)⟩⟩
set_option maxRecDepth 100000 in
theorem fl_RX8_153 : aFl RX8 153 5 4 := ⟨RX5, TX5, 5, tyX5, kX5, by decide, rfl, Or.inr ⟨_, (nwm 117 (by rfl) rfl)⟩⟩
set_option maxRecDepth 100000 in
theorem fl_RX8_168 : aFl RX8 168 0 3 := ⟨RX0, TX0, 5, tyX0, kX0, by decide, rfl, Or.inr ⟨_, (nwm 155 (by rfl) rfl)⟩⟩
set_option maxRecDepth 100000 in
theorem fl_RX8_180 : aFl RX8 180 2 2 := ⟨RX2, TX2, 3, tyX2, kX2, by decide, rfl, Or.inr ⟨_, (nwm 181 (by rfl) rfl)⟩⟩
set_option maxRecDepth 100000 in
theorem fn_RX8_180 : aFn RX8 180 2 2 false := ⟨RX2, TX2, 3, tyX2, kX2, by decide, rfl, Or.inr ⟨_, (nwm 181 (by rfl) rfl)⟩, rfl, rfl⟩
set_option maxRecDepth 100000 in
theorem fl_RX8_181 : aFl RX8 181 6 1 := ⟨RX6, TX6, 4, tyX6, kX6, by decide, rfl, Or.inr ⟨_, (nwm 265 (by rfl) rfl)⟩⟩
set_option maxRecDepth 100000 in
theorem fn_RX8_181 : aFn RX8 181 6 1 false := ⟨RX6, TX6, 4, tyX6, kX6, by decide, rfl, Or.inr ⟨_, (nwm 265 (by rfl) rfl)⟩, rfl, rfl⟩
set_option maxRecDepth 100000 in
theorem fl_RX8_188 : aFl RX8 188 1 1 := ⟨RX1, TX1, 6, tyX1, kX1, by decide, rfl, Or.inr ⟨_, (nwm 197 (by rfl) rfl)⟩⟩
set_option maxRecDepth 100000 in
theorem fn_RX8_188 : aFn RX8 188 1 1 false := ⟨RX1, TX1, 6, tyX1, kX1, by decide, rfl, Or.inr ⟨_, (nwm 197 (by rfl) rfl)⟩, rfl, rfl⟩
set_option maxRecDepth 100000 in
theorem fl_RX8_191 : aFl RX8 191 1 3 := ⟨RX1, TX1, 6, tyX1, kX1, by decide, rfl, Or.inr ⟨_, (nwm 201 (by rfl) rfl)⟩⟩
set_option maxRecDepth 100000 in
theorem fn_RX8_191 : aFn RX8 191 1 3 false := ⟨RX1, TX1, 6, tyX1, kX1, by decide, rfl, Or.inr ⟨_, (nwm 201 (by rfl) rfl)⟩, rfl, rfl⟩
set_option maxRecDepth 100000 in
theorem fl_RX8_194 : aFl RX8 194 1 2 := ⟨RX1, TX1, 6, tyX1, kX1, by decide, rfl, Or.inr ⟨_, (nwm 199 (by rfl) rfl)⟩⟩
set_option maxRecDepth 100000 in
theorem fn_RX8_194 : aFn RX8 194 1 2 false := ⟨RX1, TX1, 6, tyX1, kX1, by decide, rfl, Or.inr ⟨_, (nwm 199 (by rfl) rfl)⟩, rfl, rfl⟩
set_option maxRecDepth 100000 in
theorem fl_RX8_197 : aFl RX8 197 1 4 := ⟨RX1, TX1, 6, tyX1, kX1, by decide, rfl, Or.inr ⟨_, (nwm 203 (by rfl) rfl)⟩⟩
set_option maxRecDepth 100000 in
theorem fn_RX8_197 : aFn RX8 197 1 4 false := ⟨RX1, TX1, 6, tyX1, kX1, by decide, rfl, Or.inr ⟨_, (nwm 203 (by rfl) rfl)⟩, rfl, rfl⟩
set_option maxRecDepth 100000 in
theorem fl_RX8_199 : aFl RX8 199 1 5 := ⟨RX1, TX1, 6, tyX1, kX1, by decide, rfl, Or.inr ⟨_, (nwm 205 (by rfl) rfl)⟩⟩
set_option maxRecDepth 100000 in
theorem fn_RX8_199 : aFn RX8 199 1 5 false := ⟨RX1, TX1, 6, tyX1, kX1, by decide, rfl, Or.inr ⟨_, (nwm 205 (by rfl) rfl)⟩, rfl, rfl⟩
set_option maxRecDepth 100000 in
theorem fl_RX8_209 : aFl RX8 209 7 0 := ⟨RX7, TX7, 2, tyX7, kX7, by decide, rfl, Or.inr ⟨_, (nwm 137 (by rfl) rfl)⟩⟩
set_option maxRecDepth 100000 in
theorem fl_RX8_213 : aFl RX8 213 7 1 := ⟨RX7, TX7, 2, tyX7, kX7, by decide, rfl, Or.inr ⟨_, (nwm 140 (by rfl) rfl)⟩⟩
set_option maxRecDepth 100000 in
theorem fl_RX8_217 : aFl RX8 217 4 7 := ⟨RX4, TX4, 8, tyX4, kX4, by decide, rfl, Or.inr ⟨_, (nwm 239 (by rfl) rfl)⟩⟩
set_option maxRecDepth 100000 in
theorem fn_RX8_217 : aFn RX8 217 4 7 true := ⟨RX4, TX4, 8, tyX4, kX4, by decide, rfl, Or.inr ⟨_, (nwm 239 (by rfl) rfl)⟩, rfl, rfl⟩
set_option maxRecDepth 100000 in
theorem fl_RX8_220 : aFl RX8 220 4 6 := ⟨RX4, TX4, 8, tyX4, kX4, by decide, rfl, Or.inr ⟨_, (nwm 237 (by rfl) rfl)⟩⟩
set_option maxRecDepth 100000 in
theorem fn_RX8_220 : aFn RX8 220 4 6 false := ⟨RX4, TX4, 8, tyX4, kX4, by decide, rfl, Or.inr ⟨_, (nwm 237 (by rfl) rfl)⟩, rfl, rfl⟩
set_option maxRecDepth 100000 in
theorem fl_RX8_221 : aFl RX8 221 4 4 := ⟨RX4, TX4, 8, tyX4, kX4, by decide, rfl, Or.inr ⟨_, (nwm 233 (by rfl) rfl)⟩⟩
set_option maxRecDepth 100000 in
theorem fl_RX8_224 : aFl RX8 224 4 5 := ⟨RX4, TX4, 8, tyX4, kX4, by decide, rfl, Or.inr ⟨_, (nwm 235 (by rfl) rfl)⟩⟩
set_option maxRecDepth 100000 in
theorem fl_RX8_243 : aFl RX8 243 6 2 := ⟨RX6, TX6, 4, tyX6, kX6, by decide, rfl, Or.inr ⟨_, (nwm 267 (by rfl) rfl)⟩⟩
set_option maxRecDepth 100000 in
theorem fn_RX8_243 : aFn RX8 243 6 2 false := ⟨RX6, TX6, 4, tyX6, kX6, by decide, rfl, Or.inr ⟨_, (nwm 267 (by rfl) rfl)⟩, rfl, rfl⟩
set_option maxRecDepth 100000 in
theorem fl_RX8_246 : aFl RX8 246 6 3 := ⟨RX6, TX6, 4, tyX6, kX6, by decide, rfl, Or.inr ⟨_, (nwm 269 (by rfl) rfl)⟩⟩
set_option maxRecDepth 100000 in
theorem fn_RX8_246 : aFn RX8 246 6 3 false := ⟨RX6, TX6, 4, tyX6, kX6, by decide, rfl, Or.inr ⟨_, (nwm 269 (by rfl) rfl)⟩, rfl, rfl⟩
set_option maxRecDepth 100000 in
theorem fl_RX0_12 : aFl RX0 12 0 0 := ⟨RX0, TX0, 5, tyX0, kX0, by decide, rfl, Or.inl (gwm 146 (by rfl) rfl)⟩
set_option maxRecDepth 100000 in
theorem ff_RX0_12 : aFf RX0 12 0 0 := ⟨RX0, TX0, 5, tyX0, kX0, by decide, rfl, rfl, (gwm 146 (by rfl) rfl), rfl, fun a => ⟨rfl, rfl⟩⟩
set_option maxRecDepth 100000 in
theorem fl_RX0_21 : aFl RX0 21 0 1 := ⟨RX0, TX0, 5, tyX0, kX0, by decide, rfl, Or.inl (gwm 149 (by rfl) rfl)⟩
set_option maxRecDepth 100000 in
theorem ff_RX0_21 : aFf RX0 21 0 1 := ⟨RX0, TX0, 5, tyX0, kX0, by decide, rfl, rfl, (gwm 149 (by rfl) rfl), rfl, fun a => ⟨rfl, rfl⟩⟩
set_option maxRecDepth 100000 in
theorem fl_RX0_28 : aFl RX0 28 0 2 := ⟨RX0, TX0, 5, tyX0, kX0, by decide, rfl, Or.inl (gwm 151 (by rfl) rfl)⟩
set_option maxRecDepth 100000 in
theorem ff_RX0_28 : aFf RX0 28 0 2 := ⟨RX0, TX0, 5, tyX0, kX0, by decide, rfl, rfl, (gwm 151 (by rfl) rfl), rfl, fun a => ⟨rfl, rfl⟩⟩
set_option maxRecDepth 100000 in
theorem fl_RX0_32 : aFl RX0 32 0 3 := ⟨RX0, TX0, 5, tyX0, kX0, by decide, rfl, Or.inl (gwm 153 (by rfl) rfl)⟩
set_option maxRecDepth 100000 in
theorem ff_RX0_32 : aFf RX0 32 0 3 := ⟨RX0, TX0, 5, tyX0, kX0, by decide, rfl, rfl, (gwm 153 (by rfl) rfl), rfl, fun a => ⟨rfl, rfl⟩⟩
set_option maxRecDepth 100000 in
theorem fl_RX0_36 : aFl RX0 36 0 4 := ⟨RX0, TX0, 5, tyX0, kX0, by decide, rfl, Or.inl (gwm 156 (by rfl) rfl)⟩
set_option maxRecDepth 100000 in
theorem ff_RX0_36 : aFf RX0 36 0 4 := ⟨RX0, TX0, 5, tyX0, kX0, by decide, rfl, rfl, (gwm 156 (by rfl) rfl), rfl, fun a => ⟨rfl, rfl⟩⟩
set_option maxRecDepth 100000 in
theorem fl_RX1_9 : aFl RX1 9 1 0 := ⟨RX1, TX1, 6, tyX1, kX1, by decide, rfl, Or.inl (gwm 195 (by rfl) rfl)⟩
set_option maxRecDepth 100000 in
theorem ff_RX1_9 : aFf RX1 9 1 0 := ⟨RX1, TX1, 6, tyX1, kX1, by decide, rfl, rfl, (gwm 195 (by rfl) rfl), rfl, fun a => ⟨rfl, rfl⟩⟩
set_option maxRecDepth 100000 in
theorem fl_RX1_15 : aFl RX1 15 1 1 := ⟨RX1, TX1, 6, tyX1, kX1, by decide, rfl, Or.inl (gwm 196 (by rfl) rfl)⟩
set_option maxRecDepth 100000 in
theorem fn_RX1_15 : aFn RX1 15 1 1 false := ⟨RX1, TX1, 6, tyX1, kX1, by decide, rfl, Or.inl (gwm 196 (by rfl) rfl), rfl, rfl⟩
set_option maxRecDepth 100000 in
theorem fl_RX1_19 : aFl RX1 19 1 2 := ⟨RX1, TX1, 6, tyX1, kX1, by decide, rfl, Or.inl (gwm 198 (by rfl) rfl)⟩
set_option maxRecDepth 100000 in
theorem fn_RX1_19 : aFn RX1 19 1 2 false := ⟨RX1, TX1, 6, tyX1, kX1, by decide, rfl, Or.inl (gwm 198 (by rfl) rfl), rfl, rfl⟩
set_option maxRecDepth 100000 in
theorem fl_RX1_22 : aFl RX1 22 1 3 := ⟨RX1, TX1, 6, tyX1, kX1, by decide, rfl, Or.inl (gwm 200 (by rfl) rfl)⟩
set_option maxRecDepth 100000 in
theorem fn_RX1_22 : aFn RX1 22 1 3 false := ⟨RX1, TX1, 6, tyX1, kX1, by decide, rfl, Or.inl (gwm 200 (by rfl) rfl), rfl, rfl⟩
set_option maxRecDepth 100000 in
theorem fl_RX1_25 : aFl RX1 25 1 4 := ⟨RX1, TX1, 6, tyX1, kX1, by decide, rfl, Or.inl (gwm 202 (by rfl) rfl)⟩
set_option maxRecDepth 100000 in
theorem fn_RX1_25 : aFn RX1 25 1 4 false := ⟨RX1, TX1, 6, tyX1, kX1, by decide, rfl, Or.inl (gwm 202 (by rfl) rfl), rfl, rfl⟩
set_option maxRecDepth 100000 in
theorem fl_RX1_28 : aFl RX1 28 1 5 := ⟨RX1, TX1, 6, tyX1, kX1, by decide, rfl, Or.inl (gwm 204 (by rfl) rfl)⟩
set_option maxRecDepth 100000 in
theorem fn_RX1_28 : aFn RX1 28 1 5 false := ⟨RX1, TX1, 6, tyX1, kX1, by decide, rfl, Or.inl (gwm 204 (by rfl) rfl), rfl, rfl⟩
set_option maxRecDepth 100000 in
theorem fl_RX1_31 : aFl RX1 31 0 3 := ⟨RX0, TX0, 5, tyX0, kX0, by decide, rfl, Or.inr ⟨_, (nwm 154 (by rfl) rfl)⟩⟩
set_option maxRecDepth 100000 in
theorem fl_RX1_37 : aFl RX1 37 5 0 := ⟨RX5, TX5, 5, tyX5, kX5, by decide, rfl, Or.inr ⟨_, (nwm 104 (by rfl) rfl)⟩⟩
set_option maxRecDepth 100000 in
theorem fl_RX1_58 : aFl RX1 58 5 1 := ⟨RX5, TX5, 5, tyX5, kX5, by decide, rfl, Or.inr ⟨_, (nwm 107 (by rfl) rfl)⟩⟩
set_option maxRecDepth 100000 in
theorem fl_RX1_61 : aFl RX1 61 0 0 := ⟨RX0, TX0, 5, tyX0, kX0, by decide, rfl, Or.inr ⟨_, (nwm 148 (by rfl) rfl)⟩⟩
set_option maxRecDepth 100000 in
theorem fl_RX1_65 : aFl RX1 65 3 0 := ⟨RX3, TX3, 4, tyX3, kX3, by decide, rfl, Or.inr ⟨_, (nwm 74 (by rfl) rfl)⟩⟩
set_option maxRecDepth 100000 in
theorem fl_RX1_70 : aFl RX1 70 5 2 := ⟨RX5, TX5, 5, tyX5, kX5, by decide, rfl, Or.inr ⟨_, (nwm 110 (by rfl) rfl)⟩⟩
set_option maxRecDepth 100000 in
theorem fl_RX1_73 : aFl RX1 73 3 1 := ⟨RX3, TX3, 4, tyX3, kX3, by decide, rfl, Or.inr ⟨_, (nwm 79 (by rfl) rfl)⟩⟩
set_option maxRecDepth 100000 in
theorem fl_RX1_84 : aFl RX1 84 5 3 := ⟨RX5, TX5, 5, tyX5, kX5, by decide, rfl, Or.inr ⟨_, (nwm 113 (by rfl) rfl)⟩⟩
set_option maxRecDepth 100000 in
theorem fl_RX1_87 : aFl RX1 87 5 4 := ⟨RX5, TX5, 5, tyX5, kX5, by decide, rfl, Or.inr ⟨_, (nwm 116 (by rfl) rfl)⟩⟩
set_option maxRecDepth 100000 in
theorem fl_RX2_12 : aFl RX2 12 2 0 := ⟨RX2, TX2, 3, tyX2, kX2, by decide, rfl, Or.inl (gwm 178 (by rfl) rfl)⟩
set_option maxRecDepth 100000 in
theorem ff_RX2_12 : aFf RX2 12 2 0 := ⟨RX2, TX2, 3, tyX2, kX2, by decide, rfl, rfl, (gwm 178 (by rfl) rfl), rfl, fun a => ⟨rfl, rfl⟩⟩
set_option maxRecDepth 100000 in
theorem fl_RX2_18 : aFl RX2 18 2 1 := ⟨RX2, TX2, 3, tyX2, kX2, by decide, rfl, Or.inl (gwm 179 (by rfl) rfl)⟩
set_option maxRecDepth 100000 in
theorem fn_RX2_18 : aFn RX2 18 2 1 false := ⟨RX2, TX2, 3, tyX2, kX2, by decide, rfl, Or.inl (gwm 179 (by rfl) rfl), rfl, rfl⟩
set_option maxRecDepth 100000 in
theorem fl_RX2_22 : aFl RX2 22 2 2 := ⟨RX2, TX2, 3, tyX2, kX2, by decide, rfl, Or.inl (gwm 180 (by rfl) rfl)⟩
set_option maxRecDepth 100000 in
theorem fn_RX2_22 : aFn RX2 22 2 2 false := ⟨RX2, TX2, 3, tyX2, kX2, by decide, rfl, Or.inl (gwm 180 (by rfl) rfl), rfl, rfl⟩
set_option maxRecDepth 100000 in
theorem fl_RX3_9 : aFl RX3 9 3 0 := ⟨RX3, TX3, 4, tyX3, kX3, by decide, rfl, Or.inl (gwm 73 (by rfl) rfl)⟩
set_option maxRecDepth 100000 in
theorem ff_RX3_9 : aFf RX3 9 3 0 := ⟨RX3, TX3, 4, tyX3, kX3, by decide, rfl, rfl, (gwm 73 (by rfl) rfl), rfl, fun a => ⟨rfl, rfl⟩⟩
set_option maxRecDepth 100000 in
theorem fl_RX3_15 : aFl RX3 15 3 1 := ⟨RX3, TX3, 4, tyX3, kX3, by decide, rfl, Or.inl (gwm 78 (by rfl) rfl)⟩
set_option maxRecDepth 100000 in
theorem ff_RX3_15 : aFf RX3 15 3 1 := ⟨RX3, TX3, 4, tyX3, kX3, by decide, rfl, rfl, (gwm 78 (by rfl) rfl), rfl, fun a => ⟨rfl, rfl⟩⟩
set_option maxRecDepth 100000 in
theorem fl_RX3_18 : aFl RX3 18 3 2 := ⟨RX3, TX3, 4, tyX3, kX3, by decide, rfl, Or.inl (gwm 83 (by rfl) rfl)⟩
set_option maxRecDepth 100000 in
theorem ff_RX3_18 : aFf RX3 18 3 2 := ⟨RX3, TX3, 4, tyX3, kX3, by decide, rfl, rfl, (gwm 83 (by rfl) rfl), rfl, fun a => ⟨rfl, rfl⟩⟩
set_option maxRecDepth 100000 in
theorem fl_RX3_21 : aFl RX3 21 3 3 := ⟨RX3, TX3, 4, tyX3, kX3, by decide, rfl, Or.inl (gwm 85 (by rfl) rfl)⟩
set_option maxRecDepth 100000 in
theorem fn_RX3_21 : aFn RX3 21 3 3 false := ⟨RX3, TX3, 4, tyX3, kX3, by decide, rfl, Or.inl (gwm 85 (by rfl) rfl), rfl, rfl⟩
set_option maxRecDepth 100000 in
theorem fl_RX4_11 : aFl RX4 11 4 0 := ⟨RX4, TX4, 8, tyX4, kX4, by decide, rfl, Or.inl (gwm 228 (by rfl) rfl)⟩
set_option maxRecDepth 100000 in
theorem ff_RX4_11 : aFf RX4 11 4 0 := ⟨RX4, TX4, 8, tyX4, kX4, by decide, rfl, rfl, (gwm 228 (by rfl) rfl), rfl, fun a => ⟨rfl, rfl⟩⟩
set_option maxRecDepth 100000 in
theorem fl_RX4_15 : aFl RX4 15 4 1 := ⟨RX4, TX4, 8, tyX4, kX4, by decide, rfl, Or.inl (gwm 229 (by rfl) rfl)⟩
set_option maxRecDepth 100000 in
theorem ff_RX4_15 : aFf RX4 15 4 1 := ⟨RX4, TX4, 8, tyX4, kX4, by decide, rfl, rfl, (gwm 229 (by rfl) rfl), rfl, fun a => ⟨rfl, rfl⟩⟩
set_option maxRecDepth 100000 in
theorem fl_RX4_18 : aFl RX4 18 4 2 := ⟨RX4, TX4, 8, tyX4, kX4, by decide, rfl, Or.inl (gwm 230 (by rfl) rfl)⟩
set_option maxRecDepth 100000 in
theorem ff_RX4_18 : aFf RX4 18 4 2 := ⟨RX4, TX4, 8, tyX4, kX4, by decide, rfl, rfl, (gwm 230 (by rfl) rfl), rfl, fun a => ⟨rfl, rfl⟩⟩
set_option maxRecDepth 100000 in
theorem fl_RX4_21 : aFl RX4 21 4 3 := ⟨RX4, TX4, 8, tyX4, kX4, by decide, rfl, Or.inl (gwm 231 (by rfl) rfl)⟩
set_option maxRecDepth 100000 in
theorem ff_RX4_21 : aFf RX4 21 4 3 := ⟨RX4, TX4, 8, tyX4, kX4, by decide, rfl, rfl, (gwm 231 (by rfl) rfl), rfl, fun a => ⟨rfl, rfl⟩⟩
set_option maxRecDepth 100000 in
theorem fl_RX4_24 : aFl RX4 24 4 4 := ⟨RX4, TX4, 8, tyX4, kX4, by decide, rfl, Or.inl (gwm 232 (by rfl) rfl)⟩
set_option maxRecDepth 100000 in
theorem ff_RX4_24 : aFf RX4 24 4 4 := ⟨RX4, TX4, 8, tyX4, kX4, by decide, rfl, rfl, (gwm 232 (by rfl) rfl), rfl, fun a => ⟨rfl, rfl⟩⟩
set_option maxRecDepth 100000 in
theorem fl_RX4_27 : aFl RX4 27 4 5 := ⟨RX4, TX4, 8, tyX4, kX4, by decide, rfl, Or.inl (gwm 234 (by rfl) rfl)⟩
set_option maxRecDepth 100000 in
theorem ff_RX4_27 : aFf RX4 27 4 5 := ⟨RX4, TX4, 8, tyX4, kX4, by decide, rfl, rfl, (gwm 234 (by rfl) rfl), rfl, fun a => ⟨rfl, rfl⟩⟩
set_option maxRecDepth 100000 in
theorem fl_RX4_30 : aFl RX4 30 4 6 := ⟨RX4, TX4, 8, tyX4, kX4, by decide, rfl, Or.inl (gwm 236 (by rfl) rfl)⟩
set_option maxRecDepth 100000 in
theorem fn_RX4_30 : aFn RX4 30 4 6 false := ⟨RX4, TX4, 8, tyX4, kX4, by decide, rfl, Or.inl (gwm 236 (by rfl) rfl), rfl, rfl⟩
set_option maxRecDepth 100000 in
theorem fl_RX4_34 : aFl RX4 34 4 7 := ⟨RX4, TX4, 8, tyX4, kX4, by decide, rfl, Or.inl (gwm 238 (by rfl) rfl)⟩
set_option maxRecDepth 100000 in
theorem fn_RX4_34 : aFn RX4 34 4 7 true := ⟨RX4, TX4, 8, tyX4, kX4, by decide, rfl, Or.inl (gwm 238 (by rfl) rfl), rfl, rfl⟩
set_option maxRecDepth 100000 in
theorem fl_RX4_50 : aFl RX4 50 7 0 := ⟨RX7, TX7, 2, tyX7, kX7, by decide, rfl, Or.inr ⟨_, (nwm 136 (by rfl) rfl)⟩⟩
set_option maxRecDepth 100000 in
theorem fl_RX4_73 : aFl RX4 73 7 1 := ⟨RX7, TX7, 2, tyX7, kX7, by decide, rfl, Or.inr ⟨_, (nwm 139 (by rfl) rfl)⟩⟩
set_option maxRecDepth 100000 in
theorem fl_RX4_79 : aFl RX4 79 3 0 := ⟨RX3, TX3, 4, tyX3, kX3, by decide, rfl, Or.inr ⟨_, (nwm 76 (by rfl) rfl)⟩⟩
set_option maxRecDepth 100000 in
theorem fl_RX4_84 : aFl RX4 84 3 1 := ⟨RX3, TX3, 4, tyX3, kX3, by decide, rfl, Or.inr ⟨_, (nwm 81 (by rfl) rfl)⟩⟩
set_option maxRecDepth 100000 in
theorem fl_RX5_9 : aFl RX5 9 5 0 := ⟨RX5, TX5, 5, tyX5, kX5, by decide, rfl, Or.inl (gwm 103 (by rfl) rfl)⟩
set_option maxRecDepth 100000 in
theorem ff_RX5_9 : aFf RX5 9 5 0 := ⟨RX5, TX5, 5, tyX5, kX5, by decide, rfl, rfl, (gwm 103 (by rfl) rfl), rfl, fun a => ⟨rfl, rfl⟩⟩
set_option maxRecDepth 100000 in
theorem fl_RX5_15 : aFl RX5 15 5 1 := ⟨RX5, TX5, 5, tyX5, kX5, by decide, rfl, Or.inl (gwm 106 (by rfl) rfl)⟩
set_option maxRecDepth 100000 in
theorem ff_RX5_15 : aFf RX5 15 5 1 := ⟨RX5, TX5, 5, tyX5, kX5, by decide, rfl, rfl, (gwm 106 (by rfl) rfl), rfl, fun a => ⟨rfl, rfl⟩⟩
set_option maxRecDepth 100000 in
theorem fl_RX5_18 : aFl RX5 18 5 2 := ⟨RX5, TX5, 5, tyX5, kX5, by decide, rfl, Or.inl (gwm 109 (by rfl) rfl)⟩
set_option maxRecDepth 100000 in
theorem ff_RX5_18 : aFf RX5 18 5 2 := ⟨RX5, TX5, 5, tyX5, kX5, by decide, rfl, rfl, (gwm 109 (by rfl) rfl), rfl, fun a => ⟨rfl, rfl⟩⟩
set_option maxRecDepth 100000 in
theorem fl_RX5_21 : aFl RX5 21 5 3 := ⟨RX5, TX5, 5, tyX5, kX5, by decide, rfl, Or.inl (gwm 112 (by rfl) rfl)⟩
set_option maxRecDepth 100000 in
theorem ff_RX5_21 : aFf RX5 21 5 3 := ⟨RX5, TX5, 5, tyX5, kX5, by decide, rfl, rfl, (gwm 112 (by rfl) rfl), rfl, fun a => ⟨rfl, rfl⟩⟩
set_option maxRecDepth 100000 in
theorem fl_RX5_24 : aFl RX5 24 5 4 := ⟨RX5, TX5, 5, tyX5, kX5, by decide, rfl, Or.inl (gwm 115 (by rfl) rfl)⟩
set_option maxRecDepth 100000 in
theorem ff_RX5_24 : aFf RX5 24 5 4 := ⟨RX5, TX5, 5, tyX5, kX5, by decide, rfl, rfl, (gwm 115 (by rfl) rfl), rfl, fun a => ⟨rfl, rfl⟩⟩
set_option maxRecDepth 100000 in
theorem fl_RX5_56 : aFl RX5 56 3 0 := ⟨RX3, TX3, 4, tyX3, kX3, by decide, rfl, Or.inr ⟨_, (nwm 77 (by rfl) rfl)⟩⟩
set_option maxRecDepth 100000 in
theorem fl_RX5_59 : aFl RX5 59 3 1 := ⟨RX3, TX3, 4, tyX3, kX3, by decide, rfl, Or.inr ⟨_, (nwm 82 (by rfl) rfl)⟩⟩
set_option maxRecDepth 100000 in
theorem fl_RX6_9 : aFl RX6 9 6 0 := ⟨RX6, TX6, 4, tyX6, kX6, by decide, rfl, Or.inl (gwm 263 (by rfl) rfl)⟩
set_option maxRecDepth 100000 in
theorem ff_RX6_9 : aFf RX6 9 6 0 := ⟨RX6, TX6, 4, tyX6, kX6, by decide, rfl, rfl, (gwm 263 (by rfl) rfl), rfl, fun a => ⟨rfl, rfl⟩⟩
set_option maxRecDepth 100000 in
theorem fl_RX6_15 : aFl RX6 15 6 1 := ⟨RX6, TX6, 4, tyX6, kX6, by decide, rfl, Or.inl (gwm 264 (by rfl) rfl)⟩
set_option maxRecDepth 100000 in
theorem fn_RX6_15 : aFn RX6 15 6 1 false := ⟨RX6, TX6, 4, tyX6, kX6, by decide, rfl, Or.inl (gwm 264 (by rfl) rfl), rfl, rfl⟩
set_option maxRecDepth 100000 in
theorem fl_RX6_19 : aFl RX6 19 6 2 := ⟨RX6, TX6, 4, tyX6, kX6, by decide, rfl, Or.inl (gwm 266 (by rfl) rfl)⟩
set_option maxRecDepth 100000 in
theorem fn_RX6_19 : aFn RX6 19 6 2 false := ⟨RX6, TX6, 4, tyX6, kX6, by decide, rfl, Or.inl (gwm 266 (by rfl) rfl), rfl, rfl⟩
set_option maxRecDepth 100000 in
theorem fl_RX6_22 : aFl RX6 22 6 3 := ⟨RX6, TX6, 4, tyX6, kX6, by decide, rfl, Or.inl (gwm 268 (by rfl) rfl)⟩
set_option maxRecDepth 100000 in
theorem fn_RX6_22 : aFn RX6 22 6 3 false := ⟨RX6, TX6, 4, tyX6, kX6, by decide, rfl, Or.inl (gwm 268 (by rfl) rfl), rfl, rfl⟩
set_option maxRecDepth 100000 in
theorem fl_RX7_9 : aFl RX7 9 7 0 := ⟨RX7, TX7, 2, tyX7, kX7, by decide, rfl, Or.inl (gwm 135 (by rfl) rfl)⟩
set_option maxRecDepth 100000 in
theorem ff_RX7_9 : aFf RX7 9 7 0 := ⟨RX7, TX7, 2, tyX7, kX7, by decide, rfl, rfl, (gwm 135 (by rfl) rfl), rfl, fun a => ⟨rfl, rfl⟩⟩
set_option maxRecDepth 100000 in
theorem fl_RX7_15 : aFl RX7 15 7 1 := ⟨RX7, TX7, 2, tyX7, kX7, by decide, rfl, Or.inl (gwm 138 (by rfl) rfl)⟩
set_option maxRecDepth 100000 in
theorem ff_RX7_15 : aFf RX7 15 7 1 := ⟨RX7, TX7, 2, tyX7, kX7, by decide, rfl, rfl, (gwm 138 (by rfl) rfl), rfl, fun a => ⟨rfl, rfl⟩⟩
set_option maxRecDepth 100000 in
theorem ol_RX8_1 : Cond.methodLink RX8 1 objectInit ∈ GW := (gwm 58 (by rfl) rfl)
set_option maxRecDepth 100000 in
theorem mi_RX8_9 : aMI RX8 9 mX0_init 0 := ⟨Or.inr ⟨_, (nwm 63 (by rfl) rfl)⟩, (gwm 64 (by rfl) rfl), rfl, rfl, ⟨(gwm 43 (by rfl) rfl), (gwm 65 (by rfl) rfl), by decide +kernel, by decide +kernel, by decide +kernel⟩⟩
set_option maxRecDepth 100000 in
theorem mi_RX8_18 : aMI RX8 18 mX2_init 0 := ⟨Or.inr ⟨_, (nwm 171 (by rfl) rfl)⟩, (gwm 172 (by rfl) rfl), rfl, rfl, ⟨(gwm 47 (by rfl) rfl), (gwm 173 (by rfl) rfl), by decide +kernel, by decide +kernel, by decide +kernel⟩⟩
set_option maxRecDepth 100000 in
theorem mi_RX8_25 : aMI RX8 25 mX1_init 0 := ⟨Or.inr ⟨_, (nwm 191 (by rfl) rfl)⟩, (gwm 192 (by rfl) rfl), rfl, rfl, ⟨(gwm 48 (by rfl) rfl), (gwm 193 (by rfl) rfl), by decide +kernel, by decide +kernel, by decide +kernel⟩⟩
set_option maxRecDepth 100000 in
theorem mi_RX8_32 : aMI RX8 32 mX5_init 0 := ⟨Or.inr ⟨_, (nwm 221 (by rfl) rfl)⟩, (gwm 100 (by rfl) rfl), rfl, rfl, ⟨(gwm 45 (by rfl) rfl), (gwm 101 (by rfl) rfl), by decide +kernel, by decide +kernel, by decide +kernel⟩⟩
set_option maxRecDepth 100000 in
theorem mi_RX8_39 : aMI RX8 39 mX4_init 0 := ⟨Or.inr ⟨_, (nwm 224 (by rfl) rfl)⟩, (gwm 225 (by rfl) rfl), rfl, rfl, ⟨(gwm 49 (by rfl) rfl), (gwm 226 (by rfl) rfl), by decide +kernel, by decide +kernel, by decide +kernel⟩⟩
set_option maxRecDepth 100000 in
theorem mi_RX8_46 : aMI RX8 46 mX6_init 0 := ⟨Or.inr ⟨_, (nwm 259 (by rfl) rfl)⟩, (gwm 260 (by rfl) rfl), rfl, rfl, ⟨(gwm 50 (by rfl) rfl), (gwm 261 (by rfl) rfl), by decide +kernel, by decide +kernel, by decide +kernel⟩⟩
set_option maxRecDepth 100000 in
theorem ms_RX8_55 : aMS RX8 55 mX8_within 3 := ⟨Or.inl ⟨(gwm 306 (by rfl) rfl), rfl⟩, (gwm 307 (by rfl) rfl), ⟨(gwm 42 (by rfl) rfl), (gwm 308 (by rfl) rfl), by decide +kernel, by decide +kernel, by decide +kernel⟩⟩
set_option maxRecDepth 100000 in
theorem mv_RX8_69 : aMV RX8 69 mX2_keep 2 1 := ⟨Or.inr ⟨_, (nwm 457 (by rfl) rfl)⟩, (gwm 459 (by rfl) rfl), (gwm 19 (by rfl) rfl), ⟨(gwm 47 (by rfl) rfl), (gwm 460 (by rfl) rfl), by decide +kernel, by decide +kernel, by decide +kernel⟩, TX2, 3, rfl⟩
set_option maxRecDepth 100000 in
theorem mv_RX8_73 : aMV RX8 73 mX3_append 3 3 := ⟨Or.inr ⟨_, (nwm 462 (by rfl) rfl)⟩, (gwm 464 (by rfl) rfl), (gwm 20 (by rfl) rfl), ⟨(gwm 44 (by rfl) rfl), (gwm 465 (by rfl) rfl), by decide +kernel, by decide +kernel, by decide +kernel⟩, TX3, 4, rfl⟩
set_option maxRecDepth 100000 in
theorem mv_RX8_77 : aMV RX8 77 mX8_isColor 8 1 := ⟨Or.inl (gwm 436 (by rfl) rfl), (gwm 438 (by rfl) rfl), (gwm 16 (by rfl) rfl), ⟨(gwm 42 (by rfl) rfl), (gwm 439 (by rfl) rfl), by decide +kernel, by decide +kernel, by decide +kernel⟩, TX8, 7, rfl⟩
set_option maxRecDepth 100000 in
theorem mv_RX8_91 : aMV RX8 91 mX3_pullOf 3 1 := ⟨Or.inr ⟨_, (nwm 440 (by rfl) rfl)⟩, (gwm 403 (by rfl) rfl), (gwm 12 (by rfl) rfl), ⟨(gwm 44 (by rfl) rfl), (gwm 404 (by rfl) rfl), by decide +kernel, by decide +kernel, by decide +kernel⟩, TX3, 4, rfl⟩
set_option maxRecDepth 100000 in
theorem mv_RX8_98 : aMV RX8 98 mX5_layersOfColor 5 1 := ⟨Or.inr ⟨_, (nwm 441 (by rfl) rfl)⟩, (gwm 443 (by rfl) rfl), (gwm 17 (by rfl) rfl), ⟨(gwm 45 (by rfl) rfl), (gwm 444 (by rfl) rfl), by decide +kernel, by decide +kernel, by decide +kernel⟩, TX5, 5, rfl⟩
set_option maxRecDepth 100000 in
theorem mv_RX8_105 : aMV RX8 105 mX7_timesOfColor 7 1 := ⟨Or.inr ⟨_, (nwm 445 (by rfl) rfl)⟩, (gwm 447 (by rfl) rfl), (gwm 18 (by rfl) rfl), ⟨(gwm 46 (by rfl) rfl), (gwm 448 (by rfl) rfl), by decide +kernel, by decide +kernel, by decide +kernel⟩, TX7, 2, rfl⟩
set_option maxRecDepth 100000 in
theorem ms_RX8_110 : aMS RX8 110 mX8_isField 1 := ⟨Or.inl ⟨(gwm 385 (by rfl) rfl), rfl⟩, (gwm 386 (by rfl) rfl), ⟨(gwm 42 (by rfl) rfl), (gwm 387 (by rfl) rfl), by decide +kernel, by decide +kernel, by decide +kernel⟩⟩
set_option maxRecDepth 100000 in
theorem mv_RX8_113 : aMV RX8 113 mX5_outermostIsRaw 5 1 := ⟨Or.inr ⟨_, (nwm 470 (by rfl) rfl)⟩, (gwm 472 (by rfl) rfl), (gwm 21 (by rfl) rfl), ⟨(gwm 45 (by rfl) rfl), (gwm 473 (by rfl) rfl), by decide +kernel, by decide +kernel, by decide +kernel⟩, TX5, 5, rfl⟩
set_option maxRecDepth 100000 in
theorem mv_RX8_122 : aMV RX8 122 mX5_append 5 2 := ⟨Or.inr ⟨_, (nwm 474 (by rfl) rfl)⟩, (gwm 476 (by rfl) rfl), (gwm 22 (by rfl) rfl), ⟨(gwm 45 (by rfl) rfl), (gwm 477 (by rfl) rfl), by decide +kernel, by decide +kernel, by decide +kernel⟩, TX5, 5, rfl⟩
set_option maxRecDepth 100000 in
theorem mv_RX8_125 : aMV RX8 125 mX5_removeOutermost 5 1 := ⟨Or.inr ⟨_, (nwm 482 (by rfl) rfl)⟩, (gwm 484 (by rfl) rfl), (gwm 23 (by rfl) rfl), ⟨(gwm 45 (by rfl) rfl), (gwm 485 (by rfl) rfl), by decide +kernel, by decide +kernel, by decide +kernel⟩, TX5, 5, rfl⟩
set_option maxRecDepth 100000 in
theorem mv_RX8_128 : aMV RX8 128 mX5_layers 5 0 := ⟨Or.inr ⟨_, (nwm 320 (by rfl) rfl)⟩, (gwm 322 (by rfl) rfl), (gwm 2 (by rfl) rfl), ⟨(gwm 45 (by rfl) rfl), (gwm 323 (by rfl) rfl), by decide +kernel, by decide +kernel, by decide +kernel⟩, TX5, 5, rfl⟩
set_option maxRecDepth 100000 in
theorem mv_RX8_132 : aMV RX8 132 mX5_makeBare 5 0 := ⟨Or.inr ⟨_, (nwm 649 (by rfl) rfl)⟩, (gwm 651 (by rfl) rfl), (gwm 40 (by rfl) rfl), ⟨(gwm 45 (by rfl) rfl), (gwm 652 (by rfl) rfl), by decide +kernel, by decide +kernel, by decide +kernel⟩, TX5, 5, rfl⟩
set_option maxRecDepth 100000 in
theorem ms_RX8_135 : aMS RX8 135 mX8_placeOf 2 := ⟨Or.inl ⟨(gwm 388 (by rfl) rfl), rfl⟩, (gwm 318 (by rfl) rfl), ⟨(gwm 42 (by rfl) rfl), (gwm 319 (by rfl) rfl), by decide +kernel, by decide +kernel, by decide +kernel⟩⟩
set_option maxRecDepth 100000 in
theorem mv_RX8_147 : aMV RX8 147 mX5_pullOf 5 2 := ⟨Or.inr ⟨_, (nwm 393 (by rfl) rfl)⟩, (gwm 395 (by rfl) rfl), (gwm 10 (by rfl) rfl), ⟨(gwm 45 (by rfl) rfl), (gwm 396 (by rfl) rfl), by decide +kernel, by decide +kernel, by decide +kernel⟩, TX5, 5, rfl⟩
set_option maxRecDepth 100000 in
theorem mv_RX8_150 : aMV RX8 150 mX5_strainOf 5 2 := ⟨Or.inr ⟨_, (nwm 405 (by rfl) rfl)⟩, (gwm 407 (by rfl) rfl), (gwm 13 (by rfl) rfl), ⟨(gwm 45 (by rfl) rfl), (gwm 408 (by rfl) rfl), by decide +kernel, by decide +kernel, by decide +kernel⟩, TX5, 5, rfl⟩
set_option maxRecDepth 100000 in
theorem mv_RX8_156 : aMV RX8 156 mX5_heatThatMelts 5 2 := ⟨Or.inr ⟨_, (nwm 413 (by rfl) rfl)⟩, (gwm 415 (by rfl) rfl), (gwm 14 (by rfl) rfl), ⟨(gwm 45 (by rfl) rfl), (gwm 416 (by rfl) rfl), by decide +kernel, by decide +kernel, by decide +kernel⟩, TX5, 5, rfl⟩
set_option maxRecDepth 100000 in
theorem mv_RX8_159 : aMV RX8 159 mX5_heatThatSpares 5 2 := ⟨Or.inr ⟨_, (nwm 420 (by rfl) rfl)⟩, (gwm 422 (by rfl) rfl), (gwm 15 (by rfl) rfl), ⟨(gwm 45 (by rfl) rfl), (gwm 423 (by rfl) rfl), by decide +kernel, by decide +kernel, by decide +kernel⟩, TX5, 5, rfl⟩
set_option maxRecDepth 100000 in
theorem mv_RX8_171 : aMV RX8 171 mX5_layersOfState 5 1 := ⟨Or.inr ⟨_, (nwm 309 (by rfl) rfl)⟩, (gwm 311 (by rfl) rfl), (gwm 0 (by rfl) rfl), ⟨(gwm 45 (by rfl) rfl), (gwm 312 (by rfl) rfl), by decide +kernel, by decide +kernel, by decide +kernel⟩, TX5, 5, rfl⟩
set_option maxRecDepth 100000 in
theorem mv_RX8_174 : aMV RX8 174 mX5_crackedFields 5 0 := ⟨Or.inr ⟨_, (nwm 324 (by rfl) rfl)⟩, (gwm 326 (by rfl) rfl), (gwm 3 (by rfl) rfl), ⟨(gwm 45 (by rfl) rfl), (gwm 327 (by rfl) rfl), by decide +kernel, by decide +kernel, by decide +kernel⟩, TX5, 5, rfl⟩
set_option maxRecDepth 100000 in
theorem mv_RX8_177 : aMV RX8 177 mX7_colorsTogether 7 0 := ⟨Or.inr ⟨_, (nwm 328 (by rfl) rfl)⟩, (gwm 330 (by rfl) rfl), (gwm 4 (by rfl) rfl), ⟨(gwm 46 (by rfl) rfl), (gwm 331 (by rfl) rfl), by decide +kernel, by decide +kernel, by decide +kernel⟩, TX7, 2, rfl⟩
set_option maxRecDepth 100000 in
theorem mv_RX8_184 : aMV RX8 184 mX1_happen 1 4 := ⟨Or.inr ⟨_, (nwm 498 (by rfl) rfl)⟩, (gwm 500 (by rfl) rfl), (gwm 24 (by rfl) rfl), ⟨(gwm 48 (by rfl) rfl), (gwm 501 (by rfl) rfl), by decide +kernel, by decide +kernel, by decide +kernel⟩, TX1, 6, rfl⟩
set_option maxRecDepth 100000 in
theorem mv_RX8_202 : aMV RX8 202 mX8_tryHeat 8 1 := ⟨Or.inl (gwm 529 (by rfl) rfl), (gwm 531 (by rfl) rfl), (gwm 30 (by rfl) rfl), ⟨(gwm 42 (by rfl) rfl), (gwm 532 (by rfl) rfl), by decide +kernel, by decide +kernel, by decide +kernel⟩, TX8, 7, rfl⟩
set_option maxRecDepth 100000 in
theorem ms_RX8_206 : aMS RX8 206 mX8_isFrontField 1 := ⟨Or.inl ⟨(gwm 429 (by rfl) rfl), rfl⟩, (gwm 430 (by rfl) rfl), ⟨(gwm 42 (by rfl) rfl), (gwm 431 (by rfl) rfl), by decide +kernel, by decide +kernel, by decide +kernel⟩⟩
set_option maxRecDepth 100000 in
theorem mv_RX8_210 : aMV RX8 210 mX7_append 7 2 := ⟨Or.inr ⟨_, (nwm 538 (by rfl) rfl)⟩, (gwm 540 (by rfl) rfl), (gwm 31 (by rfl) rfl), ⟨(gwm 46 (by rfl) rfl), (gwm 541 (by rfl) rfl), by decide +kernel, by decide +kernel, by decide +kernel⟩, TX7, 2, rfl⟩
set_option maxRecDepth 100000 in
theorem mv_RX8_214 : aMV RX8 214 mX8_bringPlanUpToDate 8 0 := ⟨Or.inl (gwm 546 (by rfl) rfl), (gwm 548 (by rfl) rfl), (gwm 32 (by rfl) rfl), ⟨(gwm 42 (by rfl) rfl), (gwm 549 (by rfl) rfl), by decide +kernel, by decide +kernel, by decide +kernel⟩, TX8, 7, rfl⟩
set_option maxRecDepth 100000 in
theorem mv_RX8_227 : aMV RX8 227 mX5_greatestStrainWith 5 2 := ⟨Or.inr ⟨_, (nwm 638 (by rfl) rfl)⟩, (gwm 640 (by rfl) rfl), (gwm 39 (by rfl) rfl), ⟨(gwm 45 (by rfl) rfl), (gwm 641 (by rfl) rfl), by decide +kernel, by decide +kernel, by decide +kernel⟩, TX5, 5, rfl⟩
set_option maxRecDepth 100000 in
theorem mv_RX8_230 : aMV RX8 230 mX2_restore 2 1 := ⟨Or.inr ⟨_, (nwm 336 (by rfl) rfl)⟩, (gwm 338 (by rfl) rfl), (gwm 5 (by rfl) rfl), ⟨(gwm 47 (by rfl) rfl), (gwm 339 (by rfl) rfl), by decide +kernel, by decide +kernel, by decide +kernel⟩, TX2, 3, rfl⟩
set_option maxRecDepth 100000 in
theorem mv_RX8_233 : aMV RX8 233 mX6_append 6 1 := ⟨Or.inr ⟨_, (nwm 581 (by rfl) rfl)⟩, (gwm 583 (by rfl) rfl), (gwm 36 (by rfl) rfl), ⟨(gwm 50 (by rfl) rfl), (gwm 584 (by rfl) rfl), by decide +kernel, by decide +kernel, by decide +kernel⟩, TX6, 4, rfl⟩
set_option maxRecDepth 100000 in
theorem mv_RX8_236 : aMV RX8 236 mX6_lookForFault 6 1 := ⟨Or.inr ⟨_, (nwm 589 (by rfl) rfl)⟩, (gwm 591 (by rfl) rfl), (gwm 37 (by rfl) rfl), ⟨(gwm 50 (by rfl) rfl), (gwm 592 (by rfl) rfl), by decide +kernel, by decide +kernel, by decide +kernel⟩, TX6, 4, rfl⟩
set_option maxRecDepth 100000 in
theorem mv_RX8_239 : aMV RX8 239 mX6_hasFault 6 0 := ⟨Or.inr ⟨_, (nwm 607 (by rfl) rfl)⟩, (gwm 605 (by rfl) rfl), (gwm 38 (by rfl) rfl), ⟨(gwm 50 (by rfl) rfl), (gwm 606 (by rfl) rfl), by decide +kernel, by decide +kernel, by decide +kernel⟩, TX6, 4, rfl⟩
set_option maxRecDepth 100000 in
theorem mv_RX8_253 : aMV RX8 253 mX5_copyFrom 5 1 := ⟨Or.inr ⟨_, (nwm 533 (by rfl) rfl)⟩, (gwm 359 (by rfl) rfl), (gwm 8 (by rfl) rfl), ⟨(gwm 45 (by rfl) rfl), (gwm 360 (by rfl) rfl), by decide +kernel, by decide +kernel, by decide +kernel⟩, TX5, 5, rfl⟩
set_option maxRecDepth 100000 in
theorem mv_RX8_257 : aMV RX8 257 mX4_search 4 2 := ⟨Or.inr ⟨_, (nwm 550 (by rfl) rfl)⟩, (gwm 552 (by rfl) rfl), (gwm 33 (by rfl) rfl), ⟨(gwm 49 (by rfl) rfl), (gwm 553 (by rfl) rfl), by decide +kernel, by decide +kernel, by decide +kernel⟩, TX4, 8, rfl⟩
set_option maxRecDepth 100000 in
theorem jl_RX8_261 : Cond.methodLink RX8 261 Lib.Math.min.name ∈ GW := (gwm 351 (by rfl) rfl)
set_option maxRecDepth 100000 in
theorem jl_RX8_266 : Cond.methodLink RX8 266 arraycopyName ∈ GW := (gwm 354 (by rfl) rfl)
set_option maxRecDepth 100000 in
theorem ol_RX0_3 : Cond.methodLink RX0 3 objectInit ∈ GW := (gwm 66 (by rfl) rfl)
set_option maxRecDepth 100000 in
theorem mi_RX0_11 : aMI RX0 11 mX3_init 0 := ⟨Or.inr ⟨_, (nwm 69 (by rfl) rfl)⟩, (gwm 70 (by rfl) rfl), rfl, rfl, ⟨(gwm 44 (by rfl) rfl), (gwm 71 (by rfl) rfl), by decide +kernel, by decide +kernel, by decide +kernel⟩⟩
set_option maxRecDepth 100000 in
theorem mi_RX0_20 : aMI RX0 20 mX5_init 0 := ⟨Or.inr ⟨_, (nwm 99 (by rfl) rfl)⟩, (gwm 100 (by rfl) rfl), rfl, rfl, ⟨(gwm 45 (by rfl) rfl), (gwm 101 (by rfl) rfl), by decide +kernel, by decide +kernel, by decide +kernel⟩⟩
set_option maxRecDepth 100000 in
theorem mi_RX0_27 : aMI RX0 27 mX7_init 0 := ⟨Or.inr ⟨_, (nwm 131 (by rfl) rfl)⟩, (gwm 132 (by rfl) rfl), rfl, rfl, ⟨(gwm 46 (by rfl) rfl), (gwm 133 (by rfl) rfl), by decide +kernel, by decide +kernel, by decide +kernel⟩⟩
set_option maxRecDepth 100000 in
theorem mv_RX0_39 : aMV RX0 39 mX3_copyFrom 3 1 := ⟨Or.inr ⟨_, (nwm 344 (by rfl) rfl)⟩, (gwm 346 (by rfl) rfl), (gwm 7 (by rfl) rfl), ⟨(gwm 44 (by rfl) rfl), (gwm 347 (by rfl) rfl), by decide +kernel, by decide +kernel, by decide +kernel⟩, TX3, 4, rfl⟩
set_option maxRecDepth 100000 in
theorem mv_RX0_43 : aMV RX0 43 mX5_copyFrom 5 1 := ⟨Or.inr ⟨_, (nwm 357 (by rfl) rfl)⟩, (gwm 359 (by rfl) rfl), (gwm 8 (by rfl) rfl), ⟨(gwm 45 (by rfl) rfl), (gwm 360 (by rfl) rfl), by decide +kernel, by decide +kernel, by decide +kernel⟩, TX5, 5, rfl⟩
set_option maxRecDepth 100000 in
theorem mv_RX0_46 : aMV RX0 46 mX7_copyFrom 7 1 := ⟨Or.inr ⟨_, (nwm 362 (by rfl) rfl)⟩, (gwm 364 (by rfl) rfl), (gwm 9 (by rfl) rfl), ⟨(gwm 46 (by rfl) rfl), (gwm 365 (by rfl) rfl), by decide +kernel, by decide +kernel, by decide +kernel⟩, TX7, 2, rfl⟩
set_option maxRecDepth 100000 in
theorem ms_RX0_49 : aMS RX0 49 mX8_copyRow 2 := ⟨Or.inr ⟨_, (nwm 367 (by rfl) rfl)⟩, (gwm 349 (by rfl) rfl), ⟨(gwm 42 (by rfl) rfl), (gwm 350 (by rfl) rfl), by decide +kernel, by decide +kernel, by decide +kernel⟩⟩
set_option maxRecDepth 100000 in
theorem ol_RX1_3 : Cond.methodLink RX1 3 objectInit ∈ GW := (gwm 194 (by rfl) rfl)
set_option maxRecDepth 100000 in
theorem ms_RX1_42 : aMS RX1 42 mX8_placeOf 2 := ⟨Or.inr ⟨_, (nwm 502 (by rfl) rfl)⟩, (gwm 318 (by rfl) rfl), ⟨(gwm 42 (by rfl) rfl), (gwm 319 (by rfl) rfl), by decide +kernel, by decide +kernel, by decide +kernel⟩⟩
set_option maxRecDepth 100000 in
theorem mv_RX1_46 : aMV RX1 46 mX1_heatLayer 1 5 := ⟨Or.inl (gwm 503 (by rfl) rfl), (gwm 505 (by rfl) rfl), (gwm 25 (by rfl) rfl), ⟨(gwm 48 (by rfl) rfl), (gwm 506 (by rfl) rfl), by decide +kernel, by decide +kernel, by decide +kernel⟩, TX1, 6, rfl⟩
set_option maxRecDepth 100000 in
theorem mv_RX1_50 : aMV RX1 50 mX1_mendField 1 2 := ⟨Or.inl (gwm 512 (by rfl) rfl), (gwm 514 (by rfl) rfl), (gwm 27 (by rfl) rfl), ⟨(gwm 48 (by rfl) rfl), (gwm 515 (by rfl) rfl), by decide +kernel, by decide +kernel, by decide +kernel⟩, TX1, 6, rfl⟩
set_option maxRecDepth 100000 in
theorem mv_RX1_54 : aMV RX1 54 mX1_coolField 1 3 := ⟨Or.inl (gwm 516 (by rfl) rfl), (gwm 518 (by rfl) rfl), (gwm 28 (by rfl) rfl), ⟨(gwm 48 (by rfl) rfl), (gwm 519 (by rfl) rfl), by decide +kernel, by decide +kernel, by decide +kernel⟩, TX1, 6, rfl⟩
set_option maxRecDepth 100000 in
theorem mv_RX1_76 : aMV RX1 76 mX5_holdsOn 5 1 := ⟨Or.inr ⟨_, (nwm 507 (by rfl) rfl)⟩, (gwm 399 (by rfl) rfl), (gwm 11 (by rfl) rfl), ⟨(gwm 45 (by rfl) rfl), (gwm 400 (by rfl) rfl), by decide +kernel, by decide +kernel, by decide +kernel⟩, TX5, 5, rfl⟩
set_option maxRecDepth 100000 in
theorem mv_RX1_80 : aMV RX1 80 mX1_soften 1 3 := ⟨Or.inl (gwm 508 (by rfl) rfl), (gwm 510 (by rfl) rfl), (gwm 26 (by rfl) rfl), ⟨(gwm 48 (by rfl) rfl), (gwm 511 (by rfl) rfl), by decide +kernel, by decide +kernel, by decide +kernel⟩, TX1, 6, rfl⟩
set_option maxRecDepth 100000 in
theorem mv_RX1_89 : aMV RX1 89 mX5_hasHold 5 1 := ⟨Or.inr ⟨_, (nwm 520 (by rfl) rfl)⟩, (gwm 522 (by rfl) rfl), (gwm 29 (by rfl) rfl), ⟨(gwm 45 (by rfl) rfl), (gwm 523 (by rfl) rfl), by decide +kernel, by decide +kernel, by decide +kernel⟩, TX5, 5, rfl⟩
set_option maxRecDepth 100000 in
theorem mv_RX1_92 : aMV RX1 92 mX5_strainOf 5 2 := ⟨Or.inr ⟨_, (nwm 524 (by rfl) rfl)⟩, (gwm 407 (by rfl) rfl), (gwm 13 (by rfl) rfl), ⟨(gwm 45 (by rfl) rfl), (gwm 408 (by rfl) rfl), by decide +kernel, by decide +kernel, by decide +kernel⟩, TX5, 5, rfl⟩
set_option maxRecDepth 100000 in
theorem ol_RX2_3 : Cond.methodLink RX2 3 objectInit ∈ GW := (gwm 174 (by rfl) rfl)
set_option maxRecDepth 100000 in
theorem mi_RX2_11 : aMI RX2 11 mX0_init 0 := ⟨Or.inr ⟨_, (nwm 177 (by rfl) rfl)⟩, (gwm 64 (by rfl) rfl), rfl, rfl, ⟨(gwm 43 (by rfl) rfl), (gwm 65 (by rfl) rfl), by decide +kernel, by decide +kernel, by decide +kernel⟩⟩
set_option maxRecDepth 100000 in
theorem mv_RX2_25 : aMV RX2 25 mX0_copyFrom 0 1 := ⟨Or.inr ⟨_, (nwm 340 (by rfl) rfl)⟩, (gwm 342 (by rfl) rfl), (gwm 6 (by rfl) rfl), ⟨(gwm 43 (by rfl) rfl), (gwm 343 (by rfl) rfl), by decide +kernel, by decide +kernel, by decide +kernel⟩, TX0, 5, rfl⟩
set_option maxRecDepth 100000 in
theorem jl_RX2_29 : Cond.methodLink RX2 29 Lib.Math.min.name ∈ GW := (gwm 461 (by rfl) rfl)
set_option maxRecDepth 100000 in
theorem ol_RX3_3 : Cond.methodLink RX3 3 objectInit ∈ GW := (gwm 72 (by rfl) rfl)
set_option maxRecDepth 100000 in
theorem ms_RX3_25 : aMS RX3 25 mX8_copyRow 2 := ⟨Or.inr ⟨_, (nwm 348 (by rfl) rfl)⟩, (gwm 349 (by rfl) rfl), ⟨(gwm 42 (by rfl) rfl), (gwm 350 (by rfl) rfl), by decide +kernel, by decide +kernel, by decide +kernel⟩⟩
set_option maxRecDepth 100000 in
theorem ol_RX4_5 : Cond.methodLink RX4 5 objectInit ∈ GW := (gwm 227 (by rfl) rfl)
set_option maxRecDepth 100000 in
theorem ms_RX4_38 : aMS RX4 38 mX4_lastStage 1 := ⟨Or.inl ⟨(gwm 554 (by rfl) rfl), rfl⟩, (gwm 555 (by rfl) rfl), ⟨(gwm 49 (by rfl) rfl), (gwm 556 (by rfl) rfl), by decide +kernel, by decide +kernel, by decide +kernel⟩⟩
set_option maxRecDepth 100000 in
theorem ms_RX4_42 : aMS RX4 42 mX4_isStage 2 := ⟨Or.inl ⟨(gwm 557 (by rfl) rfl), rfl⟩, (gwm 558 (by rfl) rfl), ⟨(gwm 49 (by rfl) rfl), (gwm 559 (by rfl) rfl), by decide +kernel, by decide +kernel, by decide +kernel⟩⟩
set_option maxRecDepth 100000 in
theorem mv_RX4_46 : aMV RX4 46 mX4_bestSet 4 3 := ⟨Or.inl (gwm 563 (by rfl) rfl), (gwm 565 (by rfl) rfl), (gwm 34 (by rfl) rfl), ⟨(gwm 49 (by rfl) rfl), (gwm 566 (by rfl) rfl), by decide +kernel, by decide +kernel, by decide +kernel⟩, TX4, 8, rfl⟩
set_option maxRecDepth 100000 in
theorem ms_RX4_55 : aMS RX4 55 mX4_layersAt 2 := ⟨Or.inl ⟨(gwm 560 (by rfl) rfl), rfl⟩, (gwm 561 (by rfl) rfl), ⟨(gwm 49 (by rfl) rfl), (gwm 562 (by rfl) rfl), by decide +kernel, by decide +kernel, by decide +kernel⟩⟩
set_option maxRecDepth 100000 in
theorem mv_RX4_59 : aMV RX4 59 mX4_lookAtNext 4 3 := ⟨Or.inl (gwm 567 (by rfl) rfl), (gwm 569 (by rfl) rfl), (gwm 35 (by rfl) rfl), ⟨(gwm 49 (by rfl) rfl), (gwm 570 (by rfl) rfl), by decide +kernel, by decide +kernel, by decide +kernel⟩, TX4, 8, rfl⟩
set_option maxRecDepth 100000 in
theorem ms_RX4_62 : aMS RX4 62 mX4_burningOfPut 3 := ⟨Or.inl ⟨(gwm 572 (by rfl) rfl), rfl⟩, (gwm 573 (by rfl) rfl), ⟨(gwm 49 (by rfl) rfl), (gwm 574 (by rfl) rfl), by decide +kernel, by decide +kernel, by decide +kernel⟩⟩
set_option maxRecDepth 100000 in
theorem jl_RX4_65 : Cond.methodLink RX4 65 Lib.Math.max.name ∈ GW := (gwm 576 (by rfl) rfl)
set_option maxRecDepth 100000 in
theorem jl_RX4_70 : Cond.methodLink RX4 70 Lib.Math.min.name ∈ GW := (gwm 575 (by rfl) rfl)
set_option maxRecDepth 100000 in
theorem ms_RX4_76 : aMS RX4 76 mX8_placeOf 2 := ⟨Or.inr ⟨_, (nwm 571 (by rfl) rfl)⟩, (gwm 318 (by rfl) rfl), ⟨(gwm 42 (by rfl) rfl), (gwm 319 (by rfl) rfl), by decide +kernel, by decide +kernel, by decide +kernel⟩⟩
set_option maxRecDepth 100000 in
theorem ol_RX5_3 : Cond.methodLink RX5 3 objectInit ∈ GW := (gwm 102 (by rfl) rfl)
set_option maxRecDepth 100000 in
theorem ms_RX5_27 : aMS RX5 27 mX8_placeOf 2 := ⟨Or.inr ⟨_, (nwm 317 (by rfl) rfl)⟩, (gwm 318 (by rfl) rfl), ⟨(gwm 42 (by rfl) rfl), (gwm 319 (by rfl) rfl), by decide +kernel, by decide +kernel, by decide +kernel⟩⟩
set_option maxRecDepth 100000 in
theorem mv_RX5_31 : aMV RX5 31 mX5_layersWith 5 2 := ⟨Or.inl (gwm 313 (by rfl) rfl), (gwm 315 (by rfl) rfl), (gwm 1 (by rfl) rfl), ⟨(gwm 45 (by rfl) rfl), (gwm 316 (by rfl) rfl), by decide +kernel, by decide +kernel, by decide +kernel⟩, TX5, 5, rfl⟩
set_option maxRecDepth 100000 in
theorem mv_RX5_35 : aMV RX5 35 mX5_holdsOn 5 1 := ⟨Or.inl (gwm 397 (by rfl) rfl), (gwm 399 (by rfl) rfl), (gwm 11 (by rfl) rfl), ⟨(gwm 45 (by rfl) rfl), (gwm 400 (by rfl) rfl), by decide +kernel, by decide +kernel, by decide +kernel⟩, TX5, 5, rfl⟩
set_option maxRecDepth 100000 in
theorem mv_RX5_39 : aMV RX5 39 mX3_pullOf 3 1 := ⟨Or.inr ⟨_, (nwm 401 (by rfl) rfl)⟩, (gwm 403 (by rfl) rfl), (gwm 12 (by rfl) rfl), ⟨(gwm 44 (by rfl) rfl), (gwm 404 (by rfl) rfl), by decide +kernel, by decide +kernel, by decide +kernel⟩, TX3, 4, rfl⟩
set_option maxRecDepth 100000 in
theorem mv_RX5_45 : aMV RX5 45 mX5_pullOf 5 2 := ⟨Or.inl (gwm 409 (by rfl) rfl), (gwm 395 (by rfl) rfl), (gwm 10 (by rfl) rfl), ⟨(gwm 45 (by rfl) rfl), (gwm 396 (by rfl) rfl), by decide +kernel, by decide +kernel, by decide +kernel⟩, TX5, 5, rfl⟩
set_option maxRecDepth 100000 in
theorem jl_RX5_48 : Cond.methodLink RX5 48 Lib.Math.abs.name ∈ GW := (gwm 410 (by rfl) rfl)
set_option maxRecDepth 100000 in
theorem jl_RX5_53 : Cond.methodLink RX5 53 Lib.Math.max.name ∈ GW := (gwm 417 (by rfl) rfl)
set_option maxRecDepth 100000 in
theorem jl_RX5_62 : Cond.methodLink RX5 62 Lib.Math.min.name ∈ GW := (gwm 424 (by rfl) rfl)
set_option maxRecDepth 100000 in
theorem ms_RX5_65 : aMS RX5 65 mX8_copyRow 2 := ⟨Or.inr ⟨_, (nwm 361 (by rfl) rfl)⟩, (gwm 349 (by rfl) rfl), ⟨(gwm 42 (by rfl) rfl), (gwm 350 (by rfl) rfl), by decide +kernel, by decide +kernel, by decide +kernel⟩⟩
set_option maxRecDepth 100000 in
theorem ol_RX6_3 : Cond.methodLink RX6 3 objectInit ∈ GW := (gwm 262 (by rfl) rfl)
set_option maxRecDepth 100000 in
theorem ms_RX6_25 : aMS RX6 25 mX6_reasonOf 3 := ⟨Or.inl ⟨(gwm 593 (by rfl) rfl), rfl⟩, (gwm 594 (by rfl) rfl), ⟨(gwm 50 (by rfl) rfl), (gwm 595 (by rfl) rfl), by decide +kernel, by decide +kernel, by decide +kernel⟩⟩
set_option maxRecDepth 100000 in
theorem mv_RX6_29 : aMV RX6 29 mX6_hasFault 6 0 := ⟨Or.inl (gwm 603 (by rfl) rfl), (gwm 605 (by rfl) rfl), (gwm 38 (by rfl) rfl), ⟨(gwm 50 (by rfl) rfl), (gwm 606 (by rfl) rfl), by decide +kernel, by decide +kernel, by decide +kernel⟩, TX6, 4, rfl⟩
set_option maxRecDepth 100000 in
theorem ms_RX6_33 : aMS RX6 33 mX6_isFieldDigit 1 := ⟨Or.inl ⟨(gwm 596 (by rfl) rfl), rfl⟩, (gwm 597 (by rfl) rfl), ⟨(gwm 50 (by rfl) rfl), (gwm 598 (by rfl) rfl), by decide +kernel, by decide +kernel, by decide +kernel⟩⟩
set_option maxRecDepth 100000 in
theorem ms_RX6_37 : aMS RX6 37 mX6_isLetter 1 := ⟨Or.inl ⟨(gwm 600 (by rfl) rfl), rfl⟩, (gwm 601 (by rfl) rfl), ⟨(gwm 50 (by rfl) rfl), (gwm 602 (by rfl) rfl), by decide +kernel, by decide +kernel, by decide +kernel⟩⟩
set_option maxRecDepth 100000 in
theorem ms_RX6_40 : aMS RX6 40 mX8_within 3 := ⟨Or.inr ⟨_, (nwm 599 (by rfl) rfl)⟩, (gwm 307 (by rfl) rfl), ⟨(gwm 42 (by rfl) rfl), (gwm 308 (by rfl) rfl), by decide +kernel, by decide +kernel, by decide +kernel⟩⟩
set_option maxRecDepth 100000 in
theorem ol_RX7_3 : Cond.methodLink RX7 3 objectInit ∈ GW := (gwm 134 (by rfl) rfl)
set_option maxRecDepth 100000 in
theorem ms_RX7_18 : aMS RX7 18 mX8_placeOf 2 := ⟨Or.inr ⟨_, (nwm 449 (by rfl) rfl)⟩, (gwm 318 (by rfl) rfl), ⟨(gwm 42 (by rfl) rfl), (gwm 319 (by rfl) rfl), by decide +kernel, by decide +kernel, by decide +kernel⟩⟩
set_option maxRecDepth 100000 in
theorem ms_RX7_22 : aMS RX7 22 mX8_copyRow 2 := ⟨Or.inr ⟨_, (nwm 366 (by rfl) rfl)⟩, (gwm 349 (by rfl) rfl), ⟨(gwm 42 (by rfl) rfl), (gwm 350 (by rfl) rfl), by decide +kernel, by decide +kernel, by decide +kernel⟩⟩
set_option maxRecDepth 100000 in
theorem mv_RL_13 : aMV RL 13 mX8_count 8 1 := ⟨Or.inl (gwm 302 (by rfl) rfl), (gwm 303 (by rfl) rfl), (gwm 304 (by rfl) rfl), ⟨(gwm 42 (by rfl) rfl), (gwm 305 (by rfl) rfl), by decide +kernel, by decide +kernel, by decide +kernel⟩, TX8, 7, rfl⟩
set_option maxRecDepth 100000 in
theorem mv_RL_19 : aMV RL 19 mX8_layer 8 3 := ⟨Or.inl (gwm 381 (by rfl) rfl), (gwm 382 (by rfl) rfl), (gwm 383 (by rfl) rfl), ⟨(gwm 42 (by rfl) rfl), (gwm 384 (by rfl) rfl), by decide +kernel, by decide +kernel, by decide +kernel⟩, TX8, 7, rfl⟩
set_option maxRecDepth 100000 in
theorem mv_RL_23 : aMV RL 23 mX8_field 8 2 := ⟨Or.inl (gwm 389 (by rfl) rfl), (gwm 390 (by rfl) rfl), (gwm 391 (by rfl) rfl), ⟨(gwm 42 (by rfl) rfl), (gwm 392 (by rfl) rfl), by decide +kernel, by decide +kernel, by decide +kernel⟩, TX8, 7, rfl⟩
set_option maxRecDepth 100000 in
theorem mv_RL_27 : aMV RL 27 mX8_wished 8 2 := ⟨Or.inl (gwm 425 (by rfl) rfl), (gwm 426 (by rfl) rfl), (gwm 427 (by rfl) rfl), ⟨(gwm 42 (by rfl) rfl), (gwm 428 (by rfl) rfl), by decide +kernel, by decide +kernel, by decide +kernel⟩, TX8, 7, rfl⟩
set_option maxRecDepth 100000 in
theorem mv_RL_30 : aMV RL 30 mX8_colorInfo 8 2 := ⟨Or.inl (gwm 432 (by rfl) rfl), (gwm 433 (by rfl) rfl), (gwm 434 (by rfl) rfl), ⟨(gwm 42 (by rfl) rfl), (gwm 435 (by rfl) rfl), by decide +kernel, by decide +kernel, by decide +kernel⟩, TX8, 7, rfl⟩
set_option maxRecDepth 100000 in
theorem ms_RL_33 : aMS RL 33 mL_print 1 := ⟨Or.inl ⟨(gwm 376 (by rfl) rfl), rfl⟩, (gwm 377 (by rfl) rfl), ⟨(gwm 41 (by rfl) rfl), (gwm 378 (by rfl) rfl), by decide +kernel, by decide +kernel, by decide +kernel⟩⟩
set_option maxRecDepth 100000 in
theorem mv_RL_39 : aMV RL 39 mX8_color 8 3 := ⟨Or.inl (gwm 453 (by rfl) rfl), (gwm 454 (by rfl) rfl), (gwm 455 (by rfl) rfl), ⟨(gwm 42 (by rfl) rfl), (gwm 456 (by rfl) rfl), by decide +kernel, by decide +kernel, by decide +kernel⟩, TX8, 7, rfl⟩
set_option maxRecDepth 100000 in
theorem mv_RL_42 : aMV RL 42 mX8_put 8 2 := ⟨Or.inl (gwm 466 (by rfl) rfl), (gwm 467 (by rfl) rfl), (gwm 468 (by rfl) rfl), ⟨(gwm 42 (by rfl) rfl), (gwm 469 (by rfl) rfl), by decide +kernel, by decide +kernel, by decide +kernel⟩, TX8, 7, rfl⟩
set_option maxRecDepth 100000 in
theorem mv_RL_45 : aMV RL 45 mX8_takeOff 8 1 := ⟨Or.inl (gwm 478 (by rfl) rfl), (gwm 479 (by rfl) rfl), (gwm 480 (by rfl) rfl), ⟨(gwm 42 (by rfl) rfl), (gwm 481 (by rfl) rfl), by decide +kernel, by decide +kernel, by decide +kernel⟩, TX8, 7, rfl⟩
set_option maxRecDepth 100000 in
theorem mv_RL_48 : aMV RL 48 mX8_set 8 2 := ⟨Or.inl (gwm 486 (by rfl) rfl), (gwm 487 (by rfl) rfl), (gwm 488 (by rfl) rfl), ⟨(gwm 42 (by rfl) rfl), (gwm 489 (by rfl) rfl), by decide +kernel, by decide +kernel, by decide +kernel⟩, TX8, 7, rfl⟩
set_option maxRecDepth 100000 in
theorem mv_RL_51 : aMV RL 51 mX8_fire 8 2 := ⟨Or.inl (gwm 494 (by rfl) rfl), (gwm 495 (by rfl) rfl), (gwm 496 (by rfl) rfl), ⟨(gwm 42 (by rfl) rfl), (gwm 497 (by rfl) rfl), by decide +kernel, by decide +kernel, by decide +kernel⟩, TX8, 7, rfl⟩
set_option maxRecDepth 100000 in
theorem mv_RL_54 : aMV RL 54 mX8_ifFired 8 2 := ⟨Or.inl (gwm 525 (by rfl) rfl), (gwm 526 (by rfl) rfl), (gwm 527 (by rfl) rfl), ⟨(gwm 42 (by rfl) rfl), (gwm 528 (by rfl) rfl), by decide +kernel, by decide +kernel, by decide +kernel⟩, TX8, 7, rfl⟩
set_option maxRecDepth 100000 in
theorem mv_RL_57 : aMV RL 57 mX8_wish 8 2 := ⟨Or.inl (gwm 534 (by rfl) rfl), (gwm 535 (by rfl) rfl), (gwm 536 (by rfl) rfl), ⟨(gwm 42 (by rfl) rfl), (gwm 537 (by rfl) rfl), by decide +kernel, by decide +kernel, by decide +kernel⟩, TX8, 7, rfl⟩
set_option maxRecDepth 100000 in
theorem mv_RL_60 : aMV RL 60 mX8_planned 8 2 := ⟨Or.inl (gwm 542 (by rfl) rfl), (gwm 543 (by rfl) rfl), (gwm 544 (by rfl) rfl), ⟨(gwm 42 (by rfl) rfl), (gwm 545 (by rfl) rfl), by decide +kernel, by decide +kernel, by decide +kernel⟩, TX8, 7, rfl⟩
set_option maxRecDepth 100000 in
theorem mv_RL_63 : aMV RL 63 mX8_type 8 1 := ⟨Or.inl (gwm 577 (by rfl) rfl), (gwm 578 (by rfl) rfl), (gwm 579 (by rfl) rfl), ⟨(gwm 42 (by rfl) rfl), (gwm 580 (by rfl) rfl), by decide +kernel, by decide +kernel, by decide +kernel⟩, TX8, 7, rfl⟩
set_option maxRecDepth 100000 in
theorem mv_RL_66 : aMV RL 66 mX8_fault 8 1 := ⟨Or.inl (gwm 585 (by rfl) rfl), (gwm 586 (by rfl) rfl), (gwm 587 (by rfl) rfl), ⟨(gwm 42 (by rfl) rfl), (gwm 588 (by rfl) rfl), by decide +kernel, by decide +kernel, by decide +kernel⟩, TX8, 7, rfl⟩
set_option maxRecDepth 100000 in
theorem ms_RL_69 : aMS RL 69 mL_size 1 := ⟨Or.inl ⟨(gwm 611 (by rfl) rfl), rfl⟩, (gwm 612 (by rfl) rfl), ⟨(gwm 41 (by rfl) rfl), (gwm 613 (by rfl) rfl), by decide +kernel, by decide +kernel, by decide +kernel⟩⟩
set_option maxRecDepth 100000 in
theorem ms_RL_72 : aMS RL 72 mL_areLayers 1 := ⟨Or.inl ⟨(gwm 608 (by rfl) rfl), rfl⟩, (gwm 609 (by rfl) rfl), ⟨(gwm 41 (by rfl) rfl), (gwm 610 (by rfl) rfl), by decide +kernel, by decide +kernel, by decide +kernel⟩⟩
set_option maxRecDepth 100000 in
theorem mv_RL_76 : aMV RL 76 mX8_undo 8 0 := ⟨Or.inl (gwm 332 (by rfl) rfl), (gwm 333 (by rfl) rfl), (gwm 334 (by rfl) rfl), ⟨(gwm 42 (by rfl) rfl), (gwm 335 (by rfl) rfl), by decide +kernel, by decide +kernel, by decide +kernel⟩, TX8, 7, rfl⟩
set_option maxRecDepth 100000 in
theorem mv_RL_80 : aMV RL 80 mX8_bestHeat 8 0 := ⟨Or.inl (gwm 620 (by rfl) rfl), (gwm 621 (by rfl) rfl), (gwm 622 (by rfl) rfl), ⟨(gwm 42 (by rfl) rfl), (gwm 623 (by rfl) rfl), by decide +kernel, by decide +kernel, by decide +kernel⟩, TX8, 7, rfl⟩
set_option maxRecDepth 100000 in
theorem mv_RL_83 : aMV RL 83 mX8_leastFirings 8 0 := ⟨Or.inl (gwm 627 (by rfl) rfl), (gwm 628 (by rfl) rfl), (gwm 629 (by rfl) rfl), ⟨(gwm 42 (by rfl) rfl), (gwm 630 (by rfl) rfl), by decide +kernel, by decide +kernel, by decide +kernel⟩, TX8, 7, rfl⟩
set_option maxRecDepth 100000 in
theorem mv_RL_86 : aMV RL 86 mX8_counter 8 0 := ⟨Or.inl (gwm 634 (by rfl) rfl), (gwm 635 (by rfl) rfl), (gwm 636 (by rfl) rfl), ⟨(gwm 42 (by rfl) rfl), (gwm 637 (by rfl) rfl), by decide +kernel, by decide +kernel, by decide +kernel⟩, TX8, 7, rfl⟩
set_option maxRecDepth 100000 in
theorem ms_RL_89 : aMS RL 89 mL_low 2 := ⟨Or.inl ⟨(gwm 372 (by rfl) rfl), rfl⟩, (gwm 373 (by rfl) rfl), ⟨(gwm 41 (by rfl) rfl), (gwm 374 (by rfl) rfl), by decide +kernel, by decide +kernel, by decide +kernel⟩⟩
set_option maxRecDepth 100000 in
theorem mv_RL_92 : aMV RL 92 mX8_clean 8 0 := ⟨Or.inl (gwm 645 (by rfl) rfl), (gwm 646 (by rfl) rfl), (gwm 647 (by rfl) rfl), ⟨(gwm 42 (by rfl) rfl), (gwm 648 (by rfl) rfl), by decide +kernel, by decide +kernel, by decide +kernel⟩, TX8, 7, rfl⟩
set_option maxRecDepth 100000 in
theorem mi_RL_95 : aMI RL 95 mX8_init 0 := ⟨Or.inl (gwm 55 (by rfl) rfl), (gwm 56 (by rfl) rfl), rfl, rfl, ⟨(gwm 42 (by rfl) rfl), (gwm 57 (by rfl) rfl), by decide +kernel, by decide +kernel, by decide +kernel⟩⟩
set_option maxRecDepth 100000 in
theorem ms_RL_96 : aMS RL 96 mL_refused 1 := ⟨Or.inl ⟨(gwm 450 (by rfl) rfl), rfl⟩, (gwm 451 (by rfl) rfl), ⟨(gwm 41 (by rfl) rfl), (gwm 452 (by rfl) rfl), by decide +kernel, by decide +kernel, by decide +kernel⟩⟩
set_option maxRecDepth 100000 in
theorem ms_RL_99 : aMS RL 99 mL_isPlan 1 := ⟨Or.inl ⟨(gwm 624 (by rfl) rfl), rfl⟩, (gwm 625 (by rfl) rfl), ⟨(gwm 41 (by rfl) rfl), (gwm 626 (by rfl) rfl), by decide +kernel, by decide +kernel, by decide +kernel⟩⟩
set_option maxRecDepth 100000 in
theorem ms_RL_102 : aMS RL 102 mL_isBest 1 := ⟨Or.inl ⟨(gwm 617 (by rfl) rfl), rfl⟩, (gwm 618 (by rfl) rfl), ⟨(gwm 41 (by rfl) rfl), (gwm 619 (by rfl) rfl), by decide +kernel, by decide +kernel, by decide +kernel⟩⟩
set_option maxRecDepth 100000 in
theorem ms_RL_105 : aMS RL 105 mL_isCounter 1 := ⟨Or.inl ⟨(gwm 631 (by rfl) rfl), rfl⟩, (gwm 632 (by rfl) rfl), ⟨(gwm 41 (by rfl) rfl), (gwm 633 (by rfl) rfl), by decide +kernel, by decide +kernel, by decide +kernel⟩⟩
set_option maxRecDepth 100000 in
theorem ms_RL_108 : aMS RL 108 mL_cell 2 := ⟨Or.inl ⟨(gwm 368 (by rfl) rfl), rfl⟩, (gwm 369 (by rfl) rfl), ⟨(gwm 41 (by rfl) rfl), (gwm 370 (by rfl) rfl), by decide +kernel, by decide +kernel, by decide +kernel⟩⟩
set_option maxRecDepth 100000 in
theorem ms_RL_114 : aMS RL 114 mL_acts 3 := ⟨Or.inl ⟨(gwm 642 (by rfl) rfl), rfl⟩, (gwm 643 (by rfl) rfl), ⟨(gwm 41 (by rfl) rfl), (gwm 644 (by rfl) rfl), by decide +kernel, by decide +kernel, by decide +kernel⟩⟩
set_option maxRecDepth 100000 in
theorem ms_RL_118 : aMS RL 118 mL_isFired 2 := ⟨Or.inl ⟨(gwm 614 (by rfl) rfl), rfl⟩, (gwm 615 (by rfl) rfl), ⟨(gwm 41 (by rfl) rfl), (gwm 616 (by rfl) rfl), by decide +kernel, by decide +kernel, by decide +kernel⟩⟩
set_option maxRecDepth 100000 in
theorem jw_max : Cond.static Lib.Math.max.name ∈ GW ∧ Cond.initialized "java/lang/Math" ∈ GW ∧ Cond.code Lib.Math.max.name Lib.Math.max.code 2 (some .int) ∈ GW := ⟨(gwm 418 (by rfl) rfl), (gwm 51 (by rfl) rfl), (gwm 419 (by rfl) rfl)⟩
set_option maxRecDepth 100000 in
theorem jw_min : Cond.static Lib.Math.min.name ∈ GW ∧ Cond.initialized "java/lang/Math" ∈ GW ∧ Cond.code Lib.Math.min.name Lib.Math.min.code 2 (some .int) ∈ GW := ⟨(gwm 352 (by rfl) rfl), (gwm 51 (by rfl) rfl), (gwm 353 (by rfl) rfl)⟩
set_option maxRecDepth 100000 in
theorem jw_abs : Cond.static Lib.Math.abs.name ∈ GW ∧ Cond.initialized "java/lang/Math" ∈ GW ∧ Cond.code Lib.Math.abs.name Lib.Math.abs.code 1 (some .int) ∈ GW := ⟨(gwm 411 (by rfl) rfl), (gwm 51 (by rfl) rfl), (gwm 412 (by rfl) rfl)⟩
set_option maxRecDepth 100000 in
theorem jw_copy : Cond.native arraycopyName ∈ GW ∧ Cond.static arraycopyName ∈ GW ∧ Cond.initialized "java/lang/System" ∈ GW := ⟨(gwm 356 (by rfl) rfl), (gwm 355 (by rfl) rfl), (gwm 52 (by rfl) rfl)⟩
set_option maxRecDepth 100000 in
theorem ow_init : Cond.instanceMethod objectInit ∈ GW ∧ Cond.code objectInit ⟨#[0xb1]⟩ 1 none ∈ GW := ⟨(gwm 59 (by rfl) rfl), (gwm 60 (by rfl) rfl)⟩
set_option maxRecDepth 100000 in
theorem kl_RX8_7 : Cond.classLink RX8 7 RX0 ∈ GW := (gwm 61 (by rfl) rfl)
set_option maxRecDepth 100000 in
theorem kl_RX8_16 : Cond.classLink RX8 16 RX2 ∈ GW := (gwm 169 (by rfl) rfl)
set_option maxRecDepth 100000 in
theorem kl_RX8_23 : Cond.classLink RX8 23 RX1 ∈ GW := (gwm 189 (by rfl) rfl)
set_option maxRecDepth 100000 in
theorem kl_RX8_30 : Cond.classLink RX8 30 RX5 ∈ GW := (gwm 220 (by rfl) rfl)
set_option maxRecDepth 100000 in
theorem kl_RX8_37 : Cond.classLink RX8 37 RX4 ∈ GW := (gwm 222 (by rfl) rfl)
set_option maxRecDepth 100000 in
theorem kl_RX8_44 : Cond.classLink RX8 44 RX6 ∈ GW := (gwm 257 (by rfl) rfl)
set_option maxRecDepth 100000 in
theorem kl_RX0_9 : Cond.classLink RX0 9 RX3 ∈ GW := (gwm 67 (by rfl) rfl)
set_option maxRecDepth 100000 in
theorem kl_RX0_18 : Cond.classLink RX0 18 RX5 ∈ GW := (gwm 97 (by rfl) rfl)
set_option maxRecDepth 100000 in
theorem kl_RX0_25 : Cond.classLink RX0 25 RX7 ∈ GW := (gwm 129 (by rfl) rfl)
set_option maxRecDepth 100000 in
theorem kl_RX2_9 : Cond.classLink RX2 9 RX0 ∈ GW := (gwm 175 (by rfl) rfl)
set_option maxRecDepth 100000 in
theorem kl_RL_14 : Cond.classLink RL 14 RX8 ∈ GW := (gwm 53 (by rfl) rfl)
set_option maxRecDepth 100000 in
theorem ki_RX8 : Cond.instantiable RX8 7 ∈ GW := (gwm 54 (by rfl) rfl)
set_option maxRecDepth 100000 in
theorem kn_RX8 : Cond.initialized RX8 ∈ GW := (gwm 42 (by rfl) rfl)
set_option maxRecDepth 100000 in
theorem ki_RX0 : Cond.instantiable RX0 5 ∈ GW := (gwm 62 (by rfl) rfl)
set_option maxRecDepth 100000 in
theorem kn_RX0 : Cond.initialized RX0 ∈ GW := (gwm 43 (by rfl) rfl)
set_option maxRecDepth 100000 in
theorem ki_RX1 : Cond.instantiable RX1 6 ∈ GW := (gwm 190 (by rfl) rfl)
set_option maxRecDepth 100000 in
theorem kn_RX1 : Cond.initialized RX1 ∈ GW := (gwm 48 (by rfl) rfl)
set_option maxRecDepth 100000 in
theorem ki_RX2 : Cond.instantiable RX2 3 ∈ GW := (gwm 170 (by rfl) rfl)
set_option maxRecDepth 100000 in
theorem kn_RX2 : Cond.initialized RX2 ∈ GW := (gwm 47 (by rfl) rfl)
set_option maxRecDepth 100000 in
theorem ki_RX3 : Cond.instantiable RX3 4 ∈ GW := (gwm 68 (by rfl) rfl)
set_option maxRecDepth 100000 in
theorem kn_RX3 : Cond.initialized RX3 ∈ GW := (gwm 44 (by rfl) rfl)
set_option maxRecDepth 100000 in
theorem ki_RX4 : Cond.instantiable RX4 8 ∈ GW := (gwm 223 (by rfl) rfl)
set_option maxRecDepth 100000 in
theorem kn_RX4 : Cond.initialized RX4 ∈ GW := (gwm 49 (by rfl) rfl)
set_option maxRecDepth 100000 in
theorem ki_RX5 : Cond.instantiable RX5 5 ∈ GW := (gwm 98 (by rfl) rfl)
set_option maxRecDepth 100000 in
theorem kn_RX5 : Cond.initialized RX5 ∈ GW := (gwm 45 (by rfl) rfl)
set_option maxRecDepth 100000 in
theorem ki_RX6 : Cond.instantiable RX6 4 ∈ GW := (gwm 258 (by rfl) rfl)
set_option maxRecDepth 100000 in
theorem kn_RX6 : Cond.initialized RX6 ∈ GW := (gwm 50 (by rfl) rfl)
set_option maxRecDepth 100000 in
theorem ki_RX7 : Cond.instantiable RX7 2 ∈ GW := (gwm 130 (by rfl) rfl)
set_option maxRecDepth 100000 in
theorem kn_RX7 : Cond.initialized RX7 ∈ GW := (gwm 46 (by rfl) rfl)
set_option maxRecDepth 100000 in
theorem ka_boolean : Cond.arrayClass .boolean ∈ GW := (gwm 219 (by rfl) rfl)
set_option maxRecDepth 100000 in
theorem ka_char : Cond.arrayClass .char ∈ GW := (gwm 279 (by rfl) rfl)
set_option maxRecDepth 100000 in
theorem ka_int : Cond.arrayClass .int ∈ GW := (gwm 96 (by rfl) rfl)
set_option maxRecDepth 100000 in
theorem sl_RX8_162 : Cond.fieldLink RX8 162 RX8 "LEAST_SETTING" "[I" ∈ GW := (gwm 490 (by rfl) rfl)
set_option maxRecDepth 100000 in
theorem sl_RX8_165 : Cond.fieldLink RX8 165 RX8 "GREATEST_SETTING" "[I" ∈ GW := (gwm 492 (by rfl) rfl)
