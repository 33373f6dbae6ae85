section
/-- a private method of a class that the tables say can be made, by its rows of tables_1 -/
def lw_okq (q : MethodName × Nat) : Prop := (q.1.cls ≠ "java/lang/invoke/MethodHandle" ∧ q.1.cls ≠ "java/lang/invoke/VarHandle") ∧ Cond.instantiable q.1.cls q.2 ∈ tables_1 ∧ Cond.privateMethod q.1 ∈ tables_1 ∧ Cond.instanceMethod q.1 ∈ tables_1
theorem lw_p0 : lw_okq (⟨"EnamelKiln$History", "keep", "(LEnamelKiln$Bench;)V"⟩, 3) := ⟨⟨by decide +kernel, by decide +kernel⟩, List.mem_of_getElem? (i := 131) (by decide +kernel), List.mem_of_getElem? (i := 271) (by decide +kernel), List.mem_of_getElem? (i := 272) (by decide +kernel)⟩
theorem lw_p1 : lw_okq (⟨"EnamelKiln$Bench", "copyFrom", "(LEnamelKiln$Bench;)V"⟩, 5) := ⟨⟨by decide +kernel, by decide +kernel⟩, List.mem_of_getElem? (i := 22) (by decide +kernel), List.mem_of_getElem? (i := 275) (by decide +kernel), List.mem_of_getElem? (i := 276) (by decide +kernel)⟩
theorem lw_p2 : lw_okq (⟨"EnamelKiln$Palette", "copyFrom", "(LEnamelKiln$Palette;)V"⟩, 4) := ⟨⟨by decide +kernel, by decide +kernel⟩, List.mem_of_getElem? (i := 28) (by decide +kernel), List.mem_of_getElem? (i := 279) (by decide +kernel), List.mem_of_getElem? (i := 280) (by decide +kernel)⟩
theorem lw_p3 : lw_okq (⟨"EnamelKiln$Plate", "copyFrom", "(LEnamelKiln$Plate;)V"⟩, 5) := ⟨⟨by decide +kernel, by decide +kernel⟩, List.mem_of_getElem? (i := 58) (by decide +kernel), List.mem_of_getElem? (i := 292) (by decide +kernel), List.mem_of_getElem? (i := 293) (by decide +kernel)⟩
theorem lw_p4 : lw_okq (⟨"EnamelKiln$Wishes", "copyFrom", "(LEnamelKiln$Wishes;)V"⟩, 2) := ⟨⟨by decide +kernel, by decide +kernel⟩, List.mem_of_getElem? (i := 90) (by decide +kernel), List.mem_of_getElem? (i := 297) (by decide +kernel), List.mem_of_getElem? (i := 298) (by decide +kernel)⟩
theorem lw_p5 : lw_okq (⟨"EnamelKiln$Palette", "append", "(III)I"⟩, 4) := ⟨⟨by decide +kernel, by decide +kernel⟩, List.mem_of_getElem? (i := 28) (by decide +kernel), List.mem_of_getElem? (i := 304) (by decide +kernel), List.mem_of_getElem? (i := 305) (by decide +kernel)⟩
theorem lw_p6 : lw_okq (⟨"EnamelKiln", "isColor", "(I)Z"⟩, 7) := ⟨⟨by decide +kernel, by decide +kernel⟩, List.mem_of_getElem? (i := 14) (by decide +kernel), List.mem_of_getElem? (i := 312) (by decide +kernel), List.mem_of_getElem? (i := 313) (by decide +kernel)⟩
theorem lw_p7 : lw_okq (⟨"EnamelKiln$Palette", "pullOf", "(I)I"⟩, 4) := ⟨⟨by decide +kernel, by decide +kernel⟩, List.mem_of_getElem? (i := 28) (by decide +kernel), List.mem_of_getElem? (i := 316) (by decide +kernel), List.mem_of_getElem? (i := 317) (by decide +kernel)⟩
theorem lw_p8 : lw_okq (⟨"EnamelKiln$Plate", "layersOfColor", "(I)I"⟩, 5) := ⟨⟨by decide +kernel, by decide +kernel⟩, List.mem_of_getElem? (i := 58) (by decide +kernel), List.mem_of_getElem? (i := 320) (by decide +kernel), List.mem_of_getElem? (i := 321) (by decide +kernel)⟩
theorem lw_p9 : lw_okq (⟨"EnamelKiln$Plate", "layersWith", "([II)I"⟩, 5) := ⟨⟨by decide +kernel, by decide +kernel⟩, List.mem_of_getElem? (i := 58) (by decide +kernel), List.mem_of_getElem? (i := 324) (by decide +kernel), List.mem_of_getElem? (i := 325) (by decide +kernel)⟩
theorem lw_p10 : lw_okq (⟨"EnamelKiln$Wishes", "timesOfColor", "(I)I"⟩, 2) := ⟨⟨by decide +kernel, by decide +kernel⟩, List.mem_of_getElem? (i := 90) (by decide +kernel), List.mem_of_getElem? (i := 331) (by decide +kernel), List.mem_of_getElem? (i := 332) (by decide +kernel)⟩
theorem lw_p11 : lw_okq (⟨"EnamelKiln$Plate", "outermostIsRaw", "(I)Z"⟩, 5) := ⟨⟨by decide +kernel, by decide +kernel⟩, List.mem_of_getElem? (i := 58) (by decide +kernel), List.mem_of_getElem? (i := 343) (by decide +kernel), List.mem_of_getElem? (i := 344) (by decide +kernel)⟩
theorem lw_p12 : lw_okq (⟨"EnamelKiln$Plate", "append", "(II)I"⟩, 5) := ⟨⟨by decide +kernel, by decide +kernel⟩, List.mem_of_getElem? (i := 58) (by decide +kernel), List.mem_of_getElem? (i := 347) (by decide +kernel), List.mem_of_getElem? (i := 348) (by decide +kernel)⟩
theorem lw_p13 : lw_okq (⟨"EnamelKiln$Plate", "removeOutermost", "(I)I"⟩, 5) := ⟨⟨by decide +kernel, by decide +kernel⟩, List.mem_of_getElem? (i := 58) (by decide +kernel), List.mem_of_getElem? (i := 355) (by decide +kernel), List.mem_of_getElem? (i := 356) (by decide +kernel)⟩
theorem lw_p14 : lw_okq (⟨"EnamelKiln$Plate", "layers", "()I"⟩, 5) := ⟨⟨by decide +kernel, by decide +kernel⟩, List.mem_of_getElem? (i := 58) (by decide +kernel), List.mem_of_getElem? (i := 363) (by decide +kernel), List.mem_of_getElem? (i := 364) (by decide +kernel)⟩
theorem lw_p15 : lw_okq (⟨"EnamelKiln$Plate", "makeBare", "()V"⟩, 5) := ⟨⟨by decide +kernel, by decide +kernel⟩, List.mem_of_getElem? (i := 58) (by decide +kernel), List.mem_of_getElem? (i := 367) (by decide +kernel), List.mem_of_getElem? (i := 368) (by decide +kernel)⟩
def lw_privs_1 : List (MethodName × Nat) := [(⟨"EnamelKiln$History", "keep", "(LEnamelKiln$Bench;)V"⟩, 3), (⟨"EnamelKiln$Bench", "copyFrom", "(LEnamelKiln$Bench;)V"⟩, 5), (⟨"EnamelKiln$Palette", "copyFrom", "(LEnamelKiln$Palette;)V"⟩, 4), (⟨"EnamelKiln$Plate", "copyFrom", "(LEnamelKiln$Plate;)V"⟩, 5), (⟨"EnamelKiln$Wishes", "copyFrom", "(LEnamelKiln$Wishes;)V"⟩, 2), (⟨"EnamelKiln$Palette", "append", "(III)I"⟩, 4), (⟨"EnamelKiln", "isColor", "(I)Z"⟩, 7), (⟨"EnamelKiln$Palette", "pullOf", "(I)I"⟩, 4), (⟨"EnamelKiln$Plate", "layersOfColor", "(I)I"⟩, 5), (⟨"EnamelKiln$Plate", "layersWith", "([II)I"⟩, 5), (⟨"EnamelKiln$Wishes", "timesOfColor", "(I)I"⟩, 2), (⟨"EnamelKiln$Plate", "outermostIsRaw", "(I)Z"⟩, 5), (⟨"EnamelKiln$Plate", "append", "(II)I"⟩, 5), (⟨"EnamelKiln$Plate", "removeOutermost", "(I)I"⟩, 5), (⟨"EnamelKiln$Plate", "layers", "()I"⟩, 5), (⟨"EnamelKiln$Plate", "makeBare", "()V"⟩, 5)]
theorem lw_r1 : ∀ q ∈ lw_privs_1, lw_okq q := List.forall_mem_cons.mpr ⟨lw_p0, List.forall_mem_cons.mpr ⟨lw_p1, List.forall_mem_cons.mpr ⟨lw_p2, List.forall_mem_cons.mpr ⟨lw_p3, List.forall_mem_cons.mpr ⟨lw_p4, List.forall_mem_cons.mpr ⟨lw_p5, List.forall_mem_cons.mpr ⟨lw_p6, List.forall_mem_cons.mpr ⟨lw_p7, List.forall_mem_cons.mpr ⟨lw_p8, List.forall_mem_cons.mpr ⟨lw_p9, List.forall_mem_cons.mpr ⟨lw_p10, List.forall_mem_cons.mpr ⟨lw_p11, List.forall_mem_cons.mpr ⟨lw_p12, List.forall_mem_cons.mpr ⟨lw_p13, List.forall_mem_cons.mpr ⟨lw_p14, List.forall_mem_cons.mpr ⟨lw_p15, fun _ h => absurd h List.not_mem_nil⟩⟩⟩⟩⟩⟩⟩⟩⟩⟩⟩⟩⟩⟩⟩⟩
theorem lw_p16 : lw_okq (⟨"EnamelKiln$Plate", "pullOf", "(ILEnamelKiln$Palette;)I"⟩, 5) := ⟨⟨by decide +kernel, by decide +kernel⟩, List.mem_of_getElem? (i := 58) (by decide +kernel), List.mem_of_getElem? (i := 380) (by decide +kernel), List.mem_of_getElem? (i := 381) (by decide +kernel)⟩
theorem lw_p17 : lw_okq (⟨"EnamelKiln$Plate", "holdsOn", "(I)Z"⟩, 5) := ⟨⟨by decide +kernel, by decide +kernel⟩, List.mem_of_getElem? (i := 58) (by decide +kernel), List.mem_of_getElem? (i := 384) (by decide +kernel), List.mem_of_getElem? (i := 385) (by decide +kernel)⟩
theorem lw_p18 : lw_okq (⟨"EnamelKiln$Plate", "strainOf", "(ILEnamelKiln$Palette;)I"⟩, 5) := ⟨⟨by decide +kernel, by decide +kernel⟩, List.mem_of_getElem? (i := 58) (by decide +kernel), List.mem_of_getElem? (i := 389) (by decide +kernel), List.mem_of_getElem? (i := 390) (by decide +kernel)⟩
theorem lw_p19 : lw_okq (⟨"EnamelKiln$Plate", "heatThatMelts", "(ILEnamelKiln$Palette;)I"⟩, 5) := ⟨⟨by decide +kernel, by decide +kernel⟩, List.mem_of_getElem? (i := 58) (by decide +kernel), List.mem_of_getElem? (i := 397) (by decide +kernel), List.mem_of_getElem? (i := 398) (by decide +kernel)⟩
theorem lw_p20 : lw_okq (⟨"EnamelKiln$Plate", "heatThatSpares", "(ILEnamelKiln$Palette;)I"⟩, 5) := ⟨⟨by decide +kernel, by decide +kernel⟩, List.mem_of_getElem? (i := 58) (by decide +kernel), List.mem_of_getElem? (i := 404) (by decide +kernel), List.mem_of_getElem? (i := 405) (by decide +kernel)⟩
theorem lw_p21 : lw_okq (⟨"EnamelKiln$Plate", "layersOfState", "(I)I"⟩, 5) := ⟨⟨by decide +kernel, by decide +kernel⟩, List.mem_of_getElem? (i := 58) (by decide +kernel), List.mem_of_getElem? (i := 421) (by decide +kernel), List.mem_of_getElem? (i := 422) (by decide +kernel)⟩
theorem lw_p22 : lw_okq (⟨"EnamelKiln$Plate", "crackedFields", "()I"⟩, 5) := ⟨⟨by decide +kernel, by decide +kernel⟩, List.mem_of_getElem? (i := 58) (by decide +kernel), List.mem_of_getElem? (i := 425) (by decide +kernel), List.mem_of_getElem? (i := 426) (by decide +kernel)⟩
theorem lw_p23 : lw_okq (⟨"EnamelKiln$Wishes", "colorsTogether", "()I"⟩, 2) := ⟨⟨by decide +kernel, by decide +kernel⟩, List.mem_of_getElem? (i := 90) (by decide +kernel), List.mem_of_getElem? (i := 429) (by decide +kernel), List.mem_of_getElem? (i := 430) (by decide +kernel)⟩
theorem lw_p24 : lw_okq (⟨"EnamelKiln$Firing", "happen", "(LEnamelKiln$Bench;LEnamelKiln$Plate;II)V"⟩, 6) := ⟨⟨by decide +kernel, by decide +kernel⟩, List.mem_of_getElem? (i := 151) (by decide +kernel), List.mem_of_getElem? (i := 437) (by decide +kernel), List.mem_of_getElem? (i := 438) (by decide +kernel)⟩
theorem lw_p25 : lw_okq (⟨"EnamelKiln$Firing", "heatLayer", "(LEnamelKiln$Bench;LEnamelKiln$Plate;IIZ)V"⟩, 6) := ⟨⟨by decide +kernel, by decide +kernel⟩, List.mem_of_getElem? (i := 151) (by decide +kernel), List.mem_of_getElem? (i := 442) (by decide +kernel), List.mem_of_getElem? (i := 443) (by decide +kernel)⟩
theorem lw_p26 : lw_okq (⟨"EnamelKiln$Firing", "soften", "(LEnamelKiln$Plate;II)V"⟩, 6) := ⟨⟨by decide +kernel, by decide +kernel⟩, List.mem_of_getElem? (i := 151) (by decide +kernel), List.mem_of_getElem? (i := 447) (by decide +kernel), List.mem_of_getElem? (i := 448) (by decide +kernel)⟩
theorem lw_p27 : lw_okq (⟨"EnamelKiln$Firing", "mendField", "(LEnamelKiln$Plate;I)V"⟩, 6) := ⟨⟨by decide +kernel, by decide +kernel⟩, List.mem_of_getElem? (i := 151) (by decide +kernel), List.mem_of_getElem? (i := 451) (by decide +kernel), List.mem_of_getElem? (i := 452) (by decide +kernel)⟩
theorem lw_p28 : lw_okq (⟨"EnamelKiln$Firing", "coolField", "(LEnamelKiln$Bench;LEnamelKiln$Plate;I)V"⟩, 6) := ⟨⟨by decide +kernel, by decide +kernel⟩, List.mem_of_getElem? (i := 151) (by decide +kernel), List.mem_of_getElem? (i := 455) (by decide +kernel), List.mem_of_getElem? (i := 456) (by decide +kernel)⟩
theorem lw_p29 : lw_okq (⟨"EnamelKiln$Plate", "hasHold", "(I)Z"⟩, 5) := ⟨⟨by decide +kernel, by decide +kernel⟩, List.mem_of_getElem? (i := 58) (by decide +kernel), List.mem_of_getElem? (i := 459) (by decide +kernel), List.mem_of_getElem? (i := 460) (by decide +kernel)⟩
theorem lw_p30 : lw_okq (⟨"EnamelKiln", "tryHeat", "(I)V"⟩, 7) := ⟨⟨by decide +kernel, by decide +kernel⟩, List.mem_of_getElem? (i := 14) (by decide +kernel), List.mem_of_getElem? (i := 468) (by decide +kernel), List.mem_of_getElem? (i := 469) (by decide +kernel)⟩
theorem lw_p31 : lw_okq (⟨"EnamelKiln$Wishes", "append", "(II)V"⟩, 2) := ⟨⟨by decide +kernel, by decide +kernel⟩, List.mem_of_getElem? (i := 90) (by decide +kernel), List.mem_of_getElem? (i := 484) (by decide +kernel), List.mem_of_getElem? (i := 485) (by decide +kernel)⟩
def lw_privs_2 : List (MethodName × Nat) := [(⟨"EnamelKiln$Plate", "pullOf", "(ILEnamelKiln$Palette;)I"⟩, 5), (⟨"EnamelKiln$Plate", "holdsOn", "(I)Z"⟩, 5), (⟨"EnamelKiln$Plate", "strainOf", "(ILEnamelKiln$Palette;)I"⟩, 5), (⟨"EnamelKiln$Plate", "heatThatMelts", "(ILEnamelKiln$Palette;)I"⟩, 5), (⟨"EnamelKiln$Plate", "heatThatSpares", "(ILEnamelKiln$Palette;)I"⟩, 5), (⟨"EnamelKiln$Plate", "layersOfState", "(I)I"⟩, 5), (⟨"EnamelKiln$Plate", "crackedFields", "()I"⟩, 5), (⟨"EnamelKiln$Wishes", "colorsTogether", "()I"⟩, 2), (⟨"EnamelKiln$Firing", "happen", "(LEnamelKiln$Bench;LEnamelKiln$Plate;II)V"⟩, 6), (⟨"EnamelKiln$Firing", "heatLayer", "(LEnamelKiln$Bench;LEnamelKiln$Plate;IIZ)V"⟩, 6), (⟨"EnamelKiln$Firing", "soften", "(LEnamelKiln$Plate;II)V"⟩, 6), (⟨"EnamelKiln$Firing", "mendField", "(LEnamelKiln$Plate;I)V"⟩, 6), (⟨"EnamelKiln$Firing", "coolField", "(LEnamelKiln$Bench;LEnamelKiln$Plate;I)V"⟩, 6), (⟨"EnamelKiln$Plate", "hasHold", "(I)Z"⟩, 5), (⟨"EnamelKiln", "tryHeat", "(I)V"⟩, 7), (⟨"EnamelKiln$Wishes", "append", "(II)V"⟩, 2)]
theorem lw_r2 : ∀ q ∈ lw_privs_2, lw_okq q := List.forall_mem_cons.mpr ⟨lw_p16, List.forall_mem_cons.mpr ⟨lw_p17, List.forall_mem_cons.mpr ⟨lw_p18, List.forall_mem_cons.mpr ⟨lw_p19, List.forall_mem_cons.mpr ⟨lw_p20, List.forall_mem_cons.mpr ⟨lw_p21, List.forall_mem_cons.mpr ⟨lw_p22, List.forall_mem_cons.mpr ⟨lw_p23, List.forall_mem_cons.mpr ⟨lw_p24, List.forall_mem_cons.mpr ⟨lw_p25, List.forall_mem_cons.mpr ⟨lw_p26, List.forall_mem_cons.mpr ⟨lw_p27, List.forall_mem_cons.mpr ⟨lw_p28, List.forall_mem_cons.mpr ⟨lw_p29, List.forall_mem_cons.mpr ⟨lw_p30, List.forall_mem_cons.mpr ⟨lw_p31, fun _ h => absurd h List.not_mem_nil⟩⟩⟩⟩⟩⟩⟩⟩⟩⟩⟩⟩⟩⟩⟩⟩
theorem lw_p32 : lw_okq (⟨"EnamelKiln", "bringPlanUpToDate", "()V"⟩, 7) := ⟨⟨by decide +kernel, by decide +kernel⟩, List.mem_of_getElem? (i := 14) (by decide +kernel), List.mem_of_getElem? (i := 496) (by decide +kernel), List.mem_of_getElem? (i := 497) (by decide +kernel)⟩
theorem lw_p33 : lw_okq (⟨"EnamelKiln$Planner", "search", "(LEnamelKiln$Wishes;LEnamelKiln$Palette;)V"⟩, 8) := ⟨⟨by decide +kernel, by decide +kernel⟩, List.mem_of_getElem? (i := 184) (by decide +kernel), List.mem_of_getElem? (i := 500) (by decide +kernel), List.mem_of_getElem? (i := 501) (by decide +kernel)⟩
theorem lw_p34 : lw_okq (⟨"EnamelKiln$Planner", "bestSet", "(ILEnamelKiln$Wishes;LEnamelKiln$Palette;)I"⟩, 8) := ⟨⟨by decide +kernel, by decide +kernel⟩, List.mem_of_getElem? (i := 184) (by decide +kernel), List.mem_of_getElem? (i := 513) (by decide +kernel), List.mem_of_getElem? (i := 514) (by decide +kernel)⟩
theorem lw_p35 : lw_okq (⟨"EnamelKiln$Planner", "lookAtNext", "(ILEnamelKiln$Wishes;LEnamelKiln$Palette;)I"⟩, 8) := ⟨⟨by decide +kernel, by decide +kernel⟩, List.mem_of_getElem? (i := 184) (by decide +kernel), List.mem_of_getElem? (i := 517) (by decide +kernel), List.mem_of_getElem? (i := 518) (by decide +kernel)⟩
theorem lw_p36 : lw_okq (⟨"EnamelKiln$Plate", "greatestStrainWith", "(ILEnamelKiln$Palette;)I"⟩, 5) := ⟨⟨by decide +kernel, by decide +kernel⟩, List.mem_of_getElem? (i := 58) (by decide +kernel), List.mem_of_getElem? (i := 535) (by decide +kernel), List.mem_of_getElem? (i := 536) (by decide +kernel)⟩
theorem lw_p37 : lw_okq (⟨"EnamelKiln$History", "restore", "(LEnamelKiln$Bench;)V"⟩, 3) := ⟨⟨by decide +kernel, by decide +kernel⟩, List.mem_of_getElem? (i := 131) (by decide +kernel), List.mem_of_getElem? (i := 543) (by decide +kernel), List.mem_of_getElem? (i := 544) (by decide +kernel)⟩
theorem lw_p38 : lw_okq (⟨"EnamelKiln$WishText", "append", "(C)I"⟩, 4) := ⟨⟨by decide +kernel, by decide +kernel⟩, List.mem_of_getElem? (i := 219) (by decide +kernel), List.mem_of_getElem? (i := 551) (by decide +kernel), List.mem_of_getElem? (i := 552) (by decide +kernel)⟩
theorem lw_p39 : lw_okq (⟨"EnamelKiln$WishText", "lookForFault", "(I)V"⟩, 4) := ⟨⟨by decide +kernel, by decide +kernel⟩, List.mem_of_getElem? (i := 219) (by decide +kernel), List.mem_of_getElem? (i := 563) (by decide +kernel), List.mem_of_getElem? (i := 564) (by decide +kernel)⟩
theorem lw_p40 : lw_okq (⟨"EnamelKiln$WishText", "hasFault", "()Z"⟩, 4) := ⟨⟨by decide +kernel, by decide +kernel⟩, List.mem_of_getElem? (i := 219) (by decide +kernel), List.mem_of_getElem? (i := 577) (by decide +kernel), List.mem_of_getElem? (i := 578) (by decide +kernel)⟩
theorem lw_p41 : lw_okq (⟨"EnamelKiln$WishText", "giveTo", "(LEnamelKiln$Wishes;)I"⟩, 4) := ⟨⟨by decide +kernel, by decide +kernel⟩, List.mem_of_getElem? (i := 219) (by decide +kernel), List.mem_of_getElem? (i := 586) (by decide +kernel), List.mem_of_getElem? (i := 587) (by decide +kernel)⟩
theorem lw_p42 : lw_okq (⟨"EnamelKilnModel", "records", "()V"⟩, 12) := ⟨⟨by decide +kernel, by decide +kernel⟩, List.mem_of_getElem? (i := 591) (by decide +kernel), List.mem_of_getElem? (i := 645) (by decide +kernel), List.mem_of_getElem? (i := 646) (by decide +kernel)⟩
theorem lw_p43 : lw_okq (⟨"EnamelKilnModel", "isColor", "(I)Z"⟩, 12) := ⟨⟨by decide +kernel, by decide +kernel⟩, List.mem_of_getElem? (i := 591) (by decide +kernel), List.mem_of_getElem? (i := 653) (by decide +kernel), List.mem_of_getElem? (i := 654) (by decide +kernel)⟩
theorem lw_p44 : lw_okq (⟨"EnamelKilnModel", "pullOf", "(I)I"⟩, 12) := ⟨⟨by decide +kernel, by decide +kernel⟩, List.mem_of_getElem? (i := 591) (by decide +kernel), List.mem_of_getElem? (i := 657) (by decide +kernel), List.mem_of_getElem? (i := 658) (by decide +kernel)⟩
theorem lw_p45 : lw_okq (⟨"EnamelKilnModel", "onPlate", "(I)I"⟩, 12) := ⟨⟨by decide +kernel, by decide +kernel⟩, List.mem_of_getElem? (i := 591) (by decide +kernel), List.mem_of_getElem? (i := 661) (by decide +kernel), List.mem_of_getElem? (i := 662) (by decide +kernel)⟩
theorem lw_p46 : lw_okq (⟨"EnamelKilnModel", "layers", "(I)I"⟩, 12) := ⟨⟨by decide +kernel, by decide +kernel⟩, List.mem_of_getElem? (i := 591) (by decide +kernel), List.mem_of_getElem? (i := 665) (by decide +kernel), List.mem_of_getElem? (i := 666) (by decide +kernel)⟩
theorem lw_p47 : lw_okq (⟨"EnamelKilnModel", "of", "(III)I"⟩, 12) := ⟨⟨by decide +kernel, by decide +kernel⟩, List.mem_of_getElem? (i := 591) (by decide +kernel), List.mem_of_getElem? (i := 672) (by decide +kernel), List.mem_of_getElem? (i := 673) (by decide +kernel)⟩
def lw_privs_3 : List (MethodName × Nat) := [(⟨"EnamelKiln", "bringPlanUpToDate", "()V"⟩, 7), (⟨"EnamelKiln$Planner", "search", "(LEnamelKiln$Wishes;LEnamelKiln$Palette;)V"⟩, 8), (⟨"EnamelKiln$Planner", "bestSet", "(ILEnamelKiln$Wishes;LEnamelKiln$Palette;)I"⟩, 8), (⟨"EnamelKiln$Planner", "lookAtNext", "(ILEnamelKiln$Wishes;LEnamelKiln$Palette;)I"⟩, 8), (⟨"EnamelKiln$Plate", "greatestStrainWith", "(ILEnamelKiln$Palette;)I"⟩, 5), (⟨"EnamelKiln$History", "restore", "(LEnamelKiln$Bench;)V"⟩, 3), (⟨"EnamelKiln$WishText", "append", "(C)I"⟩, 4), (⟨"EnamelKiln$WishText", "lookForFault", "(I)V"⟩, 4), (⟨"EnamelKiln$WishText", "hasFault", "()Z"⟩, 4), (⟨"EnamelKiln$WishText", "giveTo", "(LEnamelKiln$Wishes;)I"⟩, 4), (⟨"EnamelKilnModel", "records", "()V"⟩, 12), (⟨"EnamelKilnModel", "isColor", "(I)Z"⟩, 12), (⟨"EnamelKilnModel", "pullOf", "(I)I"⟩, 12), (⟨"EnamelKilnModel", "onPlate", "(I)I"⟩, 12), (⟨"EnamelKilnModel", "layers", "(I)I"⟩, 12), (⟨"EnamelKilnModel", "of", "(III)I"⟩, 12)]
theorem lw_r3 : ∀ q ∈ lw_privs_3, lw_okq q := List.forall_mem_cons.mpr ⟨lw_p32, List.forall_mem_cons.mpr ⟨lw_p33, List.forall_mem_cons.mpr ⟨lw_p34, List.forall_mem_cons.mpr ⟨lw_p35, List.forall_mem_cons.mpr ⟨lw_p36, List.forall_mem_cons.mpr ⟨lw_p37, List.forall_mem_cons.mpr ⟨lw_p38, List.forall_mem_cons.mpr ⟨lw_p39, List.forall_mem_cons.mpr ⟨lw_p40, List.forall_mem_cons.mpr ⟨lw_p41, List.forall_mem_cons.mpr ⟨lw_p42, List.forall_mem_cons.mpr ⟨lw_p43, List.forall_mem_cons.mpr ⟨lw_p44, List.forall_mem_cons.mpr ⟨lw_p45, List.forall_mem_cons.mpr ⟨lw_p46, List.forall_mem_cons.mpr ⟨lw_p47, fun _ h => absurd h List.not_mem_nil⟩⟩⟩⟩⟩⟩⟩⟩⟩⟩⟩⟩⟩⟩⟩⟩
theorem lw_p48 : lw_okq (⟨"EnamelKilnModel", "inWishes", "(I)I"⟩, 12) := ⟨⟨by decide +kernel, by decide +kernel⟩, List.mem_of_getElem? (i := 591) (by decide +kernel), List.mem_of_getElem? (i := 679) (by decide +kernel), List.mem_of_getElem? (i := 680) (by decide +kernel)⟩
theorem lw_p49 : lw_okq (⟨"EnamelKilnModel", "layersWith", "(III)I"⟩, 12) := ⟨⟨by decide +kernel, by decide +kernel⟩, List.mem_of_getElem? (i := 591) (by decide +kernel), List.mem_of_getElem? (i := 690) (by decide +kernel), List.mem_of_getElem? (i := 691) (by decide +kernel)⟩
theorem lw_p50 : lw_okq (⟨"EnamelKilnModel", "allLayers", "(II)I"⟩, 12) := ⟨⟨by decide +kernel, by decide +kernel⟩, List.mem_of_getElem? (i := 591) (by decide +kernel), List.mem_of_getElem? (i := 702) (by decide +kernel), List.mem_of_getElem? (i := 703) (by decide +kernel)⟩
theorem lw_p51 : lw_okq (⟨"EnamelKilnModel", "pull", "(I)I"⟩, 12) := ⟨⟨by decide +kernel, by decide +kernel⟩, List.mem_of_getElem? (i := 591) (by decide +kernel), List.mem_of_getElem? (i := 714) (by decide +kernel), List.mem_of_getElem? (i := 715) (by decide +kernel)⟩
theorem lw_p52 : lw_okq (⟨"EnamelKilnModel", "strain", "(II)I"⟩, 12) := ⟨⟨by decide +kernel, by decide +kernel⟩, List.mem_of_getElem? (i := 591) (by decide +kernel), List.mem_of_getElem? (i := 718) (by decide +kernel), List.mem_of_getElem? (i := 719) (by decide +kernel)⟩
theorem lw_p53 : lw_okq (⟨"EnamelKilnModel", "greatestMelting", "(I)I"⟩, 12) := ⟨⟨by decide +kernel, by decide +kernel⟩, List.mem_of_getElem? (i := 591) (by decide +kernel), List.mem_of_getElem? (i := 722) (by decide +kernel), List.mem_of_getElem? (i := 723) (by decide +kernel)⟩
theorem lw_p54 : lw_okq (⟨"EnamelKilnModel", "melting", "(I)I"⟩, 12) := ⟨⟨by decide +kernel, by decide +kernel⟩, List.mem_of_getElem? (i := 591) (by decide +kernel), List.mem_of_getElem? (i := 726) (by decide +kernel), List.mem_of_getElem? (i := 727) (by decide +kernel)⟩
theorem lw_p55 : lw_okq (⟨"EnamelKilnModel", "leastBurning", "(I)I"⟩, 12) := ⟨⟨by decide +kernel, by decide +kernel⟩, List.mem_of_getElem? (i := 591) (by decide +kernel), List.mem_of_getElem? (i := 730) (by decide +kernel), List.mem_of_getElem? (i := 731) (by decide +kernel)⟩
theorem lw_p56 : lw_okq (⟨"EnamelKilnModel", "burning", "(I)I"⟩, 12) := ⟨⟨by decide +kernel, by decide +kernel⟩, List.mem_of_getElem? (i := 591) (by decide +kernel), List.mem_of_getElem? (i := 734) (by decide +kernel), List.mem_of_getElem? (i := 735) (by decide +kernel)⟩
theorem lw_p57 : lw_okq (⟨"EnamelKilnModel", "crackedOnes", "()I"⟩, 12) := ⟨⟨by decide +kernel, by decide +kernel⟩, List.mem_of_getElem? (i := 591) (by decide +kernel), List.mem_of_getElem? (i := 749) (by decide +kernel), List.mem_of_getElem? (i := 750) (by decide +kernel)⟩
theorem lw_p58 : lw_okq (⟨"EnamelKilnModel", "wishedOnes", "()I"⟩, 12) := ⟨⟨by decide +kernel, by decide +kernel⟩, List.mem_of_getElem? (i := 591) (by decide +kernel), List.mem_of_getElem? (i := 753) (by decide +kernel), List.mem_of_getElem? (i := 754) (by decide +kernel)⟩
theorem lw_p59 : lw_okq (⟨"EnamelKilnModel", "fires", "(II)V"⟩, 12) := ⟨⟨by decide +kernel, by decide +kernel⟩, List.mem_of_getElem? (i := 591) (by decide +kernel), List.mem_of_getElem? (i := 764) (by decide +kernel), List.mem_of_getElem? (i := 765) (by decide +kernel)⟩
theorem lw_p60 : lw_okq (⟨"EnamelKilnModel", "becomes", "(III)Z"⟩, 12) := ⟨⟨by decide +kernel, by decide +kernel⟩, List.mem_of_getElem? (i := 591) (by decide +kernel), List.mem_of_getElem? (i := 768) (by decide +kernel), List.mem_of_getElem? (i := 769) (by decide +kernel)⟩
theorem lw_p61 : lw_okq (⟨"EnamelKilnModel", "tries", "(I)V"⟩, 12) := ⟨⟨by decide +kernel, by decide +kernel⟩, List.mem_of_getElem? (i := 591) (by decide +kernel), List.mem_of_getElem? (i := 776) (by decide +kernel), List.mem_of_getElem? (i := 777) (by decide +kernel)⟩
theorem lw_p62 : lw_okq (⟨"EnamelKilnModel", "plans", "()V"⟩, 12) := ⟨⟨by decide +kernel, by decide +kernel⟩, List.mem_of_getElem? (i := 591) (by decide +kernel), List.mem_of_getElem? (i := 799) (by decide +kernel), List.mem_of_getElem? (i := 800) (by decide +kernel)⟩
theorem lw_p63 : lw_okq (⟨"EnamelKilnModel", "isWithin", "(I)Z"⟩, 12) := ⟨⟨by decide +kernel, by decide +kernel⟩, List.mem_of_getElem? (i := 591) (by decide +kernel), List.mem_of_getElem? (i := 803) (by decide +kernel), List.mem_of_getElem? (i := 804) (by decide +kernel)⟩
def lw_privs_4 : List (MethodName × Nat) := [(⟨"EnamelKilnModel", "inWishes", "(I)I"⟩, 12), (⟨"EnamelKilnModel", "layersWith", "(III)I"⟩, 12), (⟨"EnamelKilnModel", "allLayers", "(II)I"⟩, 12), (⟨"EnamelKilnModel", "pull", "(I)I"⟩, 12), (⟨"EnamelKilnModel", "strain", "(II)I"⟩, 12), (⟨"EnamelKilnModel", "greatestMelting", "(I)I"⟩, 12), (⟨"EnamelKilnModel", "melting", "(I)I"⟩, 12), (⟨"EnamelKilnModel", "leastBurning", "(I)I"⟩, 12), (⟨"EnamelKilnModel", "burning", "(I)I"⟩, 12), (⟨"EnamelKilnModel", "crackedOnes", "()I"⟩, 12), (⟨"EnamelKilnModel", "wishedOnes", "()I"⟩, 12), (⟨"EnamelKilnModel", "fires", "(II)V"⟩, 12), (⟨"EnamelKilnModel", "becomes", "(III)Z"⟩, 12), (⟨"EnamelKilnModel", "tries", "(I)V"⟩, 12), (⟨"EnamelKilnModel", "plans", "()V"⟩, 12), (⟨"EnamelKilnModel", "isWithin", "(I)Z"⟩, 12)]
theorem lw_r4 : ∀ q ∈ lw_privs_4, lw_okq q := List.forall_mem_cons.mpr ⟨lw_p48, List.forall_mem_cons.mpr ⟨lw_p49, List.forall_mem_cons.mpr ⟨lw_p50, List.forall_mem_cons.mpr ⟨lw_p51, List.forall_mem_cons.mpr ⟨lw_p52, List.forall_mem_cons.mpr ⟨lw_p53, List.forall_mem_cons.mpr ⟨lw_p54, List.forall_mem_cons.mpr ⟨lw_p55, List.forall_mem_cons.mpr ⟨lw_p56, List.forall_mem_cons.mpr ⟨lw_p57, List.forall_mem_cons.mpr ⟨lw_p58, List.forall_mem_cons.mpr ⟨lw_p59, List.forall_mem_cons.mpr ⟨lw_p60, List.forall_mem_cons.mpr ⟨lw_p61, List.forall_mem_cons.mpr ⟨lw_p62, List.forall_mem_cons.mpr ⟨lw_p63, fun _ h => absurd h List.not_mem_nil⟩⟩⟩⟩⟩⟩⟩⟩⟩⟩⟩⟩⟩⟩⟩⟩
theorem lw_p64 : lw_okq (⟨"EnamelKilnModel", "cap", "(I)I"⟩, 12) := ⟨⟨by decide +kernel, by decide +kernel⟩, List.mem_of_getElem? (i := 591) (by decide +kernel), List.mem_of_getElem? (i := 810) (by decide +kernel), List.mem_of_getElem? (i := 811) (by decide +kernel)⟩
theorem lw_p65 : lw_okq (⟨"EnamelKilnModel", "behind", "(III)I"⟩, 12) := ⟨⟨by decide +kernel, by decide +kernel⟩, List.mem_of_getElem? (i := 591) (by decide +kernel), List.mem_of_getElem? (i := 814) (by decide +kernel), List.mem_of_getElem? (i := 815) (by decide +kernel)⟩
theorem lw_p66 : lw_okq (⟨"EnamelKilnModel", "reads", "(Z)Z"⟩, 12) := ⟨⟨by decide +kernel, by decide +kernel⟩, List.mem_of_getElem? (i := 591) (by decide +kernel), List.mem_of_getElem? (i := 838) (by decide +kernel), List.mem_of_getElem? (i := 839) (by decide +kernel)⟩
def lw_privs_5 : List (MethodName × Nat) := [(⟨"EnamelKilnModel", "cap", "(I)I"⟩, 12), (⟨"EnamelKilnModel", "behind", "(III)I"⟩, 12), (⟨"EnamelKilnModel", "reads", "(Z)Z"⟩, 12)]
theorem lw_r5 : ∀ q ∈ lw_privs_5, lw_okq q := List.forall_mem_cons.mpr ⟨lw_p64, List.forall_mem_cons.mpr ⟨lw_p65, List.forall_mem_cons.mpr ⟨lw_p66, fun _ h => absurd h List.not_mem_nil⟩⟩⟩
def lw_privs : List (MethodName × Nat) := lw_privs_1 ++ (lw_privs_2 ++ (lw_privs_3 ++ (lw_privs_4 ++ (lw_privs_5))))
def lw_tbl : List Cond := k2_sels lw_privs ++ tables_1
theorem lw_privs_ok : ∀ q ∈ lw_privs, lw_okq q := by
  show ∀ q ∈ lw_privs_1 ++ (lw_privs_2 ++ (lw_privs_3 ++ (lw_privs_4 ++ (lw_privs_5)))), lw_okq q
  exact List.forall_mem_append.mpr ⟨lw_r1, List.forall_mem_append.mpr ⟨lw_r2, List.forall_mem_append.mpr ⟨lw_r3, List.forall_mem_append.mpr ⟨lw_r4, lw_r5⟩⟩⟩⟩
end
section
def RX0 : String := "EnamelKiln$Bench"
def TX0 : u_T := fun k => match k with
  | 0 => ("EnamelKiln$Bench", "palette", "LEnamelKiln$Palette;", true)
  | 1 => ("EnamelKiln$Bench", "plate", "LEnamelKiln$Plate;", true)
  | 2 => ("EnamelKiln$Bench", "wishes", "LEnamelKiln$Wishes;", true)
  | 3 => ("EnamelKiln$Bench", "settings", "[I", true)
  | _ => ("EnamelKiln$Bench", "accounts", "[I", true)
def tyX0 : Nat → FieldType := fun k => match k with
  | 0 => .object "EnamelKiln$Palette"
  | 1 => .object "EnamelKiln$Plate"
  | 2 => .object "EnamelKiln$Wishes"
  | 3 => .array .int
  | _ => .array .int
abbrev wsX00 : List Cond := u_ws RX0 TX0 5
theorem nmX0 : ∀ a, a < 5 → ∀ b, b < 5 → a ≠ b → (TX0 a).2.1 ≠ (TX0 b).2.1 := by decide +kernel
theorem tyX0_ok : ∀ k, k < 5 → parseFieldDescriptor (TX0 k).2.2.1 = some (tyX0 k) := by decide +kernel
abbrev cX0_init : ByteArray := prog_2_method_1_code
def yX0_init : MethodName := ⟨RX0, "<init>", "()V"⟩
abbrev cX0_copyFrom : ByteArray := prog_2_method_2_code
def yX0_copyFrom : MethodName := ⟨RX0, "copyFrom", "(LEnamelKiln$Bench;)V"⟩
def RX1 : String := "EnamelKiln$Firing"
def TX1 : u_T := fun k => match k with
  | 0 => ("EnamelKiln$Firing", "gaveWay", "[Z", true)
  | 1 => ("EnamelKiln$Firing", "smooth", "I", false)
  | 2 => ("EnamelKiln$Firing", "burnt", "I", false)
  | 3 => ("EnamelKiln$Firing", "dull", "I", false)
  | 4 => ("EnamelKiln$Firing", "cracks", "I", false)
  | _ => ("EnamelKiln$Firing", "mended", "I", false)
def tyX1 : Nat → FieldType := fun k => match k with
  | 0 => .array .boolean
  | 1 => .int
  | 2 => .int
  | 3 => .int
  | 4 => .int
  | _ => .int
abbrev wsX10 : List Cond := u_ws RX1 TX1 6
theorem nmX1 : ∀ a, a < 6 → ∀ b, b < 6 → a ≠ b → (TX1 a).2.1 ≠ (TX1 b).2.1 := by decide +kernel
theorem tyX1_ok : ∀ k, k < 6 → parseFieldDescriptor (TX1 k).2.2.1 = some (tyX1 k) := by decide +kernel
abbrev cX1_init : ByteArray := prog_3_method_1_code
def yX1_init : MethodName := ⟨RX1, "<init>", "()V"⟩
abbrev cX1_happen : ByteArray := prog_3_method_2_code
def yX1_happen : MethodName := ⟨RX1, "happen", "(LEnamelKiln$Bench;LEnamelKiln$Plate;II)V"⟩
abbrev cX1_heatLayer : ByteArray := prog_3_method_3_code
def yX1_heatLayer : MethodName := ⟨RX1, "heatLayer", "(LEnamelKiln$Bench;LEnamelKiln$Plate;IIZ)V"⟩
abbrev cX1_soften : ByteArray := prog_3_method_4_code
def yX1_soften : MethodName := ⟨RX1, "soften", "(LEnamelKiln$Plate;II)V"⟩
abbrev cX1_mendField : ByteArray := prog_3_method_5_code
def yX1_mendField : MethodName := ⟨RX1, "mendField", "(LEnamelKiln$Plate;I)V"⟩
abbrev cX1_coolField : ByteArray := prog_3_method_6_code
def yX1_coolField : MethodName := ⟨RX1, "coolField", "(LEnamelKiln$Bench;LEnamelKiln$Plate;I)V"⟩
def RX2 : String := "EnamelKiln$History"
def TX2 : u_T := fun k => match k with
  | 0 => ("EnamelKiln$History", "ring", "[LEnamelKiln$Bench;", true)
  | 1 => ("EnamelKiln$History", "next", "I", false)
  | _ => ("EnamelKiln$History", "size", "I", false)
def tyX2 : Nat → FieldType := fun k => match k with
  | 0 => .array (.object "EnamelKiln$Bench")
  | 1 => .int
  | _ => .int
abbrev wsX20 : List Cond := u_ws RX2 TX2 3
theorem nmX2 : ∀ a, a < 3 → ∀ b, b < 3 → a ≠ b → (TX2 a).2.1 ≠ (TX2 b).2.1 := by decide +kernel
theorem tyX2_ok : ∀ k, k < 3 → parseFieldDescriptor (TX2 k).2.2.1 = some (tyX2 k) := by decide +kernel
abbrev cX2_init : ByteArray := prog_4_method_1_code
def yX2_init : MethodName := ⟨RX2, "<init>", "()V"⟩
abbrev cX2_keep : ByteArray := prog_4_method_2_code
def yX2_keep : MethodName := ⟨RX2, "keep", "(LEnamelKiln$Bench;)V"⟩
abbrev cX2_restore : ByteArray := prog_4_method_3_code
def yX2_restore : MethodName := ⟨RX2, "restore", "(LEnamelKiln$Bench;)V"⟩
def RX3 : String := "EnamelKiln$Palette"
def TX3 : u_T := fun k => match k with
  | 0 => ("EnamelKiln$Palette", "melting", "[I", true)
  | 1 => ("EnamelKiln$Palette", "burning", "[I", true)
  | 2 => ("EnamelKiln$Palette", "expansion", "[I", true)
  | _ => ("EnamelKiln$Palette", "size", "I", false)
def tyX3 : Nat → FieldType := fun k => match k with
  | 0 => .array .int
  | 1 => .array .int
  | 2 => .array .int
  | _ => .int
abbrev wsX30 : List Cond := u_ws RX3 TX3 4
theorem nmX3 : ∀ a, a < 4 → ∀ b, b < 4 → a ≠ b → (TX3 a).2.1 ≠ (TX3 b).2.1 := by decide +kernel
theorem tyX3_ok : ∀ k, k < 4 → parseFieldDescriptor (TX3 k).2.2.1 = some (tyX3 k) := by decide +kernel
abbrev cX3_init : ByteArray := prog_5_method_1_code
def yX3_init : MethodName := ⟨RX3, "<init>", "()V"⟩
abbrev cX3_append : ByteArray := prog_5_method_2_code
def yX3_append : MethodName := ⟨RX3, "append", "(III)I"⟩
abbrev cX3_pullOf : ByteArray := prog_5_method_3_code
def yX3_pullOf : MethodName := ⟨RX3, "pullOf", "(I)I"⟩
abbrev cX3_copyFrom : ByteArray := prog_5_method_4_code
def yX3_copyFrom : MethodName := ⟨RX3, "copyFrom", "(LEnamelKiln$Palette;)V"⟩
def RX4 : String := "EnamelKiln$Planner"
def TX4 : u_T := fun k => match k with
  | 0 => ("EnamelKiln$Planner", "firingsFrom", "[I", true)
  | 1 => ("EnamelKiln$Planner", "stepOf", "[I", true)
  | 2 => ("EnamelKiln$Planner", "meltingOf", "[I", true)
  | 3 => ("EnamelKiln$Planner", "burningOf", "[I", true)
  | 4 => ("EnamelKiln$Planner", "sets", "[I", true)
  | 5 => ("EnamelKiln$Planner", "heats", "[I", true)
  | 6 => ("EnamelKiln$Planner", "length", "I", false)
  | _ => ("EnamelKiln$Planner", "isFound", "Z", false)
def tyX4 : Nat → FieldType := fun k => match k with
  | 0 => .array .int
  | 1 => .array .int
  | 2 => .array .int
  | 3 => .array .int
  | 4 => .array .int
  | 5 => .array .int
  | 6 => .int
  | _ => .boolean
abbrev wsX40 : List Cond := u_ws RX4 TX4 8
theorem nmX4 : ∀ a, a < 8 → ∀ b, b < 8 → a ≠ b → (TX4 a).2.1 ≠ (TX4 b).2.1 := by decide +kernel
theorem tyX4_ok : ∀ k, k < 8 → parseFieldDescriptor (TX4 k).2.2.1 = some (tyX4 k) := by decide +kernel
abbrev cX4_init : ByteArray := prog_6_method_1_code
def yX4_init : MethodName := ⟨RX4, "<init>", "()V"⟩
abbrev cX4_search : ByteArray := prog_6_method_2_code
def yX4_search : MethodName := ⟨RX4, "search", "(LEnamelKiln$Wishes;LEnamelKiln$Palette;)V"⟩
abbrev cX4_layersAt : ByteArray := prog_6_method_3_code
def yX4_layersAt : MethodName := ⟨RX4, "layersAt", "(II)I"⟩
abbrev cX4_lastStage : ByteArray := prog_6_method_4_code
def yX4_lastStage : MethodName := ⟨RX4, "lastStage", "(LEnamelKiln$Wishes;)I"⟩
abbrev cX4_isStage : ByteArray := prog_6_method_5_code
def yX4_isStage : MethodName := ⟨RX4, "isStage", "(ILEnamelKiln$Wishes;)Z"⟩
abbrev cX4_bestSet : ByteArray := prog_6_method_6_code
def yX4_bestSet : MethodName := ⟨RX4, "bestSet", "(ILEnamelKiln$Wishes;LEnamelKiln$Palette;)I"⟩
abbrev cX4_lookAtNext : ByteArray := prog_6_method_7_code
def yX4_lookAtNext : MethodName := ⟨RX4, "lookAtNext", "(ILEnamelKiln$Wishes;LEnamelKiln$Palette;)I"⟩
abbrev cX4_burningOfPut : ByteArray := prog_6_method_8_code
def yX4_burningOfPut : MethodName := ⟨RX4, "burningOfPut", "(ILEnamelKiln$Wishes;LEnamelKiln$Palette;)I"⟩
def RX5 : String := "EnamelKiln$Plate"
def TX5 : u_T := fun k => match k with
  | 0 => ("EnamelKiln$Plate", "sizes", "[I", true)
  | 1 => ("EnamelKiln$Plate", "colors", "[I", true)
  | 2 => ("EnamelKiln$Plate", "states", "[I", true)
  | 3 => ("EnamelKiln$Plate", "softenings", "[I", true)
  | _ => ("EnamelKiln$Plate", "cracks", "[I", true)
def tyX5 : Nat → FieldType := fun k => match k with
  | 0 => .array .int
  | 1 => .array .int
  | 2 => .array .int
  | 3 => .array .int
  | _ => .array .int
abbrev wsX50 : List Cond := u_ws RX5 TX5 5
theorem nmX5 : ∀ a, a < 5 → ∀ b, b < 5 → a ≠ b → (TX5 a).2.1 ≠ (TX5 b).2.1 := by decide +kernel
theorem tyX5_ok : ∀ k, k < 5 → parseFieldDescriptor (TX5 k).2.2.1 = some (tyX5 k) := by decide +kernel
abbrev cX5_init : ByteArray := prog_7_method_1_code
def yX5_init : MethodName := ⟨RX5, "<init>", "()V"⟩
abbrev cX5_append : ByteArray := prog_7_method_2_code
def yX5_append : MethodName := ⟨RX5, "append", "(II)I"⟩
abbrev cX5_removeOutermost : ByteArray := prog_7_method_3_code
def yX5_removeOutermost : MethodName := ⟨RX5, "removeOutermost", "(I)I"⟩
abbrev cX5_outermostIsRaw : ByteArray := prog_7_method_4_code
def yX5_outermostIsRaw : MethodName := ⟨RX5, "outermostIsRaw", "(I)Z"⟩
abbrev cX5_makeBare : ByteArray := prog_7_method_5_code
def yX5_makeBare : MethodName := ⟨RX5, "makeBare", "()V"⟩
abbrev cX5_layers : ByteArray := prog_7_method_6_code
def yX5_layers : MethodName := ⟨RX5, "layers", "()I"⟩
abbrev cX5_layersOfColor : ByteArray := prog_7_method_7_code
def yX5_layersOfColor : MethodName := ⟨RX5, "layersOfColor", "(I)I"⟩
abbrev cX5_layersOfState : ByteArray := prog_7_method_8_code
def yX5_layersOfState : MethodName := ⟨RX5, "layersOfState", "(I)I"⟩
abbrev cX5_layersWith : ByteArray := prog_7_method_9_code
def yX5_layersWith : MethodName := ⟨RX5, "layersWith", "([II)I"⟩
abbrev cX5_crackedFields : ByteArray := prog_7_method_10_code
def yX5_crackedFields : MethodName := ⟨RX5, "crackedFields", "()I"⟩
abbrev cX5_holdsOn : ByteArray := prog_7_method_11_code
def yX5_holdsOn : MethodName := ⟨RX5, "holdsOn", "(I)Z"⟩
abbrev cX5_hasHold : ByteArray := prog_7_method_12_code
def yX5_hasHold : MethodName := ⟨RX5, "hasHold", "(I)Z"⟩
abbrev cX5_pullOf : ByteArray := prog_7_method_13_code
def yX5_pullOf : MethodName := ⟨RX5, "pullOf", "(ILEnamelKiln$Palette;)I"⟩
abbrev cX5_strainOf : ByteArray := prog_7_method_14_code
def yX5_strainOf : MethodName := ⟨RX5, "strainOf", "(ILEnamelKiln$Palette;)I"⟩
abbrev cX5_greatestStrainWith : ByteArray := prog_7_method_15_code
def yX5_greatestStrainWith : MethodName := ⟨RX5, "greatestStrainWith", "(ILEnamelKiln$Palette;)I"⟩
abbrev cX5_heatThatMelts : ByteArray := prog_7_method_16_code
def yX5_heatThatMelts : MethodName := ⟨RX5, "heatThatMelts", "(ILEnamelKiln$Palette;)I"⟩
abbrev cX5_heatThatSpares : ByteArray := prog_7_method_17_code
def yX5_heatThatSpares : MethodName := ⟨RX5, "heatThatSpares", "(ILEnamelKiln$Palette;)I"⟩
abbrev cX5_copyFrom : ByteArray := prog_7_method_18_code
def yX5_copyFrom : MethodName := ⟨RX5, "copyFrom", "(LEnamelKiln$Plate;)V"⟩
def RX6 : String := "EnamelKiln$WishText"
def TX6 : u_T := fun k => match k with
  | 0 => ("EnamelKiln$WishText", "characters", "[C", true)
  | 1 => ("EnamelKiln$WishText", "length", "I", false)
  | 2 => ("EnamelKiln$WishText", "faultPosition", "I", false)
  | _ => ("EnamelKiln$WishText", "faultReason", "I", false)
def tyX6 : Nat → FieldType := fun k => match k with
  | 0 => .array .char
  | 1 => .int
  | 2 => .int
  | _ => .int
abbrev wsX60 : List Cond := u_ws RX6 TX6 4
theorem nmX6 : ∀ a, a < 4 → ∀ b, b < 4 → a ≠ b → (TX6 a).2.1 ≠ (TX6 b).2.1 := by decide +kernel
theorem tyX6_ok : ∀ k, k < 4 → parseFieldDescriptor (TX6 k).2.2.1 = some (tyX6 k) := by decide +kernel
abbrev cX6_init : ByteArray := prog_8_method_1_code
def yX6_init : MethodName := ⟨RX6, "<init>", "()V"⟩
abbrev cX6_append : ByteArray := prog_8_method_2_code
def yX6_append : MethodName := ⟨RX6, "append", "(C)I"⟩
abbrev cX6_hasFault : ByteArray := prog_8_method_3_code
def yX6_hasFault : MethodName := ⟨RX6, "hasFault", "()Z"⟩
abbrev cX6_lookForFault : ByteArray := prog_8_method_4_code
def yX6_lookForFault : MethodName := ⟨RX6, "lookForFault", "(I)V"⟩
abbrev cX6_reasonOf : ByteArray := prog_8_method_5_code
def yX6_reasonOf : MethodName := ⟨RX6, "reasonOf", "(CII)I"⟩
abbrev cX6_isFieldDigit : ByteArray := prog_8_method_6_code
def yX6_isFieldDigit : MethodName := ⟨RX6, "isFieldDigit", "(C)Z"⟩
abbrev cX6_isLetter : ByteArray := prog_8_method_7_code
def yX6_isLetter : MethodName := ⟨RX6, "isLetter", "(C)Z"⟩
abbrev cX6_giveTo : ByteArray := prog_8_method_8_code
def yX6_giveTo : MethodName := ⟨RX6, "giveTo", "(LEnamelKiln$Wishes;)I"⟩
def RX7 : String := "EnamelKiln$Wishes"
def TX7 : u_T := fun k => match k with
  | 0 => ("EnamelKiln$Wishes", "sizes", "[I", true)
  | _ => ("EnamelKiln$Wishes", "colors", "[I", true)
def tyX7 : Nat → FieldType := fun k => match k with
  | 0 => .array .int
  | _ => .array .int
abbrev wsX70 : List Cond := u_ws RX7 TX7 2
theorem nmX7 : ∀ a, a < 2 → ∀ b, b < 2 → a ≠ b → (TX7 a).2.1 ≠ (TX7 b).2.1 := by decide +kernel
theorem tyX7_ok : ∀ k, k < 2 → parseFieldDescriptor (TX7 k).2.2.1 = some (tyX7 k) := by decide +kernel
abbrev cX7_init : ByteArray := prog_9_method_1_code
def yX7_init : MethodName := ⟨RX7, "<init>", "()V"⟩
abbrev cX7_append : ByteArray := prog_9_method_2_code
def yX7_append : MethodName := ⟨RX7, "append", "(II)V"⟩
abbrev cX7_colorsTogether : ByteArray := prog_9_method_3_code
def yX7_colorsTogether : MethodName := ⟨RX7, "colorsTogether", "()I"⟩
abbrev cX7_timesOfColor : ByteArray := prog_9_method_4_code
def yX7_timesOfColor : MethodName := ⟨RX7, "timesOfColor", "(I)I"⟩
abbrev cX7_copyFrom : ByteArray := prog_9_method_5_code
def yX7_copyFrom : MethodName := ⟨RX7, "copyFrom", "(LEnamelKiln$Wishes;)V"⟩
def RX8 : String := "EnamelKiln"
def TX8 : u_T := fun k => match k with
  | 0 => ("EnamelKiln", "bench", "LEnamelKiln$Bench;", true)
  | 1 => ("EnamelKiln", "history", "LEnamelKiln$History;", true)
  | 2 => ("EnamelKiln", "firing", "LEnamelKiln$Firing;", true)
  | 3 => ("EnamelKiln", "trialPlate", "LEnamelKiln$Plate;", true)
  | 4 => ("EnamelKiln", "planner", "LEnamelKiln$Planner;", true)
  | 5 => ("EnamelKiln", "text", "LEnamelKiln$WishText;", true)
  | _ => ("EnamelKiln", "planIsOld", "Z", false)
def tyX8 : Nat → FieldType := fun k => match k with
  | 0 => .object "EnamelKiln$Bench"
  | 1 => .object "EnamelKiln$History"
  | 2 => .object "EnamelKiln$Firing"
  | 3 => .object "EnamelKiln$Plate"
  | 4 => .object "EnamelKiln$Planner"
  | 5 => .object "EnamelKiln$WishText"
  | _ => .boolean
abbrev wsX80 : List Cond := u_ws RX8 TX8 7
theorem nmX8 : ∀ a, a < 7 → ∀ b, b < 7 → a ≠ b → (TX8 a).2.1 ≠ (TX8 b).2.1 := by decide +kernel
theorem tyX8_ok : ∀ k, k < 7 → parseFieldDescriptor (TX8 k).2.2.1 = some (tyX8 k) := by decide +kernel
abbrev cX8_init : ByteArray := prog_1_method_1_code
def yX8_init : MethodName := ⟨RX8, "<init>", "()V"⟩
abbrev cX8_color : ByteArray := prog_1_method_2_code
def yX8_color : MethodName := ⟨RX8, "color", "(III)I"⟩
abbrev cX8_colorInfo : ByteArray := prog_1_method_3_code
def yX8_colorInfo : MethodName := ⟨RX8, "colorInfo", "(II)I"⟩
abbrev cX8_put : ByteArray := prog_1_method_4_code
def yX8_put : MethodName := ⟨RX8, "put", "(II)I"⟩
abbrev cX8_takeOff : ByteArray := prog_1_method_5_code
def yX8_takeOff : MethodName := ⟨RX8, "takeOff", "(I)I"⟩
abbrev cX8_clean : ByteArray := prog_1_method_6_code
def yX8_clean : MethodName := ⟨RX8, "clean", "()I"⟩
abbrev cX8_layer : ByteArray := prog_1_method_7_code
def yX8_layer : MethodName := ⟨RX8, "layer", "(III)I"⟩
abbrev cX8_field : ByteArray := prog_1_method_8_code
def yX8_field : MethodName := ⟨RX8, "field", "(II)I"⟩
abbrev cX8_set : ByteArray := prog_1_method_9_code
def yX8_set : MethodName := ⟨RX8, "set", "(II)I"⟩
abbrev cX8_count : ByteArray := prog_1_method_10_code
def yX8_count : MethodName := ⟨RX8, "count", "(I)I"⟩
abbrev cX8_fire : ByteArray := prog_1_method_11_code
def yX8_fire : MethodName := ⟨RX8, "fire", "(II)I"⟩
abbrev cX8_ifFired : ByteArray := prog_1_method_12_code
def yX8_ifFired : MethodName := ⟨RX8, "ifFired", "(II)I"⟩
abbrev cX8_bestHeat : ByteArray := prog_1_method_13_code
def yX8_bestHeat : MethodName := ⟨RX8, "bestHeat", "()I"⟩
abbrev cX8_wish : ByteArray := prog_1_method_14_code
def yX8_wish : MethodName := ⟨RX8, "wish", "(II)I"⟩
abbrev cX8_wished : ByteArray := prog_1_method_15_code
def yX8_wished : MethodName := ⟨RX8, "wished", "(II)I"⟩
abbrev cX8_leastFirings : ByteArray := prog_1_method_16_code
def yX8_leastFirings : MethodName := ⟨RX8, "leastFirings", "()I"⟩
abbrev cX8_planned : ByteArray := prog_1_method_17_code
def yX8_planned : MethodName := ⟨RX8, "planned", "(II)I"⟩
abbrev cX8_counter : ByteArray := prog_1_method_18_code
def yX8_counter : MethodName := ⟨RX8, "counter", "()I"⟩
abbrev cX8_undo : ByteArray := prog_1_method_19_code
def yX8_undo : MethodName := ⟨RX8, "undo", "()I"⟩
abbrev cX8_type : ByteArray := prog_1_method_20_code
def yX8_type : MethodName := ⟨RX8, "type", "(I)I"⟩
abbrev cX8_clearText : ByteArray := prog_1_method_21_code
def yX8_clearText : MethodName := ⟨RX8, "clearText", "()I"⟩
abbrev cX8_fault : ByteArray := prog_1_method_22_code
def yX8_fault : MethodName := ⟨RX8, "fault", "(I)I"⟩
abbrev cX8_read : ByteArray := prog_1_method_23_code
def yX8_read : MethodName := ⟨RX8, "read", "()I"⟩
abbrev cX8_within : ByteArray := prog_1_method_24_code
def yX8_within : MethodName := ⟨RX8, "within", "(III)Z"⟩
abbrev cX8_placeOf : ByteArray := prog_1_method_25_code
def yX8_placeOf : MethodName := ⟨RX8, "placeOf", "(II)I"⟩
abbrev cX8_isField : ByteArray := prog_1_method_26_code
def yX8_isField : MethodName := ⟨RX8, "isField", "(I)Z"⟩
abbrev cX8_isFrontField : ByteArray := prog_1_method_27_code
def yX8_isFrontField : MethodName := ⟨RX8, "isFrontField", "(I)Z"⟩
abbrev cX8_isColor : ByteArray := prog_1_method_28_code
def yX8_isColor : MethodName := ⟨RX8, "isColor", "(I)Z"⟩
abbrev cX8_tryHeat : ByteArray := prog_1_method_29_code
def yX8_tryHeat : MethodName := ⟨RX8, "tryHeat", "(I)V"⟩
abbrev cX8_bringPlanUpToDate : ByteArray := prog_1_method_30_code
def yX8_bringPlanUpToDate : MethodName := ⟨RX8, "bringPlanUpToDate", "()V"⟩
abbrev cX8_copyRow : ByteArray := prog_1_method_31_code
def yX8_copyRow : MethodName := ⟨RX8, "copyRow", "([I[I)V"⟩
def RX9 : String := "EnamelKilnModel"
def TX9 : u_T := fun k => match k with
  | 0 => ("EnamelKilnModel", "now", "[I", true)
  | 1 => ("EnamelKilnModel", "past", "[I", true)
  | 2 => ("EnamelKilnModel", "aside", "[I", true)
  | 3 => ("EnamelKilnModel", "saved", "I", false)
  | 4 => ("EnamelKilnModel", "text", "[I", true)
  | 5 => ("EnamelKilnModel", "length", "I", false)
  | 6 => ("EnamelKilnModel", "tried", "[I", true)
  | 7 => ("EnamelKilnModel", "left", "[I", true)
  | 8 => ("EnamelKilnModel", "heatOf", "I", false)
  | 9 => ("EnamelKilnModel", "faultAt", "I", false)
  | 10 => ("EnamelKilnModel", "faultWhy", "I", false)
  | _ => ("EnamelKilnModel", "readMany", "I", false)
def tyX9 : Nat → FieldType := fun k => match k with
  | 0 => .array .int
  | 1 => .array .int
  | 2 => .array .int
  | 3 => .int
  | 4 => .array .int
  | 5 => .int
  | 6 => .array .int
  | 7 => .array .int
  | 8 => .int
  | 9 => .int
  | 10 => .int
  | _ => .int
abbrev wsX90 : List Cond := u_ws RX9 TX9 12
theorem nmX9 : ∀ a, a < 12 → ∀ b, b < 12 → a ≠ b → (TX9 a).2.1 ≠ (TX9 b).2.1 := by decide +kernel
theorem tyX9_ok : ∀ k, k < 12 → parseFieldDescriptor (TX9 k).2.2.1 = some (tyX9 k) := by decide +kernel
abbrev cX9_init : ByteArray := prog_11_method_1_code
def yX9_init : MethodName := ⟨RX9, "<init>", "()V"⟩
abbrev cX9_in : ByteArray := prog_11_method_2_code
def yX9_in : MethodName := ⟨RX9, "in", "(III)Z"⟩
abbrev cX9_records : ByteArray := prog_11_method_3_code
def yX9_records : MethodName := ⟨RX9, "records", "()V"⟩
abbrev cX9_undo : ByteArray := prog_11_method_4_code
def yX9_undo : MethodName := ⟨RX9, "undo", "()I"⟩
abbrev cX9_color : ByteArray := prog_11_method_5_code
def yX9_color : MethodName := ⟨RX9, "color", "(III)I"⟩
abbrev cX9_isColor : ByteArray := prog_11_method_6_code
def yX9_isColor : MethodName := ⟨RX9, "isColor", "(I)Z"⟩
abbrev cX9_melting : ByteArray := prog_11_method_7_code
def yX9_melting : MethodName := ⟨RX9, "melting", "(I)I"⟩
abbrev cX9_burning : ByteArray := prog_11_method_8_code
def yX9_burning : MethodName := ⟨RX9, "burning", "(I)I"⟩
abbrev cX9_pullOf : ByteArray := prog_11_method_9_code
def yX9_pullOf : MethodName := ⟨RX9, "pullOf", "(I)I"⟩
abbrev cX9_onPlate : ByteArray := prog_11_method_10_code
def yX9_onPlate : MethodName := ⟨RX9, "onPlate", "(I)I"⟩
abbrev cX9_inWishes : ByteArray := prog_11_method_11_code
def yX9_inWishes : MethodName := ⟨RX9, "inWishes", "(I)I"⟩
abbrev cX9_colorInfo : ByteArray := prog_11_method_12_code
def yX9_colorInfo : MethodName := ⟨RX9, "colorInfo", "(II)I"⟩
abbrev cX9_isField : ByteArray := prog_11_method_13_code
def yX9_isField : MethodName := ⟨RX9, "isField", "(I)Z"⟩
abbrev cX9_fieldAt : ByteArray := prog_11_method_14_code
def yX9_fieldAt : MethodName := ⟨RX9, "fieldAt", "(I)I"⟩
abbrev cX9_layers : ByteArray := prog_11_method_15_code
def yX9_layers : MethodName := ⟨RX9, "layers", "(I)I"⟩
abbrev cX9_layerAt : ByteArray := prog_11_method_16_code
def yX9_layerAt : MethodName := ⟨RX9, "layerAt", "(II)I"⟩
abbrev cX9_of : ByteArray := prog_11_method_17_code
def yX9_of : MethodName := ⟨RX9, "of", "(III)I"⟩
abbrev cX9_layersWith : ByteArray := prog_11_method_18_code
def yX9_layersWith : MethodName := ⟨RX9, "layersWith", "(III)I"⟩
abbrev cX9_put : ByteArray := prog_11_method_19_code
def yX9_put : MethodName := ⟨RX9, "put", "(II)I"⟩
abbrev cX9_takeOff : ByteArray := prog_11_method_20_code
def yX9_takeOff : MethodName := ⟨RX9, "takeOff", "(I)I"⟩
abbrev cX9_allLayers : ByteArray := prog_11_method_21_code
def yX9_allLayers : MethodName := ⟨RX9, "allLayers", "(II)I"⟩
abbrev cX9_clean : ByteArray := prog_11_method_22_code
def yX9_clean : MethodName := ⟨RX9, "clean", "()I"⟩
abbrev cX9_layer : ByteArray := prog_11_method_23_code
def yX9_layer : MethodName := ⟨RX9, "layer", "(III)I"⟩
abbrev cX9_pull : ByteArray := prog_11_method_24_code
def yX9_pull : MethodName := ⟨RX9, "pull", "(I)I"⟩
abbrev cX9_strain : ByteArray := prog_11_method_25_code
def yX9_strain : MethodName := ⟨RX9, "strain", "(II)I"⟩
abbrev cX9_greatestMelting : ByteArray := prog_11_method_26_code
def yX9_greatestMelting : MethodName := ⟨RX9, "greatestMelting", "(I)I"⟩
abbrev cX9_leastBurning : ByteArray := prog_11_method_27_code
def yX9_leastBurning : MethodName := ⟨RX9, "leastBurning", "(I)I"⟩
abbrev cX9_field : ByteArray := prog_11_method_28_code
def yX9_field : MethodName := ⟨RX9, "field", "(II)I"⟩
abbrev cX9_isSetting : ByteArray := prog_11_method_29_code
def yX9_isSetting : MethodName := ⟨RX9, "isSetting", "(II)Z"⟩
abbrev cX9_set : ByteArray := prog_11_method_30_code
def yX9_set : MethodName := ⟨RX9, "set", "(II)I"⟩
abbrev cX9_crackedOnes : ByteArray := prog_11_method_31_code
def yX9_crackedOnes : MethodName := ⟨RX9, "crackedOnes", "()I"⟩
abbrev cX9_wishedOnes : ByteArray := prog_11_method_32_code
def yX9_wishedOnes : MethodName := ⟨RX9, "wishedOnes", "()I"⟩
abbrev cX9_count : ByteArray := prog_11_method_33_code
def yX9_count : MethodName := ⟨RX9, "count", "(I)I"⟩
abbrev cX9_becomes : ByteArray := prog_11_method_34_code
def yX9_becomes : MethodName := ⟨RX9, "becomes", "(III)Z"⟩
abbrev cX9_fires : ByteArray := prog_11_method_35_code
def yX9_fires : MethodName := ⟨RX9, "fires", "(II)V"⟩
abbrev cX9_isHeat : ByteArray := prog_11_method_36_code
def yX9_isHeat : MethodName := ⟨RX9, "isHeat", "(I)Z"⟩
abbrev cX9_fire : ByteArray := prog_11_method_37_code
def yX9_fire : MethodName := ⟨RX9, "fire", "(II)I"⟩
abbrev cX9_tries : ByteArray := prog_11_method_38_code
def yX9_tries : MethodName := ⟨RX9, "tries", "(I)V"⟩
abbrev cX9_ifFired : ByteArray := prog_11_method_39_code
def yX9_ifFired : MethodName := ⟨RX9, "ifFired", "(II)I"⟩
abbrev cX9_bestHeat : ByteArray := prog_11_method_40_code
def yX9_bestHeat : MethodName := ⟨RX9, "bestHeat", "()I"⟩
abbrev cX9_isFront : ByteArray := prog_11_method_41_code
def yX9_isFront : MethodName := ⟨RX9, "isFront", "(I)Z"⟩
abbrev cX9_wish : ByteArray := prog_11_method_42_code
def yX9_wish : MethodName := ⟨RX9, "wish", "(II)I"⟩
abbrev cX9_wished : ByteArray := prog_11_method_43_code
def yX9_wished : MethodName := ⟨RX9, "wished", "(II)I"⟩
abbrev cX9_digit : ByteArray := prog_11_method_44_code
def yX9_digit : MethodName := ⟨RX9, "digit", "(II)I"⟩
abbrev cX9_cap : ByteArray := prog_11_method_45_code
def yX9_cap : MethodName := ⟨RX9, "cap", "(I)I"⟩
abbrev cX9_behind : ByteArray := prog_11_method_46_code
def yX9_behind : MethodName := ⟨RX9, "behind", "(III)I"⟩
abbrev cX9_isWithin : ByteArray := prog_11_method_47_code
def yX9_isWithin : MethodName := ⟨RX9, "isWithin", "(I)Z"⟩
abbrev cX9_plans : ByteArray := prog_11_method_48_code
def yX9_plans : MethodName := ⟨RX9, "plans", "()V"⟩
abbrev cX9_leastFirings : ByteArray := prog_11_method_49_code
def yX9_leastFirings : MethodName := ⟨RX9, "leastFirings", "()I"⟩
abbrev cX9_planned : ByteArray := prog_11_method_50_code
def yX9_planned : MethodName := ⟨RX9, "planned", "(II)I"⟩
abbrev cX9_counter : ByteArray := prog_11_method_51_code
def yX9_counter : MethodName := ⟨RX9, "counter", "()I"⟩
abbrev cX9_type : ByteArray := prog_11_method_52_code
def yX9_type : MethodName := ⟨RX9, "type", "(I)I"⟩
abbrev cX9_clearText : ByteArray := prog_11_method_53_code
def yX9_clearText : MethodName := ⟨RX9, "clearText", "()I"⟩
abbrev cX9_reads : ByteArray := prog_11_method_54_code
def yX9_reads : MethodName := ⟨RX9, "reads", "(Z)Z"⟩
abbrev cX9_fault : ByteArray := prog_11_method_55_code
def yX9_fault : MethodName := ⟨RX9, "fault", "(I)I"⟩
abbrev cX9_read : ByteArray := prog_11_method_56_code
def yX9_read : MethodName := ⟨RX9, "read", "()I"⟩
def RJ9 : String := "java/lang/Math"
def TJ9 : u_T := fun k => match k with
  | _ => ("", "", "", false)
def tyJ9 : Nat → FieldType := fun k => match k with
  | _ => .int
abbrev wsJ90 : List Cond := u_ws RJ9 TJ9 0
theorem nmJ9 : ∀ a, a < 0 → ∀ b, b < 0 → a ≠ b → (TJ9 a).2.1 ≠ (TJ9 b).2.1 := by decide +kernel
theorem tyJ9_ok : ∀ k, k < 0 → parseFieldDescriptor (TJ9 k).2.2.1 = some (tyJ9 k) := by decide +kernel
abbrev cJ9_abs_0f7a4 : ByteArray := prog_12_method_59_code
def yJ9_abs_0f7a4 : MethodName := ⟨RJ9, "abs", "(I)I"⟩
abbrev cJ9_max_7cf53 : ByteArray := prog_12_method_65_code
def yJ9_max_7cf53 : MethodName := ⟨RJ9, "max", "(II)I"⟩
abbrev cJ9_min_7cf53 : ByteArray := prog_12_method_69_code
def yJ9_min_7cf53 : MethodName := ⟨RJ9, "min", "(II)I"⟩
def RJ10 : String := "java/lang/System"
def TJ10 : u_T := fun k => match k with
  | _ => ("", "", "", false)
def tyJ10 : Nat → FieldType := fun k => match k with
  | _ => .int
abbrev wsJ100 : List Cond := u_ws RJ10 TJ10 0
theorem nmJ10 : ∀ a, a < 0 → ∀ b, b < 0 → a ≠ b → (TJ10 a).2.1 ≠ (TJ10 b).2.1 := by decide +kernel
theorem tyJ10_ok : ∀ k, k < 0 → parseFieldDescriptor (TJ10 k).2.2.1 = some (tyJ10 k) := by decide +kernel
def RL : String := "EnamelKilnLaw"
abbrev cL_law : ByteArray := code
def yL_law : MethodName := ⟨RL, "law", "([I)Z"⟩
abbrev vwCl : List vw_C := [(RX0, TX0, 5), (RX1, TX1, 6), (RX2, TX2, 3), (RX3, TX3, 4), (RX4, TX4, 8), (RX5, TX5, 5), (RX6, TX6, 4), (RX7, TX7, 2), (RX8, TX8, 7), (RX9, TX9, 12)]
end
section
theorem dX0_init_0 : decode cX0_init 0 = .ok (.aload_n 0, 1) := by decide +kernel
theorem dX0_init_1 : decode cX0_init 1 = .ok (.invokespecial 3, 3) := by decide +kernel
theorem dX0_init_4 : decode cX0_init 4 = .ok (.aload_n 0, 1) := by decide +kernel
theorem dX0_init_5 : decode cX0_init 5 = .ok (.new 9, 3) := by decide +kernel
theorem dX0_init_8 : decode cX0_init 8 = .ok (.dup, 1) := by decide +kernel
theorem dX0_init_9 : decode cX0_init 9 = .ok (.invokespecial 11, 3) := by decide +kernel
theorem dX0_init_12 : decode cX0_init 12 = .ok (.putfield 12, 3) := by decide +kernel
theorem dX0_init_15 : decode cX0_init 15 = .ok (.aload_n 0, 1) := by decide +kernel
theorem dX0_init_16 : decode cX0_init 16 = .ok (.new 18, 3) := by decide +kernel
theorem dX0_init_19 : decode cX0_init 19 = .ok (.dup, 1) := by decide +kernel
theorem dX0_init_20 : decode cX0_init 20 = .ok (.invokespecial 20, 3) := by decide +kernel
theorem dX0_init_23 : decode cX0_init 23 = .ok (.putfield 21, 3) := by decide +kernel
theorem dX0_init_26 : decode cX0_init 26 = .ok (.aload_n 0, 1) := by decide +kernel
theorem dX0_init_27 : decode cX0_init 27 = .ok (.new 25, 3) := by decide +kernel
theorem dX0_init_30 : decode cX0_init 30 = .ok (.dup, 1) := by decide +kernel
theorem dX0_init_31 : decode cX0_init 31 = .ok (.invokespecial 27, 3) := by decide +kernel
theorem dX0_init_34 : decode cX0_init 34 = .ok (.putfield 28, 3) := by decide +kernel
theorem dX0_init_37 : decode cX0_init 37 = .ok (.aload_n 0, 1) := by decide +kernel
theorem dX0_init_38 : decode cX0_init 38 = .ok (.iconst 3, 1) := by decide +kernel
theorem dX0_init_39 : decode cX0_init 39 = .ok (.newarray .int, 2) := by decide +kernel
theorem dX0_init_41 : decode cX0_init 41 = .ok (.dup, 1) := by decide +kernel
theorem dX0_init_42 : decode cX0_init 42 = .ok (.iconst 0, 1) := by decide +kernel
theorem dX0_init_43 : decode cX0_init 43 = .ok (.iconst 3, 1) := by decide +kernel
theorem dX0_init_44 : decode cX0_init 44 = .ok (.iastore, 1) := by decide +kernel
theorem dX0_init_45 : decode cX0_init 45 = .ok (.dup, 1) := by decide +kernel
theorem dX0_init_46 : decode cX0_init 46 = .ok (.iconst 1, 1) := by decide +kernel
theorem dX0_init_47 : decode cX0_init 47 = .ok (.iconst 2, 1) := by decide +kernel
theorem dX0_init_48 : decode cX0_init 48 = .ok (.iastore, 1) := by decide +kernel
theorem dX0_init_49 : decode cX0_init 49 = .ok (.dup, 1) := by decide +kernel
theorem dX0_init_50 : decode cX0_init 50 = .ok (.iconst 2, 1) := by decide +kernel
theorem dX0_init_51 : decode cX0_init 51 = .ok (.bipush 120, 2) := by decide +kernel
theorem dX0_init_53 : decode cX0_init 53 = .ok (.iastore, 1) := by decide +kernel
theorem dX0_init_54 : decode cX0_init 54 = .ok (.putfield 32, 3) := by decide +kernel
theorem dX0_init_57 : decode cX0_init 57 = .ok (.aload_n 0, 1) := by decide +kernel
theorem dX0_init_58 : decode cX0_init 58 = .ok (.bipush 9, 2) := by decide +kernel
theorem dX0_init_60 : decode cX0_init 60 = .ok (.newarray .int, 2) := by decide +kernel
theorem dX0_init_62 : decode cX0_init 62 = .ok (.putfield 36, 3) := by decide +kernel
theorem dX0_init_65 : decode cX0_init 65 = .ok (.return_, 1) := by decide +kernel
theorem dX0_copyFrom_0 : decode cX0_copyFrom 0 = .ok (.aload_n 0, 1) := by decide +kernel
theorem dX0_copyFrom_1 : decode cX0_copyFrom 1 = .ok (.getfield 12, 3) := by decide +kernel
theorem dX0_copyFrom_4 : decode cX0_copyFrom 4 = .ok (.aload_n 1, 1) := by decide +kernel
theorem dX0_copyFrom_5 : decode cX0_copyFrom 5 = .ok (.getfield 12, 3) := by decide +kernel
theorem dX0_copyFrom_8 : decode cX0_copyFrom 8 = .ok (.invokevirtual 39, 3) := by decide +kernel
theorem dX0_copyFrom_11 : decode cX0_copyFrom 11 = .ok (.aload_n 0, 1) := by decide +kernel
theorem dX0_copyFrom_12 : decode cX0_copyFrom 12 = .ok (.getfield 21, 3) := by decide +kernel
theorem dX0_copyFrom_15 : decode cX0_copyFrom 15 = .ok (.aload_n 1, 1) := by decide +kernel
theorem dX0_copyFrom_16 : decode cX0_copyFrom 16 = .ok (.getfield 21, 3) := by decide +kernel
theorem dX0_copyFrom_19 : decode cX0_copyFrom 19 = .ok (.invokevirtual 43, 3) := by decide +kernel
theorem dX0_copyFrom_22 : decode cX0_copyFrom 22 = .ok (.aload_n 0, 1) := by decide +kernel
theorem dX0_copyFrom_23 : decode cX0_copyFrom 23 = .ok (.getfield 28, 3) := by decide +kernel
theorem dX0_copyFrom_26 : decode cX0_copyFrom 26 = .ok (.aload_n 1, 1) := by decide +kernel
theorem dX0_copyFrom_27 : decode cX0_copyFrom 27 = .ok (.getfield 28, 3) := by decide +kernel
theorem dX0_copyFrom_30 : decode cX0_copyFrom 30 = .ok (.invokevirtual 46, 3) := by decide +kernel
theorem dX0_copyFrom_33 : decode cX0_copyFrom 33 = .ok (.aload_n 1, 1) := by decide +kernel
theorem dX0_copyFrom_34 : decode cX0_copyFrom 34 = .ok (.getfield 32, 3) := by decide +kernel
theorem dX0_copyFrom_37 : decode cX0_copyFrom 37 = .ok (.aload_n 0, 1) := by decide +kernel
theorem dX0_copyFrom_38 : decode cX0_copyFrom 38 = .ok (.getfield 32, 3) := by decide +kernel
theorem dX0_copyFrom_41 : decode cX0_copyFrom 41 = .ok (.invokestatic 49, 3) := by decide +kernel
theorem dX0_copyFrom_44 : decode cX0_copyFrom 44 = .ok (.aload_n 1, 1) := by decide +kernel
theorem dX0_copyFrom_45 : decode cX0_copyFrom 45 = .ok (.getfield 36, 3) := by decide +kernel
theorem dX0_copyFrom_48 : decode cX0_copyFrom 48 = .ok (.aload_n 0, 1) := by decide +kernel
theorem dX0_copyFrom_49 : decode cX0_copyFrom 49 = .ok (.getfield 36, 3) := by decide +kernel
theorem dX0_copyFrom_52 : decode cX0_copyFrom 52 = .ok (.invokestatic 49, 3) := by decide +kernel
theorem dX0_copyFrom_55 : decode cX0_copyFrom 55 = .ok (.return_, 1) := by decide +kernel
theorem dX1_init_0 : decode cX1_init 0 = .ok (.aload_n 0, 1) := by decide +kernel
theorem dX1_init_1 : decode cX1_init 1 = .ok (.invokespecial 3, 3) := by decide +kernel
theorem dX1_init_4 : decode cX1_init 4 = .ok (.aload_n 0, 1) := by decide +kernel
theorem dX1_init_5 : decode cX1_init 5 = .ok (.bipush 21, 2) := by decide +kernel
theorem dX1_init_7 : decode cX1_init 7 = .ok (.newarray .boolean, 2) := by decide +kernel
theorem dX1_init_9 : decode cX1_init 9 = .ok (.putfield 9, 3) := by decide +kernel
theorem dX1_init_12 : decode cX1_init 12 = .ok (.aload_n 0, 1) := by decide +kernel
theorem dX1_init_13 : decode cX1_init 13 = .ok (.iconst 0, 1) := by decide +kernel
theorem dX1_init_14 : decode cX1_init 14 = .ok (.putfield 15, 3) := by decide +kernel
theorem dX1_init_17 : decode cX1_init 17 = .ok (.aload_n 0, 1) := by decide +kernel
theorem dX1_init_18 : decode cX1_init 18 = .ok (.iconst 0, 1) := by decide +kernel
theorem dX1_init_19 : decode cX1_init 19 = .ok (.putfield 19, 3) := by decide +kernel
theorem dX1_init_22 : decode cX1_init 22 = .ok (.aload_n 0, 1) := by decide +kernel
theorem dX1_init_23 : decode cX1_init 23 = .ok (.iconst 0, 1) := by decide +kernel
theorem dX1_init_24 : decode cX1_init 24 = .ok (.putfield 22, 3) := by decide +kernel
theorem dX1_init_27 : decode cX1_init 27 = .ok (.aload_n 0, 1) := by decide +kernel
theorem dX1_init_28 : decode cX1_init 28 = .ok (.iconst 0, 1) := by decide +kernel
theorem dX1_init_29 : decode cX1_init 29 = .ok (.putfield 25, 3) := by decide +kernel
theorem dX1_init_32 : decode cX1_init 32 = .ok (.aload_n 0, 1) := by decide +kernel
theorem dX1_init_33 : decode cX1_init 33 = .ok (.iconst 0, 1) := by decide +kernel
theorem dX1_init_34 : decode cX1_init 34 = .ok (.putfield 28, 3) := by decide +kernel
theorem dX1_init_37 : decode cX1_init 37 = .ok (.return_, 1) := by decide +kernel
theorem dX1_happen_0 : decode cX1_happen 0 = .ok (.aload_n 0, 1) := by decide +kernel
theorem dX1_happen_1 : decode cX1_happen 1 = .ok (.iconst 0, 1) := by decide +kernel
theorem dX1_happen_2 : decode cX1_happen 2 = .ok (.putfield 15, 3) := by decide +kernel
theorem dX1_happen_5 : decode cX1_happen 5 = .ok (.aload_n 0, 1) := by decide +kernel
theorem dX1_happen_6 : decode cX1_happen 6 = .ok (.iconst 0, 1) := by decide +kernel
theorem dX1_happen_7 : decode cX1_happen 7 = .ok (.putfield 19, 3) := by decide +kernel
theorem dX1_happen_10 : decode cX1_happen 10 = .ok (.aload_n 0, 1) := by decide +kernel
theorem dX1_happen_11 : decode cX1_happen 11 = .ok (.iconst 0, 1) := by decide +kernel
theorem dX1_happen_12 : decode cX1_happen 12 = .ok (.putfield 22, 3) := by decide +kernel
theorem dX1_happen_15 : decode cX1_happen 15 = .ok (.aload_n 0, 1) := by decide +kernel
theorem dX1_happen_16 : decode cX1_happen 16 = .ok (.iconst 0, 1) := by decide +kernel
theorem dX1_happen_17 : decode cX1_happen 17 = .ok (.putfield 25, 3) := by decide +kernel
theorem dX1_happen_20 : decode cX1_happen 20 = .ok (.aload_n 0, 1) := by decide +kernel
theorem dX1_happen_21 : decode cX1_happen 21 = .ok (.iconst 0, 1) := by decide +kernel
theorem dX1_happen_22 : decode cX1_happen 22 = .ok (.putfield 28, 3) := by decide +kernel
theorem dX1_happen_25 : decode cX1_happen 25 = .ok (.iload 4, 2) := by decide +kernel
theorem dX1_happen_27 : decode cX1_happen 27 = .ok (.aload_n 1, 1) := by decide +kernel
theorem dX1_happen_28 : decode cX1_happen 28 = .ok (.getfield 31, 3) := by decide +kernel
theorem dX1_happen_31 : decode cX1_happen 31 = .ok (.iconst 0, 1) := by decide +kernel
theorem dX1_happen_32 : decode cX1_happen 32 = .ok (.iaload, 1) := by decide +kernel
theorem dX1_happen_33 : decode cX1_happen 33 = .ok (.if_icmp .lt 7, 3) := by decide +kernel
theorem dX1_happen_36 : decode cX1_happen 36 = .ok (.iconst 1, 1) := by decide +kernel
theorem dX1_happen_37 : decode cX1_happen 37 = .ok (.goto 4, 3) := by decide +kernel
theorem dX1_happen_40 : decode cX1_happen 40 = .ok (.iconst 0, 1) := by decide +kernel
theorem dX1_happen_41 : decode cX1_happen 41 = .ok (.istore 5, 2) := by decide +kernel
theorem dX1_happen_43 : decode cX1_happen 43 = .ok (.iconst 0, 1) := by decide +kernel
theorem dX1_happen_44 : decode cX1_happen 44 = .ok (.istore 6, 2) := by decide +kernel
theorem dX1_happen_46 : decode cX1_happen 46 = .ok (.iload 6, 2) := by decide +kernel
theorem dX1_happen_48 : decode cX1_happen 48 = .ok (.bipush 7, 2) := by decide +kernel
theorem dX1_happen_50 : decode cX1_happen 50 = .ok (.if_icmp .ge 46, 3) := by decide +kernel
theorem dX1_happen_53 : decode cX1_happen 53 = .ok (.iconst 0, 1) := by decide +kernel
theorem dX1_happen_54 : decode cX1_happen 54 = .ok (.istore 7, 2) := by decide +kernel
theorem dX1_happen_56 : decode cX1_happen 56 = .ok (.iload 7, 2) := by decide +kernel
theorem dX1_happen_58 : decode cX1_happen 58 = .ok (.aload_n 2, 1) := by decide +kernel
theorem dX1_happen_59 : decode cX1_happen 59 = .ok (.getfield 37, 3) := by decide +kernel
theorem dX1_happen_62 : decode cX1_happen 62 = .ok (.iload 6, 2) := by decide +kernel
theorem dX1_happen_64 : decode cX1_happen 64 = .ok (.iaload, 1) := by decide +kernel
theorem dX1_happen_65 : decode cX1_happen 65 = .ok (.if_icmp .ge 25, 3) := by decide +kernel
theorem dX1_happen_68 : decode cX1_happen 68 = .ok (.aload_n 0, 1) := by decide +kernel
theorem dX1_happen_69 : decode cX1_happen 69 = .ok (.aload_n 1, 1) := by decide +kernel
theorem dX1_happen_70 : decode cX1_happen 70 = .ok (.aload_n 2, 1) := by decide +kernel
theorem dX1_happen_71 : decode cX1_happen 71 = .ok (.iload 6, 2) := by decide +kernel
theorem dX1_happen_73 : decode cX1_happen 73 = .ok (.iload 7, 2) := by decide +kernel
theorem dX1_happen_75 : decode cX1_happen 75 = .ok (.invokestatic 42, 3) := by decide +kernel
theorem dX1_happen_78 : decode cX1_happen 78 = .ok (.iload_n 3, 1) := by decide +kernel
theorem dX1_happen_79 : decode cX1_happen 79 = .ok (.iload 5, 2) := by decide +kernel
theorem dX1_happen_81 : decode cX1_happen 81 = .ok (.invokevirtual 46, 3) := by decide +kernel
theorem dX1_happen_84 : decode cX1_happen 84 = .ok (.iinc 7 1, 3) := by decide +kernel
theorem dX1_happen_87 : decode cX1_happen 87 = .ok (.goto (-31), 3) := by decide +kernel
theorem dX1_happen_90 : decode cX1_happen 90 = .ok (.iinc 6 1, 3) := by decide +kernel
theorem dX1_happen_93 : decode cX1_happen 93 = .ok (.goto (-47), 3) := by decide +kernel
theorem dX1_happen_96 : decode cX1_happen 96 = .ok (.iconst 0, 1) := by decide +kernel
theorem dX1_happen_97 : decode cX1_happen 97 = .ok (.istore 6, 2) := by decide +kernel
theorem dX1_happen_99 : decode cX1_happen 99 = .ok (.iload 6, 2) := by decide +kernel
theorem dX1_happen_101 : decode cX1_happen 101 = .ok (.bipush 6, 2) := by decide +kernel
theorem dX1_happen_103 : decode cX1_happen 103 = .ok (.if_icmp .ge 24, 3) := by decide +kernel
theorem dX1_happen_106 : decode cX1_happen 106 = .ok (.aload_n 0, 1) := by decide +kernel
theorem dX1_happen_107 : decode cX1_happen 107 = .ok (.aload_n 2, 1) := by decide +kernel
theorem dX1_happen_108 : decode cX1_happen 108 = .ok (.iload 6, 2) := by decide +kernel
theorem dX1_happen_110 : decode cX1_happen 110 = .ok (.invokevirtual 50, 3) := by decide +kernel
theorem dX1_happen_113 : decode cX1_happen 113 = .ok (.aload_n 0, 1) := by decide +kernel
theorem dX1_happen_114 : decode cX1_happen 114 = .ok (.aload_n 1, 1) := by decide +kernel
theorem dX1_happen_115 : decode cX1_happen 115 = .ok (.aload_n 2, 1) := by decide +kernel
theorem dX1_happen_116 : decode cX1_happen 116 = .ok (.iload 6, 2) := by decide +kernel
theorem dX1_happen_118 : decode cX1_happen 118 = .ok (.invokevirtual 54, 3) := by decide +kernel
theorem dX1_happen_121 : decode cX1_happen 121 = .ok (.iinc 6 1, 3) := by decide +kernel
theorem dX1_happen_124 : decode cX1_happen 124 = .ok (.goto (-25), 3) := by decide +kernel
theorem dX1_happen_127 : decode cX1_happen 127 = .ok (.return_, 1) := by decide +kernel
theorem dX1_heatLayer_0 : decode cX1_heatLayer 0 = .ok (.aload_n 2, 1) := by decide +kernel
theorem dX1_heatLayer_1 : decode cX1_heatLayer 1 = .ok (.getfield 58, 3) := by decide +kernel
theorem dX1_heatLayer_4 : decode cX1_heatLayer 4 = .ok (.iload_n 3, 1) := by decide +kernel
theorem dX1_heatLayer_5 : decode cX1_heatLayer 5 = .ok (.iaload, 1) := by decide +kernel
theorem dX1_heatLayer_6 : decode cX1_heatLayer 6 = .ok (.istore 6, 2) := by decide +kernel
theorem dX1_heatLayer_8 : decode cX1_heatLayer 8 = .ok (.aload_n 1, 1) := by decide +kernel
theorem dX1_heatLayer_9 : decode cX1_heatLayer 9 = .ok (.getfield 61, 3) := by decide +kernel
theorem dX1_heatLayer_12 : decode cX1_heatLayer 12 = .ok (.getfield 65, 3) := by decide +kernel
theorem dX1_heatLayer_15 : decode cX1_heatLayer 15 = .ok (.iload 6, 2) := by decide +kernel
theorem dX1_heatLayer_17 : decode cX1_heatLayer 17 = .ok (.iaload, 1) := by decide +kernel
theorem dX1_heatLayer_18 : decode cX1_heatLayer 18 = .ok (.istore 7, 2) := by decide +kernel
theorem dX1_heatLayer_20 : decode cX1_heatLayer 20 = .ok (.aload_n 0, 1) := by decide +kernel
theorem dX1_heatLayer_21 : decode cX1_heatLayer 21 = .ok (.getfield 9, 3) := by decide +kernel
theorem dX1_heatLayer_24 : decode cX1_heatLayer 24 = .ok (.iload_n 3, 1) := by decide +kernel
theorem dX1_heatLayer_25 : decode cX1_heatLayer 25 = .ok (.iconst 0, 1) := by decide +kernel
theorem dX1_heatLayer_26 : decode cX1_heatLayer 26 = .ok (.bastore, 1) := by decide +kernel
theorem dX1_heatLayer_27 : decode cX1_heatLayer 27 = .ok (.aload_n 2, 1) := by decide +kernel
theorem dX1_heatLayer_28 : decode cX1_heatLayer 28 = .ok (.getfield 70, 3) := by decide +kernel
theorem dX1_heatLayer_31 : decode cX1_heatLayer 31 = .ok (.iload_n 3, 1) := by decide +kernel
theorem dX1_heatLayer_32 : decode cX1_heatLayer 32 = .ok (.iaload, 1) := by decide +kernel
theorem dX1_heatLayer_33 : decode cX1_heatLayer 33 = .ok (.iconst 4, 1) := by decide +kernel
theorem dX1_heatLayer_34 : decode cX1_heatLayer 34 = .ok (.if_icmp .ne 4, 3) := by decide +kernel
theorem dX1_heatLayer_37 : decode cX1_heatLayer 37 = .ok (.return_, 1) := by decide +kernel
theorem dX1_heatLayer_38 : decode cX1_heatLayer 38 = .ok (.iload 4, 2) := by decide +kernel
theorem dX1_heatLayer_40 : decode cX1_heatLayer 40 = .ok (.aload_n 1, 1) := by decide +kernel
theorem dX1_heatLayer_41 : decode cX1_heatLayer 41 = .ok (.getfield 61, 3) := by decide +kernel
theorem dX1_heatLayer_44 : decode cX1_heatLayer 44 = .ok (.getfield 73, 3) := by decide +kernel
theorem dX1_heatLayer_47 : decode cX1_heatLayer 47 = .ok (.iload 6, 2) := by decide +kernel
theorem dX1_heatLayer_49 : decode cX1_heatLayer 49 = .ok (.iaload, 1) := by decide +kernel
theorem dX1_heatLayer_50 : decode cX1_heatLayer 50 = .ok (.if_icmp .le 23, 3) := by decide +kernel
theorem dX1_heatLayer_53 : decode cX1_heatLayer 53 = .ok (.aload_n 2, 1) := by decide +kernel
theorem dX1_heatLayer_54 : decode cX1_heatLayer 54 = .ok (.getfield 70, 3) := by decide +kernel
theorem dX1_heatLayer_57 : decode cX1_heatLayer 57 = .ok (.iload_n 3, 1) := by decide +kernel
theorem dX1_heatLayer_58 : decode cX1_heatLayer 58 = .ok (.iconst 4, 1) := by decide +kernel
theorem dX1_heatLayer_59 : decode cX1_heatLayer 59 = .ok (.iastore, 1) := by decide +kernel
theorem dX1_heatLayer_60 : decode cX1_heatLayer 60 = .ok (.aload_n 0, 1) := by decide +kernel
theorem dX1_heatLayer_61 : decode cX1_heatLayer 61 = .ok (.dup, 1) := by decide +kernel
theorem dX1_heatLayer_62 : decode cX1_heatLayer 62 = .ok (.getfield 19, 3) := by decide +kernel
theorem dX1_heatLayer_65 : decode cX1_heatLayer 65 = .ok (.iconst 1, 1) := by decide +kernel
theorem dX1_heatLayer_66 : decode cX1_heatLayer 66 = .ok (.iadd, 1) := by decide +kernel
theorem dX1_heatLayer_67 : decode cX1_heatLayer 67 = .ok (.putfield 19, 3) := by decide +kernel
theorem dX1_heatLayer_70 : decode cX1_heatLayer 70 = .ok (.goto 92, 3) := by decide +kernel
theorem dX1_heatLayer_73 : decode cX1_heatLayer 73 = .ok (.aload_n 2, 1) := by decide +kernel
theorem dX1_heatLayer_74 : decode cX1_heatLayer 74 = .ok (.iload_n 3, 1) := by decide +kernel
theorem dX1_heatLayer_75 : decode cX1_heatLayer 75 = .ok (.invokevirtual 76, 3) := by decide +kernel
theorem dX1_heatLayer_78 : decode cX1_heatLayer 78 = .ok (.ifCond .eq 28, 3) := by decide +kernel
theorem dX1_heatLayer_81 : decode cX1_heatLayer 81 = .ok (.iload 4, 2) := by decide +kernel
theorem dX1_heatLayer_83 : decode cX1_heatLayer 83 = .ok (.iload 7, 2) := by decide +kernel
theorem dX1_heatLayer_85 : decode cX1_heatLayer 85 = .ok (.bipush 20, 2) := by decide +kernel
theorem dX1_heatLayer_87 : decode cX1_heatLayer 87 = .ok (.isub, 1) := by decide +kernel
theorem dX1_heatLayer_88 : decode cX1_heatLayer 88 = .ok (.if_icmp .lt 74, 3) := by decide +kernel
theorem dX1_heatLayer_91 : decode cX1_heatLayer 91 = .ok (.aload_n 0, 1) := by decide +kernel
theorem dX1_heatLayer_92 : decode cX1_heatLayer 92 = .ok (.aload_n 2, 1) := by decide +kernel
theorem dX1_heatLayer_93 : decode cX1_heatLayer 93 = .ok (.iload_n 3, 1) := by decide +kernel
theorem dX1_heatLayer_94 : decode cX1_heatLayer 94 = .ok (.aload_n 1, 1) := by decide +kernel
theorem dX1_heatLayer_95 : decode cX1_heatLayer 95 = .ok (.getfield 31, 3) := by decide +kernel
theorem dX1_heatLayer_98 : decode cX1_heatLayer 98 = .ok (.iconst 1, 1) := by decide +kernel
theorem dX1_heatLayer_99 : decode cX1_heatLayer 99 = .ok (.iaload, 1) := by decide +kernel
theorem dX1_heatLayer_100 : decode cX1_heatLayer 100 = .ok (.invokevirtual 80, 3) := by decide +kernel
theorem dX1_heatLayer_103 : decode cX1_heatLayer 103 = .ok (.goto 59, 3) := by decide +kernel
theorem dX1_heatLayer_106 : decode cX1_heatLayer 106 = .ok (.iload 4, 2) := by decide +kernel
theorem dX1_heatLayer_108 : decode cX1_heatLayer 108 = .ok (.iload 7, 2) := by decide +kernel
theorem dX1_heatLayer_110 : decode cX1_heatLayer 110 = .ok (.if_icmp .lt 35, 3) := by decide +kernel
theorem dX1_heatLayer_113 : decode cX1_heatLayer 113 = .ok (.iload 5, 2) := by decide +kernel
theorem dX1_heatLayer_115 : decode cX1_heatLayer 115 = .ok (.ifCond .eq 30, 3) := by decide +kernel
theorem dX1_heatLayer_118 : decode cX1_heatLayer 118 = .ok (.aload_n 2, 1) := by decide +kernel
theorem dX1_heatLayer_119 : decode cX1_heatLayer 119 = .ok (.getfield 70, 3) := by decide +kernel
theorem dX1_heatLayer_122 : decode cX1_heatLayer 122 = .ok (.iload_n 3, 1) := by decide +kernel
theorem dX1_heatLayer_123 : decode cX1_heatLayer 123 = .ok (.iconst 2, 1) := by decide +kernel
theorem dX1_heatLayer_124 : decode cX1_heatLayer 124 = .ok (.iastore, 1) := by decide +kernel
theorem dX1_heatLayer_125 : decode cX1_heatLayer 125 = .ok (.aload_n 0, 1) := by decide +kernel
theorem dX1_heatLayer_126 : decode cX1_heatLayer 126 = .ok (.getfield 9, 3) := by decide +kernel
theorem dX1_heatLayer_129 : decode cX1_heatLayer 129 = .ok (.iload_n 3, 1) := by decide +kernel
theorem dX1_heatLayer_130 : decode cX1_heatLayer 130 = .ok (.iconst 1, 1) := by decide +kernel
theorem dX1_heatLayer_131 : decode cX1_heatLayer 131 = .ok (.bastore, 1) := by decide +kernel
theorem dX1_heatLayer_132 : decode cX1_heatLayer 132 = .ok (.aload_n 0, 1) := by decide +kernel
theorem dX1_heatLayer_133 : decode cX1_heatLayer 133 = .ok (.dup, 1) := by decide +kernel
theorem dX1_heatLayer_134 : decode cX1_heatLayer 134 = .ok (.getfield 15, 3) := by decide +kernel
theorem dX1_heatLayer_137 : decode cX1_heatLayer 137 = .ok (.iconst 1, 1) := by decide +kernel
theorem dX1_heatLayer_138 : decode cX1_heatLayer 138 = .ok (.iadd, 1) := by decide +kernel
theorem dX1_heatLayer_139 : decode cX1_heatLayer 139 = .ok (.putfield 15, 3) := by decide +kernel
theorem dX1_heatLayer_142 : decode cX1_heatLayer 142 = .ok (.goto 20, 3) := by decide +kernel
theorem dX1_heatLayer_145 : decode cX1_heatLayer 145 = .ok (.iload 4, 2) := by decide +kernel
theorem dX1_heatLayer_147 : decode cX1_heatLayer 147 = .ok (.iload 7, 2) := by decide +kernel
theorem dX1_heatLayer_149 : decode cX1_heatLayer 149 = .ok (.bipush 40, 2) := by decide +kernel
theorem dX1_heatLayer_151 : decode cX1_heatLayer 151 = .ok (.isub, 1) := by decide +kernel
theorem dX1_heatLayer_152 : decode cX1_heatLayer 152 = .ok (.if_icmp .lt 10, 3) := by decide +kernel
theorem dX1_heatLayer_155 : decode cX1_heatLayer 155 = .ok (.aload_n 2, 1) := by decide +kernel
theorem dX1_heatLayer_156 : decode cX1_heatLayer 156 = .ok (.getfield 70, 3) := by decide +kernel
theorem dX1_heatLayer_159 : decode cX1_heatLayer 159 = .ok (.iload_n 3, 1) := by decide +kernel
theorem dX1_heatLayer_160 : decode cX1_heatLayer 160 = .ok (.iconst 1, 1) := by decide +kernel
theorem dX1_heatLayer_161 : decode cX1_heatLayer 161 = .ok (.iastore, 1) := by decide +kernel
theorem dX1_heatLayer_162 : decode cX1_heatLayer 162 = .ok (.return_, 1) := by decide +kernel
theorem dX1_soften_0 : decode cX1_soften 0 = .ok (.aload_n 0, 1) := by decide +kernel
theorem dX1_soften_1 : decode cX1_soften 1 = .ok (.getfield 9, 3) := by decide +kernel
theorem dX1_soften_4 : decode cX1_soften 4 = .ok (.iload_n 2, 1) := by decide +kernel
theorem dX1_soften_5 : decode cX1_soften 5 = .ok (.iconst 1, 1) := by decide +kernel
theorem dX1_soften_6 : decode cX1_soften 6 = .ok (.bastore, 1) := by decide +kernel
theorem dX1_soften_7 : decode cX1_soften 7 = .ok (.aload_n 1, 1) := by decide +kernel
theorem dX1_soften_8 : decode cX1_soften 8 = .ok (.getfield 84, 3) := by decide +kernel
theorem dX1_soften_11 : decode cX1_soften 11 = .ok (.iload_n 2, 1) := by decide +kernel
theorem dX1_soften_12 : decode cX1_soften 12 = .ok (.dup2, 1) := by decide +kernel
theorem dX1_soften_13 : decode cX1_soften 13 = .ok (.iaload, 1) := by decide +kernel
theorem dX1_soften_14 : decode cX1_soften 14 = .ok (.iconst 1, 1) := by decide +kernel
theorem dX1_soften_15 : decode cX1_soften 15 = .ok (.iadd, 1) := by decide +kernel
theorem dX1_soften_16 : decode cX1_soften 16 = .ok (.iastore, 1) := by decide +kernel
theorem dX1_soften_17 : decode cX1_soften 17 = .ok (.aload_n 1, 1) := by decide +kernel
theorem dX1_soften_18 : decode cX1_soften 18 = .ok (.getfield 84, 3) := by decide +kernel
theorem dX1_soften_21 : decode cX1_soften 21 = .ok (.iload_n 2, 1) := by decide +kernel
theorem dX1_soften_22 : decode cX1_soften 22 = .ok (.iaload, 1) := by decide +kernel
theorem dX1_soften_23 : decode cX1_soften 23 = .ok (.iload_n 3, 1) := by decide +kernel
theorem dX1_soften_24 : decode cX1_soften 24 = .ok (.if_icmp .le 30, 3) := by decide +kernel
theorem dX1_soften_27 : decode cX1_soften 27 = .ok (.aload_n 1, 1) := by decide +kernel
theorem dX1_soften_28 : decode cX1_soften 28 = .ok (.getfield 70, 3) := by decide +kernel
theorem dX1_soften_31 : decode cX1_soften 31 = .ok (.iload_n 2, 1) := by decide +kernel
theorem dX1_soften_32 : decode cX1_soften 32 = .ok (.iaload, 1) := by decide +kernel
theorem dX1_soften_33 : decode cX1_soften 33 = .ok (.iconst 3, 1) := by decide +kernel
theorem dX1_soften_34 : decode cX1_soften 34 = .ok (.if_icmp .eq 20, 3) := by decide +kernel
theorem dX1_soften_37 : decode cX1_soften 37 = .ok (.aload_n 1, 1) := by decide +kernel
theorem dX1_soften_38 : decode cX1_soften 38 = .ok (.getfield 70, 3) := by decide +kernel
theorem dX1_soften_41 : decode cX1_soften 41 = .ok (.iload_n 2, 1) := by decide +kernel
theorem dX1_soften_42 : decode cX1_soften 42 = .ok (.iconst 3, 1) := by decide +kernel
theorem dX1_soften_43 : decode cX1_soften 43 = .ok (.iastore, 1) := by decide +kernel
theorem dX1_soften_44 : decode cX1_soften 44 = .ok (.aload_n 0, 1) := by decide +kernel
theorem dX1_soften_45 : decode cX1_soften 45 = .ok (.dup, 1) := by decide +kernel
theorem dX1_soften_46 : decode cX1_soften 46 = .ok (.getfield 22, 3) := by decide +kernel
theorem dX1_soften_49 : decode cX1_soften 49 = .ok (.iconst 1, 1) := by decide +kernel
theorem dX1_soften_50 : decode cX1_soften 50 = .ok (.iadd, 1) := by decide +kernel
theorem dX1_soften_51 : decode cX1_soften 51 = .ok (.putfield 22, 3) := by decide +kernel
theorem dX1_soften_54 : decode cX1_soften 54 = .ok (.return_, 1) := by decide +kernel
theorem dX1_mendField_0 : decode cX1_mendField 0 = .ok (.aload_n 1, 1) := by decide +kernel
theorem dX1_mendField_1 : decode cX1_mendField 1 = .ok (.getfield 87, 3) := by decide +kernel
theorem dX1_mendField_4 : decode cX1_mendField 4 = .ok (.iload_n 2, 1) := by decide +kernel
theorem dX1_mendField_5 : decode cX1_mendField 5 = .ok (.iaload, 1) := by decide +kernel
theorem dX1_mendField_6 : decode cX1_mendField 6 = .ok (.ifCond .ne 4, 3) := by decide +kernel
theorem dX1_mendField_9 : decode cX1_mendField 9 = .ok (.return_, 1) := by decide +kernel
theorem dX1_mendField_10 : decode cX1_mendField 10 = .ok (.iconst 0, 1) := by decide +kernel
theorem dX1_mendField_11 : decode cX1_mendField 11 = .ok (.istore_n 3, 1) := by decide +kernel
theorem dX1_mendField_12 : decode cX1_mendField 12 = .ok (.iload_n 3, 1) := by decide +kernel
theorem dX1_mendField_13 : decode cX1_mendField 13 = .ok (.aload_n 1, 1) := by decide +kernel
theorem dX1_mendField_14 : decode cX1_mendField 14 = .ok (.getfield 37, 3) := by decide +kernel
theorem dX1_mendField_17 : decode cX1_mendField 17 = .ok (.iload_n 2, 1) := by decide +kernel
theorem dX1_mendField_18 : decode cX1_mendField 18 = .ok (.iaload, 1) := by decide +kernel
theorem dX1_mendField_19 : decode cX1_mendField 19 = .ok (.if_icmp .ge 23, 3) := by decide +kernel
theorem dX1_mendField_22 : decode cX1_mendField 22 = .ok (.aload_n 0, 1) := by decide +kernel
theorem dX1_mendField_23 : decode cX1_mendField 23 = .ok (.getfield 9, 3) := by decide +kernel
theorem dX1_mendField_26 : decode cX1_mendField 26 = .ok (.iload_n 2, 1) := by decide +kernel
theorem dX1_mendField_27 : decode cX1_mendField 27 = .ok (.iload_n 3, 1) := by decide +kernel
theorem dX1_mendField_28 : decode cX1_mendField 28 = .ok (.invokestatic 42, 3) := by decide +kernel
theorem dX1_mendField_31 : decode cX1_mendField 31 = .ok (.baload, 1) := by decide +kernel
theorem dX1_mendField_32 : decode cX1_mendField 32 = .ok (.ifCond .ne 4, 3) := by decide +kernel
theorem dX1_mendField_35 : decode cX1_mendField 35 = .ok (.return_, 1) := by decide +kernel
theorem dX1_mendField_36 : decode cX1_mendField 36 = .ok (.iinc 3 1, 3) := by decide +kernel
theorem dX1_mendField_39 : decode cX1_mendField 39 = .ok (.goto (-27), 3) := by decide +kernel
theorem dX1_mendField_42 : decode cX1_mendField 42 = .ok (.aload_n 1, 1) := by decide +kernel
theorem dX1_mendField_43 : decode cX1_mendField 43 = .ok (.getfield 87, 3) := by decide +kernel
theorem dX1_mendField_46 : decode cX1_mendField 46 = .ok (.iload_n 2, 1) := by decide +kernel
theorem dX1_mendField_47 : decode cX1_mendField 47 = .ok (.iconst 0, 1) := by decide +kernel
theorem dX1_mendField_48 : decode cX1_mendField 48 = .ok (.iastore, 1) := by decide +kernel
theorem dX1_mendField_49 : decode cX1_mendField 49 = .ok (.aload_n 0, 1) := by decide +kernel
theorem dX1_mendField_50 : decode cX1_mendField 50 = .ok (.dup, 1) := by decide +kernel
theorem dX1_mendField_51 : decode cX1_mendField 51 = .ok (.getfield 28, 3) := by decide +kernel
theorem dX1_mendField_54 : decode cX1_mendField 54 = .ok (.iconst 1, 1) := by decide +kernel
theorem dX1_mendField_55 : decode cX1_mendField 55 = .ok (.iadd, 1) := by decide +kernel
theorem dX1_mendField_56 : decode cX1_mendField 56 = .ok (.putfield 28, 3) := by decide +kernel
theorem dX1_mendField_59 : decode cX1_mendField 59 = .ok (.return_, 1) := by decide +kernel
theorem dX1_coolField_0 : decode cX1_coolField 0 = .ok (.aload_n 2, 1) := by decide +kernel
theorem dX1_coolField_1 : decode cX1_coolField 1 = .ok (.getfield 87, 3) := by decide +kernel
theorem dX1_coolField_4 : decode cX1_coolField 4 = .ok (.iload_n 3, 1) := by decide +kernel
theorem dX1_coolField_5 : decode cX1_coolField 5 = .ok (.iaload, 1) := by decide +kernel
theorem dX1_coolField_6 : decode cX1_coolField 6 = .ok (.ifCond .ne 46, 3) := by decide +kernel
theorem dX1_coolField_9 : decode cX1_coolField 9 = .ok (.aload_n 2, 1) := by decide +kernel
theorem dX1_coolField_10 : decode cX1_coolField 10 = .ok (.iload_n 3, 1) := by decide +kernel
theorem dX1_coolField_11 : decode cX1_coolField 11 = .ok (.invokevirtual 89, 3) := by decide +kernel
theorem dX1_coolField_14 : decode cX1_coolField 14 = .ok (.ifCond .eq 38, 3) := by decide +kernel
theorem dX1_coolField_17 : decode cX1_coolField 17 = .ok (.aload_n 2, 1) := by decide +kernel
theorem dX1_coolField_18 : decode cX1_coolField 18 = .ok (.iload_n 3, 1) := by decide +kernel
theorem dX1_coolField_19 : decode cX1_coolField 19 = .ok (.aload_n 1, 1) := by decide +kernel
theorem dX1_coolField_20 : decode cX1_coolField 20 = .ok (.getfield 61, 3) := by decide +kernel
theorem dX1_coolField_23 : decode cX1_coolField 23 = .ok (.invokevirtual 92, 3) := by decide +kernel
theorem dX1_coolField_26 : decode cX1_coolField 26 = .ok (.aload_n 1, 1) := by decide +kernel
theorem dX1_coolField_27 : decode cX1_coolField 27 = .ok (.getfield 31, 3) := by decide +kernel
theorem dX1_coolField_30 : decode cX1_coolField 30 = .ok (.iconst 2, 1) := by decide +kernel
theorem dX1_coolField_31 : decode cX1_coolField 31 = .ok (.iaload, 1) := by decide +kernel
theorem dX1_coolField_32 : decode cX1_coolField 32 = .ok (.if_icmp .le 20, 3) := by decide +kernel
theorem dX1_coolField_35 : decode cX1_coolField 35 = .ok (.aload_n 2, 1) := by decide +kernel
theorem dX1_coolField_36 : decode cX1_coolField 36 = .ok (.getfield 87, 3) := by decide +kernel
theorem dX1_coolField_39 : decode cX1_coolField 39 = .ok (.iload_n 3, 1) := by decide +kernel
theorem dX1_coolField_40 : decode cX1_coolField 40 = .ok (.iconst 1, 1) := by decide +kernel
theorem dX1_coolField_41 : decode cX1_coolField 41 = .ok (.iastore, 1) := by decide +kernel
theorem dX1_coolField_42 : decode cX1_coolField 42 = .ok (.aload_n 0, 1) := by decide +kernel
theorem dX1_coolField_43 : decode cX1_coolField 43 = .ok (.dup, 1) := by decide +kernel
theorem dX1_coolField_44 : decode cX1_coolField 44 = .ok (.getfield 25, 3) := by decide +kernel
theorem dX1_coolField_47 : decode cX1_coolField 47 = .ok (.iconst 1, 1) := by decide +kernel
theorem dX1_coolField_48 : decode cX1_coolField 48 = .ok (.iadd, 1) := by decide +kernel
theorem dX1_coolField_49 : decode cX1_coolField 49 = .ok (.putfield 25, 3) := by decide +kernel
theorem dX1_coolField_52 : decode cX1_coolField 52 = .ok (.return_, 1) := by decide +kernel
theorem dX2_init_0 : decode cX2_init 0 = .ok (.aload_n 0, 1) := by decide +kernel
theorem dX2_init_1 : decode cX2_init 1 = .ok (.invokespecial 3, 3) := by decide +kernel
theorem dX2_init_4 : decode cX2_init 4 = .ok (.aload_n 0, 1) := by decide +kernel
theorem dX2_init_5 : decode cX2_init 5 = .ok (.iconst 4, 1) := by decide +kernel
theorem dX2_init_6 : decode cX2_init 6 = .ok (.anewarray 9, 3) := by decide +kernel
theorem dX2_init_9 : decode cX2_init 9 = .ok (.dup, 1) := by decide +kernel
theorem dX2_init_10 : decode cX2_init 10 = .ok (.iconst 0, 1) := by decide +kernel
theorem dX2_init_11 : decode cX2_init 11 = .ok (.new 9, 3) := by decide +kernel
theorem dX2_init_14 : decode cX2_init 14 = .ok (.dup, 1) := by decide +kernel
theorem dX2_init_15 : decode cX2_init 15 = .ok (.invokespecial 11, 3) := by decide +kernel
theorem dX2_init_18 : decode cX2_init 18 = .ok (.aastore, 1) := by decide +kernel
theorem dX2_init_19 : decode cX2_init 19 = .ok (.dup, 1) := by decide +kernel
theorem dX2_init_20 : decode cX2_init 20 = .ok (.iconst 1, 1) := by decide +kernel
theorem dX2_init_21 : decode cX2_init 21 = .ok (.new 9, 3) := by decide +kernel
theorem dX2_init_24 : decode cX2_init 24 = .ok (.dup, 1) := by decide +kernel
theorem dX2_init_25 : decode cX2_init 25 = .ok (.invokespecial 11, 3) := by decide +kernel
theorem dX2_init_28 : decode cX2_init 28 = .ok (.aastore, 1) := by decide +kernel
theorem dX2_init_29 : decode cX2_init 29 = .ok (.dup, 1) := by decide +kernel
theorem dX2_init_30 : decode cX2_init 30 = .ok (.iconst 2, 1) := by decide +kernel
theorem dX2_init_31 : decode cX2_init 31 = .ok (.new 9, 3) := by decide +kernel
theorem dX2_init_34 : decode cX2_init 34 = .ok (.dup, 1) := by decide +kernel
theorem dX2_init_35 : decode cX2_init 35 = .ok (.invokespecial 11, 3) := by decide +kernel
theorem dX2_init_38 : decode cX2_init 38 = .ok (.aastore, 1) := by decide +kernel
theorem dX2_init_39 : decode cX2_init 39 = .ok (.dup, 1) := by decide +kernel
theorem dX2_init_40 : decode cX2_init 40 = .ok (.iconst 3, 1) := by decide +kernel
theorem dX2_init_41 : decode cX2_init 41 = .ok (.new 9, 3) := by decide +kernel
theorem dX2_init_44 : decode cX2_init 44 = .ok (.dup, 1) := by decide +kernel
theorem dX2_init_45 : decode cX2_init 45 = .ok (.invokespecial 11, 3) := by decide +kernel
theorem dX2_init_48 : decode cX2_init 48 = .ok (.aastore, 1) := by decide +kernel
theorem dX2_init_49 : decode cX2_init 49 = .ok (.putfield 12, 3) := by decide +kernel
theorem dX2_init_52 : decode cX2_init 52 = .ok (.aload_n 0, 1) := by decide +kernel
theorem dX2_init_53 : decode cX2_init 53 = .ok (.iconst 0, 1) := by decide +kernel
theorem dX2_init_54 : decode cX2_init 54 = .ok (.putfield 18, 3) := by decide +kernel
theorem dX2_init_57 : decode cX2_init 57 = .ok (.aload_n 0, 1) := by decide +kernel
theorem dX2_init_58 : decode cX2_init 58 = .ok (.iconst 0, 1) := by decide +kernel
theorem dX2_init_59 : decode cX2_init 59 = .ok (.putfield 22, 3) := by decide +kernel
theorem dX2_init_62 : decode cX2_init 62 = .ok (.return_, 1) := by decide +kernel
theorem dX2_keep_0 : decode cX2_keep 0 = .ok (.aload_n 0, 1) := by decide +kernel
theorem dX2_keep_1 : decode cX2_keep 1 = .ok (.getfield 12, 3) := by decide +kernel
theorem dX2_keep_4 : decode cX2_keep 4 = .ok (.aload_n 0, 1) := by decide +kernel
theorem dX2_keep_5 : decode cX2_keep 5 = .ok (.getfield 18, 3) := by decide +kernel
theorem dX2_keep_8 : decode cX2_keep 8 = .ok (.aaload, 1) := by decide +kernel
theorem dX2_keep_9 : decode cX2_keep 9 = .ok (.aload_n 1, 1) := by decide +kernel
theorem dX2_keep_10 : decode cX2_keep 10 = .ok (.invokevirtual 25, 3) := by decide +kernel
theorem dX2_keep_13 : decode cX2_keep 13 = .ok (.aload_n 0, 1) := by decide +kernel
theorem dX2_keep_14 : decode cX2_keep 14 = .ok (.aload_n 0, 1) := by decide +kernel
theorem dX2_keep_15 : decode cX2_keep 15 = .ok (.getfield 18, 3) := by decide +kernel
theorem dX2_keep_18 : decode cX2_keep 18 = .ok (.iconst 1, 1) := by decide +kernel
theorem dX2_keep_19 : decode cX2_keep 19 = .ok (.iadd, 1) := by decide +kernel
theorem dX2_keep_20 : decode cX2_keep 20 = .ok (.iconst 4, 1) := by decide +kernel
theorem dX2_keep_21 : decode cX2_keep 21 = .ok (.irem, 1) := by decide +kernel
theorem dX2_keep_22 : decode cX2_keep 22 = .ok (.putfield 18, 3) := by decide +kernel
theorem dX2_keep_25 : decode cX2_keep 25 = .ok (.aload_n 0, 1) := by decide +kernel
theorem dX2_keep_26 : decode cX2_keep 26 = .ok (.aload_n 0, 1) := by decide +kernel
theorem dX2_keep_27 : decode cX2_keep 27 = .ok (.getfield 22, 3) := by decide +kernel
theorem dX2_keep_30 : decode cX2_keep 30 = .ok (.iconst 1, 1) := by decide +kernel
theorem dX2_keep_31 : decode cX2_keep 31 = .ok (.iadd, 1) := by decide +kernel
theorem dX2_keep_32 : decode cX2_keep 32 = .ok (.iconst 4, 1) := by decide +kernel
theorem dX2_keep_33 : decode cX2_keep 33 = .ok (.invokestatic 29, 3) := by decide +kernel
theorem dX2_keep_36 : decode cX2_keep 36 = .ok (.putfield 22, 3) := by decide +kernel
theorem dX2_keep_39 : decode cX2_keep 39 = .ok (.return_, 1) := by decide +kernel
theorem dX2_restore_0 : decode cX2_restore 0 = .ok (.aload_n 0, 1) := by decide +kernel
theorem dX2_restore_1 : decode cX2_restore 1 = .ok (.aload_n 0, 1) := by decide +kernel
theorem dX2_restore_2 : decode cX2_restore 2 = .ok (.getfield 18, 3) := by decide +kernel
theorem dX2_restore_5 : decode cX2_restore 5 = .ok (.iconst 4, 1) := by decide +kernel
theorem dX2_restore_6 : decode cX2_restore 6 = .ok (.iadd, 1) := by decide +kernel
theorem dX2_restore_7 : decode cX2_restore 7 = .ok (.iconst 1, 1) := by decide +kernel
theorem dX2_restore_8 : decode cX2_restore 8 = .ok (.isub, 1) := by decide +kernel
theorem dX2_restore_9 : decode cX2_restore 9 = .ok (.iconst 4, 1) := by decide +kernel
theorem dX2_restore_10 : decode cX2_restore 10 = .ok (.irem, 1) := by decide +kernel
theorem dX2_restore_11 : decode cX2_restore 11 = .ok (.putfield 18, 3) := by decide +kernel
theorem dX2_restore_14 : decode cX2_restore 14 = .ok (.aload_n 0, 1) := by decide +kernel
theorem dX2_restore_15 : decode cX2_restore 15 = .ok (.dup, 1) := by decide +kernel
theorem dX2_restore_16 : decode cX2_restore 16 = .ok (.getfield 22, 3) := by decide +kernel
theorem dX2_restore_19 : decode cX2_restore 19 = .ok (.iconst 1, 1) := by decide +kernel
theorem dX2_restore_20 : decode cX2_restore 20 = .ok (.isub, 1) := by decide +kernel
theorem dX2_restore_21 : decode cX2_restore 21 = .ok (.putfield 22, 3) := by decide +kernel
theorem dX2_restore_24 : decode cX2_restore 24 = .ok (.aload_n 1, 1) := by decide +kernel
theorem dX2_restore_25 : decode cX2_restore 25 = .ok (.aload_n 0, 1) := by decide +kernel
theorem dX2_restore_26 : decode cX2_restore 26 = .ok (.getfield 12, 3) := by decide +kernel
theorem dX2_restore_29 : decode cX2_restore 29 = .ok (.aload_n 0, 1) := by decide +kernel
theorem dX2_restore_30 : decode cX2_restore 30 = .ok (.getfield 18, 3) := by decide +kernel
theorem dX2_restore_33 : decode cX2_restore 33 = .ok (.aaload, 1) := by decide +kernel
theorem dX2_restore_34 : decode cX2_restore 34 = .ok (.invokevirtual 25, 3) := by decide +kernel
theorem dX2_restore_37 : decode cX2_restore 37 = .ok (.return_, 1) := by decide +kernel
theorem dX3_init_0 : decode cX3_init 0 = .ok (.aload_n 0, 1) := by decide +kernel
theorem dX3_init_1 : decode cX3_init 1 = .ok (.invokespecial 3, 3) := by decide +kernel
theorem dX3_init_4 : decode cX3_init 4 = .ok (.aload_n 0, 1) := by decide +kernel
theorem dX3_init_5 : decode cX3_init 5 = .ok (.bipush 12, 2) := by decide +kernel
theorem dX3_init_7 : decode cX3_init 7 = .ok (.newarray .int, 2) := by decide +kernel
theorem dX3_init_9 : decode cX3_init 9 = .ok (.putfield 9, 3) := by decide +kernel
theorem dX3_init_12 : decode cX3_init 12 = .ok (.aload_n 0, 1) := by decide +kernel
theorem dX3_init_13 : decode cX3_init 13 = .ok (.bipush 12, 2) := by decide +kernel
theorem dX3_init_15 : decode cX3_init 15 = .ok (.newarray .int, 2) := by decide +kernel
theorem dX3_init_17 : decode cX3_init 17 = .ok (.putfield 15, 3) := by decide +kernel
theorem dX3_init_20 : decode cX3_init 20 = .ok (.aload_n 0, 1) := by decide +kernel
theorem dX3_init_21 : decode cX3_init 21 = .ok (.bipush 12, 2) := by decide +kernel
theorem dX3_init_23 : decode cX3_init 23 = .ok (.newarray .int, 2) := by decide +kernel
theorem dX3_init_25 : decode cX3_init 25 = .ok (.putfield 18, 3) := by decide +kernel
theorem dX3_init_28 : decode cX3_init 28 = .ok (.aload_n 0, 1) := by decide +kernel
theorem dX3_init_29 : decode cX3_init 29 = .ok (.iconst 0, 1) := by decide +kernel
theorem dX3_init_30 : decode cX3_init 30 = .ok (.putfield 21, 3) := by decide +kernel
theorem dX3_init_33 : decode cX3_init 33 = .ok (.return_, 1) := by decide +kernel
theorem dX3_append_0 : decode cX3_append 0 = .ok (.aload_n 0, 1) := by decide +kernel
theorem dX3_append_1 : decode cX3_append 1 = .ok (.getfield 9, 3) := by decide +kernel
theorem dX3_append_4 : decode cX3_append 4 = .ok (.aload_n 0, 1) := by decide +kernel
theorem dX3_append_5 : decode cX3_append 5 = .ok (.getfield 21, 3) := by decide +kernel
theorem dX3_append_8 : decode cX3_append 8 = .ok (.iload_n 1, 1) := by decide +kernel
theorem dX3_append_9 : decode cX3_append 9 = .ok (.iastore, 1) := by decide +kernel
theorem dX3_append_10 : decode cX3_append 10 = .ok (.aload_n 0, 1) := by decide +kernel
theorem dX3_append_11 : decode cX3_append 11 = .ok (.getfield 15, 3) := by decide +kernel
theorem dX3_append_14 : decode cX3_append 14 = .ok (.aload_n 0, 1) := by decide +kernel
theorem dX3_append_15 : decode cX3_append 15 = .ok (.getfield 21, 3) := by decide +kernel
theorem dX3_append_18 : decode cX3_append 18 = .ok (.iload_n 2, 1) := by decide +kernel
theorem dX3_append_19 : decode cX3_append 19 = .ok (.iastore, 1) := by decide +kernel
theorem dX3_append_20 : decode cX3_append 20 = .ok (.aload_n 0, 1) := by decide +kernel
theorem dX3_append_21 : decode cX3_append 21 = .ok (.getfield 18, 3) := by decide +kernel
theorem dX3_append_24 : decode cX3_append 24 = .ok (.aload_n 0, 1) := by decide +kernel
theorem dX3_append_25 : decode cX3_append 25 = .ok (.getfield 21, 3) := by decide +kernel
theorem dX3_append_28 : decode cX3_append 28 = .ok (.iload_n 3, 1) := by decide +kernel
theorem dX3_append_29 : decode cX3_append 29 = .ok (.iastore, 1) := by decide +kernel
theorem dX3_append_30 : decode cX3_append 30 = .ok (.aload_n 0, 1) := by decide +kernel
theorem dX3_append_31 : decode cX3_append 31 = .ok (.dup, 1) := by decide +kernel
theorem dX3_append_32 : decode cX3_append 32 = .ok (.getfield 21, 3) := by decide +kernel
theorem dX3_append_35 : decode cX3_append 35 = .ok (.iconst 1, 1) := by decide +kernel
theorem dX3_append_36 : decode cX3_append 36 = .ok (.iadd, 1) := by decide +kernel
theorem dX3_append_37 : decode cX3_append 37 = .ok (.putfield 21, 3) := by decide +kernel
theorem dX3_append_40 : decode cX3_append 40 = .ok (.aload_n 0, 1) := by decide +kernel
theorem dX3_append_41 : decode cX3_append 41 = .ok (.getfield 21, 3) := by decide +kernel
theorem dX3_append_44 : decode cX3_append 44 = .ok (.iconst 1, 1) := by decide +kernel
theorem dX3_append_45 : decode cX3_append 45 = .ok (.isub, 1) := by decide +kernel
theorem dX3_append_46 : decode cX3_append 46 = .ok (.ireturn, 1) := by decide +kernel
theorem dX3_pullOf_0 : decode cX3_pullOf 0 = .ok (.sipush 170, 3) := by decide +kernel
theorem dX3_pullOf_3 : decode cX3_pullOf 3 = .ok (.aload_n 0, 1) := by decide +kernel
theorem dX3_pullOf_4 : decode cX3_pullOf 4 = .ok (.getfield 18, 3) := by decide +kernel
theorem dX3_pullOf_7 : decode cX3_pullOf 7 = .ok (.iload_n 1, 1) := by decide +kernel
theorem dX3_pullOf_8 : decode cX3_pullOf 8 = .ok (.iaload, 1) := by decide +kernel
theorem dX3_pullOf_9 : decode cX3_pullOf 9 = .ok (.isub, 1) := by decide +kernel
theorem dX3_pullOf_10 : decode cX3_pullOf 10 = .ok (.ireturn, 1) := by decide +kernel
theorem dX3_copyFrom_0 : decode cX3_copyFrom 0 = .ok (.aload_n 1, 1) := by decide +kernel
theorem dX3_copyFrom_1 : decode cX3_copyFrom 1 = .ok (.getfield 9, 3) := by decide +kernel
theorem dX3_copyFrom_4 : decode cX3_copyFrom 4 = .ok (.aload_n 0, 1) := by decide +kernel
theorem dX3_copyFrom_5 : decode cX3_copyFrom 5 = .ok (.getfield 9, 3) := by decide +kernel
theorem dX3_copyFrom_8 : decode cX3_copyFrom 8 = .ok (.invokestatic 25, 3) := by decide +kernel
theorem dX3_copyFrom_11 : decode cX3_copyFrom 11 = .ok (.aload_n 1, 1) := by decide +kernel
theorem dX3_copyFrom_12 : decode cX3_copyFrom 12 = .ok (.getfield 15, 3) := by decide +kernel
theorem dX3_copyFrom_15 : decode cX3_copyFrom 15 = .ok (.aload_n 0, 1) := by decide +kernel
theorem dX3_copyFrom_16 : decode cX3_copyFrom 16 = .ok (.getfield 15, 3) := by decide +kernel
theorem dX3_copyFrom_19 : decode cX3_copyFrom 19 = .ok (.invokestatic 25, 3) := by decide +kernel
theorem dX3_copyFrom_22 : decode cX3_copyFrom 22 = .ok (.aload_n 1, 1) := by decide +kernel
theorem dX3_copyFrom_23 : decode cX3_copyFrom 23 = .ok (.getfield 18, 3) := by decide +kernel
theorem dX3_copyFrom_26 : decode cX3_copyFrom 26 = .ok (.aload_n 0, 1) := by decide +kernel
theorem dX3_copyFrom_27 : decode cX3_copyFrom 27 = .ok (.getfield 18, 3) := by decide +kernel
theorem dX3_copyFrom_30 : decode cX3_copyFrom 30 = .ok (.invokestatic 25, 3) := by decide +kernel
theorem dX3_copyFrom_33 : decode cX3_copyFrom 33 = .ok (.aload_n 0, 1) := by decide +kernel
theorem dX3_copyFrom_34 : decode cX3_copyFrom 34 = .ok (.aload_n 1, 1) := by decide +kernel
theorem dX3_copyFrom_35 : decode cX3_copyFrom 35 = .ok (.getfield 21, 3) := by decide +kernel
theorem dX3_copyFrom_38 : decode cX3_copyFrom 38 = .ok (.putfield 21, 3) := by decide +kernel
theorem dX3_copyFrom_41 : decode cX3_copyFrom 41 = .ok (.return_, 1) := by decide +kernel
theorem dX4_init_0 : decode cX4_init 0 = .ok (.aload_n 0, 1) := by decide +kernel
theorem dX4_init_1 : decode cX4_init 1 = .ok (.invokespecial 5, 3) := by decide +kernel
theorem dX4_init_4 : decode cX4_init 4 = .ok (.aload_n 0, 1) := by decide +kernel
theorem dX4_init_5 : decode cX4_init 5 = .ok (.sipush 4096, 3) := by decide +kernel
theorem dX4_init_8 : decode cX4_init 8 = .ok (.newarray .int, 2) := by decide +kernel
theorem dX4_init_10 : decode cX4_init 10 = .ok (.putfield 11, 3) := by decide +kernel
theorem dX4_init_13 : decode cX4_init 13 = .ok (.aload_n 0, 1) := by decide +kernel
theorem dX4_init_14 : decode cX4_init 14 = .ok (.bipush 64, 2) := by decide +kernel
theorem dX4_init_16 : decode cX4_init 16 = .ok (.newarray .int, 2) := by decide +kernel
theorem dX4_init_18 : decode cX4_init 18 = .ok (.putfield 15, 3) := by decide +kernel
theorem dX4_init_21 : decode cX4_init 21 = .ok (.aload_n 0, 1) := by decide +kernel
theorem dX4_init_22 : decode cX4_init 22 = .ok (.bipush 64, 2) := by decide +kernel
theorem dX4_init_24 : decode cX4_init 24 = .ok (.newarray .int, 2) := by decide +kernel
theorem dX4_init_26 : decode cX4_init 26 = .ok (.putfield 18, 3) := by decide +kernel
theorem dX4_init_29 : decode cX4_init 29 = .ok (.aload_n 0, 1) := by decide +kernel
theorem dX4_init_30 : decode cX4_init 30 = .ok (.bipush 64, 2) := by decide +kernel
theorem dX4_init_32 : decode cX4_init 32 = .ok (.newarray .int, 2) := by decide +kernel
theorem dX4_init_34 : decode cX4_init 34 = .ok (.putfield 21, 3) := by decide +kernel
theorem dX4_init_37 : decode cX4_init 37 = .ok (.aload_n 0, 1) := by decide +kernel
theorem dX4_init_38 : decode cX4_init 38 = .ok (.bipush 18, 2) := by decide +kernel
theorem dX4_init_40 : decode cX4_init 40 = .ok (.newarray .int, 2) := by decide +kernel
theorem dX4_init_42 : decode cX4_init 42 = .ok (.putfield 24, 3) := by decide +kernel
theorem dX4_init_45 : decode cX4_init 45 = .ok (.aload_n 0, 1) := by decide +kernel
theorem dX4_init_46 : decode cX4_init 46 = .ok (.bipush 18, 2) := by decide +kernel
theorem dX4_init_48 : decode cX4_init 48 = .ok (.newarray .int, 2) := by decide +kernel
theorem dX4_init_50 : decode cX4_init 50 = .ok (.putfield 27, 3) := by decide +kernel
theorem dX4_init_53 : decode cX4_init 53 = .ok (.aload_n 0, 1) := by decide +kernel
theorem dX4_init_54 : decode cX4_init 54 = .ok (.iconst 0, 1) := by decide +kernel
theorem dX4_init_55 : decode cX4_init 55 = .ok (.putfield 30, 3) := by decide +kernel
theorem dX4_init_58 : decode cX4_init 58 = .ok (.aload_n 0, 1) := by decide +kernel
theorem dX4_init_59 : decode cX4_init 59 = .ok (.iconst 0, 1) := by decide +kernel
theorem dX4_init_60 : decode cX4_init 60 = .ok (.putfield 34, 3) := by decide +kernel
theorem dX4_init_63 : decode cX4_init 63 = .ok (.iconst 1, 1) := by decide +kernel
theorem dX4_init_64 : decode cX4_init 64 = .ok (.istore_n 1, 1) := by decide +kernel
theorem dX4_init_65 : decode cX4_init 65 = .ok (.iload_n 1, 1) := by decide +kernel
theorem dX4_init_66 : decode cX4_init 66 = .ok (.bipush 64, 2) := by decide +kernel
theorem dX4_init_68 : decode cX4_init 68 = .ok (.if_icmp .ge 45, 3) := by decide +kernel
theorem dX4_init_71 : decode cX4_init 71 = .ok (.iconst 0, 1) := by decide +kernel
theorem dX4_init_72 : decode cX4_init 72 = .ok (.istore_n 2, 1) := by decide +kernel
theorem dX4_init_73 : decode cX4_init 73 = .ok (.iload_n 2, 1) := by decide +kernel
theorem dX4_init_74 : decode cX4_init 74 = .ok (.bipush 6, 2) := by decide +kernel
theorem dX4_init_76 : decode cX4_init 76 = .ok (.if_icmp .ge 31, 3) := by decide +kernel
theorem dX4_init_79 : decode cX4_init 79 = .ok (.iload_n 1, 1) := by decide +kernel
theorem dX4_init_80 : decode cX4_init 80 = .ok (.iconst 1, 1) := by decide +kernel
theorem dX4_init_81 : decode cX4_init 81 = .ok (.iload_n 2, 1) := by decide +kernel
theorem dX4_init_82 : decode cX4_init 82 = .ok (.ishl, 1) := by decide +kernel
theorem dX4_init_83 : decode cX4_init 83 = .ok (.iand, 1) := by decide +kernel
theorem dX4_init_84 : decode cX4_init 84 = .ok (.ifCond .eq 17, 3) := by decide +kernel
theorem dX4_init_87 : decode cX4_init 87 = .ok (.aload_n 0, 1) := by decide +kernel
theorem dX4_init_88 : decode cX4_init 88 = .ok (.getfield 15, 3) := by decide +kernel
theorem dX4_init_91 : decode cX4_init 91 = .ok (.iload_n 1, 1) := by decide +kernel
theorem dX4_init_92 : decode cX4_init 92 = .ok (.dup2, 1) := by decide +kernel
theorem dX4_init_93 : decode cX4_init 93 = .ok (.iaload, 1) := by decide +kernel
theorem dX4_init_94 : decode cX4_init 94 = .ok (.iconst 1, 1) := by decide +kernel
theorem dX4_init_95 : decode cX4_init 95 = .ok (.iconst 2, 1) := by decide +kernel
theorem dX4_init_96 : decode cX4_init 96 = .ok (.iload_n 2, 1) := by decide +kernel
theorem dX4_init_97 : decode cX4_init 97 = .ok (.imul, 1) := by decide +kernel
theorem dX4_init_98 : decode cX4_init 98 = .ok (.ishl, 1) := by decide +kernel
theorem dX4_init_99 : decode cX4_init 99 = .ok (.iadd, 1) := by decide +kernel
theorem dX4_init_100 : decode cX4_init 100 = .ok (.iastore, 1) := by decide +kernel
theorem dX4_init_101 : decode cX4_init 101 = .ok (.iinc 2 1, 3) := by decide +kernel
theorem dX4_init_104 : decode cX4_init 104 = .ok (.goto (-31), 3) := by decide +kernel
theorem dX4_init_107 : decode cX4_init 107 = .ok (.iinc 1 1, 3) := by decide +kernel
theorem dX4_init_110 : decode cX4_init 110 = .ok (.goto (-45), 3) := by decide +kernel
theorem dX4_init_113 : decode cX4_init 113 = .ok (.return_, 1) := by decide +kernel
theorem dX4_search_0 : decode cX4_search 0 = .ok (.aload_n 1, 1) := by decide +kernel
theorem dX4_search_1 : decode cX4_search 1 = .ok (.invokestatic 38, 3) := by decide +kernel
theorem dX4_search_4 : decode cX4_search 4 = .ok (.istore_n 3, 1) := by decide +kernel
theorem dX4_search_5 : decode cX4_search 5 = .ok (.aload_n 0, 1) := by decide +kernel
theorem dX4_search_6 : decode cX4_search 6 = .ok (.getfield 11, 3) := by decide +kernel
theorem dX4_search_9 : decode cX4_search 9 = .ok (.iload_n 3, 1) := by decide +kernel
theorem dX4_search_10 : decode cX4_search 10 = .ok (.iconst 0, 1) := by decide +kernel
theorem dX4_search_11 : decode cX4_search 11 = .ok (.iastore, 1) := by decide +kernel
theorem dX4_search_12 : decode cX4_search 12 = .ok (.iload_n 3, 1) := by decide +kernel
theorem dX4_search_13 : decode cX4_search 13 = .ok (.iconst 1, 1) := by decide +kernel
theorem dX4_search_14 : decode cX4_search 14 = .ok (.isub, 1) := by decide +kernel
theorem dX4_search_15 : decode cX4_search 15 = .ok (.istore 4, 2) := by decide +kernel
theorem dX4_search_17 : decode cX4_search 17 = .ok (.iload 4, 2) := by decide +kernel
theorem dX4_search_19 : decode cX4_search 19 = .ok (.ifCond .lt 66, 3) := by decide +kernel
theorem dX4_search_22 : decode cX4_search 22 = .ok (.iload 4, 2) := by decide +kernel
theorem dX4_search_24 : decode cX4_search 24 = .ok (.aload_n 1, 1) := by decide +kernel
theorem dX4_search_25 : decode cX4_search 25 = .ok (.invokestatic 42, 3) := by decide +kernel
theorem dX4_search_28 : decode cX4_search 28 = .ok (.ifCond .eq 14, 3) := by decide +kernel
theorem dX4_search_31 : decode cX4_search 31 = .ok (.aload_n 0, 1) := by decide +kernel
theorem dX4_search_32 : decode cX4_search 32 = .ok (.iload 4, 2) := by decide +kernel
theorem dX4_search_34 : decode cX4_search 34 = .ok (.aload_n 1, 1) := by decide +kernel
theorem dX4_search_35 : decode cX4_search 35 = .ok (.aload_n 2, 1) := by decide +kernel
theorem dX4_search_36 : decode cX4_search 36 = .ok (.invokevirtual 46, 3) := by decide +kernel
theorem dX4_search_39 : decode cX4_search 39 = .ok (.goto 4, 3) := by decide +kernel
theorem dX4_search_42 : decode cX4_search 42 = .ok (.iconst 0, 1) := by decide +kernel
theorem dX4_search_43 : decode cX4_search 43 = .ok (.istore 5, 2) := by decide +kernel
theorem dX4_search_45 : decode cX4_search 45 = .ok (.aload_n 0, 1) := by decide +kernel
theorem dX4_search_46 : decode cX4_search 46 = .ok (.getfield 11, 3) := by decide +kernel
theorem dX4_search_49 : decode cX4_search 49 = .ok (.iload 4, 2) := by decide +kernel
theorem dX4_search_51 : decode cX4_search 51 = .ok (.iload 5, 2) := by decide +kernel
theorem dX4_search_53 : decode cX4_search 53 = .ok (.ifCond .ne 8, 3) := by decide +kernel
theorem dX4_search_56 : decode cX4_search 56 = .ok (.bipush 19, 2) := by decide +kernel
theorem dX4_search_58 : decode cX4_search 58 = .ok (.goto 20, 3) := by decide +kernel
theorem dX4_search_61 : decode cX4_search 61 = .ok (.aload_n 0, 1) := by decide +kernel
theorem dX4_search_62 : decode cX4_search 62 = .ok (.getfield 11, 3) := by decide +kernel
theorem dX4_search_65 : decode cX4_search 65 = .ok (.iload 4, 2) := by decide +kernel
theorem dX4_search_67 : decode cX4_search 67 = .ok (.aload_n 0, 1) := by decide +kernel
theorem dX4_search_68 : decode cX4_search 68 = .ok (.getfield 15, 3) := by decide +kernel
theorem dX4_search_71 : decode cX4_search 71 = .ok (.iload 5, 2) := by decide +kernel
theorem dX4_search_73 : decode cX4_search 73 = .ok (.iaload, 1) := by decide +kernel
theorem dX4_search_74 : decode cX4_search 74 = .ok (.iadd, 1) := by decide +kernel
theorem dX4_search_75 : decode cX4_search 75 = .ok (.iaload, 1) := by decide +kernel
theorem dX4_search_76 : decode cX4_search 76 = .ok (.iconst 1, 1) := by decide +kernel
theorem dX4_search_77 : decode cX4_search 77 = .ok (.iadd, 1) := by decide +kernel
theorem dX4_search_78 : decode cX4_search 78 = .ok (.iastore, 1) := by decide +kernel
theorem dX4_search_79 : decode cX4_search 79 = .ok (.iinc 4 (-1), 3) := by decide +kernel
theorem dX4_search_82 : decode cX4_search 82 = .ok (.goto (-65), 3) := by decide +kernel
theorem dX4_search_85 : decode cX4_search 85 = .ok (.aload_n 0, 1) := by decide +kernel
theorem dX4_search_86 : decode cX4_search 86 = .ok (.aload_n 0, 1) := by decide +kernel
theorem dX4_search_87 : decode cX4_search 87 = .ok (.getfield 11, 3) := by decide +kernel
theorem dX4_search_90 : decode cX4_search 90 = .ok (.iconst 0, 1) := by decide +kernel
theorem dX4_search_91 : decode cX4_search 91 = .ok (.iaload, 1) := by decide +kernel
theorem dX4_search_92 : decode cX4_search 92 = .ok (.bipush 19, 2) := by decide +kernel
theorem dX4_search_94 : decode cX4_search 94 = .ok (.if_icmp .ge 7, 3) := by decide +kernel
theorem dX4_search_97 : decode cX4_search 97 = .ok (.iconst 1, 1) := by decide +kernel
theorem dX4_search_98 : decode cX4_search 98 = .ok (.goto 4, 3) := by decide +kernel
theorem dX4_search_101 : decode cX4_search 101 = .ok (.iconst 0, 1) := by decide +kernel
theorem dX4_search_102 : decode cX4_search 102 = .ok (.putfield 34, 3) := by decide +kernel
theorem dX4_search_105 : decode cX4_search 105 = .ok (.aload_n 0, 1) := by decide +kernel
theorem dX4_search_106 : decode cX4_search 106 = .ok (.aload_n 0, 1) := by decide +kernel
theorem dX4_search_107 : decode cX4_search 107 = .ok (.getfield 34, 3) := by decide +kernel
theorem dX4_search_110 : decode cX4_search 110 = .ok (.ifCond .eq 12, 3) := by decide +kernel
theorem dX4_search_113 : decode cX4_search 113 = .ok (.aload_n 0, 1) := by decide +kernel
theorem dX4_search_114 : decode cX4_search 114 = .ok (.getfield 11, 3) := by decide +kernel
theorem dX4_search_117 : decode cX4_search 117 = .ok (.iconst 0, 1) := by decide +kernel
theorem dX4_search_118 : decode cX4_search 118 = .ok (.iaload, 1) := by decide +kernel
theorem dX4_search_119 : decode cX4_search 119 = .ok (.goto 4, 3) := by decide +kernel
theorem dX4_search_122 : decode cX4_search 122 = .ok (.iconst 0, 1) := by decide +kernel
theorem dX4_search_123 : decode cX4_search 123 = .ok (.putfield 30, 3) := by decide +kernel
theorem dX4_search_126 : decode cX4_search 126 = .ok (.iconst 0, 1) := by decide +kernel
theorem dX4_search_127 : decode cX4_search 127 = .ok (.istore 4, 2) := by decide +kernel
theorem dX4_search_129 : decode cX4_search 129 = .ok (.iconst 0, 1) := by decide +kernel
theorem dX4_search_130 : decode cX4_search 130 = .ok (.istore 5, 2) := by decide +kernel
theorem dX4_search_132 : decode cX4_search 132 = .ok (.iload 5, 2) := by decide +kernel
theorem dX4_search_134 : decode cX4_search 134 = .ok (.aload_n 0, 1) := by decide +kernel
theorem dX4_search_135 : decode cX4_search 135 = .ok (.getfield 30, 3) := by decide +kernel
theorem dX4_search_138 : decode cX4_search 138 = .ok (.if_icmp .ge 60, 3) := by decide +kernel
theorem dX4_search_141 : decode cX4_search 141 = .ok (.aload_n 0, 1) := by decide +kernel
theorem dX4_search_142 : decode cX4_search 142 = .ok (.getfield 24, 3) := by decide +kernel
theorem dX4_search_145 : decode cX4_search 145 = .ok (.iload 5, 2) := by decide +kernel
theorem dX4_search_147 : decode cX4_search 147 = .ok (.aload_n 0, 1) := by decide +kernel
theorem dX4_search_148 : decode cX4_search 148 = .ok (.iload 4, 2) := by decide +kernel
theorem dX4_search_150 : decode cX4_search 150 = .ok (.aload_n 1, 1) := by decide +kernel
theorem dX4_search_151 : decode cX4_search 151 = .ok (.aload_n 2, 1) := by decide +kernel
theorem dX4_search_152 : decode cX4_search 152 = .ok (.invokevirtual 46, 3) := by decide +kernel
theorem dX4_search_155 : decode cX4_search 155 = .ok (.iastore, 1) := by decide +kernel
theorem dX4_search_156 : decode cX4_search 156 = .ok (.aload_n 0, 1) := by decide +kernel
theorem dX4_search_157 : decode cX4_search 157 = .ok (.getfield 27, 3) := by decide +kernel
theorem dX4_search_160 : decode cX4_search 160 = .ok (.iload 5, 2) := by decide +kernel
theorem dX4_search_162 : decode cX4_search 162 = .ok (.aload_n 0, 1) := by decide +kernel
theorem dX4_search_163 : decode cX4_search 163 = .ok (.getfield 18, 3) := by decide +kernel
theorem dX4_search_166 : decode cX4_search 166 = .ok (.aload_n 0, 1) := by decide +kernel
theorem dX4_search_167 : decode cX4_search 167 = .ok (.getfield 24, 3) := by decide +kernel
theorem dX4_search_170 : decode cX4_search 170 = .ok (.iload 5, 2) := by decide +kernel
theorem dX4_search_172 : decode cX4_search 172 = .ok (.iaload, 1) := by decide +kernel
theorem dX4_search_173 : decode cX4_search 173 = .ok (.iaload, 1) := by decide +kernel
theorem dX4_search_174 : decode cX4_search 174 = .ok (.iastore, 1) := by decide +kernel
theorem dX4_search_175 : decode cX4_search 175 = .ok (.iload 4, 2) := by decide +kernel
theorem dX4_search_177 : decode cX4_search 177 = .ok (.aload_n 0, 1) := by decide +kernel
theorem dX4_search_178 : decode cX4_search 178 = .ok (.getfield 15, 3) := by decide +kernel
theorem dX4_search_181 : decode cX4_search 181 = .ok (.aload_n 0, 1) := by decide +kernel
theorem dX4_search_182 : decode cX4_search 182 = .ok (.getfield 24, 3) := by decide +kernel
theorem dX4_search_185 : decode cX4_search 185 = .ok (.iload 5, 2) := by decide +kernel
theorem dX4_search_187 : decode cX4_search 187 = .ok (.iaload, 1) := by decide +kernel
theorem dX4_search_188 : decode cX4_search 188 = .ok (.iaload, 1) := by decide +kernel
theorem dX4_search_189 : decode cX4_search 189 = .ok (.iadd, 1) := by decide +kernel
theorem dX4_search_190 : decode cX4_search 190 = .ok (.istore 4, 2) := by decide +kernel
theorem dX4_search_192 : decode cX4_search 192 = .ok (.iinc 5 1, 3) := by decide +kernel
theorem dX4_search_195 : decode cX4_search 195 = .ok (.goto (-63), 3) := by decide +kernel
theorem dX4_search_198 : decode cX4_search 198 = .ok (.return_, 1) := by decide +kernel
theorem dX4_layersAt_0 : decode cX4_layersAt 0 = .ok (.iload_n 0, 1) := by decide +kernel
theorem dX4_layersAt_1 : decode cX4_layersAt 1 = .ok (.iconst 2, 1) := by decide +kernel
theorem dX4_layersAt_2 : decode cX4_layersAt 2 = .ok (.iload_n 1, 1) := by decide +kernel
theorem dX4_layersAt_3 : decode cX4_layersAt 3 = .ok (.imul, 1) := by decide +kernel
theorem dX4_layersAt_4 : decode cX4_layersAt 4 = .ok (.ishr, 1) := by decide +kernel
theorem dX4_layersAt_5 : decode cX4_layersAt 5 = .ok (.iconst 3, 1) := by decide +kernel
theorem dX4_layersAt_6 : decode cX4_layersAt 6 = .ok (.iand, 1) := by decide +kernel
theorem dX4_layersAt_7 : decode cX4_layersAt 7 = .ok (.ireturn, 1) := by decide +kernel
theorem dX4_lastStage_0 : decode cX4_lastStage 0 = .ok (.iconst 0, 1) := by decide +kernel
theorem dX4_lastStage_1 : decode cX4_lastStage 1 = .ok (.istore_n 1, 1) := by decide +kernel
theorem dX4_lastStage_2 : decode cX4_lastStage 2 = .ok (.iconst 0, 1) := by decide +kernel
theorem dX4_lastStage_3 : decode cX4_lastStage 3 = .ok (.istore_n 2, 1) := by decide +kernel
theorem dX4_lastStage_4 : decode cX4_lastStage 4 = .ok (.iload_n 2, 1) := by decide +kernel
theorem dX4_lastStage_5 : decode cX4_lastStage 5 = .ok (.bipush 6, 2) := by decide +kernel
theorem dX4_lastStage_7 : decode cX4_lastStage 7 = .ok (.if_icmp .ge 22, 3) := by decide +kernel
theorem dX4_lastStage_10 : decode cX4_lastStage 10 = .ok (.iload_n 1, 1) := by decide +kernel
theorem dX4_lastStage_11 : decode cX4_lastStage 11 = .ok (.aload_n 0, 1) := by decide +kernel
theorem dX4_lastStage_12 : decode cX4_lastStage 12 = .ok (.getfield 50, 3) := by decide +kernel
theorem dX4_lastStage_15 : decode cX4_lastStage 15 = .ok (.iload_n 2, 1) := by decide +kernel
theorem dX4_lastStage_16 : decode cX4_lastStage 16 = .ok (.iaload, 1) := by decide +kernel
theorem dX4_lastStage_17 : decode cX4_lastStage 17 = .ok (.iconst 2, 1) := by decide +kernel
theorem dX4_lastStage_18 : decode cX4_lastStage 18 = .ok (.iload_n 2, 1) := by decide +kernel
theorem dX4_lastStage_19 : decode cX4_lastStage 19 = .ok (.imul, 1) := by decide +kernel
theorem dX4_lastStage_20 : decode cX4_lastStage 20 = .ok (.ishl, 1) := by decide +kernel
theorem dX4_lastStage_21 : decode cX4_lastStage 21 = .ok (.ior, 1) := by decide +kernel
theorem dX4_lastStage_22 : decode cX4_lastStage 22 = .ok (.istore_n 1, 1) := by decide +kernel
theorem dX4_lastStage_23 : decode cX4_lastStage 23 = .ok (.iinc 2 1, 3) := by decide +kernel
theorem dX4_lastStage_26 : decode cX4_lastStage 26 = .ok (.goto (-22), 3) := by decide +kernel
theorem dX4_lastStage_29 : decode cX4_lastStage 29 = .ok (.iload_n 1, 1) := by decide +kernel
theorem dX4_lastStage_30 : decode cX4_lastStage 30 = .ok (.ireturn, 1) := by decide +kernel
theorem dX4_isStage_0 : decode cX4_isStage 0 = .ok (.iconst 0, 1) := by decide +kernel
theorem dX4_isStage_1 : decode cX4_isStage 1 = .ok (.istore_n 2, 1) := by decide +kernel
theorem dX4_isStage_2 : decode cX4_isStage 2 = .ok (.iload_n 2, 1) := by decide +kernel
theorem dX4_isStage_3 : decode cX4_isStage 3 = .ok (.bipush 6, 2) := by decide +kernel
theorem dX4_isStage_5 : decode cX4_isStage 5 = .ok (.if_icmp .ge 25, 3) := by decide +kernel
theorem dX4_isStage_8 : decode cX4_isStage 8 = .ok (.iload_n 0, 1) := by decide +kernel
theorem dX4_isStage_9 : decode cX4_isStage 9 = .ok (.iload_n 2, 1) := by decide +kernel
theorem dX4_isStage_10 : decode cX4_isStage 10 = .ok (.invokestatic 55, 3) := by decide +kernel
theorem dX4_isStage_13 : decode cX4_isStage 13 = .ok (.aload_n 1, 1) := by decide +kernel
theorem dX4_isStage_14 : decode cX4_isStage 14 = .ok (.getfield 50, 3) := by decide +kernel
theorem dX4_isStage_17 : decode cX4_isStage 17 = .ok (.iload_n 2, 1) := by decide +kernel
theorem dX4_isStage_18 : decode cX4_isStage 18 = .ok (.iaload, 1) := by decide +kernel
theorem dX4_isStage_19 : decode cX4_isStage 19 = .ok (.if_icmp .le 5, 3) := by decide +kernel
theorem dX4_isStage_22 : decode cX4_isStage 22 = .ok (.iconst 0, 1) := by decide +kernel
theorem dX4_isStage_23 : decode cX4_isStage 23 = .ok (.ireturn, 1) := by decide +kernel
theorem dX4_isStage_24 : decode cX4_isStage 24 = .ok (.iinc 2 1, 3) := by decide +kernel
theorem dX4_isStage_27 : decode cX4_isStage 27 = .ok (.goto (-25), 3) := by decide +kernel
theorem dX4_isStage_30 : decode cX4_isStage 30 = .ok (.iconst 1, 1) := by decide +kernel
theorem dX4_isStage_31 : decode cX4_isStage 31 = .ok (.ireturn, 1) := by decide +kernel
theorem dX4_bestSet_0 : decode cX4_bestSet 0 = .ok (.aload_n 0, 1) := by decide +kernel
theorem dX4_bestSet_1 : decode cX4_bestSet 1 = .ok (.iload_n 1, 1) := by decide +kernel
theorem dX4_bestSet_2 : decode cX4_bestSet 2 = .ok (.aload_n 2, 1) := by decide +kernel
theorem dX4_bestSet_3 : decode cX4_bestSet 3 = .ok (.aload_n 3, 1) := by decide +kernel
theorem dX4_bestSet_4 : decode cX4_bestSet 4 = .ok (.invokevirtual 59, 3) := by decide +kernel
theorem dX4_bestSet_7 : decode cX4_bestSet 7 = .ok (.istore 4, 2) := by decide +kernel
theorem dX4_bestSet_9 : decode cX4_bestSet 9 = .ok (.aload_n 0, 1) := by decide +kernel
theorem dX4_bestSet_10 : decode cX4_bestSet 10 = .ok (.getfield 18, 3) := by decide +kernel
theorem dX4_bestSet_13 : decode cX4_bestSet 13 = .ok (.iconst 0, 1) := by decide +kernel
theorem dX4_bestSet_14 : decode cX4_bestSet 14 = .ok (.iconst 0, 1) := by decide +kernel
theorem dX4_bestSet_15 : decode cX4_bestSet 15 = .ok (.iastore, 1) := by decide +kernel
theorem dX4_bestSet_16 : decode cX4_bestSet 16 = .ok (.aload_n 0, 1) := by decide +kernel
theorem dX4_bestSet_17 : decode cX4_bestSet 17 = .ok (.getfield 21, 3) := by decide +kernel
theorem dX4_bestSet_20 : decode cX4_bestSet 20 = .ok (.iconst 0, 1) := by decide +kernel
theorem dX4_bestSet_21 : decode cX4_bestSet 21 = .ok (.iload_n 1, 1) := by decide +kernel
theorem dX4_bestSet_22 : decode cX4_bestSet 22 = .ok (.aload_n 2, 1) := by decide +kernel
theorem dX4_bestSet_23 : decode cX4_bestSet 23 = .ok (.aload_n 3, 1) := by decide +kernel
theorem dX4_bestSet_24 : decode cX4_bestSet 24 = .ok (.invokestatic 62, 3) := by decide +kernel
theorem dX4_bestSet_27 : decode cX4_bestSet 27 = .ok (.iastore, 1) := by decide +kernel
theorem dX4_bestSet_28 : decode cX4_bestSet 28 = .ok (.iconst 0, 1) := by decide +kernel
theorem dX4_bestSet_29 : decode cX4_bestSet 29 = .ok (.istore 5, 2) := by decide +kernel
theorem dX4_bestSet_31 : decode cX4_bestSet 31 = .ok (.bipush 19, 2) := by decide +kernel
theorem dX4_bestSet_33 : decode cX4_bestSet 33 = .ok (.istore 6, 2) := by decide +kernel
theorem dX4_bestSet_35 : decode cX4_bestSet 35 = .ok (.iconst 1, 1) := by decide +kernel
theorem dX4_bestSet_36 : decode cX4_bestSet 36 = .ok (.istore 7, 2) := by decide +kernel
theorem dX4_bestSet_38 : decode cX4_bestSet 38 = .ok (.iload 7, 2) := by decide +kernel
theorem dX4_bestSet_40 : decode cX4_bestSet 40 = .ok (.bipush 64, 2) := by decide +kernel
theorem dX4_bestSet_42 : decode cX4_bestSet 42 = .ok (.if_icmp .ge 142, 3) := by decide +kernel
theorem dX4_bestSet_45 : decode cX4_bestSet 45 = .ok (.iload 7, 2) := by decide +kernel
theorem dX4_bestSet_47 : decode cX4_bestSet 47 = .ok (.iload 4, 2) := by decide +kernel
theorem dX4_bestSet_49 : decode cX4_bestSet 49 = .ok (.iconst (-1), 1) := by decide +kernel
theorem dX4_bestSet_50 : decode cX4_bestSet 50 = .ok (.ixor, 1) := by decide +kernel
theorem dX4_bestSet_51 : decode cX4_bestSet 51 = .ok (.iand, 1) := by decide +kernel
theorem dX4_bestSet_52 : decode cX4_bestSet 52 = .ok (.ifCond .eq 6, 3) := by decide +kernel
theorem dX4_bestSet_55 : decode cX4_bestSet 55 = .ok (.goto 123, 3) := by decide +kernel
theorem dX4_bestSet_58 : decode cX4_bestSet 58 = .ok (.iload 7, 2) := by decide +kernel
theorem dX4_bestSet_60 : decode cX4_bestSet 60 = .ok (.iload 7, 2) := by decide +kernel
theorem dX4_bestSet_62 : decode cX4_bestSet 62 = .ok (.iconst 1, 1) := by decide +kernel
theorem dX4_bestSet_63 : decode cX4_bestSet 63 = .ok (.isub, 1) := by decide +kernel
theorem dX4_bestSet_64 : decode cX4_bestSet 64 = .ok (.iand, 1) := by decide +kernel
theorem dX4_bestSet_65 : decode cX4_bestSet 65 = .ok (.istore 8, 2) := by decide +kernel
theorem dX4_bestSet_67 : decode cX4_bestSet 67 = .ok (.iload 7, 2) := by decide +kernel
theorem dX4_bestSet_69 : decode cX4_bestSet 69 = .ok (.iload 8, 2) := by decide +kernel
theorem dX4_bestSet_71 : decode cX4_bestSet 71 = .ok (.ixor, 1) := by decide +kernel
theorem dX4_bestSet_72 : decode cX4_bestSet 72 = .ok (.istore 9, 2) := by decide +kernel
theorem dX4_bestSet_74 : decode cX4_bestSet 74 = .ok (.aload_n 0, 1) := by decide +kernel
theorem dX4_bestSet_75 : decode cX4_bestSet 75 = .ok (.getfield 18, 3) := by decide +kernel
theorem dX4_bestSet_78 : decode cX4_bestSet 78 = .ok (.iload 7, 2) := by decide +kernel
theorem dX4_bestSet_80 : decode cX4_bestSet 80 = .ok (.aload_n 0, 1) := by decide +kernel
theorem dX4_bestSet_81 : decode cX4_bestSet 81 = .ok (.getfield 18, 3) := by decide +kernel
theorem dX4_bestSet_84 : decode cX4_bestSet 84 = .ok (.iload 8, 2) := by decide +kernel
theorem dX4_bestSet_86 : decode cX4_bestSet 86 = .ok (.iaload, 1) := by decide +kernel
theorem dX4_bestSet_87 : decode cX4_bestSet 87 = .ok (.aload_n 0, 1) := by decide +kernel
theorem dX4_bestSet_88 : decode cX4_bestSet 88 = .ok (.getfield 18, 3) := by decide +kernel
theorem dX4_bestSet_91 : decode cX4_bestSet 91 = .ok (.iload 9, 2) := by decide +kernel
theorem dX4_bestSet_93 : decode cX4_bestSet 93 = .ok (.iaload, 1) := by decide +kernel
theorem dX4_bestSet_94 : decode cX4_bestSet 94 = .ok (.invokestatic 65, 3) := by decide +kernel
theorem dX4_bestSet_97 : decode cX4_bestSet 97 = .ok (.iastore, 1) := by decide +kernel
theorem dX4_bestSet_98 : decode cX4_bestSet 98 = .ok (.aload_n 0, 1) := by decide +kernel
theorem dX4_bestSet_99 : decode cX4_bestSet 99 = .ok (.getfield 21, 3) := by decide +kernel
theorem dX4_bestSet_102 : decode cX4_bestSet 102 = .ok (.iload 7, 2) := by decide +kernel
theorem dX4_bestSet_104 : decode cX4_bestSet 104 = .ok (.aload_n 0, 1) := by decide +kernel
theorem dX4_bestSet_105 : decode cX4_bestSet 105 = .ok (.getfield 21, 3) := by decide +kernel
theorem dX4_bestSet_108 : decode cX4_bestSet 108 = .ok (.iload 8, 2) := by decide +kernel
theorem dX4_bestSet_110 : decode cX4_bestSet 110 = .ok (.iaload, 1) := by decide +kernel
theorem dX4_bestSet_111 : decode cX4_bestSet 111 = .ok (.aload_n 0, 1) := by decide +kernel
theorem dX4_bestSet_112 : decode cX4_bestSet 112 = .ok (.getfield 21, 3) := by decide +kernel
theorem dX4_bestSet_115 : decode cX4_bestSet 115 = .ok (.iload 9, 2) := by decide +kernel
theorem dX4_bestSet_117 : decode cX4_bestSet 117 = .ok (.iaload, 1) := by decide +kernel
theorem dX4_bestSet_118 : decode cX4_bestSet 118 = .ok (.invokestatic 70, 3) := by decide +kernel
theorem dX4_bestSet_121 : decode cX4_bestSet 121 = .ok (.iastore, 1) := by decide +kernel
theorem dX4_bestSet_122 : decode cX4_bestSet 122 = .ok (.aload_n 0, 1) := by decide +kernel
theorem dX4_bestSet_123 : decode cX4_bestSet 123 = .ok (.getfield 18, 3) := by decide +kernel
theorem dX4_bestSet_126 : decode cX4_bestSet 126 = .ok (.iload 7, 2) := by decide +kernel
theorem dX4_bestSet_128 : decode cX4_bestSet 128 = .ok (.iaload, 1) := by decide +kernel
theorem dX4_bestSet_129 : decode cX4_bestSet 129 = .ok (.aload_n 0, 1) := by decide +kernel
theorem dX4_bestSet_130 : decode cX4_bestSet 130 = .ok (.getfield 21, 3) := by decide +kernel
theorem dX4_bestSet_133 : decode cX4_bestSet 133 = .ok (.iload 7, 2) := by decide +kernel
theorem dX4_bestSet_135 : decode cX4_bestSet 135 = .ok (.iaload, 1) := by decide +kernel
theorem dX4_bestSet_136 : decode cX4_bestSet 136 = .ok (.if_icmp .gt 42, 3) := by decide +kernel
theorem dX4_bestSet_139 : decode cX4_bestSet 139 = .ok (.aload_n 0, 1) := by decide +kernel
theorem dX4_bestSet_140 : decode cX4_bestSet 140 = .ok (.getfield 11, 3) := by decide +kernel
theorem dX4_bestSet_143 : decode cX4_bestSet 143 = .ok (.iload_n 1, 1) := by decide +kernel
theorem dX4_bestSet_144 : decode cX4_bestSet 144 = .ok (.aload_n 0, 1) := by decide +kernel
theorem dX4_bestSet_145 : decode cX4_bestSet 145 = .ok (.getfield 15, 3) := by decide +kernel
theorem dX4_bestSet_148 : decode cX4_bestSet 148 = .ok (.iload 7, 2) := by decide +kernel
theorem dX4_bestSet_150 : decode cX4_bestSet 150 = .ok (.iaload, 1) := by decide +kernel
theorem dX4_bestSet_151 : decode cX4_bestSet 151 = .ok (.iadd, 1) := by decide +kernel
theorem dX4_bestSet_152 : decode cX4_bestSet 152 = .ok (.iaload, 1) := by decide +kernel
theorem dX4_bestSet_153 : decode cX4_bestSet 153 = .ok (.iload 6, 2) := by decide +kernel
theorem dX4_bestSet_155 : decode cX4_bestSet 155 = .ok (.if_icmp .ge 23, 3) := by decide +kernel
theorem dX4_bestSet_158 : decode cX4_bestSet 158 = .ok (.iload 7, 2) := by decide +kernel
theorem dX4_bestSet_160 : decode cX4_bestSet 160 = .ok (.istore 5, 2) := by decide +kernel
theorem dX4_bestSet_162 : decode cX4_bestSet 162 = .ok (.aload_n 0, 1) := by decide +kernel
theorem dX4_bestSet_163 : decode cX4_bestSet 163 = .ok (.getfield 11, 3) := by decide +kernel
theorem dX4_bestSet_166 : decode cX4_bestSet 166 = .ok (.iload_n 1, 1) := by decide +kernel
theorem dX4_bestSet_167 : decode cX4_bestSet 167 = .ok (.aload_n 0, 1) := by decide +kernel
theorem dX4_bestSet_168 : decode cX4_bestSet 168 = .ok (.getfield 15, 3) := by decide +kernel
theorem dX4_bestSet_171 : decode cX4_bestSet 171 = .ok (.iload 7, 2) := by decide +kernel
theorem dX4_bestSet_173 : decode cX4_bestSet 173 = .ok (.iaload, 1) := by decide +kernel
theorem dX4_bestSet_174 : decode cX4_bestSet 174 = .ok (.iadd, 1) := by decide +kernel
theorem dX4_bestSet_175 : decode cX4_bestSet 175 = .ok (.iaload, 1) := by decide +kernel
theorem dX4_bestSet_176 : decode cX4_bestSet 176 = .ok (.istore 6, 2) := by decide +kernel
theorem dX4_bestSet_178 : decode cX4_bestSet 178 = .ok (.iinc 7 1, 3) := by decide +kernel
theorem dX4_bestSet_181 : decode cX4_bestSet 181 = .ok (.goto (-143), 3) := by decide +kernel
theorem dX4_bestSet_184 : decode cX4_bestSet 184 = .ok (.iload 5, 2) := by decide +kernel
theorem dX4_bestSet_186 : decode cX4_bestSet 186 = .ok (.ireturn, 1) := by decide +kernel
theorem dX4_lookAtNext_0 : decode cX4_lookAtNext 0 = .ok (.iconst 0, 1) := by decide +kernel
theorem dX4_lookAtNext_1 : decode cX4_lookAtNext 1 = .ok (.istore 4, 2) := by decide +kernel
theorem dX4_lookAtNext_3 : decode cX4_lookAtNext 3 = .ok (.iconst 0, 1) := by decide +kernel
theorem dX4_lookAtNext_4 : decode cX4_lookAtNext 4 = .ok (.istore 5, 2) := by decide +kernel
theorem dX4_lookAtNext_6 : decode cX4_lookAtNext 6 = .ok (.iload 5, 2) := by decide +kernel
theorem dX4_lookAtNext_8 : decode cX4_lookAtNext 8 = .ok (.bipush 6, 2) := by decide +kernel
theorem dX4_lookAtNext_10 : decode cX4_lookAtNext 10 = .ok (.if_icmp .ge 84, 3) := by decide +kernel
theorem dX4_lookAtNext_13 : decode cX4_lookAtNext 13 = .ok (.iload_n 1, 1) := by decide +kernel
theorem dX4_lookAtNext_14 : decode cX4_lookAtNext 14 = .ok (.iload 5, 2) := by decide +kernel
theorem dX4_lookAtNext_16 : decode cX4_lookAtNext 16 = .ok (.invokestatic 55, 3) := by decide +kernel
theorem dX4_lookAtNext_19 : decode cX4_lookAtNext 19 = .ok (.istore 6, 2) := by decide +kernel
theorem dX4_lookAtNext_21 : decode cX4_lookAtNext 21 = .ok (.iload 6, 2) := by decide +kernel
theorem dX4_lookAtNext_23 : decode cX4_lookAtNext 23 = .ok (.aload_n 2, 1) := by decide +kernel
theorem dX4_lookAtNext_24 : decode cX4_lookAtNext 24 = .ok (.getfield 50, 3) := by decide +kernel
theorem dX4_lookAtNext_27 : decode cX4_lookAtNext 27 = .ok (.iload 5, 2) := by decide +kernel
theorem dX4_lookAtNext_29 : decode cX4_lookAtNext 29 = .ok (.iaload, 1) := by decide +kernel
theorem dX4_lookAtNext_30 : decode cX4_lookAtNext 30 = .ok (.if_icmp .ge 58, 3) := by decide +kernel
theorem dX4_lookAtNext_33 : decode cX4_lookAtNext 33 = .ok (.aload_n 2, 1) := by decide +kernel
theorem dX4_lookAtNext_34 : decode cX4_lookAtNext 34 = .ok (.getfield 73, 3) := by decide +kernel
theorem dX4_lookAtNext_37 : decode cX4_lookAtNext 37 = .ok (.iload 5, 2) := by decide +kernel
theorem dX4_lookAtNext_39 : decode cX4_lookAtNext 39 = .ok (.iload 6, 2) := by decide +kernel
theorem dX4_lookAtNext_41 : decode cX4_lookAtNext 41 = .ok (.invokestatic 76, 3) := by decide +kernel
theorem dX4_lookAtNext_44 : decode cX4_lookAtNext 44 = .ok (.iaload, 1) := by decide +kernel
theorem dX4_lookAtNext_45 : decode cX4_lookAtNext 45 = .ok (.istore 7, 2) := by decide +kernel
theorem dX4_lookAtNext_47 : decode cX4_lookAtNext 47 = .ok (.aload_n 0, 1) := by decide +kernel
theorem dX4_lookAtNext_48 : decode cX4_lookAtNext 48 = .ok (.getfield 18, 3) := by decide +kernel
theorem dX4_lookAtNext_51 : decode cX4_lookAtNext 51 = .ok (.iconst 1, 1) := by decide +kernel
theorem dX4_lookAtNext_52 : decode cX4_lookAtNext 52 = .ok (.iload 5, 2) := by decide +kernel
theorem dX4_lookAtNext_54 : decode cX4_lookAtNext 54 = .ok (.ishl, 1) := by decide +kernel
theorem dX4_lookAtNext_55 : decode cX4_lookAtNext 55 = .ok (.aload_n 3, 1) := by decide +kernel
theorem dX4_lookAtNext_56 : decode cX4_lookAtNext 56 = .ok (.getfield 79, 3) := by decide +kernel
theorem dX4_lookAtNext_59 : decode cX4_lookAtNext 59 = .ok (.iload 7, 2) := by decide +kernel
theorem dX4_lookAtNext_61 : decode cX4_lookAtNext 61 = .ok (.iaload, 1) := by decide +kernel
theorem dX4_lookAtNext_62 : decode cX4_lookAtNext 62 = .ok (.iastore, 1) := by decide +kernel
theorem dX4_lookAtNext_63 : decode cX4_lookAtNext 63 = .ok (.aload_n 0, 1) := by decide +kernel
theorem dX4_lookAtNext_64 : decode cX4_lookAtNext 64 = .ok (.getfield 21, 3) := by decide +kernel
theorem dX4_lookAtNext_67 : decode cX4_lookAtNext 67 = .ok (.iconst 1, 1) := by decide +kernel
theorem dX4_lookAtNext_68 : decode cX4_lookAtNext 68 = .ok (.iload 5, 2) := by decide +kernel
theorem dX4_lookAtNext_70 : decode cX4_lookAtNext 70 = .ok (.ishl, 1) := by decide +kernel
theorem dX4_lookAtNext_71 : decode cX4_lookAtNext 71 = .ok (.aload_n 3, 1) := by decide +kernel
theorem dX4_lookAtNext_72 : decode cX4_lookAtNext 72 = .ok (.getfield 84, 3) := by decide +kernel
theorem dX4_lookAtNext_75 : decode cX4_lookAtNext 75 = .ok (.iload 7, 2) := by decide +kernel
theorem dX4_lookAtNext_77 : decode cX4_lookAtNext 77 = .ok (.iaload, 1) := by decide +kernel
theorem dX4_lookAtNext_78 : decode cX4_lookAtNext 78 = .ok (.iastore, 1) := by decide +kernel
theorem dX4_lookAtNext_79 : decode cX4_lookAtNext 79 = .ok (.iload 4, 2) := by decide +kernel
theorem dX4_lookAtNext_81 : decode cX4_lookAtNext 81 = .ok (.iconst 1, 1) := by decide +kernel
theorem dX4_lookAtNext_82 : decode cX4_lookAtNext 82 = .ok (.iload 5, 2) := by decide +kernel
theorem dX4_lookAtNext_84 : decode cX4_lookAtNext 84 = .ok (.ishl, 1) := by decide +kernel
theorem dX4_lookAtNext_85 : decode cX4_lookAtNext 85 = .ok (.ior, 1) := by decide +kernel
theorem dX4_lookAtNext_86 : decode cX4_lookAtNext 86 = .ok (.istore 4, 2) := by decide +kernel
theorem dX4_lookAtNext_88 : decode cX4_lookAtNext 88 = .ok (.iinc 5 1, 3) := by decide +kernel
theorem dX4_lookAtNext_91 : decode cX4_lookAtNext 91 = .ok (.goto (-85), 3) := by decide +kernel
theorem dX4_lookAtNext_94 : decode cX4_lookAtNext 94 = .ok (.iload 4, 2) := by decide +kernel
theorem dX4_lookAtNext_96 : decode cX4_lookAtNext 96 = .ok (.ireturn, 1) := by decide +kernel
theorem dX4_burningOfPut_0 : decode cX4_burningOfPut 0 = .ok (.sipush 1200, 3) := by decide +kernel
theorem dX4_burningOfPut_3 : decode cX4_burningOfPut 3 = .ok (.istore_n 3, 1) := by decide +kernel
theorem dX4_burningOfPut_4 : decode cX4_burningOfPut 4 = .ok (.iconst 0, 1) := by decide +kernel
theorem dX4_burningOfPut_5 : decode cX4_burningOfPut 5 = .ok (.istore 4, 2) := by decide +kernel
theorem dX4_burningOfPut_7 : decode cX4_burningOfPut 7 = .ok (.iload 4, 2) := by decide +kernel
theorem dX4_burningOfPut_9 : decode cX4_burningOfPut 9 = .ok (.bipush 6, 2) := by decide +kernel
theorem dX4_burningOfPut_11 : decode cX4_burningOfPut 11 = .ok (.if_icmp .ge 55, 3) := by decide +kernel
theorem dX4_burningOfPut_14 : decode cX4_burningOfPut 14 = .ok (.iconst 0, 1) := by decide +kernel
theorem dX4_burningOfPut_15 : decode cX4_burningOfPut 15 = .ok (.istore 5, 2) := by decide +kernel
theorem dX4_burningOfPut_17 : decode cX4_burningOfPut 17 = .ok (.iload 5, 2) := by decide +kernel
theorem dX4_burningOfPut_19 : decode cX4_burningOfPut 19 = .ok (.iload_n 0, 1) := by decide +kernel
theorem dX4_burningOfPut_20 : decode cX4_burningOfPut 20 = .ok (.iload 4, 2) := by decide +kernel
theorem dX4_burningOfPut_22 : decode cX4_burningOfPut 22 = .ok (.invokestatic 55, 3) := by decide +kernel
theorem dX4_burningOfPut_25 : decode cX4_burningOfPut 25 = .ok (.if_icmp .ge 35, 3) := by decide +kernel
theorem dX4_burningOfPut_28 : decode cX4_burningOfPut 28 = .ok (.aload_n 1, 1) := by decide +kernel
theorem dX4_burningOfPut_29 : decode cX4_burningOfPut 29 = .ok (.getfield 73, 3) := by decide +kernel
theorem dX4_burningOfPut_32 : decode cX4_burningOfPut 32 = .ok (.iload 4, 2) := by decide +kernel
theorem dX4_burningOfPut_34 : decode cX4_burningOfPut 34 = .ok (.iload 5, 2) := by decide +kernel
theorem dX4_burningOfPut_36 : decode cX4_burningOfPut 36 = .ok (.invokestatic 76, 3) := by decide +kernel
theorem dX4_burningOfPut_39 : decode cX4_burningOfPut 39 = .ok (.iaload, 1) := by decide +kernel
theorem dX4_burningOfPut_40 : decode cX4_burningOfPut 40 = .ok (.istore 6, 2) := by decide +kernel
theorem dX4_burningOfPut_42 : decode cX4_burningOfPut 42 = .ok (.iload_n 3, 1) := by decide +kernel
theorem dX4_burningOfPut_43 : decode cX4_burningOfPut 43 = .ok (.aload_n 2, 1) := by decide +kernel
theorem dX4_burningOfPut_44 : decode cX4_burningOfPut 44 = .ok (.getfield 84, 3) := by decide +kernel
theorem dX4_burningOfPut_47 : decode cX4_burningOfPut 47 = .ok (.iload 6, 2) := by decide +kernel
theorem dX4_burningOfPut_49 : decode cX4_burningOfPut 49 = .ok (.iaload, 1) := by decide +kernel
theorem dX4_burningOfPut_50 : decode cX4_burningOfPut 50 = .ok (.invokestatic 70, 3) := by decide +kernel
theorem dX4_burningOfPut_53 : decode cX4_burningOfPut 53 = .ok (.istore_n 3, 1) := by decide +kernel
theorem dX4_burningOfPut_54 : decode cX4_burningOfPut 54 = .ok (.iinc 5 1, 3) := by decide +kernel
theorem dX4_burningOfPut_57 : decode cX4_burningOfPut 57 = .ok (.goto (-40), 3) := by decide +kernel
theorem dX4_burningOfPut_60 : decode cX4_burningOfPut 60 = .ok (.iinc 4 1, 3) := by decide +kernel
theorem dX4_burningOfPut_63 : decode cX4_burningOfPut 63 = .ok (.goto (-56), 3) := by decide +kernel
theorem dX4_burningOfPut_66 : decode cX4_burningOfPut 66 = .ok (.iload_n 3, 1) := by decide +kernel
theorem dX4_burningOfPut_67 : decode cX4_burningOfPut 67 = .ok (.ireturn, 1) := by decide +kernel
theorem dX5_init_0 : decode cX5_init 0 = .ok (.aload_n 0, 1) := by decide +kernel
theorem dX5_init_1 : decode cX5_init 1 = .ok (.invokespecial 3, 3) := by decide +kernel
theorem dX5_init_4 : decode cX5_init 4 = .ok (.aload_n 0, 1) := by decide +kernel
theorem dX5_init_5 : decode cX5_init 5 = .ok (.bipush 7, 2) := by decide +kernel
theorem dX5_init_7 : decode cX5_init 7 = .ok (.newarray .int, 2) := by decide +kernel
theorem dX5_init_9 : decode cX5_init 9 = .ok (.putfield 9, 3) := by decide +kernel
theorem dX5_init_12 : decode cX5_init 12 = .ok (.aload_n 0, 1) := by decide +kernel
theorem dX5_init_13 : decode cX5_init 13 = .ok (.bipush 21, 2) := by decide +kernel
theorem dX5_init_15 : decode cX5_init 15 = .ok (.newarray .int, 2) := by decide +kernel
theorem dX5_init_17 : decode cX5_init 17 = .ok (.putfield 15, 3) := by decide +kernel
theorem dX5_init_20 : decode cX5_init 20 = .ok (.aload_n 0, 1) := by decide +kernel
theorem dX5_init_21 : decode cX5_init 21 = .ok (.bipush 21, 2) := by decide +kernel
theorem dX5_init_23 : decode cX5_init 23 = .ok (.newarray .int, 2) := by decide +kernel
theorem dX5_init_25 : decode cX5_init 25 = .ok (.putfield 18, 3) := by decide +kernel
theorem dX5_init_28 : decode cX5_init 28 = .ok (.aload_n 0, 1) := by decide +kernel
theorem dX5_init_29 : decode cX5_init 29 = .ok (.bipush 21, 2) := by decide +kernel
theorem dX5_init_31 : decode cX5_init 31 = .ok (.newarray .int, 2) := by decide +kernel
theorem dX5_init_33 : decode cX5_init 33 = .ok (.putfield 21, 3) := by decide +kernel
theorem dX5_init_36 : decode cX5_init 36 = .ok (.aload_n 0, 1) := by decide +kernel
theorem dX5_init_37 : decode cX5_init 37 = .ok (.bipush 6, 2) := by decide +kernel
theorem dX5_init_39 : decode cX5_init 39 = .ok (.newarray .int, 2) := by decide +kernel
theorem dX5_init_41 : decode cX5_init 41 = .ok (.putfield 24, 3) := by decide +kernel
theorem dX5_init_44 : decode cX5_init 44 = .ok (.return_, 1) := by decide +kernel
theorem dX5_append_0 : decode cX5_append 0 = .ok (.aload_n 0, 1) := by decide +kernel
theorem dX5_append_1 : decode cX5_append 1 = .ok (.getfield 9, 3) := by decide +kernel
theorem dX5_append_4 : decode cX5_append 4 = .ok (.iload_n 1, 1) := by decide +kernel
theorem dX5_append_5 : decode cX5_append 5 = .ok (.iaload, 1) := by decide +kernel
theorem dX5_append_6 : decode cX5_append 6 = .ok (.istore_n 3, 1) := by decide +kernel
theorem dX5_append_7 : decode cX5_append 7 = .ok (.iload_n 1, 1) := by decide +kernel
theorem dX5_append_8 : decode cX5_append 8 = .ok (.iload_n 3, 1) := by decide +kernel
theorem dX5_append_9 : decode cX5_append 9 = .ok (.invokestatic 27, 3) := by decide +kernel
theorem dX5_append_12 : decode cX5_append 12 = .ok (.istore 4, 2) := by decide +kernel
theorem dX5_append_14 : decode cX5_append 14 = .ok (.aload_n 0, 1) := by decide +kernel
theorem dX5_append_15 : decode cX5_append 15 = .ok (.getfield 15, 3) := by decide +kernel
theorem dX5_append_18 : decode cX5_append 18 = .ok (.iload 4, 2) := by decide +kernel
theorem dX5_append_20 : decode cX5_append 20 = .ok (.iload_n 2, 1) := by decide +kernel
theorem dX5_append_21 : decode cX5_append 21 = .ok (.iastore, 1) := by decide +kernel
theorem dX5_append_22 : decode cX5_append 22 = .ok (.aload_n 0, 1) := by decide +kernel
theorem dX5_append_23 : decode cX5_append 23 = .ok (.getfield 18, 3) := by decide +kernel
theorem dX5_append_26 : decode cX5_append 26 = .ok (.iload 4, 2) := by decide +kernel
theorem dX5_append_28 : decode cX5_append 28 = .ok (.iconst 0, 1) := by decide +kernel
theorem dX5_append_29 : decode cX5_append 29 = .ok (.iastore, 1) := by decide +kernel
theorem dX5_append_30 : decode cX5_append 30 = .ok (.aload_n 0, 1) := by decide +kernel
theorem dX5_append_31 : decode cX5_append 31 = .ok (.getfield 21, 3) := by decide +kernel
theorem dX5_append_34 : decode cX5_append 34 = .ok (.iload 4, 2) := by decide +kernel
theorem dX5_append_36 : decode cX5_append 36 = .ok (.iconst 0, 1) := by decide +kernel
theorem dX5_append_37 : decode cX5_append 37 = .ok (.iastore, 1) := by decide +kernel
theorem dX5_append_38 : decode cX5_append 38 = .ok (.aload_n 0, 1) := by decide +kernel
theorem dX5_append_39 : decode cX5_append 39 = .ok (.getfield 9, 3) := by decide +kernel
theorem dX5_append_42 : decode cX5_append 42 = .ok (.iload_n 1, 1) := by decide +kernel
theorem dX5_append_43 : decode cX5_append 43 = .ok (.dup2, 1) := by decide +kernel
theorem dX5_append_44 : decode cX5_append 44 = .ok (.iaload, 1) := by decide +kernel
theorem dX5_append_45 : decode cX5_append 45 = .ok (.iconst 1, 1) := by decide +kernel
theorem dX5_append_46 : decode cX5_append 46 = .ok (.iadd, 1) := by decide +kernel
theorem dX5_append_47 : decode cX5_append 47 = .ok (.iastore, 1) := by decide +kernel
theorem dX5_append_48 : decode cX5_append 48 = .ok (.iload_n 3, 1) := by decide +kernel
theorem dX5_append_49 : decode cX5_append 49 = .ok (.ireturn, 1) := by decide +kernel
theorem dX5_removeOutermost_0 : decode cX5_removeOutermost 0 = .ok (.aload_n 0, 1) := by decide +kernel
theorem dX5_removeOutermost_1 : decode cX5_removeOutermost 1 = .ok (.getfield 9, 3) := by decide +kernel
theorem dX5_removeOutermost_4 : decode cX5_removeOutermost 4 = .ok (.iload_n 1, 1) := by decide +kernel
theorem dX5_removeOutermost_5 : decode cX5_removeOutermost 5 = .ok (.dup2, 1) := by decide +kernel
theorem dX5_removeOutermost_6 : decode cX5_removeOutermost 6 = .ok (.iaload, 1) := by decide +kernel
theorem dX5_removeOutermost_7 : decode cX5_removeOutermost 7 = .ok (.iconst 1, 1) := by decide +kernel
theorem dX5_removeOutermost_8 : decode cX5_removeOutermost 8 = .ok (.isub, 1) := by decide +kernel
theorem dX5_removeOutermost_9 : decode cX5_removeOutermost 9 = .ok (.iastore, 1) := by decide +kernel
theorem dX5_removeOutermost_10 : decode cX5_removeOutermost 10 = .ok (.aload_n 0, 1) := by decide +kernel
theorem dX5_removeOutermost_11 : decode cX5_removeOutermost 11 = .ok (.getfield 15, 3) := by decide +kernel
theorem dX5_removeOutermost_14 : decode cX5_removeOutermost 14 = .ok (.iload_n 1, 1) := by decide +kernel
theorem dX5_removeOutermost_15 : decode cX5_removeOutermost 15 = .ok (.aload_n 0, 1) := by decide +kernel
theorem dX5_removeOutermost_16 : decode cX5_removeOutermost 16 = .ok (.getfield 9, 3) := by decide +kernel
theorem dX5_removeOutermost_19 : decode cX5_removeOutermost 19 = .ok (.iload_n 1, 1) := by decide +kernel
theorem dX5_removeOutermost_20 : decode cX5_removeOutermost 20 = .ok (.iaload, 1) := by decide +kernel
theorem dX5_removeOutermost_21 : decode cX5_removeOutermost 21 = .ok (.invokestatic 27, 3) := by decide +kernel
theorem dX5_removeOutermost_24 : decode cX5_removeOutermost 24 = .ok (.iaload, 1) := by decide +kernel
theorem dX5_removeOutermost_25 : decode cX5_removeOutermost 25 = .ok (.ireturn, 1) := by decide +kernel
theorem dX5_outermostIsRaw_0 : decode cX5_outermostIsRaw 0 = .ok (.aload_n 0, 1) := by decide +kernel
theorem dX5_outermostIsRaw_1 : decode cX5_outermostIsRaw 1 = .ok (.getfield 9, 3) := by decide +kernel
theorem dX5_outermostIsRaw_4 : decode cX5_outermostIsRaw 4 = .ok (.iload_n 1, 1) := by decide +kernel
theorem dX5_outermostIsRaw_5 : decode cX5_outermostIsRaw 5 = .ok (.iaload, 1) := by decide +kernel
theorem dX5_outermostIsRaw_6 : decode cX5_outermostIsRaw 6 = .ok (.ifCond .le 27, 3) := by decide +kernel
theorem dX5_outermostIsRaw_9 : decode cX5_outermostIsRaw 9 = .ok (.aload_n 0, 1) := by decide +kernel
theorem dX5_outermostIsRaw_10 : decode cX5_outermostIsRaw 10 = .ok (.getfield 18, 3) := by decide +kernel
theorem dX5_outermostIsRaw_13 : decode cX5_outermostIsRaw 13 = .ok (.iload_n 1, 1) := by decide +kernel
theorem dX5_outermostIsRaw_14 : decode cX5_outermostIsRaw 14 = .ok (.aload_n 0, 1) := by decide +kernel
theorem dX5_outermostIsRaw_15 : decode cX5_outermostIsRaw 15 = .ok (.getfield 9, 3) := by decide +kernel
theorem dX5_outermostIsRaw_18 : decode cX5_outermostIsRaw 18 = .ok (.iload_n 1, 1) := by decide +kernel
theorem dX5_outermostIsRaw_19 : decode cX5_outermostIsRaw 19 = .ok (.iaload, 1) := by decide +kernel
theorem dX5_outermostIsRaw_20 : decode cX5_outermostIsRaw 20 = .ok (.iconst 1, 1) := by decide +kernel
theorem dX5_outermostIsRaw_21 : decode cX5_outermostIsRaw 21 = .ok (.isub, 1) := by decide +kernel
theorem dX5_outermostIsRaw_22 : decode cX5_outermostIsRaw 22 = .ok (.invokestatic 27, 3) := by decide +kernel
theorem dX5_outermostIsRaw_25 : decode cX5_outermostIsRaw 25 = .ok (.iaload, 1) := by decide +kernel
theorem dX5_outermostIsRaw_26 : decode cX5_outermostIsRaw 26 = .ok (.ifCond .ne 7, 3) := by decide +kernel
theorem dX5_outermostIsRaw_29 : decode cX5_outermostIsRaw 29 = .ok (.iconst 1, 1) := by decide +kernel
theorem dX5_outermostIsRaw_30 : decode cX5_outermostIsRaw 30 = .ok (.goto 4, 3) := by decide +kernel
theorem dX5_outermostIsRaw_33 : decode cX5_outermostIsRaw 33 = .ok (.iconst 0, 1) := by decide +kernel
theorem dX5_outermostIsRaw_34 : decode cX5_outermostIsRaw 34 = .ok (.ireturn, 1) := by decide +kernel
theorem dX5_makeBare_0 : decode cX5_makeBare 0 = .ok (.iconst 0, 1) := by decide +kernel
theorem dX5_makeBare_1 : decode cX5_makeBare 1 = .ok (.istore_n 1, 1) := by decide +kernel
theorem dX5_makeBare_2 : decode cX5_makeBare 2 = .ok (.iload_n 1, 1) := by decide +kernel
theorem dX5_makeBare_3 : decode cX5_makeBare 3 = .ok (.bipush 7, 2) := by decide +kernel
theorem dX5_makeBare_5 : decode cX5_makeBare 5 = .ok (.if_icmp .ge 16, 3) := by decide +kernel
theorem dX5_makeBare_8 : decode cX5_makeBare 8 = .ok (.aload_n 0, 1) := by decide +kernel
theorem dX5_makeBare_9 : decode cX5_makeBare 9 = .ok (.getfield 9, 3) := by decide +kernel
theorem dX5_makeBare_12 : decode cX5_makeBare 12 = .ok (.iload_n 1, 1) := by decide +kernel
theorem dX5_makeBare_13 : decode cX5_makeBare 13 = .ok (.iconst 0, 1) := by decide +kernel
theorem dX5_makeBare_14 : decode cX5_makeBare 14 = .ok (.iastore, 1) := by decide +kernel
theorem dX5_makeBare_15 : decode cX5_makeBare 15 = .ok (.iinc 1 1, 3) := by decide +kernel
theorem dX5_makeBare_18 : decode cX5_makeBare 18 = .ok (.goto (-16), 3) := by decide +kernel
theorem dX5_makeBare_21 : decode cX5_makeBare 21 = .ok (.iconst 0, 1) := by decide +kernel
theorem dX5_makeBare_22 : decode cX5_makeBare 22 = .ok (.istore_n 1, 1) := by decide +kernel
theorem dX5_makeBare_23 : decode cX5_makeBare 23 = .ok (.iload_n 1, 1) := by decide +kernel
theorem dX5_makeBare_24 : decode cX5_makeBare 24 = .ok (.bipush 6, 2) := by decide +kernel
theorem dX5_makeBare_26 : decode cX5_makeBare 26 = .ok (.if_icmp .ge 16, 3) := by decide +kernel
theorem dX5_makeBare_29 : decode cX5_makeBare 29 = .ok (.aload_n 0, 1) := by decide +kernel
theorem dX5_makeBare_30 : decode cX5_makeBare 30 = .ok (.getfield 24, 3) := by decide +kernel
theorem dX5_makeBare_33 : decode cX5_makeBare 33 = .ok (.iload_n 1, 1) := by decide +kernel
theorem dX5_makeBare_34 : decode cX5_makeBare 34 = .ok (.iconst 0, 1) := by decide +kernel
theorem dX5_makeBare_35 : decode cX5_makeBare 35 = .ok (.iastore, 1) := by decide +kernel
theorem dX5_makeBare_36 : decode cX5_makeBare 36 = .ok (.iinc 1 1, 3) := by decide +kernel
theorem dX5_makeBare_39 : decode cX5_makeBare 39 = .ok (.goto (-16), 3) := by decide +kernel
theorem dX5_makeBare_42 : decode cX5_makeBare 42 = .ok (.return_, 1) := by decide +kernel
theorem dX5_layers_0 : decode cX5_layers 0 = .ok (.iconst 0, 1) := by decide +kernel
theorem dX5_layers_1 : decode cX5_layers 1 = .ok (.istore_n 1, 1) := by decide +kernel
theorem dX5_layers_2 : decode cX5_layers 2 = .ok (.iconst 0, 1) := by decide +kernel
theorem dX5_layers_3 : decode cX5_layers 3 = .ok (.istore_n 2, 1) := by decide +kernel
theorem dX5_layers_4 : decode cX5_layers 4 = .ok (.iload_n 2, 1) := by decide +kernel
theorem dX5_layers_5 : decode cX5_layers 5 = .ok (.bipush 7, 2) := by decide +kernel
theorem dX5_layers_7 : decode cX5_layers 7 = .ok (.if_icmp .ge 18, 3) := by decide +kernel
theorem dX5_layers_10 : decode cX5_layers 10 = .ok (.iload_n 1, 1) := by decide +kernel
theorem dX5_layers_11 : decode cX5_layers 11 = .ok (.aload_n 0, 1) := by decide +kernel
theorem dX5_layers_12 : decode cX5_layers 12 = .ok (.getfield 9, 3) := by decide +kernel
theorem dX5_layers_15 : decode cX5_layers 15 = .ok (.iload_n 2, 1) := by decide +kernel
theorem dX5_layers_16 : decode cX5_layers 16 = .ok (.iaload, 1) := by decide +kernel
theorem dX5_layers_17 : decode cX5_layers 17 = .ok (.iadd, 1) := by decide +kernel
theorem dX5_layers_18 : decode cX5_layers 18 = .ok (.istore_n 1, 1) := by decide +kernel
theorem dX5_layers_19 : decode cX5_layers 19 = .ok (.iinc 2 1, 3) := by decide +kernel
theorem dX5_layers_22 : decode cX5_layers 22 = .ok (.goto (-18), 3) := by decide +kernel
theorem dX5_layers_25 : decode cX5_layers 25 = .ok (.iload_n 1, 1) := by decide +kernel
theorem dX5_layers_26 : decode cX5_layers 26 = .ok (.ireturn, 1) := by decide +kernel
theorem dX5_layersOfColor_0 : decode cX5_layersOfColor 0 = .ok (.aload_n 0, 1) := by decide +kernel
theorem dX5_layersOfColor_1 : decode cX5_layersOfColor 1 = .ok (.aload_n 0, 1) := by decide +kernel
theorem dX5_layersOfColor_2 : decode cX5_layersOfColor 2 = .ok (.getfield 15, 3) := by decide +kernel
theorem dX5_layersOfColor_5 : decode cX5_layersOfColor 5 = .ok (.iload_n 1, 1) := by decide +kernel
theorem dX5_layersOfColor_6 : decode cX5_layersOfColor 6 = .ok (.invokevirtual 31, 3) := by decide +kernel
theorem dX5_layersOfColor_9 : decode cX5_layersOfColor 9 = .ok (.ireturn, 1) := by decide +kernel
theorem dX5_layersOfState_0 : decode cX5_layersOfState 0 = .ok (.aload_n 0, 1) := by decide +kernel
theorem dX5_layersOfState_1 : decode cX5_layersOfState 1 = .ok (.aload_n 0, 1) := by decide +kernel
theorem dX5_layersOfState_2 : decode cX5_layersOfState 2 = .ok (.getfield 18, 3) := by decide +kernel
theorem dX5_layersOfState_5 : decode cX5_layersOfState 5 = .ok (.iload_n 1, 1) := by decide +kernel
theorem dX5_layersOfState_6 : decode cX5_layersOfState 6 = .ok (.invokevirtual 31, 3) := by decide +kernel
theorem dX5_layersOfState_9 : decode cX5_layersOfState 9 = .ok (.ireturn, 1) := by decide +kernel
theorem dX5_layersWith_0 : decode cX5_layersWith 0 = .ok (.iconst 0, 1) := by decide +kernel
theorem dX5_layersWith_1 : decode cX5_layersWith 1 = .ok (.istore_n 3, 1) := by decide +kernel
theorem dX5_layersWith_2 : decode cX5_layersWith 2 = .ok (.iconst 0, 1) := by decide +kernel
theorem dX5_layersWith_3 : decode cX5_layersWith 3 = .ok (.istore 4, 2) := by decide +kernel
theorem dX5_layersWith_5 : decode cX5_layersWith 5 = .ok (.iload 4, 2) := by decide +kernel
theorem dX5_layersWith_7 : decode cX5_layersWith 7 = .ok (.bipush 7, 2) := by decide +kernel
theorem dX5_layersWith_9 : decode cX5_layersWith 9 = .ok (.if_icmp .ge 46, 3) := by decide +kernel
theorem dX5_layersWith_12 : decode cX5_layersWith 12 = .ok (.iconst 0, 1) := by decide +kernel
theorem dX5_layersWith_13 : decode cX5_layersWith 13 = .ok (.istore 5, 2) := by decide +kernel
theorem dX5_layersWith_15 : decode cX5_layersWith 15 = .ok (.iload 5, 2) := by decide +kernel
theorem dX5_layersWith_17 : decode cX5_layersWith 17 = .ok (.aload_n 0, 1) := by decide +kernel
theorem dX5_layersWith_18 : decode cX5_layersWith 18 = .ok (.getfield 9, 3) := by decide +kernel
theorem dX5_layersWith_21 : decode cX5_layersWith 21 = .ok (.iload 4, 2) := by decide +kernel
theorem dX5_layersWith_23 : decode cX5_layersWith 23 = .ok (.iaload, 1) := by decide +kernel
theorem dX5_layersWith_24 : decode cX5_layersWith 24 = .ok (.if_icmp .ge 25, 3) := by decide +kernel
theorem dX5_layersWith_27 : decode cX5_layersWith 27 = .ok (.aload_n 1, 1) := by decide +kernel
theorem dX5_layersWith_28 : decode cX5_layersWith 28 = .ok (.iload 4, 2) := by decide +kernel
theorem dX5_layersWith_30 : decode cX5_layersWith 30 = .ok (.iload 5, 2) := by decide +kernel
theorem dX5_layersWith_32 : decode cX5_layersWith 32 = .ok (.invokestatic 27, 3) := by decide +kernel
theorem dX5_layersWith_35 : decode cX5_layersWith 35 = .ok (.iaload, 1) := by decide +kernel
theorem dX5_layersWith_36 : decode cX5_layersWith 36 = .ok (.iload_n 2, 1) := by decide +kernel
theorem dX5_layersWith_37 : decode cX5_layersWith 37 = .ok (.if_icmp .ne 6, 3) := by decide +kernel
theorem dX5_layersWith_40 : decode cX5_layersWith 40 = .ok (.iinc 3 1, 3) := by decide +kernel
theorem dX5_layersWith_43 : decode cX5_layersWith 43 = .ok (.iinc 5 1, 3) := by decide +kernel
theorem dX5_layersWith_46 : decode cX5_layersWith 46 = .ok (.goto (-31), 3) := by decide +kernel
theorem dX5_layersWith_49 : decode cX5_layersWith 49 = .ok (.iinc 4 1, 3) := by decide +kernel
theorem dX5_layersWith_52 : decode cX5_layersWith 52 = .ok (.goto (-47), 3) := by decide +kernel
theorem dX5_layersWith_55 : decode cX5_layersWith 55 = .ok (.iload_n 3, 1) := by decide +kernel
theorem dX5_layersWith_56 : decode cX5_layersWith 56 = .ok (.ireturn, 1) := by decide +kernel
theorem dX5_crackedFields_0 : decode cX5_crackedFields 0 = .ok (.iconst 0, 1) := by decide +kernel
theorem dX5_crackedFields_1 : decode cX5_crackedFields 1 = .ok (.istore_n 1, 1) := by decide +kernel
theorem dX5_crackedFields_2 : decode cX5_crackedFields 2 = .ok (.iconst 0, 1) := by decide +kernel
theorem dX5_crackedFields_3 : decode cX5_crackedFields 3 = .ok (.istore_n 2, 1) := by decide +kernel
theorem dX5_crackedFields_4 : decode cX5_crackedFields 4 = .ok (.iload_n 2, 1) := by decide +kernel
theorem dX5_crackedFields_5 : decode cX5_crackedFields 5 = .ok (.bipush 6, 2) := by decide +kernel
theorem dX5_crackedFields_7 : decode cX5_crackedFields 7 = .ok (.if_icmp .ge 18, 3) := by decide +kernel
theorem dX5_crackedFields_10 : decode cX5_crackedFields 10 = .ok (.iload_n 1, 1) := by decide +kernel
theorem dX5_crackedFields_11 : decode cX5_crackedFields 11 = .ok (.aload_n 0, 1) := by decide +kernel
theorem dX5_crackedFields_12 : decode cX5_crackedFields 12 = .ok (.getfield 24, 3) := by decide +kernel
theorem dX5_crackedFields_15 : decode cX5_crackedFields 15 = .ok (.iload_n 2, 1) := by decide +kernel
theorem dX5_crackedFields_16 : decode cX5_crackedFields 16 = .ok (.iaload, 1) := by decide +kernel
theorem dX5_crackedFields_17 : decode cX5_crackedFields 17 = .ok (.iadd, 1) := by decide +kernel
theorem dX5_crackedFields_18 : decode cX5_crackedFields 18 = .ok (.istore_n 1, 1) := by decide +kernel
theorem dX5_crackedFields_19 : decode cX5_crackedFields 19 = .ok (.iinc 2 1, 3) := by decide +kernel
theorem dX5_crackedFields_22 : decode cX5_crackedFields 22 = .ok (.goto (-18), 3) := by decide +kernel
theorem dX5_crackedFields_25 : decode cX5_crackedFields 25 = .ok (.iload_n 1, 1) := by decide +kernel
theorem dX5_crackedFields_26 : decode cX5_crackedFields 26 = .ok (.ireturn, 1) := by decide +kernel
theorem dX5_holdsOn_0 : decode cX5_holdsOn 0 = .ok (.aload_n 0, 1) := by decide +kernel
theorem dX5_holdsOn_1 : decode cX5_holdsOn 1 = .ok (.getfield 18, 3) := by decide +kernel
theorem dX5_holdsOn_4 : decode cX5_holdsOn 4 = .ok (.iload_n 1, 1) := by decide +kernel
theorem dX5_holdsOn_5 : decode cX5_holdsOn 5 = .ok (.iaload, 1) := by decide +kernel
theorem dX5_holdsOn_6 : decode cX5_holdsOn 6 = .ok (.iconst 2, 1) := by decide +kernel
theorem dX5_holdsOn_7 : decode cX5_holdsOn 7 = .ok (.if_icmp .eq 13, 3) := by decide +kernel
theorem dX5_holdsOn_10 : decode cX5_holdsOn 10 = .ok (.aload_n 0, 1) := by decide +kernel
theorem dX5_holdsOn_11 : decode cX5_holdsOn 11 = .ok (.getfield 18, 3) := by decide +kernel
theorem dX5_holdsOn_14 : decode cX5_holdsOn 14 = .ok (.iload_n 1, 1) := by decide +kernel
theorem dX5_holdsOn_15 : decode cX5_holdsOn 15 = .ok (.iaload, 1) := by decide +kernel
theorem dX5_holdsOn_16 : decode cX5_holdsOn 16 = .ok (.iconst 3, 1) := by decide +kernel
theorem dX5_holdsOn_17 : decode cX5_holdsOn 17 = .ok (.if_icmp .ne 7, 3) := by decide +kernel
theorem dX5_holdsOn_20 : decode cX5_holdsOn 20 = .ok (.iconst 1, 1) := by decide +kernel
theorem dX5_holdsOn_21 : decode cX5_holdsOn 21 = .ok (.goto 4, 3) := by decide +kernel
theorem dX5_holdsOn_24 : decode cX5_holdsOn 24 = .ok (.iconst 0, 1) := by decide +kernel
theorem dX5_holdsOn_25 : decode cX5_holdsOn 25 = .ok (.ireturn, 1) := by decide +kernel
theorem dX5_hasHold_0 : decode cX5_hasHold 0 = .ok (.iconst 0, 1) := by decide +kernel
theorem dX5_hasHold_1 : decode cX5_hasHold 1 = .ok (.istore_n 2, 1) := by decide +kernel
theorem dX5_hasHold_2 : decode cX5_hasHold 2 = .ok (.iload_n 2, 1) := by decide +kernel
theorem dX5_hasHold_3 : decode cX5_hasHold 3 = .ok (.aload_n 0, 1) := by decide +kernel
theorem dX5_hasHold_4 : decode cX5_hasHold 4 = .ok (.getfield 9, 3) := by decide +kernel
theorem dX5_hasHold_7 : decode cX5_hasHold 7 = .ok (.iload_n 1, 1) := by decide +kernel
theorem dX5_hasHold_8 : decode cX5_hasHold 8 = .ok (.iaload, 1) := by decide +kernel
theorem dX5_hasHold_9 : decode cX5_hasHold 9 = .ok (.if_icmp .ge 23, 3) := by decide +kernel
theorem dX5_hasHold_12 : decode cX5_hasHold 12 = .ok (.aload_n 0, 1) := by decide +kernel
theorem dX5_hasHold_13 : decode cX5_hasHold 13 = .ok (.iload_n 1, 1) := by decide +kernel
theorem dX5_hasHold_14 : decode cX5_hasHold 14 = .ok (.iload_n 2, 1) := by decide +kernel
theorem dX5_hasHold_15 : decode cX5_hasHold 15 = .ok (.invokestatic 27, 3) := by decide +kernel
theorem dX5_hasHold_18 : decode cX5_hasHold 18 = .ok (.invokevirtual 35, 3) := by decide +kernel
theorem dX5_hasHold_21 : decode cX5_hasHold 21 = .ok (.ifCond .eq 5, 3) := by decide +kernel
theorem dX5_hasHold_24 : decode cX5_hasHold 24 = .ok (.iconst 1, 1) := by decide +kernel
theorem dX5_hasHold_25 : decode cX5_hasHold 25 = .ok (.ireturn, 1) := by decide +kernel
theorem dX5_hasHold_26 : decode cX5_hasHold 26 = .ok (.iinc 2 1, 3) := by decide +kernel
theorem dX5_hasHold_29 : decode cX5_hasHold 29 = .ok (.goto (-27), 3) := by decide +kernel
theorem dX5_hasHold_32 : decode cX5_hasHold 32 = .ok (.iconst 0, 1) := by decide +kernel
theorem dX5_hasHold_33 : decode cX5_hasHold 33 = .ok (.ireturn, 1) := by decide +kernel
theorem dX5_pullOf_0 : decode cX5_pullOf 0 = .ok (.iconst 0, 1) := by decide +kernel
theorem dX5_pullOf_1 : decode cX5_pullOf 1 = .ok (.istore_n 3, 1) := by decide +kernel
theorem dX5_pullOf_2 : decode cX5_pullOf 2 = .ok (.iconst 0, 1) := by decide +kernel
theorem dX5_pullOf_3 : decode cX5_pullOf 3 = .ok (.istore 4, 2) := by decide +kernel
theorem dX5_pullOf_5 : decode cX5_pullOf 5 = .ok (.iload 4, 2) := by decide +kernel
theorem dX5_pullOf_7 : decode cX5_pullOf 7 = .ok (.aload_n 0, 1) := by decide +kernel
theorem dX5_pullOf_8 : decode cX5_pullOf 8 = .ok (.getfield 9, 3) := by decide +kernel
theorem dX5_pullOf_11 : decode cX5_pullOf 11 = .ok (.iload_n 1, 1) := by decide +kernel
theorem dX5_pullOf_12 : decode cX5_pullOf 12 = .ok (.iaload, 1) := by decide +kernel
theorem dX5_pullOf_13 : decode cX5_pullOf 13 = .ok (.if_icmp .ge 40, 3) := by decide +kernel
theorem dX5_pullOf_16 : decode cX5_pullOf 16 = .ok (.iload_n 1, 1) := by decide +kernel
theorem dX5_pullOf_17 : decode cX5_pullOf 17 = .ok (.iload 4, 2) := by decide +kernel
theorem dX5_pullOf_19 : decode cX5_pullOf 19 = .ok (.invokestatic 27, 3) := by decide +kernel
theorem dX5_pullOf_22 : decode cX5_pullOf 22 = .ok (.istore 5, 2) := by decide +kernel
theorem dX5_pullOf_24 : decode cX5_pullOf 24 = .ok (.aload_n 0, 1) := by decide +kernel
theorem dX5_pullOf_25 : decode cX5_pullOf 25 = .ok (.iload 5, 2) := by decide +kernel
theorem dX5_pullOf_27 : decode cX5_pullOf 27 = .ok (.invokevirtual 35, 3) := by decide +kernel
theorem dX5_pullOf_30 : decode cX5_pullOf 30 = .ok (.ifCond .eq 17, 3) := by decide +kernel
theorem dX5_pullOf_33 : decode cX5_pullOf 33 = .ok (.iload_n 3, 1) := by decide +kernel
theorem dX5_pullOf_34 : decode cX5_pullOf 34 = .ok (.aload_n 2, 1) := by decide +kernel
theorem dX5_pullOf_35 : decode cX5_pullOf 35 = .ok (.aload_n 0, 1) := by decide +kernel
theorem dX5_pullOf_36 : decode cX5_pullOf 36 = .ok (.getfield 15, 3) := by decide +kernel
theorem dX5_pullOf_39 : decode cX5_pullOf 39 = .ok (.iload 5, 2) := by decide +kernel
theorem dX5_pullOf_41 : decode cX5_pullOf 41 = .ok (.iaload, 1) := by decide +kernel
theorem dX5_pullOf_42 : decode cX5_pullOf 42 = .ok (.invokevirtual 39, 3) := by decide +kernel
theorem dX5_pullOf_45 : decode cX5_pullOf 45 = .ok (.iadd, 1) := by decide +kernel
theorem dX5_pullOf_46 : decode cX5_pullOf 46 = .ok (.istore_n 3, 1) := by decide +kernel
theorem dX5_pullOf_47 : decode cX5_pullOf 47 = .ok (.iinc 4 1, 3) := by decide +kernel
theorem dX5_pullOf_50 : decode cX5_pullOf 50 = .ok (.goto (-45), 3) := by decide +kernel
theorem dX5_pullOf_53 : decode cX5_pullOf 53 = .ok (.iload_n 3, 1) := by decide +kernel
theorem dX5_pullOf_54 : decode cX5_pullOf 54 = .ok (.ireturn, 1) := by decide +kernel
theorem dX5_strainOf_0 : decode cX5_strainOf 0 = .ok (.aload_n 0, 1) := by decide +kernel
theorem dX5_strainOf_1 : decode cX5_strainOf 1 = .ok (.iload_n 1, 1) := by decide +kernel
theorem dX5_strainOf_2 : decode cX5_strainOf 2 = .ok (.aload_n 2, 1) := by decide +kernel
theorem dX5_strainOf_3 : decode cX5_strainOf 3 = .ok (.invokevirtual 45, 3) := by decide +kernel
theorem dX5_strainOf_6 : decode cX5_strainOf 6 = .ok (.aload_n 0, 1) := by decide +kernel
theorem dX5_strainOf_7 : decode cX5_strainOf 7 = .ok (.bipush 6, 2) := by decide +kernel
theorem dX5_strainOf_9 : decode cX5_strainOf 9 = .ok (.aload_n 2, 1) := by decide +kernel
theorem dX5_strainOf_10 : decode cX5_strainOf 10 = .ok (.invokevirtual 45, 3) := by decide +kernel
theorem dX5_strainOf_13 : decode cX5_strainOf 13 = .ok (.isub, 1) := by decide +kernel
theorem dX5_strainOf_14 : decode cX5_strainOf 14 = .ok (.invokestatic 48, 3) := by decide +kernel
theorem dX5_strainOf_17 : decode cX5_strainOf 17 = .ok (.ireturn, 1) := by decide +kernel
theorem dX5_greatestStrainWith_0 : decode cX5_greatestStrainWith 0 = .ok (.aload_n 0, 1) := by decide +kernel
theorem dX5_greatestStrainWith_1 : decode cX5_greatestStrainWith 1 = .ok (.bipush 6, 2) := by decide +kernel
theorem dX5_greatestStrainWith_3 : decode cX5_greatestStrainWith 3 = .ok (.aload_n 2, 1) := by decide +kernel
theorem dX5_greatestStrainWith_4 : decode cX5_greatestStrainWith 4 = .ok (.invokevirtual 45, 3) := by decide +kernel
theorem dX5_greatestStrainWith_7 : decode cX5_greatestStrainWith 7 = .ok (.aload_n 2, 1) := by decide +kernel
theorem dX5_greatestStrainWith_8 : decode cX5_greatestStrainWith 8 = .ok (.iload_n 1, 1) := by decide +kernel
theorem dX5_greatestStrainWith_9 : decode cX5_greatestStrainWith 9 = .ok (.invokevirtual 39, 3) := by decide +kernel
theorem dX5_greatestStrainWith_12 : decode cX5_greatestStrainWith 12 = .ok (.iadd, 1) := by decide +kernel
theorem dX5_greatestStrainWith_13 : decode cX5_greatestStrainWith 13 = .ok (.istore_n 3, 1) := by decide +kernel
theorem dX5_greatestStrainWith_14 : decode cX5_greatestStrainWith 14 = .ok (.iconst 0, 1) := by decide +kernel
theorem dX5_greatestStrainWith_15 : decode cX5_greatestStrainWith 15 = .ok (.istore 4, 2) := by decide +kernel
theorem dX5_greatestStrainWith_17 : decode cX5_greatestStrainWith 17 = .ok (.iconst 0, 1) := by decide +kernel
theorem dX5_greatestStrainWith_18 : decode cX5_greatestStrainWith 18 = .ok (.istore 5, 2) := by decide +kernel
theorem dX5_greatestStrainWith_20 : decode cX5_greatestStrainWith 20 = .ok (.iload 5, 2) := by decide +kernel
theorem dX5_greatestStrainWith_22 : decode cX5_greatestStrainWith 22 = .ok (.bipush 6, 2) := by decide +kernel
theorem dX5_greatestStrainWith_24 : decode cX5_greatestStrainWith 24 = .ok (.if_icmp .ge 28, 3) := by decide +kernel
theorem dX5_greatestStrainWith_27 : decode cX5_greatestStrainWith 27 = .ok (.iload 4, 2) := by decide +kernel
theorem dX5_greatestStrainWith_29 : decode cX5_greatestStrainWith 29 = .ok (.aload_n 0, 1) := by decide +kernel
theorem dX5_greatestStrainWith_30 : decode cX5_greatestStrainWith 30 = .ok (.iload 5, 2) := by decide +kernel
theorem dX5_greatestStrainWith_32 : decode cX5_greatestStrainWith 32 = .ok (.aload_n 2, 1) := by decide +kernel
theorem dX5_greatestStrainWith_33 : decode cX5_greatestStrainWith 33 = .ok (.invokevirtual 45, 3) := by decide +kernel
theorem dX5_greatestStrainWith_36 : decode cX5_greatestStrainWith 36 = .ok (.iload_n 3, 1) := by decide +kernel
theorem dX5_greatestStrainWith_37 : decode cX5_greatestStrainWith 37 = .ok (.isub, 1) := by decide +kernel
theorem dX5_greatestStrainWith_38 : decode cX5_greatestStrainWith 38 = .ok (.invokestatic 48, 3) := by decide +kernel
theorem dX5_greatestStrainWith_41 : decode cX5_greatestStrainWith 41 = .ok (.invokestatic 53, 3) := by decide +kernel
theorem dX5_greatestStrainWith_44 : decode cX5_greatestStrainWith 44 = .ok (.istore 4, 2) := by decide +kernel
theorem dX5_greatestStrainWith_46 : decode cX5_greatestStrainWith 46 = .ok (.iinc 5 1, 3) := by decide +kernel
theorem dX5_greatestStrainWith_49 : decode cX5_greatestStrainWith 49 = .ok (.goto (-29), 3) := by decide +kernel
theorem dX5_greatestStrainWith_52 : decode cX5_greatestStrainWith 52 = .ok (.iload 4, 2) := by decide +kernel
theorem dX5_greatestStrainWith_54 : decode cX5_greatestStrainWith 54 = .ok (.ireturn, 1) := by decide +kernel
theorem dX5_heatThatMelts_0 : decode cX5_heatThatMelts 0 = .ok (.bipush (-4), 2) := by decide +kernel
theorem dX5_heatThatMelts_2 : decode cX5_heatThatMelts 2 = .ok (.istore_n 3, 1) := by decide +kernel
theorem dX5_heatThatMelts_3 : decode cX5_heatThatMelts 3 = .ok (.iconst 0, 1) := by decide +kernel
theorem dX5_heatThatMelts_4 : decode cX5_heatThatMelts 4 = .ok (.istore 4, 2) := by decide +kernel
theorem dX5_heatThatMelts_6 : decode cX5_heatThatMelts 6 = .ok (.iload 4, 2) := by decide +kernel
theorem dX5_heatThatMelts_8 : decode cX5_heatThatMelts 8 = .ok (.aload_n 0, 1) := by decide +kernel
theorem dX5_heatThatMelts_9 : decode cX5_heatThatMelts 9 = .ok (.getfield 9, 3) := by decide +kernel
theorem dX5_heatThatMelts_12 : decode cX5_heatThatMelts 12 = .ok (.iload_n 1, 1) := by decide +kernel
theorem dX5_heatThatMelts_13 : decode cX5_heatThatMelts 13 = .ok (.iaload, 1) := by decide +kernel
theorem dX5_heatThatMelts_14 : decode cX5_heatThatMelts 14 = .ok (.if_icmp .ge 30, 3) := by decide +kernel
theorem dX5_heatThatMelts_17 : decode cX5_heatThatMelts 17 = .ok (.iload_n 3, 1) := by decide +kernel
theorem dX5_heatThatMelts_18 : decode cX5_heatThatMelts 18 = .ok (.aload_n 2, 1) := by decide +kernel
theorem dX5_heatThatMelts_19 : decode cX5_heatThatMelts 19 = .ok (.getfield 56, 3) := by decide +kernel
theorem dX5_heatThatMelts_22 : decode cX5_heatThatMelts 22 = .ok (.aload_n 0, 1) := by decide +kernel
theorem dX5_heatThatMelts_23 : decode cX5_heatThatMelts 23 = .ok (.getfield 15, 3) := by decide +kernel
theorem dX5_heatThatMelts_26 : decode cX5_heatThatMelts 26 = .ok (.iload_n 1, 1) := by decide +kernel
theorem dX5_heatThatMelts_27 : decode cX5_heatThatMelts 27 = .ok (.iload 4, 2) := by decide +kernel
theorem dX5_heatThatMelts_29 : decode cX5_heatThatMelts 29 = .ok (.invokestatic 27, 3) := by decide +kernel
theorem dX5_heatThatMelts_32 : decode cX5_heatThatMelts 32 = .ok (.iaload, 1) := by decide +kernel
theorem dX5_heatThatMelts_33 : decode cX5_heatThatMelts 33 = .ok (.iaload, 1) := by decide +kernel
theorem dX5_heatThatMelts_34 : decode cX5_heatThatMelts 34 = .ok (.invokestatic 53, 3) := by decide +kernel
theorem dX5_heatThatMelts_37 : decode cX5_heatThatMelts 37 = .ok (.istore_n 3, 1) := by decide +kernel
theorem dX5_heatThatMelts_38 : decode cX5_heatThatMelts 38 = .ok (.iinc 4 1, 3) := by decide +kernel
theorem dX5_heatThatMelts_41 : decode cX5_heatThatMelts 41 = .ok (.goto (-35), 3) := by decide +kernel
theorem dX5_heatThatMelts_44 : decode cX5_heatThatMelts 44 = .ok (.iload_n 3, 1) := by decide +kernel
theorem dX5_heatThatMelts_45 : decode cX5_heatThatMelts 45 = .ok (.ireturn, 1) := by decide +kernel
theorem dX5_heatThatSpares_0 : decode cX5_heatThatSpares 0 = .ok (.bipush (-4), 2) := by decide +kernel
theorem dX5_heatThatSpares_2 : decode cX5_heatThatSpares 2 = .ok (.istore_n 3, 1) := by decide +kernel
theorem dX5_heatThatSpares_3 : decode cX5_heatThatSpares 3 = .ok (.iconst 0, 1) := by decide +kernel
theorem dX5_heatThatSpares_4 : decode cX5_heatThatSpares 4 = .ok (.istore 4, 2) := by decide +kernel
theorem dX5_heatThatSpares_6 : decode cX5_heatThatSpares 6 = .ok (.iload 4, 2) := by decide +kernel
theorem dX5_heatThatSpares_8 : decode cX5_heatThatSpares 8 = .ok (.aload_n 0, 1) := by decide +kernel
theorem dX5_heatThatSpares_9 : decode cX5_heatThatSpares 9 = .ok (.getfield 9, 3) := by decide +kernel
theorem dX5_heatThatSpares_12 : decode cX5_heatThatSpares 12 = .ok (.iload_n 1, 1) := by decide +kernel
theorem dX5_heatThatSpares_13 : decode cX5_heatThatSpares 13 = .ok (.iaload, 1) := by decide +kernel
theorem dX5_heatThatSpares_14 : decode cX5_heatThatSpares 14 = .ok (.if_icmp .ge 60, 3) := by decide +kernel
theorem dX5_heatThatSpares_17 : decode cX5_heatThatSpares 17 = .ok (.iload_n 1, 1) := by decide +kernel
theorem dX5_heatThatSpares_18 : decode cX5_heatThatSpares 18 = .ok (.iload 4, 2) := by decide +kernel
theorem dX5_heatThatSpares_20 : decode cX5_heatThatSpares 20 = .ok (.invokestatic 27, 3) := by decide +kernel
theorem dX5_heatThatSpares_23 : decode cX5_heatThatSpares 23 = .ok (.istore 5, 2) := by decide +kernel
theorem dX5_heatThatSpares_25 : decode cX5_heatThatSpares 25 = .ok (.aload_n 0, 1) := by decide +kernel
theorem dX5_heatThatSpares_26 : decode cX5_heatThatSpares 26 = .ok (.getfield 18, 3) := by decide +kernel
theorem dX5_heatThatSpares_29 : decode cX5_heatThatSpares 29 = .ok (.iload 5, 2) := by decide +kernel
theorem dX5_heatThatSpares_31 : decode cX5_heatThatSpares 31 = .ok (.iaload, 1) := by decide +kernel
theorem dX5_heatThatSpares_32 : decode cX5_heatThatSpares 32 = .ok (.iconst 4, 1) := by decide +kernel
theorem dX5_heatThatSpares_33 : decode cX5_heatThatSpares 33 = .ok (.if_icmp .eq 35, 3) := by decide +kernel
theorem dX5_heatThatSpares_36 : decode cX5_heatThatSpares 36 = .ok (.aload_n 2, 1) := by decide +kernel
theorem dX5_heatThatSpares_37 : decode cX5_heatThatSpares 37 = .ok (.getfield 59, 3) := by decide +kernel
theorem dX5_heatThatSpares_40 : decode cX5_heatThatSpares 40 = .ok (.aload_n 0, 1) := by decide +kernel
theorem dX5_heatThatSpares_41 : decode cX5_heatThatSpares 41 = .ok (.getfield 15, 3) := by decide +kernel
theorem dX5_heatThatSpares_44 : decode cX5_heatThatSpares 44 = .ok (.iload 5, 2) := by decide +kernel
theorem dX5_heatThatSpares_46 : decode cX5_heatThatSpares 46 = .ok (.iaload, 1) := by decide +kernel
theorem dX5_heatThatSpares_47 : decode cX5_heatThatSpares 47 = .ok (.iaload, 1) := by decide +kernel
theorem dX5_heatThatSpares_48 : decode cX5_heatThatSpares 48 = .ok (.istore 6, 2) := by decide +kernel
theorem dX5_heatThatSpares_50 : decode cX5_heatThatSpares 50 = .ok (.iload_n 3, 1) := by decide +kernel
theorem dX5_heatThatSpares_51 : decode cX5_heatThatSpares 51 = .ok (.bipush (-4), 2) := by decide +kernel
theorem dX5_heatThatSpares_53 : decode cX5_heatThatSpares 53 = .ok (.if_icmp .ne 8, 3) := by decide +kernel
theorem dX5_heatThatSpares_56 : decode cX5_heatThatSpares 56 = .ok (.iload 6, 2) := by decide +kernel
theorem dX5_heatThatSpares_58 : decode cX5_heatThatSpares 58 = .ok (.goto 9, 3) := by decide +kernel
theorem dX5_heatThatSpares_61 : decode cX5_heatThatSpares 61 = .ok (.iload_n 3, 1) := by decide +kernel
theorem dX5_heatThatSpares_62 : decode cX5_heatThatSpares 62 = .ok (.iload 6, 2) := by decide +kernel
theorem dX5_heatThatSpares_64 : decode cX5_heatThatSpares 64 = .ok (.invokestatic 62, 3) := by decide +kernel
theorem dX5_heatThatSpares_67 : decode cX5_heatThatSpares 67 = .ok (.istore_n 3, 1) := by decide +kernel
theorem dX5_heatThatSpares_68 : decode cX5_heatThatSpares 68 = .ok (.iinc 4 1, 3) := by decide +kernel
theorem dX5_heatThatSpares_71 : decode cX5_heatThatSpares 71 = .ok (.goto (-65), 3) := by decide +kernel
theorem dX5_heatThatSpares_74 : decode cX5_heatThatSpares 74 = .ok (.iload_n 3, 1) := by decide +kernel
theorem dX5_heatThatSpares_75 : decode cX5_heatThatSpares 75 = .ok (.ireturn, 1) := by decide +kernel
theorem dX5_copyFrom_0 : decode cX5_copyFrom 0 = .ok (.aload_n 1, 1) := by decide +kernel
theorem dX5_copyFrom_1 : decode cX5_copyFrom 1 = .ok (.getfield 9, 3) := by decide +kernel
theorem dX5_copyFrom_4 : decode cX5_copyFrom 4 = .ok (.aload_n 0, 1) := by decide +kernel
theorem dX5_copyFrom_5 : decode cX5_copyFrom 5 = .ok (.getfield 9, 3) := by decide +kernel
theorem dX5_copyFrom_8 : decode cX5_copyFrom 8 = .ok (.invokestatic 65, 3) := by decide +kernel
theorem dX5_copyFrom_11 : decode cX5_copyFrom 11 = .ok (.aload_n 1, 1) := by decide +kernel
theorem dX5_copyFrom_12 : decode cX5_copyFrom 12 = .ok (.getfield 15, 3) := by decide +kernel
theorem dX5_copyFrom_15 : decode cX5_copyFrom 15 = .ok (.aload_n 0, 1) := by decide +kernel
theorem dX5_copyFrom_16 : decode cX5_copyFrom 16 = .ok (.getfield 15, 3) := by decide +kernel
theorem dX5_copyFrom_19 : decode cX5_copyFrom 19 = .ok (.invokestatic 65, 3) := by decide +kernel
theorem dX5_copyFrom_22 : decode cX5_copyFrom 22 = .ok (.aload_n 1, 1) := by decide +kernel
theorem dX5_copyFrom_23 : decode cX5_copyFrom 23 = .ok (.getfield 18, 3) := by decide +kernel
theorem dX5_copyFrom_26 : decode cX5_copyFrom 26 = .ok (.aload_n 0, 1) := by decide +kernel
theorem dX5_copyFrom_27 : decode cX5_copyFrom 27 = .ok (.getfield 18, 3) := by decide +kernel
theorem dX5_copyFrom_30 : decode cX5_copyFrom 30 = .ok (.invokestatic 65, 3) := by decide +kernel
theorem dX5_copyFrom_33 : decode cX5_copyFrom 33 = .ok (.aload_n 1, 1) := by decide +kernel
theorem dX5_copyFrom_34 : decode cX5_copyFrom 34 = .ok (.getfield 21, 3) := by decide +kernel
theorem dX5_copyFrom_37 : decode cX5_copyFrom 37 = .ok (.aload_n 0, 1) := by decide +kernel
theorem dX5_copyFrom_38 : decode cX5_copyFrom 38 = .ok (.getfield 21, 3) := by decide +kernel
theorem dX5_copyFrom_41 : decode cX5_copyFrom 41 = .ok (.invokestatic 65, 3) := by decide +kernel
theorem dX5_copyFrom_44 : decode cX5_copyFrom 44 = .ok (.aload_n 1, 1) := by decide +kernel
theorem dX5_copyFrom_45 : decode cX5_copyFrom 45 = .ok (.getfield 24, 3) := by decide +kernel
theorem dX5_copyFrom_48 : decode cX5_copyFrom 48 = .ok (.aload_n 0, 1) := by decide +kernel
theorem dX5_copyFrom_49 : decode cX5_copyFrom 49 = .ok (.getfield 24, 3) := by decide +kernel
theorem dX5_copyFrom_52 : decode cX5_copyFrom 52 = .ok (.invokestatic 65, 3) := by decide +kernel
theorem dX5_copyFrom_55 : decode cX5_copyFrom 55 = .ok (.return_, 1) := by decide +kernel
theorem dX6_init_0 : decode cX6_init 0 = .ok (.aload_n 0, 1) := by decide +kernel
theorem dX6_init_1 : decode cX6_init 1 = .ok (.invokespecial 3, 3) := by decide +kernel
theorem dX6_init_4 : decode cX6_init 4 = .ok (.aload_n 0, 1) := by decide +kernel
theorem dX6_init_5 : decode cX6_init 5 = .ok (.bipush 80, 2) := by decide +kernel
theorem dX6_init_7 : decode cX6_init 7 = .ok (.newarray .char, 2) := by decide +kernel
theorem dX6_init_9 : decode cX6_init 9 = .ok (.putfield 9, 3) := by decide +kernel
theorem dX6_init_12 : decode cX6_init 12 = .ok (.aload_n 0, 1) := by decide +kernel
theorem dX6_init_13 : decode cX6_init 13 = .ok (.iconst 0, 1) := by decide +kernel
theorem dX6_init_14 : decode cX6_init 14 = .ok (.putfield 15, 3) := by decide +kernel
theorem dX6_init_17 : decode cX6_init 17 = .ok (.aload_n 0, 1) := by decide +kernel
theorem dX6_init_18 : decode cX6_init 18 = .ok (.iconst 0, 1) := by decide +kernel
theorem dX6_init_19 : decode cX6_init 19 = .ok (.putfield 19, 3) := by decide +kernel
theorem dX6_init_22 : decode cX6_init 22 = .ok (.aload_n 0, 1) := by decide +kernel
theorem dX6_init_23 : decode cX6_init 23 = .ok (.iconst 0, 1) := by decide +kernel
theorem dX6_init_24 : decode cX6_init 24 = .ok (.putfield 22, 3) := by decide +kernel
theorem dX6_init_27 : decode cX6_init 27 = .ok (.return_, 1) := by decide +kernel
theorem dX6_append_0 : decode cX6_append 0 = .ok (.aload_n 0, 1) := by decide +kernel
theorem dX6_append_1 : decode cX6_append 1 = .ok (.getfield 9, 3) := by decide +kernel
theorem dX6_append_4 : decode cX6_append 4 = .ok (.aload_n 0, 1) := by decide +kernel
theorem dX6_append_5 : decode cX6_append 5 = .ok (.getfield 15, 3) := by decide +kernel
theorem dX6_append_8 : decode cX6_append 8 = .ok (.iload_n 1, 1) := by decide +kernel
theorem dX6_append_9 : decode cX6_append 9 = .ok (.castore, 1) := by decide +kernel
theorem dX6_append_10 : decode cX6_append 10 = .ok (.aload_n 0, 1) := by decide +kernel
theorem dX6_append_11 : decode cX6_append 11 = .ok (.dup, 1) := by decide +kernel
theorem dX6_append_12 : decode cX6_append 12 = .ok (.getfield 15, 3) := by decide +kernel
theorem dX6_append_15 : decode cX6_append 15 = .ok (.iconst 1, 1) := by decide +kernel
theorem dX6_append_16 : decode cX6_append 16 = .ok (.iadd, 1) := by decide +kernel
theorem dX6_append_17 : decode cX6_append 17 = .ok (.putfield 15, 3) := by decide +kernel
theorem dX6_append_20 : decode cX6_append 20 = .ok (.aload_n 0, 1) := by decide +kernel
theorem dX6_append_21 : decode cX6_append 21 = .ok (.getfield 15, 3) := by decide +kernel
theorem dX6_append_24 : decode cX6_append 24 = .ok (.ireturn, 1) := by decide +kernel
theorem dX6_hasFault_0 : decode cX6_hasFault 0 = .ok (.aload_n 0, 1) := by decide +kernel
theorem dX6_hasFault_1 : decode cX6_hasFault 1 = .ok (.getfield 22, 3) := by decide +kernel
theorem dX6_hasFault_4 : decode cX6_hasFault 4 = .ok (.ifCond .eq 7, 3) := by decide +kernel
theorem dX6_hasFault_7 : decode cX6_hasFault 7 = .ok (.iconst 1, 1) := by decide +kernel
theorem dX6_hasFault_8 : decode cX6_hasFault 8 = .ok (.goto 4, 3) := by decide +kernel
theorem dX6_hasFault_11 : decode cX6_hasFault 11 = .ok (.iconst 0, 1) := by decide +kernel
theorem dX6_hasFault_12 : decode cX6_hasFault 12 = .ok (.ireturn, 1) := by decide +kernel
theorem dX6_lookForFault_0 : decode cX6_lookForFault 0 = .ok (.iconst 0, 1) := by decide +kernel
theorem dX6_lookForFault_1 : decode cX6_lookForFault 1 = .ok (.istore_n 2, 1) := by decide +kernel
theorem dX6_lookForFault_2 : decode cX6_lookForFault 2 = .ok (.iconst 0, 1) := by decide +kernel
theorem dX6_lookForFault_3 : decode cX6_lookForFault 3 = .ok (.istore_n 3, 1) := by decide +kernel
theorem dX6_lookForFault_4 : decode cX6_lookForFault 4 = .ok (.iload_n 3, 1) := by decide +kernel
theorem dX6_lookForFault_5 : decode cX6_lookForFault 5 = .ok (.aload_n 0, 1) := by decide +kernel
theorem dX6_lookForFault_6 : decode cX6_lookForFault 6 = .ok (.getfield 15, 3) := by decide +kernel
theorem dX6_lookForFault_9 : decode cX6_lookForFault 9 = .ok (.if_icmp .ge 56, 3) := by decide +kernel
theorem dX6_lookForFault_12 : decode cX6_lookForFault 12 = .ok (.aload_n 0, 1) := by decide +kernel
theorem dX6_lookForFault_13 : decode cX6_lookForFault 13 = .ok (.getfield 9, 3) := by decide +kernel
theorem dX6_lookForFault_16 : decode cX6_lookForFault 16 = .ok (.iload_n 3, 1) := by decide +kernel
theorem dX6_lookForFault_17 : decode cX6_lookForFault 17 = .ok (.caload, 1) := by decide +kernel
theorem dX6_lookForFault_18 : decode cX6_lookForFault 18 = .ok (.istore 4, 2) := by decide +kernel
theorem dX6_lookForFault_20 : decode cX6_lookForFault 20 = .ok (.aload_n 0, 1) := by decide +kernel
theorem dX6_lookForFault_21 : decode cX6_lookForFault 21 = .ok (.iload 4, 2) := by decide +kernel
theorem dX6_lookForFault_23 : decode cX6_lookForFault 23 = .ok (.iload_n 2, 1) := by decide +kernel
theorem dX6_lookForFault_24 : decode cX6_lookForFault 24 = .ok (.iload_n 1, 1) := by decide +kernel
theorem dX6_lookForFault_25 : decode cX6_lookForFault 25 = .ok (.invokestatic 25, 3) := by decide +kernel
theorem dX6_lookForFault_28 : decode cX6_lookForFault 28 = .ok (.putfield 22, 3) := by decide +kernel
theorem dX6_lookForFault_31 : decode cX6_lookForFault 31 = .ok (.aload_n 0, 1) := by decide +kernel
theorem dX6_lookForFault_32 : decode cX6_lookForFault 32 = .ok (.invokevirtual 29, 3) := by decide +kernel
theorem dX6_lookForFault_35 : decode cX6_lookForFault 35 = .ok (.ifCond .eq 9, 3) := by decide +kernel
theorem dX6_lookForFault_38 : decode cX6_lookForFault 38 = .ok (.aload_n 0, 1) := by decide +kernel
theorem dX6_lookForFault_39 : decode cX6_lookForFault 39 = .ok (.iload_n 3, 1) := by decide +kernel
theorem dX6_lookForFault_40 : decode cX6_lookForFault 40 = .ok (.putfield 19, 3) := by decide +kernel
theorem dX6_lookForFault_43 : decode cX6_lookForFault 43 = .ok (.return_, 1) := by decide +kernel
theorem dX6_lookForFault_44 : decode cX6_lookForFault 44 = .ok (.iload 4, 2) := by decide +kernel
theorem dX6_lookForFault_46 : decode cX6_lookForFault 46 = .ok (.bipush 59, 2) := by decide +kernel
theorem dX6_lookForFault_48 : decode cX6_lookForFault 48 = .ok (.if_icmp .ne 7, 3) := by decide +kernel
theorem dX6_lookForFault_51 : decode cX6_lookForFault 51 = .ok (.iconst 0, 1) := by decide +kernel
theorem dX6_lookForFault_52 : decode cX6_lookForFault 52 = .ok (.goto 6, 3) := by decide +kernel
theorem dX6_lookForFault_55 : decode cX6_lookForFault 55 = .ok (.iload_n 2, 1) := by decide +kernel
theorem dX6_lookForFault_56 : decode cX6_lookForFault 56 = .ok (.iconst 1, 1) := by decide +kernel
theorem dX6_lookForFault_57 : decode cX6_lookForFault 57 = .ok (.iadd, 1) := by decide +kernel
theorem dX6_lookForFault_58 : decode cX6_lookForFault 58 = .ok (.istore_n 2, 1) := by decide +kernel
theorem dX6_lookForFault_59 : decode cX6_lookForFault 59 = .ok (.iinc 3 1, 3) := by decide +kernel
theorem dX6_lookForFault_62 : decode cX6_lookForFault 62 = .ok (.goto (-58), 3) := by decide +kernel
theorem dX6_lookForFault_65 : decode cX6_lookForFault 65 = .ok (.aload_n 0, 1) := by decide +kernel
theorem dX6_lookForFault_66 : decode cX6_lookForFault 66 = .ok (.iload_n 2, 1) := by decide +kernel
theorem dX6_lookForFault_67 : decode cX6_lookForFault 67 = .ok (.ifCond .ne 7, 3) := by decide +kernel
theorem dX6_lookForFault_70 : decode cX6_lookForFault 70 = .ok (.iconst 0, 1) := by decide +kernel
theorem dX6_lookForFault_71 : decode cX6_lookForFault 71 = .ok (.goto 4, 3) := by decide +kernel
theorem dX6_lookForFault_74 : decode cX6_lookForFault 74 = .ok (.iconst 4, 1) := by decide +kernel
theorem dX6_lookForFault_75 : decode cX6_lookForFault 75 = .ok (.putfield 22, 3) := by decide +kernel
theorem dX6_lookForFault_78 : decode cX6_lookForFault 78 = .ok (.aload_n 0, 1) := by decide +kernel
theorem dX6_lookForFault_79 : decode cX6_lookForFault 79 = .ok (.aload_n 0, 1) := by decide +kernel
theorem dX6_lookForFault_80 : decode cX6_lookForFault 80 = .ok (.getfield 15, 3) := by decide +kernel
theorem dX6_lookForFault_83 : decode cX6_lookForFault 83 = .ok (.putfield 19, 3) := by decide +kernel
theorem dX6_lookForFault_86 : decode cX6_lookForFault 86 = .ok (.return_, 1) := by decide +kernel
theorem dX6_reasonOf_0 : decode cX6_reasonOf 0 = .ok (.iload_n 1, 1) := by decide +kernel
theorem dX6_reasonOf_1 : decode cX6_reasonOf 1 = .ok (.ifCond .ne 16, 3) := by decide +kernel
theorem dX6_reasonOf_4 : decode cX6_reasonOf 4 = .ok (.iload_n 0, 1) := by decide +kernel
theorem dX6_reasonOf_5 : decode cX6_reasonOf 5 = .ok (.invokestatic 33, 3) := by decide +kernel
theorem dX6_reasonOf_8 : decode cX6_reasonOf 8 = .ok (.ifCond .eq 7, 3) := by decide +kernel
theorem dX6_reasonOf_11 : decode cX6_reasonOf 11 = .ok (.iconst 0, 1) := by decide +kernel
theorem dX6_reasonOf_12 : decode cX6_reasonOf 12 = .ok (.goto 4, 3) := by decide +kernel
theorem dX6_reasonOf_15 : decode cX6_reasonOf 15 = .ok (.iconst 1, 1) := by decide +kernel
theorem dX6_reasonOf_16 : decode cX6_reasonOf 16 = .ok (.ireturn, 1) := by decide +kernel
theorem dX6_reasonOf_17 : decode cX6_reasonOf 17 = .ok (.iload_n 1, 1) := by decide +kernel
theorem dX6_reasonOf_18 : decode cX6_reasonOf 18 = .ok (.iconst 1, 1) := by decide +kernel
theorem dX6_reasonOf_19 : decode cX6_reasonOf 19 = .ok (.if_icmp .ne 15, 3) := by decide +kernel
theorem dX6_reasonOf_22 : decode cX6_reasonOf 22 = .ok (.iload_n 0, 1) := by decide +kernel
theorem dX6_reasonOf_23 : decode cX6_reasonOf 23 = .ok (.bipush 61, 2) := by decide +kernel
theorem dX6_reasonOf_25 : decode cX6_reasonOf 25 = .ok (.if_icmp .ne 7, 3) := by decide +kernel
theorem dX6_reasonOf_28 : decode cX6_reasonOf 28 = .ok (.iconst 0, 1) := by decide +kernel
theorem dX6_reasonOf_29 : decode cX6_reasonOf 29 = .ok (.goto 4, 3) := by decide +kernel
theorem dX6_reasonOf_32 : decode cX6_reasonOf 32 = .ok (.iconst 1, 1) := by decide +kernel
theorem dX6_reasonOf_33 : decode cX6_reasonOf 33 = .ok (.ireturn, 1) := by decide +kernel
theorem dX6_reasonOf_34 : decode cX6_reasonOf 34 = .ok (.iload_n 0, 1) := by decide +kernel
theorem dX6_reasonOf_35 : decode cX6_reasonOf 35 = .ok (.bipush 59, 2) := by decide +kernel
theorem dX6_reasonOf_37 : decode cX6_reasonOf 37 = .ok (.if_icmp .ne 5, 3) := by decide +kernel
theorem dX6_reasonOf_40 : decode cX6_reasonOf 40 = .ok (.iconst 0, 1) := by decide +kernel
theorem dX6_reasonOf_41 : decode cX6_reasonOf 41 = .ok (.ireturn, 1) := by decide +kernel
theorem dX6_reasonOf_42 : decode cX6_reasonOf 42 = .ok (.iload_n 0, 1) := by decide +kernel
theorem dX6_reasonOf_43 : decode cX6_reasonOf 43 = .ok (.invokestatic 37, 3) := by decide +kernel
theorem dX6_reasonOf_46 : decode cX6_reasonOf 46 = .ok (.ifCond .ne 5, 3) := by decide +kernel
theorem dX6_reasonOf_49 : decode cX6_reasonOf 49 = .ok (.iconst 1, 1) := by decide +kernel
theorem dX6_reasonOf_50 : decode cX6_reasonOf 50 = .ok (.ireturn, 1) := by decide +kernel
theorem dX6_reasonOf_51 : decode cX6_reasonOf 51 = .ok (.iload_n 0, 1) := by decide +kernel
theorem dX6_reasonOf_52 : decode cX6_reasonOf 52 = .ok (.bipush 97, 2) := by decide +kernel
theorem dX6_reasonOf_54 : decode cX6_reasonOf 54 = .ok (.isub, 1) := by decide +kernel
theorem dX6_reasonOf_55 : decode cX6_reasonOf 55 = .ok (.iload_n 2, 1) := by decide +kernel
theorem dX6_reasonOf_56 : decode cX6_reasonOf 56 = .ok (.if_icmp .lt 5, 3) := by decide +kernel
theorem dX6_reasonOf_59 : decode cX6_reasonOf 59 = .ok (.iconst 2, 1) := by decide +kernel
theorem dX6_reasonOf_60 : decode cX6_reasonOf 60 = .ok (.ireturn, 1) := by decide +kernel
theorem dX6_reasonOf_61 : decode cX6_reasonOf 61 = .ok (.iload_n 1, 1) := by decide +kernel
theorem dX6_reasonOf_62 : decode cX6_reasonOf 62 = .ok (.iconst 5, 1) := by decide +kernel
theorem dX6_reasonOf_63 : decode cX6_reasonOf 63 = .ok (.if_icmp .ne 7, 3) := by decide +kernel
theorem dX6_reasonOf_66 : decode cX6_reasonOf 66 = .ok (.iconst 3, 1) := by decide +kernel
theorem dX6_reasonOf_67 : decode cX6_reasonOf 67 = .ok (.goto 4, 3) := by decide +kernel
theorem dX6_reasonOf_70 : decode cX6_reasonOf 70 = .ok (.iconst 0, 1) := by decide +kernel
theorem dX6_reasonOf_71 : decode cX6_reasonOf 71 = .ok (.ireturn, 1) := by decide +kernel
theorem dX6_isFieldDigit_0 : decode cX6_isFieldDigit 0 = .ok (.iload_n 0, 1) := by decide +kernel
theorem dX6_isFieldDigit_1 : decode cX6_isFieldDigit 1 = .ok (.bipush 48, 2) := by decide +kernel
theorem dX6_isFieldDigit_3 : decode cX6_isFieldDigit 3 = .ok (.bipush 53, 2) := by decide +kernel
theorem dX6_isFieldDigit_5 : decode cX6_isFieldDigit 5 = .ok (.invokestatic 40, 3) := by decide +kernel
theorem dX6_isFieldDigit_8 : decode cX6_isFieldDigit 8 = .ok (.ireturn, 1) := by decide +kernel
theorem dX6_isLetter_0 : decode cX6_isLetter 0 = .ok (.iload_n 0, 1) := by decide +kernel
theorem dX6_isLetter_1 : decode cX6_isLetter 1 = .ok (.bipush 97, 2) := by decide +kernel
theorem dX6_isLetter_3 : decode cX6_isLetter 3 = .ok (.bipush 108, 2) := by decide +kernel
theorem dX6_isLetter_5 : decode cX6_isLetter 5 = .ok (.invokestatic 40, 3) := by decide +kernel
theorem dX6_isLetter_8 : decode cX6_isLetter 8 = .ok (.ireturn, 1) := by decide +kernel
theorem dX6_giveTo_0 : decode cX6_giveTo 0 = .ok (.iconst 0, 1) := by decide +kernel
theorem dX6_giveTo_1 : decode cX6_giveTo 1 = .ok (.istore_n 2, 1) := by decide +kernel
theorem dX6_giveTo_2 : decode cX6_giveTo 2 = .ok (.iconst 0, 1) := by decide +kernel
theorem dX6_giveTo_3 : decode cX6_giveTo 3 = .ok (.istore_n 3, 1) := by decide +kernel
theorem dX6_giveTo_4 : decode cX6_giveTo 4 = .ok (.iconst 0, 1) := by decide +kernel
theorem dX6_giveTo_5 : decode cX6_giveTo 5 = .ok (.istore 4, 2) := by decide +kernel
theorem dX6_giveTo_7 : decode cX6_giveTo 7 = .ok (.iload 4, 2) := by decide +kernel
theorem dX6_giveTo_9 : decode cX6_giveTo 9 = .ok (.aload_n 0, 1) := by decide +kernel
theorem dX6_giveTo_10 : decode cX6_giveTo 10 = .ok (.getfield 15, 3) := by decide +kernel
theorem dX6_giveTo_13 : decode cX6_giveTo 13 = .ok (.if_icmp .ge 63, 3) := by decide +kernel
theorem dX6_giveTo_16 : decode cX6_giveTo 16 = .ok (.aload_n 0, 1) := by decide +kernel
theorem dX6_giveTo_17 : decode cX6_giveTo 17 = .ok (.getfield 9, 3) := by decide +kernel
theorem dX6_giveTo_20 : decode cX6_giveTo 20 = .ok (.iload 4, 2) := by decide +kernel
theorem dX6_giveTo_22 : decode cX6_giveTo 22 = .ok (.caload, 1) := by decide +kernel
theorem dX6_giveTo_23 : decode cX6_giveTo 23 = .ok (.istore 5, 2) := by decide +kernel
theorem dX6_giveTo_25 : decode cX6_giveTo 25 = .ok (.iload 5, 2) := by decide +kernel
theorem dX6_giveTo_27 : decode cX6_giveTo 27 = .ok (.invokestatic 33, 3) := by decide +kernel
theorem dX6_giveTo_30 : decode cX6_giveTo 30 = .ok (.ifCond .eq 22, 3) := by decide +kernel
theorem dX6_giveTo_33 : decode cX6_giveTo 33 = .ok (.iload 5, 2) := by decide +kernel
theorem dX6_giveTo_35 : decode cX6_giveTo 35 = .ok (.bipush 48, 2) := by decide +kernel
theorem dX6_giveTo_37 : decode cX6_giveTo 37 = .ok (.isub, 1) := by decide +kernel
theorem dX6_giveTo_38 : decode cX6_giveTo 38 = .ok (.istore_n 3, 1) := by decide +kernel
theorem dX6_giveTo_39 : decode cX6_giveTo 39 = .ok (.aload_n 1, 1) := by decide +kernel
theorem dX6_giveTo_40 : decode cX6_giveTo 40 = .ok (.getfield 44, 3) := by decide +kernel
theorem dX6_giveTo_43 : decode cX6_giveTo 43 = .ok (.iload_n 3, 1) := by decide +kernel
theorem dX6_giveTo_44 : decode cX6_giveTo 44 = .ok (.iconst 0, 1) := by decide +kernel
theorem dX6_giveTo_45 : decode cX6_giveTo 45 = .ok (.iastore, 1) := by decide +kernel
theorem dX6_giveTo_46 : decode cX6_giveTo 46 = .ok (.iinc 2 1, 3) := by decide +kernel
theorem dX6_giveTo_49 : decode cX6_giveTo 49 = .ok (.goto 21, 3) := by decide +kernel
theorem dX6_giveTo_52 : decode cX6_giveTo 52 = .ok (.iload 5, 2) := by decide +kernel
theorem dX6_giveTo_54 : decode cX6_giveTo 54 = .ok (.invokestatic 37, 3) := by decide +kernel
theorem dX6_giveTo_57 : decode cX6_giveTo 57 = .ok (.ifCond .eq 13, 3) := by decide +kernel
theorem dX6_giveTo_60 : decode cX6_giveTo 60 = .ok (.aload_n 1, 1) := by decide +kernel
theorem dX6_giveTo_61 : decode cX6_giveTo 61 = .ok (.iload_n 3, 1) := by decide +kernel
theorem dX6_giveTo_62 : decode cX6_giveTo 62 = .ok (.iload 5, 2) := by decide +kernel
theorem dX6_giveTo_64 : decode cX6_giveTo 64 = .ok (.bipush 97, 2) := by decide +kernel
theorem dX6_giveTo_66 : decode cX6_giveTo 66 = .ok (.isub, 1) := by decide +kernel
theorem dX6_giveTo_67 : decode cX6_giveTo 67 = .ok (.invokevirtual 50, 3) := by decide +kernel
theorem dX6_giveTo_70 : decode cX6_giveTo 70 = .ok (.iinc 4 1, 3) := by decide +kernel
theorem dX6_giveTo_73 : decode cX6_giveTo 73 = .ok (.goto (-66), 3) := by decide +kernel
theorem dX6_giveTo_76 : decode cX6_giveTo 76 = .ok (.iload_n 2, 1) := by decide +kernel
theorem dX6_giveTo_77 : decode cX6_giveTo 77 = .ok (.ireturn, 1) := by decide +kernel
theorem dX7_init_0 : decode cX7_init 0 = .ok (.aload_n 0, 1) := by decide +kernel
theorem dX7_init_1 : decode cX7_init 1 = .ok (.invokespecial 3, 3) := by decide +kernel
theorem dX7_init_4 : decode cX7_init 4 = .ok (.aload_n 0, 1) := by decide +kernel
theorem dX7_init_5 : decode cX7_init 5 = .ok (.bipush 6, 2) := by decide +kernel
theorem dX7_init_7 : decode cX7_init 7 = .ok (.newarray .int, 2) := by decide +kernel
theorem dX7_init_9 : decode cX7_init 9 = .ok (.putfield 9, 3) := by decide +kernel
theorem dX7_init_12 : decode cX7_init 12 = .ok (.aload_n 0, 1) := by decide +kernel
theorem dX7_init_13 : decode cX7_init 13 = .ok (.bipush 18, 2) := by decide +kernel
theorem dX7_init_15 : decode cX7_init 15 = .ok (.newarray .int, 2) := by decide +kernel
theorem dX7_init_17 : decode cX7_init 17 = .ok (.putfield 15, 3) := by decide +kernel
theorem dX7_init_20 : decode cX7_init 20 = .ok (.return_, 1) := by decide +kernel
theorem dX7_append_0 : decode cX7_append 0 = .ok (.aload_n 0, 1) := by decide +kernel
theorem dX7_append_1 : decode cX7_append 1 = .ok (.getfield 15, 3) := by decide +kernel
theorem dX7_append_4 : decode cX7_append 4 = .ok (.iload_n 1, 1) := by decide +kernel
theorem dX7_append_5 : decode cX7_append 5 = .ok (.aload_n 0, 1) := by decide +kernel
theorem dX7_append_6 : decode cX7_append 6 = .ok (.getfield 9, 3) := by decide +kernel
theorem dX7_append_9 : decode cX7_append 9 = .ok (.iload_n 1, 1) := by decide +kernel
theorem dX7_append_10 : decode cX7_append 10 = .ok (.iaload, 1) := by decide +kernel
theorem dX7_append_11 : decode cX7_append 11 = .ok (.invokestatic 18, 3) := by decide +kernel
theorem dX7_append_14 : decode cX7_append 14 = .ok (.iload_n 2, 1) := by decide +kernel
theorem dX7_append_15 : decode cX7_append 15 = .ok (.iastore, 1) := by decide +kernel
theorem dX7_append_16 : decode cX7_append 16 = .ok (.aload_n 0, 1) := by decide +kernel
theorem dX7_append_17 : decode cX7_append 17 = .ok (.getfield 9, 3) := by decide +kernel
theorem dX7_append_20 : decode cX7_append 20 = .ok (.iload_n 1, 1) := by decide +kernel
theorem dX7_append_21 : decode cX7_append 21 = .ok (.dup2, 1) := by decide +kernel
theorem dX7_append_22 : decode cX7_append 22 = .ok (.iaload, 1) := by decide +kernel
theorem dX7_append_23 : decode cX7_append 23 = .ok (.iconst 1, 1) := by decide +kernel
theorem dX7_append_24 : decode cX7_append 24 = .ok (.iadd, 1) := by decide +kernel
theorem dX7_append_25 : decode cX7_append 25 = .ok (.iastore, 1) := by decide +kernel
theorem dX7_append_26 : decode cX7_append 26 = .ok (.return_, 1) := by decide +kernel
theorem dX7_colorsTogether_0 : decode cX7_colorsTogether 0 = .ok (.iconst 0, 1) := by decide +kernel
theorem dX7_colorsTogether_1 : decode cX7_colorsTogether 1 = .ok (.istore_n 1, 1) := by decide +kernel
theorem dX7_colorsTogether_2 : decode cX7_colorsTogether 2 = .ok (.iconst 0, 1) := by decide +kernel
theorem dX7_colorsTogether_3 : decode cX7_colorsTogether 3 = .ok (.istore_n 2, 1) := by decide +kernel
theorem dX7_colorsTogether_4 : decode cX7_colorsTogether 4 = .ok (.iload_n 2, 1) := by decide +kernel
theorem dX7_colorsTogether_5 : decode cX7_colorsTogether 5 = .ok (.bipush 6, 2) := by decide +kernel
theorem dX7_colorsTogether_7 : decode cX7_colorsTogether 7 = .ok (.if_icmp .ge 18, 3) := by decide +kernel
theorem dX7_colorsTogether_10 : decode cX7_colorsTogether 10 = .ok (.iload_n 1, 1) := by decide +kernel
theorem dX7_colorsTogether_11 : decode cX7_colorsTogether 11 = .ok (.aload_n 0, 1) := by decide +kernel
theorem dX7_colorsTogether_12 : decode cX7_colorsTogether 12 = .ok (.getfield 9, 3) := by decide +kernel
theorem dX7_colorsTogether_15 : decode cX7_colorsTogether 15 = .ok (.iload_n 2, 1) := by decide +kernel
theorem dX7_colorsTogether_16 : decode cX7_colorsTogether 16 = .ok (.iaload, 1) := by decide +kernel
theorem dX7_colorsTogether_17 : decode cX7_colorsTogether 17 = .ok (.iadd, 1) := by decide +kernel
theorem dX7_colorsTogether_18 : decode cX7_colorsTogether 18 = .ok (.istore_n 1, 1) := by decide +kernel
theorem dX7_colorsTogether_19 : decode cX7_colorsTogether 19 = .ok (.iinc 2 1, 3) := by decide +kernel
theorem dX7_colorsTogether_22 : decode cX7_colorsTogether 22 = .ok (.goto (-18), 3) := by decide +kernel
theorem dX7_colorsTogether_25 : decode cX7_colorsTogether 25 = .ok (.iload_n 1, 1) := by decide +kernel
theorem dX7_colorsTogether_26 : decode cX7_colorsTogether 26 = .ok (.ireturn, 1) := by decide +kernel
theorem dX7_timesOfColor_0 : decode cX7_timesOfColor 0 = .ok (.iconst 0, 1) := by decide +kernel
theorem dX7_timesOfColor_1 : decode cX7_timesOfColor 1 = .ok (.istore_n 2, 1) := by decide +kernel
theorem dX7_timesOfColor_2 : decode cX7_timesOfColor 2 = .ok (.iconst 0, 1) := by decide +kernel
theorem dX7_timesOfColor_3 : decode cX7_timesOfColor 3 = .ok (.istore_n 3, 1) := by decide +kernel
theorem dX7_timesOfColor_4 : decode cX7_timesOfColor 4 = .ok (.iload_n 3, 1) := by decide +kernel
theorem dX7_timesOfColor_5 : decode cX7_timesOfColor 5 = .ok (.bipush 6, 2) := by decide +kernel
theorem dX7_timesOfColor_7 : decode cX7_timesOfColor 7 = .ok (.if_icmp .ge 47, 3) := by decide +kernel
theorem dX7_timesOfColor_10 : decode cX7_timesOfColor 10 = .ok (.iconst 0, 1) := by decide +kernel
theorem dX7_timesOfColor_11 : decode cX7_timesOfColor 11 = .ok (.istore 4, 2) := by decide +kernel
theorem dX7_timesOfColor_13 : decode cX7_timesOfColor 13 = .ok (.iload 4, 2) := by decide +kernel
theorem dX7_timesOfColor_15 : decode cX7_timesOfColor 15 = .ok (.aload_n 0, 1) := by decide +kernel
theorem dX7_timesOfColor_16 : decode cX7_timesOfColor 16 = .ok (.getfield 9, 3) := by decide +kernel
theorem dX7_timesOfColor_19 : decode cX7_timesOfColor 19 = .ok (.iload_n 3, 1) := by decide +kernel
theorem dX7_timesOfColor_20 : decode cX7_timesOfColor 20 = .ok (.iaload, 1) := by decide +kernel
theorem dX7_timesOfColor_21 : decode cX7_timesOfColor 21 = .ok (.if_icmp .ge 27, 3) := by decide +kernel
theorem dX7_timesOfColor_24 : decode cX7_timesOfColor 24 = .ok (.aload_n 0, 1) := by decide +kernel
theorem dX7_timesOfColor_25 : decode cX7_timesOfColor 25 = .ok (.getfield 15, 3) := by decide +kernel
theorem dX7_timesOfColor_28 : decode cX7_timesOfColor 28 = .ok (.iload_n 3, 1) := by decide +kernel
theorem dX7_timesOfColor_29 : decode cX7_timesOfColor 29 = .ok (.iload 4, 2) := by decide +kernel
theorem dX7_timesOfColor_31 : decode cX7_timesOfColor 31 = .ok (.invokestatic 18, 3) := by decide +kernel
theorem dX7_timesOfColor_34 : decode cX7_timesOfColor 34 = .ok (.iaload, 1) := by decide +kernel
theorem dX7_timesOfColor_35 : decode cX7_timesOfColor 35 = .ok (.iload_n 1, 1) := by decide +kernel
theorem dX7_timesOfColor_36 : decode cX7_timesOfColor 36 = .ok (.if_icmp .ne 6, 3) := by decide +kernel
theorem dX7_timesOfColor_39 : decode cX7_timesOfColor 39 = .ok (.iinc 2 1, 3) := by decide +kernel
theorem dX7_timesOfColor_42 : decode cX7_timesOfColor 42 = .ok (.iinc 4 1, 3) := by decide +kernel
theorem dX7_timesOfColor_45 : decode cX7_timesOfColor 45 = .ok (.goto (-32), 3) := by decide +kernel
theorem dX7_timesOfColor_48 : decode cX7_timesOfColor 48 = .ok (.iinc 3 1, 3) := by decide +kernel
theorem dX7_timesOfColor_51 : decode cX7_timesOfColor 51 = .ok (.goto (-47), 3) := by decide +kernel
theorem dX7_timesOfColor_54 : decode cX7_timesOfColor 54 = .ok (.iload_n 2, 1) := by decide +kernel
theorem dX7_timesOfColor_55 : decode cX7_timesOfColor 55 = .ok (.ireturn, 1) := by decide +kernel
theorem dX7_copyFrom_0 : decode cX7_copyFrom 0 = .ok (.aload_n 1, 1) := by decide +kernel
theorem dX7_copyFrom_1 : decode cX7_copyFrom 1 = .ok (.getfield 9, 3) := by decide +kernel
theorem dX7_copyFrom_4 : decode cX7_copyFrom 4 = .ok (.aload_n 0, 1) := by decide +kernel
theorem dX7_copyFrom_5 : decode cX7_copyFrom 5 = .ok (.getfield 9, 3) := by decide +kernel
theorem dX7_copyFrom_8 : decode cX7_copyFrom 8 = .ok (.invokestatic 22, 3) := by decide +kernel
theorem dX7_copyFrom_11 : decode cX7_copyFrom 11 = .ok (.aload_n 1, 1) := by decide +kernel
theorem dX7_copyFrom_12 : decode cX7_copyFrom 12 = .ok (.getfield 15, 3) := by decide +kernel
theorem dX7_copyFrom_15 : decode cX7_copyFrom 15 = .ok (.aload_n 0, 1) := by decide +kernel
theorem dX7_copyFrom_16 : decode cX7_copyFrom 16 = .ok (.getfield 15, 3) := by decide +kernel
theorem dX7_copyFrom_19 : decode cX7_copyFrom 19 = .ok (.invokestatic 22, 3) := by decide +kernel
theorem dX7_copyFrom_22 : decode cX7_copyFrom 22 = .ok (.return_, 1) := by decide +kernel
theorem dX8_init_0 : decode cX8_init 0 = .ok (.aload_n 0, 1) := by decide +kernel
theorem dX8_init_1 : decode cX8_init 1 = .ok (.invokespecial 1, 3) := by decide +kernel
theorem dX8_init_4 : decode cX8_init 4 = .ok (.aload_n 0, 1) := by decide +kernel
theorem dX8_init_5 : decode cX8_init 5 = .ok (.new 7, 3) := by decide +kernel
theorem dX8_init_8 : decode cX8_init 8 = .ok (.dup, 1) := by decide +kernel
theorem dX8_init_9 : decode cX8_init 9 = .ok (.invokespecial 9, 3) := by decide +kernel
theorem dX8_init_12 : decode cX8_init 12 = .ok (.putfield 10, 3) := by decide +kernel
theorem dX8_init_15 : decode cX8_init 15 = .ok (.aload_n 0, 1) := by decide +kernel
theorem dX8_init_16 : decode cX8_init 16 = .ok (.new 16, 3) := by decide +kernel
theorem dX8_init_19 : decode cX8_init 19 = .ok (.dup, 1) := by decide +kernel
theorem dX8_init_20 : decode cX8_init 20 = .ok (.invokespecial 18, 3) := by decide +kernel
theorem dX8_init_23 : decode cX8_init 23 = .ok (.putfield 19, 3) := by decide +kernel
theorem dX8_init_26 : decode cX8_init 26 = .ok (.aload_n 0, 1) := by decide +kernel
theorem dX8_init_27 : decode cX8_init 27 = .ok (.new 23, 3) := by decide +kernel
theorem dX8_init_30 : decode cX8_init 30 = .ok (.dup, 1) := by decide +kernel
theorem dX8_init_31 : decode cX8_init 31 = .ok (.invokespecial 25, 3) := by decide +kernel
theorem dX8_init_34 : decode cX8_init 34 = .ok (.putfield 26, 3) := by decide +kernel
theorem dX8_init_37 : decode cX8_init 37 = .ok (.aload_n 0, 1) := by decide +kernel
theorem dX8_init_38 : decode cX8_init 38 = .ok (.new 30, 3) := by decide +kernel
theorem dX8_init_41 : decode cX8_init 41 = .ok (.dup, 1) := by decide +kernel
theorem dX8_init_42 : decode cX8_init 42 = .ok (.invokespecial 32, 3) := by decide +kernel
theorem dX8_init_45 : decode cX8_init 45 = .ok (.putfield 33, 3) := by decide +kernel
theorem dX8_init_48 : decode cX8_init 48 = .ok (.aload_n 0, 1) := by decide +kernel
theorem dX8_init_49 : decode cX8_init 49 = .ok (.new 37, 3) := by decide +kernel
theorem dX8_init_52 : decode cX8_init 52 = .ok (.dup, 1) := by decide +kernel
theorem dX8_init_53 : decode cX8_init 53 = .ok (.invokespecial 39, 3) := by decide +kernel
theorem dX8_init_56 : decode cX8_init 56 = .ok (.putfield 40, 3) := by decide +kernel
theorem dX8_init_59 : decode cX8_init 59 = .ok (.aload_n 0, 1) := by decide +kernel
theorem dX8_init_60 : decode cX8_init 60 = .ok (.new 44, 3) := by decide +kernel
theorem dX8_init_63 : decode cX8_init 63 = .ok (.dup, 1) := by decide +kernel
theorem dX8_init_64 : decode cX8_init 64 = .ok (.invokespecial 46, 3) := by decide +kernel
theorem dX8_init_67 : decode cX8_init 67 = .ok (.putfield 47, 3) := by decide +kernel
theorem dX8_init_70 : decode cX8_init 70 = .ok (.aload_n 0, 1) := by decide +kernel
theorem dX8_init_71 : decode cX8_init 71 = .ok (.iconst 1, 1) := by decide +kernel
theorem dX8_init_72 : decode cX8_init 72 = .ok (.putfield 51, 3) := by decide +kernel
theorem dX8_init_75 : decode cX8_init 75 = .ok (.return_, 1) := by decide +kernel
theorem dX8_color_0 : decode cX8_color 0 = .ok (.iload_n 1, 1) := by decide +kernel
theorem dX8_color_1 : decode cX8_color 1 = .ok (.sipush 600, 3) := by decide +kernel
theorem dX8_color_4 : decode cX8_color 4 = .ok (.sipush 900, 3) := by decide +kernel
theorem dX8_color_7 : decode cX8_color 7 = .ok (.invokestatic 55, 3) := by decide +kernel
theorem dX8_color_10 : decode cX8_color 10 = .ok (.ifCond .eq 31, 3) := by decide +kernel
theorem dX8_color_13 : decode cX8_color 13 = .ok (.iload_n 2, 1) := by decide +kernel
theorem dX8_color_14 : decode cX8_color 14 = .ok (.iload_n 1, 1) := by decide +kernel
theorem dX8_color_15 : decode cX8_color 15 = .ok (.bipush 10, 2) := by decide +kernel
theorem dX8_color_17 : decode cX8_color 17 = .ok (.iadd, 1) := by decide +kernel
theorem dX8_color_18 : decode cX8_color 18 = .ok (.iload_n 1, 1) := by decide +kernel
theorem dX8_color_19 : decode cX8_color 19 = .ok (.sipush 200, 3) := by decide +kernel
theorem dX8_color_22 : decode cX8_color 22 = .ok (.iadd, 1) := by decide +kernel
theorem dX8_color_23 : decode cX8_color 23 = .ok (.invokestatic 55, 3) := by decide +kernel
theorem dX8_color_26 : decode cX8_color 26 = .ok (.ifCond .eq 15, 3) := by decide +kernel
theorem dX8_color_29 : decode cX8_color 29 = .ok (.iload_n 3, 1) := by decide +kernel
theorem dX8_color_30 : decode cX8_color 30 = .ok (.bipush 60, 2) := by decide +kernel
theorem dX8_color_32 : decode cX8_color 32 = .ok (.sipush 160, 3) := by decide +kernel
theorem dX8_color_35 : decode cX8_color 35 = .ok (.invokestatic 55, 3) := by decide +kernel
theorem dX8_color_38 : decode cX8_color 38 = .ok (.ifCond .ne 5, 3) := by decide +kernel
theorem dX8_color_41 : decode cX8_color 41 = .ok (.iconst (-1), 1) := by decide +kernel
theorem dX8_color_42 : decode cX8_color 42 = .ok (.ireturn, 1) := by decide +kernel
theorem dX8_color_43 : decode cX8_color 43 = .ok (.aload_n 0, 1) := by decide +kernel
theorem dX8_color_44 : decode cX8_color 44 = .ok (.getfield 10, 3) := by decide +kernel
theorem dX8_color_47 : decode cX8_color 47 = .ok (.getfield 59, 3) := by decide +kernel
theorem dX8_color_50 : decode cX8_color 50 = .ok (.getfield 63, 3) := by decide +kernel
theorem dX8_color_53 : decode cX8_color 53 = .ok (.bipush 12, 2) := by decide +kernel
theorem dX8_color_55 : decode cX8_color 55 = .ok (.if_icmp .lt 6, 3) := by decide +kernel
theorem dX8_color_58 : decode cX8_color 58 = .ok (.bipush (-3), 2) := by decide +kernel
theorem dX8_color_60 : decode cX8_color 60 = .ok (.ireturn, 1) := by decide +kernel
theorem dX8_color_61 : decode cX8_color 61 = .ok (.aload_n 0, 1) := by decide +kernel
theorem dX8_color_62 : decode cX8_color 62 = .ok (.getfield 19, 3) := by decide +kernel
theorem dX8_color_65 : decode cX8_color 65 = .ok (.aload_n 0, 1) := by decide +kernel
theorem dX8_color_66 : decode cX8_color 66 = .ok (.getfield 10, 3) := by decide +kernel
theorem dX8_color_69 : decode cX8_color 69 = .ok (.invokevirtual 69, 3) := by decide +kernel
theorem dX8_color_72 : decode cX8_color 72 = .ok (.aload_n 0, 1) := by decide +kernel
theorem dX8_color_73 : decode cX8_color 73 = .ok (.getfield 10, 3) := by decide +kernel
theorem dX8_color_76 : decode cX8_color 76 = .ok (.getfield 59, 3) := by decide +kernel
theorem dX8_color_79 : decode cX8_color 79 = .ok (.iload_n 1, 1) := by decide +kernel
theorem dX8_color_80 : decode cX8_color 80 = .ok (.iload_n 2, 1) := by decide +kernel
theorem dX8_color_81 : decode cX8_color 81 = .ok (.iload_n 3, 1) := by decide +kernel
theorem dX8_color_82 : decode cX8_color 82 = .ok (.invokevirtual 73, 3) := by decide +kernel
theorem dX8_color_85 : decode cX8_color 85 = .ok (.ireturn, 1) := by decide +kernel
theorem dX8_colorInfo_0 : decode cX8_colorInfo 0 = .ok (.aload_n 0, 1) := by decide +kernel
theorem dX8_colorInfo_1 : decode cX8_colorInfo 1 = .ok (.iload_n 1, 1) := by decide +kernel
theorem dX8_colorInfo_2 : decode cX8_colorInfo 2 = .ok (.invokevirtual 77, 3) := by decide +kernel
theorem dX8_colorInfo_5 : decode cX8_colorInfo 5 = .ok (.ifCond .ne 5, 3) := by decide +kernel
theorem dX8_colorInfo_8 : decode cX8_colorInfo 8 = .ok (.iconst (-1), 1) := by decide +kernel
theorem dX8_colorInfo_9 : decode cX8_colorInfo 9 = .ok (.ireturn, 1) := by decide +kernel
theorem dX8_colorInfo_10 : decode cX8_colorInfo 10 = .ok (.iload_n 2, 1) := by decide +kernel
theorem dX8_colorInfo_11 : decode cX8_colorInfo 11 = .ok (.tableswitch 112 0 5 #[37, 50, 63, 76, 88, 100], 37) := by decide +kernel
theorem dX8_colorInfo_48 : decode cX8_colorInfo 48 = .ok (.aload_n 0, 1) := by decide +kernel
theorem dX8_colorInfo_49 : decode cX8_colorInfo 49 = .ok (.getfield 10, 3) := by decide +kernel
theorem dX8_colorInfo_52 : decode cX8_colorInfo 52 = .ok (.getfield 59, 3) := by decide +kernel
theorem dX8_colorInfo_55 : decode cX8_colorInfo 55 = .ok (.getfield 81, 3) := by decide +kernel
theorem dX8_colorInfo_58 : decode cX8_colorInfo 58 = .ok (.iload_n 1, 1) := by decide +kernel
theorem dX8_colorInfo_59 : decode cX8_colorInfo 59 = .ok (.iaload, 1) := by decide +kernel
theorem dX8_colorInfo_60 : decode cX8_colorInfo 60 = .ok (.ireturn, 1) := by decide +kernel
theorem dX8_colorInfo_61 : decode cX8_colorInfo 61 = .ok (.aload_n 0, 1) := by decide +kernel
theorem dX8_colorInfo_62 : decode cX8_colorInfo 62 = .ok (.getfield 10, 3) := by decide +kernel
theorem dX8_colorInfo_65 : decode cX8_colorInfo 65 = .ok (.getfield 59, 3) := by decide +kernel
theorem dX8_colorInfo_68 : decode cX8_colorInfo 68 = .ok (.getfield 85, 3) := by decide +kernel
theorem dX8_colorInfo_71 : decode cX8_colorInfo 71 = .ok (.iload_n 1, 1) := by decide +kernel
theorem dX8_colorInfo_72 : decode cX8_colorInfo 72 = .ok (.iaload, 1) := by decide +kernel
theorem dX8_colorInfo_73 : decode cX8_colorInfo 73 = .ok (.ireturn, 1) := by decide +kernel
theorem dX8_colorInfo_74 : decode cX8_colorInfo 74 = .ok (.aload_n 0, 1) := by decide +kernel
theorem dX8_colorInfo_75 : decode cX8_colorInfo 75 = .ok (.getfield 10, 3) := by decide +kernel
theorem dX8_colorInfo_78 : decode cX8_colorInfo 78 = .ok (.getfield 59, 3) := by decide +kernel
theorem dX8_colorInfo_81 : decode cX8_colorInfo 81 = .ok (.getfield 88, 3) := by decide +kernel
theorem dX8_colorInfo_84 : decode cX8_colorInfo 84 = .ok (.iload_n 1, 1) := by decide +kernel
theorem dX8_colorInfo_85 : decode cX8_colorInfo 85 = .ok (.iaload, 1) := by decide +kernel
theorem dX8_colorInfo_86 : decode cX8_colorInfo 86 = .ok (.ireturn, 1) := by decide +kernel
theorem dX8_colorInfo_87 : decode cX8_colorInfo 87 = .ok (.aload_n 0, 1) := by decide +kernel
theorem dX8_colorInfo_88 : decode cX8_colorInfo 88 = .ok (.getfield 10, 3) := by decide +kernel
theorem dX8_colorInfo_91 : decode cX8_colorInfo 91 = .ok (.getfield 59, 3) := by decide +kernel
theorem dX8_colorInfo_94 : decode cX8_colorInfo 94 = .ok (.iload_n 1, 1) := by decide +kernel
theorem dX8_colorInfo_95 : decode cX8_colorInfo 95 = .ok (.invokevirtual 91, 3) := by decide +kernel
theorem dX8_colorInfo_98 : decode cX8_colorInfo 98 = .ok (.ireturn, 1) := by decide +kernel
theorem dX8_colorInfo_99 : decode cX8_colorInfo 99 = .ok (.aload_n 0, 1) := by decide +kernel
theorem dX8_colorInfo_100 : decode cX8_colorInfo 100 = .ok (.getfield 10, 3) := by decide +kernel
theorem dX8_colorInfo_103 : decode cX8_colorInfo 103 = .ok (.getfield 95, 3) := by decide +kernel
theorem dX8_colorInfo_106 : decode cX8_colorInfo 106 = .ok (.iload_n 1, 1) := by decide +kernel
theorem dX8_colorInfo_107 : decode cX8_colorInfo 107 = .ok (.invokevirtual 98, 3) := by decide +kernel
theorem dX8_colorInfo_110 : decode cX8_colorInfo 110 = .ok (.ireturn, 1) := by decide +kernel
theorem dX8_colorInfo_111 : decode cX8_colorInfo 111 = .ok (.aload_n 0, 1) := by decide +kernel
theorem dX8_colorInfo_112 : decode cX8_colorInfo 112 = .ok (.getfield 10, 3) := by decide +kernel
theorem dX8_colorInfo_115 : decode cX8_colorInfo 115 = .ok (.getfield 101, 3) := by decide +kernel
theorem dX8_colorInfo_118 : decode cX8_colorInfo 118 = .ok (.iload_n 1, 1) := by decide +kernel
theorem dX8_colorInfo_119 : decode cX8_colorInfo 119 = .ok (.invokevirtual 105, 3) := by decide +kernel
theorem dX8_colorInfo_122 : decode cX8_colorInfo 122 = .ok (.ireturn, 1) := by decide +kernel
theorem dX8_colorInfo_123 : decode cX8_colorInfo 123 = .ok (.iconst (-1), 1) := by decide +kernel
theorem dX8_colorInfo_124 : decode cX8_colorInfo 124 = .ok (.ireturn, 1) := by decide +kernel
theorem dX8_put_0 : decode cX8_put 0 = .ok (.iload_n 1, 1) := by decide +kernel
theorem dX8_put_1 : decode cX8_put 1 = .ok (.invokestatic 110, 3) := by decide +kernel
theorem dX8_put_4 : decode cX8_put 4 = .ok (.ifCond .eq 11, 3) := by decide +kernel
theorem dX8_put_7 : decode cX8_put 7 = .ok (.aload_n 0, 1) := by decide +kernel
theorem dX8_put_8 : decode cX8_put 8 = .ok (.iload_n 2, 1) := by decide +kernel
theorem dX8_put_9 : decode cX8_put 9 = .ok (.invokevirtual 77, 3) := by decide +kernel
theorem dX8_put_12 : decode cX8_put 12 = .ok (.ifCond .ne 5, 3) := by decide +kernel
theorem dX8_put_15 : decode cX8_put 15 = .ok (.iconst (-1), 1) := by decide +kernel
theorem dX8_put_16 : decode cX8_put 16 = .ok (.ireturn, 1) := by decide +kernel
theorem dX8_put_17 : decode cX8_put 17 = .ok (.aload_n 0, 1) := by decide +kernel
theorem dX8_put_18 : decode cX8_put 18 = .ok (.getfield 10, 3) := by decide +kernel
theorem dX8_put_21 : decode cX8_put 21 = .ok (.getfield 95, 3) := by decide +kernel
theorem dX8_put_24 : decode cX8_put 24 = .ok (.iload_n 1, 1) := by decide +kernel
theorem dX8_put_25 : decode cX8_put 25 = .ok (.invokevirtual 113, 3) := by decide +kernel
theorem dX8_put_28 : decode cX8_put 28 = .ok (.ifCond .eq 6, 3) := by decide +kernel
theorem dX8_put_31 : decode cX8_put 31 = .ok (.bipush (-2), 2) := by decide +kernel
theorem dX8_put_33 : decode cX8_put 33 = .ok (.ireturn, 1) := by decide +kernel
theorem dX8_put_34 : decode cX8_put 34 = .ok (.aload_n 0, 1) := by decide +kernel
theorem dX8_put_35 : decode cX8_put 35 = .ok (.getfield 10, 3) := by decide +kernel
theorem dX8_put_38 : decode cX8_put 38 = .ok (.getfield 95, 3) := by decide +kernel
theorem dX8_put_41 : decode cX8_put 41 = .ok (.getfield 116, 3) := by decide +kernel
theorem dX8_put_44 : decode cX8_put 44 = .ok (.iload_n 1, 1) := by decide +kernel
theorem dX8_put_45 : decode cX8_put 45 = .ok (.iaload, 1) := by decide +kernel
theorem dX8_put_46 : decode cX8_put 46 = .ok (.iconst 3, 1) := by decide +kernel
theorem dX8_put_47 : decode cX8_put 47 = .ok (.if_icmp .lt 6, 3) := by decide +kernel
theorem dX8_put_50 : decode cX8_put 50 = .ok (.bipush (-3), 2) := by decide +kernel
theorem dX8_put_52 : decode cX8_put 52 = .ok (.ireturn, 1) := by decide +kernel
theorem dX8_put_53 : decode cX8_put 53 = .ok (.aload_n 0, 1) := by decide +kernel
theorem dX8_put_54 : decode cX8_put 54 = .ok (.getfield 19, 3) := by decide +kernel
theorem dX8_put_57 : decode cX8_put 57 = .ok (.aload_n 0, 1) := by decide +kernel
theorem dX8_put_58 : decode cX8_put 58 = .ok (.getfield 10, 3) := by decide +kernel
theorem dX8_put_61 : decode cX8_put 61 = .ok (.invokevirtual 69, 3) := by decide +kernel
theorem dX8_put_64 : decode cX8_put 64 = .ok (.aload_n 0, 1) := by decide +kernel
theorem dX8_put_65 : decode cX8_put 65 = .ok (.getfield 10, 3) := by decide +kernel
theorem dX8_put_68 : decode cX8_put 68 = .ok (.getfield 119, 3) := by decide +kernel
theorem dX8_put_71 : decode cX8_put 71 = .ok (.iconst 2, 1) := by decide +kernel
theorem dX8_put_72 : decode cX8_put 72 = .ok (.dup2, 1) := by decide +kernel
theorem dX8_put_73 : decode cX8_put 73 = .ok (.iaload, 1) := by decide +kernel
theorem dX8_put_74 : decode cX8_put 74 = .ok (.iconst 1, 1) := by decide +kernel
theorem dX8_put_75 : decode cX8_put 75 = .ok (.iadd, 1) := by decide +kernel
end
section
theorem dX8_put_76 : decode cX8_put 76 = .ok (.iastore, 1) := by decide +kernel
theorem dX8_put_77 : decode cX8_put 77 = .ok (.aload_n 0, 1) := by decide +kernel
theorem dX8_put_78 : decode cX8_put 78 = .ok (.getfield 10, 3) := by decide +kernel
theorem dX8_put_81 : decode cX8_put 81 = .ok (.getfield 95, 3) := by decide +kernel
theorem dX8_put_84 : decode cX8_put 84 = .ok (.iload_n 1, 1) := by decide +kernel
theorem dX8_put_85 : decode cX8_put 85 = .ok (.iload_n 2, 1) := by decide +kernel
theorem dX8_put_86 : decode cX8_put 86 = .ok (.invokevirtual 122, 3) := by decide +kernel
theorem dX8_put_89 : decode cX8_put 89 = .ok (.ireturn, 1) := by decide +kernel
theorem dX8_takeOff_0 : decode cX8_takeOff 0 = .ok (.iload_n 1, 1) := by decide +kernel
theorem dX8_takeOff_1 : decode cX8_takeOff 1 = .ok (.invokestatic 110, 3) := by decide +kernel
theorem dX8_takeOff_4 : decode cX8_takeOff 4 = .ok (.ifCond .ne 5, 3) := by decide +kernel
theorem dX8_takeOff_7 : decode cX8_takeOff 7 = .ok (.iconst (-1), 1) := by decide +kernel
theorem dX8_takeOff_8 : decode cX8_takeOff 8 = .ok (.ireturn, 1) := by decide +kernel
theorem dX8_takeOff_9 : decode cX8_takeOff 9 = .ok (.aload_n 0, 1) := by decide +kernel
theorem dX8_takeOff_10 : decode cX8_takeOff 10 = .ok (.getfield 10, 3) := by decide +kernel
theorem dX8_takeOff_13 : decode cX8_takeOff 13 = .ok (.getfield 95, 3) := by decide +kernel
theorem dX8_takeOff_16 : decode cX8_takeOff 16 = .ok (.iload_n 1, 1) := by decide +kernel
theorem dX8_takeOff_17 : decode cX8_takeOff 17 = .ok (.invokevirtual 113, 3) := by decide +kernel
theorem dX8_takeOff_20 : decode cX8_takeOff 20 = .ok (.ifCond .ne 6, 3) := by decide +kernel
theorem dX8_takeOff_23 : decode cX8_takeOff 23 = .ok (.bipush (-2), 2) := by decide +kernel
theorem dX8_takeOff_25 : decode cX8_takeOff 25 = .ok (.ireturn, 1) := by decide +kernel
theorem dX8_takeOff_26 : decode cX8_takeOff 26 = .ok (.aload_n 0, 1) := by decide +kernel
theorem dX8_takeOff_27 : decode cX8_takeOff 27 = .ok (.getfield 19, 3) := by decide +kernel
theorem dX8_takeOff_30 : decode cX8_takeOff 30 = .ok (.aload_n 0, 1) := by decide +kernel
theorem dX8_takeOff_31 : decode cX8_takeOff 31 = .ok (.getfield 10, 3) := by decide +kernel
theorem dX8_takeOff_34 : decode cX8_takeOff 34 = .ok (.invokevirtual 69, 3) := by decide +kernel
theorem dX8_takeOff_37 : decode cX8_takeOff 37 = .ok (.aload_n 0, 1) := by decide +kernel
theorem dX8_takeOff_38 : decode cX8_takeOff 38 = .ok (.getfield 10, 3) := by decide +kernel
theorem dX8_takeOff_41 : decode cX8_takeOff 41 = .ok (.getfield 119, 3) := by decide +kernel
theorem dX8_takeOff_44 : decode cX8_takeOff 44 = .ok (.iconst 3, 1) := by decide +kernel
theorem dX8_takeOff_45 : decode cX8_takeOff 45 = .ok (.dup2, 1) := by decide +kernel
theorem dX8_takeOff_46 : decode cX8_takeOff 46 = .ok (.iaload, 1) := by decide +kernel
theorem dX8_takeOff_47 : decode cX8_takeOff 47 = .ok (.iconst 1, 1) := by decide +kernel
theorem dX8_takeOff_48 : decode cX8_takeOff 48 = .ok (.iadd, 1) := by decide +kernel
theorem dX8_takeOff_49 : decode cX8_takeOff 49 = .ok (.iastore, 1) := by decide +kernel
theorem dX8_takeOff_50 : decode cX8_takeOff 50 = .ok (.aload_n 0, 1) := by decide +kernel
theorem dX8_takeOff_51 : decode cX8_takeOff 51 = .ok (.getfield 10, 3) := by decide +kernel
theorem dX8_takeOff_54 : decode cX8_takeOff 54 = .ok (.getfield 95, 3) := by decide +kernel
theorem dX8_takeOff_57 : decode cX8_takeOff 57 = .ok (.iload_n 1, 1) := by decide +kernel
theorem dX8_takeOff_58 : decode cX8_takeOff 58 = .ok (.invokevirtual 125, 3) := by decide +kernel
theorem dX8_takeOff_61 : decode cX8_takeOff 61 = .ok (.ireturn, 1) := by decide +kernel
theorem dX8_clean_0 : decode cX8_clean 0 = .ok (.aload_n 0, 1) := by decide +kernel
theorem dX8_clean_1 : decode cX8_clean 1 = .ok (.getfield 10, 3) := by decide +kernel
theorem dX8_clean_4 : decode cX8_clean 4 = .ok (.getfield 95, 3) := by decide +kernel
theorem dX8_clean_7 : decode cX8_clean 7 = .ok (.invokevirtual 128, 3) := by decide +kernel
theorem dX8_clean_10 : decode cX8_clean 10 = .ok (.istore_n 1, 1) := by decide +kernel
theorem dX8_clean_11 : decode cX8_clean 11 = .ok (.aload_n 0, 1) := by decide +kernel
theorem dX8_clean_12 : decode cX8_clean 12 = .ok (.getfield 19, 3) := by decide +kernel
theorem dX8_clean_15 : decode cX8_clean 15 = .ok (.aload_n 0, 1) := by decide +kernel
theorem dX8_clean_16 : decode cX8_clean 16 = .ok (.getfield 10, 3) := by decide +kernel
theorem dX8_clean_19 : decode cX8_clean 19 = .ok (.invokevirtual 69, 3) := by decide +kernel
theorem dX8_clean_22 : decode cX8_clean 22 = .ok (.aload_n 0, 1) := by decide +kernel
theorem dX8_clean_23 : decode cX8_clean 23 = .ok (.getfield 10, 3) := by decide +kernel
theorem dX8_clean_26 : decode cX8_clean 26 = .ok (.getfield 95, 3) := by decide +kernel
theorem dX8_clean_29 : decode cX8_clean 29 = .ok (.invokevirtual 132, 3) := by decide +kernel
theorem dX8_clean_32 : decode cX8_clean 32 = .ok (.aload_n 0, 1) := by decide +kernel
theorem dX8_clean_33 : decode cX8_clean 33 = .ok (.getfield 10, 3) := by decide +kernel
theorem dX8_clean_36 : decode cX8_clean 36 = .ok (.getfield 119, 3) := by decide +kernel
theorem dX8_clean_39 : decode cX8_clean 39 = .ok (.iconst 2, 1) := by decide +kernel
theorem dX8_clean_40 : decode cX8_clean 40 = .ok (.iconst 0, 1) := by decide +kernel
theorem dX8_clean_41 : decode cX8_clean 41 = .ok (.iastore, 1) := by decide +kernel
theorem dX8_clean_42 : decode cX8_clean 42 = .ok (.aload_n 0, 1) := by decide +kernel
theorem dX8_clean_43 : decode cX8_clean 43 = .ok (.getfield 10, 3) := by decide +kernel
theorem dX8_clean_46 : decode cX8_clean 46 = .ok (.getfield 119, 3) := by decide +kernel
theorem dX8_clean_49 : decode cX8_clean 49 = .ok (.iconst 3, 1) := by decide +kernel
theorem dX8_clean_50 : decode cX8_clean 50 = .ok (.iconst 0, 1) := by decide +kernel
theorem dX8_clean_51 : decode cX8_clean 51 = .ok (.iastore, 1) := by decide +kernel
theorem dX8_clean_52 : decode cX8_clean 52 = .ok (.iload_n 1, 1) := by decide +kernel
theorem dX8_clean_53 : decode cX8_clean 53 = .ok (.ireturn, 1) := by decide +kernel
theorem dX8_layer_0 : decode cX8_layer 0 = .ok (.iload_n 1, 1) := by decide +kernel
theorem dX8_layer_1 : decode cX8_layer 1 = .ok (.invokestatic 110, 3) := by decide +kernel
theorem dX8_layer_4 : decode cX8_layer 4 = .ok (.ifCond .eq 16, 3) := by decide +kernel
theorem dX8_layer_7 : decode cX8_layer 7 = .ok (.iload_n 2, 1) := by decide +kernel
theorem dX8_layer_8 : decode cX8_layer 8 = .ok (.ifCond .lt 12, 3) := by decide +kernel
theorem dX8_layer_11 : decode cX8_layer 11 = .ok (.iload_n 3, 1) := by decide +kernel
theorem dX8_layer_12 : decode cX8_layer 12 = .ok (.iconst 0, 1) := by decide +kernel
theorem dX8_layer_13 : decode cX8_layer 13 = .ok (.iconst 2, 1) := by decide +kernel
theorem dX8_layer_14 : decode cX8_layer 14 = .ok (.invokestatic 55, 3) := by decide +kernel
theorem dX8_layer_17 : decode cX8_layer 17 = .ok (.ifCond .ne 5, 3) := by decide +kernel
theorem dX8_layer_20 : decode cX8_layer 20 = .ok (.iconst (-1), 1) := by decide +kernel
theorem dX8_layer_21 : decode cX8_layer 21 = .ok (.ireturn, 1) := by decide +kernel
theorem dX8_layer_22 : decode cX8_layer 22 = .ok (.iload_n 2, 1) := by decide +kernel
theorem dX8_layer_23 : decode cX8_layer 23 = .ok (.aload_n 0, 1) := by decide +kernel
theorem dX8_layer_24 : decode cX8_layer 24 = .ok (.getfield 10, 3) := by decide +kernel
theorem dX8_layer_27 : decode cX8_layer 27 = .ok (.getfield 95, 3) := by decide +kernel
theorem dX8_layer_30 : decode cX8_layer 30 = .ok (.getfield 116, 3) := by decide +kernel
theorem dX8_layer_33 : decode cX8_layer 33 = .ok (.iload_n 1, 1) := by decide +kernel
theorem dX8_layer_34 : decode cX8_layer 34 = .ok (.iaload, 1) := by decide +kernel
theorem dX8_layer_35 : decode cX8_layer 35 = .ok (.if_icmp .lt 6, 3) := by decide +kernel
theorem dX8_layer_38 : decode cX8_layer 38 = .ok (.bipush (-4), 2) := by decide +kernel
theorem dX8_layer_40 : decode cX8_layer 40 = .ok (.ireturn, 1) := by decide +kernel
theorem dX8_layer_41 : decode cX8_layer 41 = .ok (.iload_n 1, 1) := by decide +kernel
theorem dX8_layer_42 : decode cX8_layer 42 = .ok (.iload_n 2, 1) := by decide +kernel
theorem dX8_layer_43 : decode cX8_layer 43 = .ok (.invokestatic 135, 3) := by decide +kernel
theorem dX8_layer_46 : decode cX8_layer 46 = .ok (.istore 4, 2) := by decide +kernel
theorem dX8_layer_48 : decode cX8_layer 48 = .ok (.iload_n 3, 1) := by decide +kernel
theorem dX8_layer_49 : decode cX8_layer 49 = .ok (.ifCond .ne 17, 3) := by decide +kernel
theorem dX8_layer_52 : decode cX8_layer 52 = .ok (.aload_n 0, 1) := by decide +kernel
theorem dX8_layer_53 : decode cX8_layer 53 = .ok (.getfield 10, 3) := by decide +kernel
theorem dX8_layer_56 : decode cX8_layer 56 = .ok (.getfield 95, 3) := by decide +kernel
theorem dX8_layer_59 : decode cX8_layer 59 = .ok (.getfield 138, 3) := by decide +kernel
theorem dX8_layer_62 : decode cX8_layer 62 = .ok (.iload 4, 2) := by decide +kernel
theorem dX8_layer_64 : decode cX8_layer 64 = .ok (.iaload, 1) := by decide +kernel
theorem dX8_layer_65 : decode cX8_layer 65 = .ok (.ireturn, 1) := by decide +kernel
theorem dX8_layer_66 : decode cX8_layer 66 = .ok (.iload_n 3, 1) := by decide +kernel
theorem dX8_layer_67 : decode cX8_layer 67 = .ok (.iconst 1, 1) := by decide +kernel
theorem dX8_layer_68 : decode cX8_layer 68 = .ok (.if_icmp .ne 19, 3) := by decide +kernel
theorem dX8_layer_71 : decode cX8_layer 71 = .ok (.aload_n 0, 1) := by decide +kernel
theorem dX8_layer_72 : decode cX8_layer 72 = .ok (.getfield 10, 3) := by decide +kernel
theorem dX8_layer_75 : decode cX8_layer 75 = .ok (.getfield 95, 3) := by decide +kernel
theorem dX8_layer_78 : decode cX8_layer 78 = .ok (.getfield 141, 3) := by decide +kernel
theorem dX8_layer_81 : decode cX8_layer 81 = .ok (.iload 4, 2) := by decide +kernel
theorem dX8_layer_83 : decode cX8_layer 83 = .ok (.iaload, 1) := by decide +kernel
theorem dX8_layer_84 : decode cX8_layer 84 = .ok (.goto 16, 3) := by decide +kernel
theorem dX8_layer_87 : decode cX8_layer 87 = .ok (.aload_n 0, 1) := by decide +kernel
theorem dX8_layer_88 : decode cX8_layer 88 = .ok (.getfield 10, 3) := by decide +kernel
theorem dX8_layer_91 : decode cX8_layer 91 = .ok (.getfield 95, 3) := by decide +kernel
theorem dX8_layer_94 : decode cX8_layer 94 = .ok (.getfield 144, 3) := by decide +kernel
theorem dX8_layer_97 : decode cX8_layer 97 = .ok (.iload 4, 2) := by decide +kernel
theorem dX8_layer_99 : decode cX8_layer 99 = .ok (.iaload, 1) := by decide +kernel
theorem dX8_layer_100 : decode cX8_layer 100 = .ok (.ireturn, 1) := by decide +kernel
theorem dX8_field_0 : decode cX8_field 0 = .ok (.iload_n 1, 1) := by decide +kernel
theorem dX8_field_1 : decode cX8_field 1 = .ok (.invokestatic 110, 3) := by decide +kernel
theorem dX8_field_4 : decode cX8_field 4 = .ok (.ifCond .ne 5, 3) := by decide +kernel
theorem dX8_field_7 : decode cX8_field 7 = .ok (.iconst (-1), 1) := by decide +kernel
theorem dX8_field_8 : decode cX8_field 8 = .ok (.ireturn, 1) := by decide +kernel
theorem dX8_field_9 : decode cX8_field 9 = .ok (.iload_n 2, 1) := by decide +kernel
theorem dX8_field_10 : decode cX8_field 10 = .ok (.tableswitch 162 0 5 #[38, 51, 70, 100, 124, 143], 38) := by decide +kernel
theorem dX8_field_48 : decode cX8_field 48 = .ok (.aload_n 0, 1) := by decide +kernel
theorem dX8_field_49 : decode cX8_field 49 = .ok (.getfield 10, 3) := by decide +kernel
theorem dX8_field_52 : decode cX8_field 52 = .ok (.getfield 95, 3) := by decide +kernel
theorem dX8_field_55 : decode cX8_field 55 = .ok (.getfield 116, 3) := by decide +kernel
theorem dX8_field_58 : decode cX8_field 58 = .ok (.iload_n 1, 1) := by decide +kernel
theorem dX8_field_59 : decode cX8_field 59 = .ok (.iaload, 1) := by decide +kernel
theorem dX8_field_60 : decode cX8_field 60 = .ok (.ireturn, 1) := by decide +kernel
theorem dX8_field_61 : decode cX8_field 61 = .ok (.aload_n 0, 1) := by decide +kernel
theorem dX8_field_62 : decode cX8_field 62 = .ok (.getfield 10, 3) := by decide +kernel
theorem dX8_field_65 : decode cX8_field 65 = .ok (.getfield 95, 3) := by decide +kernel
theorem dX8_field_68 : decode cX8_field 68 = .ok (.iload_n 1, 1) := by decide +kernel
theorem dX8_field_69 : decode cX8_field 69 = .ok (.aload_n 0, 1) := by decide +kernel
theorem dX8_field_70 : decode cX8_field 70 = .ok (.getfield 10, 3) := by decide +kernel
theorem dX8_field_73 : decode cX8_field 73 = .ok (.getfield 59, 3) := by decide +kernel
theorem dX8_field_76 : decode cX8_field 76 = .ok (.invokevirtual 147, 3) := by decide +kernel
theorem dX8_field_79 : decode cX8_field 79 = .ok (.ireturn, 1) := by decide +kernel
theorem dX8_field_80 : decode cX8_field 80 = .ok (.iload_n 1, 1) := by decide +kernel
theorem dX8_field_81 : decode cX8_field 81 = .ok (.bipush 6, 2) := by decide +kernel
theorem dX8_field_83 : decode cX8_field 83 = .ok (.if_icmp .ne 8, 3) := by decide +kernel
theorem dX8_field_86 : decode cX8_field 86 = .ok (.bipush (-4), 2) := by decide +kernel
theorem dX8_field_88 : decode cX8_field 88 = .ok (.goto 21, 3) := by decide +kernel
theorem dX8_field_91 : decode cX8_field 91 = .ok (.aload_n 0, 1) := by decide +kernel
theorem dX8_field_92 : decode cX8_field 92 = .ok (.getfield 10, 3) := by decide +kernel
theorem dX8_field_95 : decode cX8_field 95 = .ok (.getfield 95, 3) := by decide +kernel
theorem dX8_field_98 : decode cX8_field 98 = .ok (.iload_n 1, 1) := by decide +kernel
theorem dX8_field_99 : decode cX8_field 99 = .ok (.aload_n 0, 1) := by decide +kernel
theorem dX8_field_100 : decode cX8_field 100 = .ok (.getfield 10, 3) := by decide +kernel
theorem dX8_field_103 : decode cX8_field 103 = .ok (.getfield 59, 3) := by decide +kernel
theorem dX8_field_106 : decode cX8_field 106 = .ok (.invokevirtual 150, 3) := by decide +kernel
theorem dX8_field_109 : decode cX8_field 109 = .ok (.ireturn, 1) := by decide +kernel
theorem dX8_field_110 : decode cX8_field 110 = .ok (.iload_n 1, 1) := by decide +kernel
theorem dX8_field_111 : decode cX8_field 111 = .ok (.bipush 6, 2) := by decide +kernel
theorem dX8_field_113 : decode cX8_field 113 = .ok (.if_icmp .ne 8, 3) := by decide +kernel
theorem dX8_field_116 : decode cX8_field 116 = .ok (.bipush (-4), 2) := by decide +kernel
theorem dX8_field_118 : decode cX8_field 118 = .ok (.goto 15, 3) := by decide +kernel
theorem dX8_field_121 : decode cX8_field 121 = .ok (.aload_n 0, 1) := by decide +kernel
theorem dX8_field_122 : decode cX8_field 122 = .ok (.getfield 10, 3) := by decide +kernel
theorem dX8_field_125 : decode cX8_field 125 = .ok (.getfield 95, 3) := by decide +kernel
theorem dX8_field_128 : decode cX8_field 128 = .ok (.getfield 153, 3) := by decide +kernel
theorem dX8_field_131 : decode cX8_field 131 = .ok (.iload_n 1, 1) := by decide +kernel
theorem dX8_field_132 : decode cX8_field 132 = .ok (.iaload, 1) := by decide +kernel
theorem dX8_field_133 : decode cX8_field 133 = .ok (.ireturn, 1) := by decide +kernel
theorem dX8_field_134 : decode cX8_field 134 = .ok (.aload_n 0, 1) := by decide +kernel
theorem dX8_field_135 : decode cX8_field 135 = .ok (.getfield 10, 3) := by decide +kernel
theorem dX8_field_138 : decode cX8_field 138 = .ok (.getfield 95, 3) := by decide +kernel
theorem dX8_field_141 : decode cX8_field 141 = .ok (.iload_n 1, 1) := by decide +kernel
theorem dX8_field_142 : decode cX8_field 142 = .ok (.aload_n 0, 1) := by decide +kernel
theorem dX8_field_143 : decode cX8_field 143 = .ok (.getfield 10, 3) := by decide +kernel
theorem dX8_field_146 : decode cX8_field 146 = .ok (.getfield 59, 3) := by decide +kernel
theorem dX8_field_149 : decode cX8_field 149 = .ok (.invokevirtual 156, 3) := by decide +kernel
theorem dX8_field_152 : decode cX8_field 152 = .ok (.ireturn, 1) := by decide +kernel
theorem dX8_field_153 : decode cX8_field 153 = .ok (.aload_n 0, 1) := by decide +kernel
theorem dX8_field_154 : decode cX8_field 154 = .ok (.getfield 10, 3) := by decide +kernel
theorem dX8_field_157 : decode cX8_field 157 = .ok (.getfield 95, 3) := by decide +kernel
theorem dX8_field_160 : decode cX8_field 160 = .ok (.iload_n 1, 1) := by decide +kernel
theorem dX8_field_161 : decode cX8_field 161 = .ok (.aload_n 0, 1) := by decide +kernel
theorem dX8_field_162 : decode cX8_field 162 = .ok (.getfield 10, 3) := by decide +kernel
theorem dX8_field_165 : decode cX8_field 165 = .ok (.getfield 59, 3) := by decide +kernel
theorem dX8_field_168 : decode cX8_field 168 = .ok (.invokevirtual 159, 3) := by decide +kernel
theorem dX8_field_171 : decode cX8_field 171 = .ok (.ireturn, 1) := by decide +kernel
theorem dX8_field_172 : decode cX8_field 172 = .ok (.iconst (-1), 1) := by decide +kernel
theorem dX8_field_173 : decode cX8_field 173 = .ok (.ireturn, 1) := by decide +kernel
theorem dX8_set_0 : decode cX8_set 0 = .ok (.iload_n 1, 1) := by decide +kernel
theorem dX8_set_1 : decode cX8_set 1 = .ok (.iconst 0, 1) := by decide +kernel
theorem dX8_set_2 : decode cX8_set 2 = .ok (.iconst 2, 1) := by decide +kernel
theorem dX8_set_3 : decode cX8_set 3 = .ok (.invokestatic 55, 3) := by decide +kernel
theorem dX8_set_6 : decode cX8_set 6 = .ok (.ifCond .eq 20, 3) := by decide +kernel
theorem dX8_set_9 : decode cX8_set 9 = .ok (.iload_n 2, 1) := by decide +kernel
theorem dX8_set_10 : decode cX8_set 10 = .ok (.getstatic 162, 3) := by decide +kernel
theorem dX8_set_13 : decode cX8_set 13 = .ok (.iload_n 1, 1) := by decide +kernel
theorem dX8_set_14 : decode cX8_set 14 = .ok (.iaload, 1) := by decide +kernel
theorem dX8_set_15 : decode cX8_set 15 = .ok (.getstatic 165, 3) := by decide +kernel
theorem dX8_set_18 : decode cX8_set 18 = .ok (.iload_n 1, 1) := by decide +kernel
theorem dX8_set_19 : decode cX8_set 19 = .ok (.iaload, 1) := by decide +kernel
theorem dX8_set_20 : decode cX8_set 20 = .ok (.invokestatic 55, 3) := by decide +kernel
theorem dX8_set_23 : decode cX8_set 23 = .ok (.ifCond .ne 5, 3) := by decide +kernel
theorem dX8_set_26 : decode cX8_set 26 = .ok (.iconst (-1), 1) := by decide +kernel
theorem dX8_set_27 : decode cX8_set 27 = .ok (.ireturn, 1) := by decide +kernel
theorem dX8_set_28 : decode cX8_set 28 = .ok (.aload_n 0, 1) := by decide +kernel
theorem dX8_set_29 : decode cX8_set 29 = .ok (.getfield 19, 3) := by decide +kernel
theorem dX8_set_32 : decode cX8_set 32 = .ok (.aload_n 0, 1) := by decide +kernel
theorem dX8_set_33 : decode cX8_set 33 = .ok (.getfield 10, 3) := by decide +kernel
theorem dX8_set_36 : decode cX8_set 36 = .ok (.invokevirtual 69, 3) := by decide +kernel
theorem dX8_set_39 : decode cX8_set 39 = .ok (.aload_n 0, 1) := by decide +kernel
theorem dX8_set_40 : decode cX8_set 40 = .ok (.getfield 10, 3) := by decide +kernel
theorem dX8_set_43 : decode cX8_set 43 = .ok (.getfield 168, 3) := by decide +kernel
theorem dX8_set_46 : decode cX8_set 46 = .ok (.iload_n 1, 1) := by decide +kernel
theorem dX8_set_47 : decode cX8_set 47 = .ok (.iaload, 1) := by decide +kernel
theorem dX8_set_48 : decode cX8_set 48 = .ok (.istore_n 3, 1) := by decide +kernel
theorem dX8_set_49 : decode cX8_set 49 = .ok (.aload_n 0, 1) := by decide +kernel
theorem dX8_set_50 : decode cX8_set 50 = .ok (.getfield 10, 3) := by decide +kernel
theorem dX8_set_53 : decode cX8_set 53 = .ok (.getfield 168, 3) := by decide +kernel
theorem dX8_set_56 : decode cX8_set 56 = .ok (.iload_n 1, 1) := by decide +kernel
theorem dX8_set_57 : decode cX8_set 57 = .ok (.iload_n 2, 1) := by decide +kernel
theorem dX8_set_58 : decode cX8_set 58 = .ok (.iastore, 1) := by decide +kernel
theorem dX8_set_59 : decode cX8_set 59 = .ok (.iload_n 3, 1) := by decide +kernel
theorem dX8_set_60 : decode cX8_set 60 = .ok (.ireturn, 1) := by decide +kernel
theorem dX8_count_0 : decode cX8_count 0 = .ok (.iload_n 1, 1) := by decide +kernel
theorem dX8_count_1 : decode cX8_count 1 = .ok (.iconst 2, 1) := by decide +kernel
theorem dX8_count_2 : decode cX8_count 2 = .ok (.bipush 6, 2) := by decide +kernel
theorem dX8_count_4 : decode cX8_count 4 = .ok (.invokestatic 55, 3) := by decide +kernel
theorem dX8_count_7 : decode cX8_count 7 = .ok (.ifCond .eq 17, 3) := by decide +kernel
theorem dX8_count_10 : decode cX8_count 10 = .ok (.aload_n 0, 1) := by decide +kernel
theorem dX8_count_11 : decode cX8_count 11 = .ok (.getfield 10, 3) := by decide +kernel
theorem dX8_count_14 : decode cX8_count 14 = .ok (.getfield 95, 3) := by decide +kernel
theorem dX8_count_17 : decode cX8_count 17 = .ok (.iload_n 1, 1) := by decide +kernel
theorem dX8_count_18 : decode cX8_count 18 = .ok (.iconst 2, 1) := by decide +kernel
theorem dX8_count_19 : decode cX8_count 19 = .ok (.isub, 1) := by decide +kernel
theorem dX8_count_20 : decode cX8_count 20 = .ok (.invokevirtual 171, 3) := by decide +kernel
theorem dX8_count_23 : decode cX8_count 23 = .ok (.ireturn, 1) := by decide +kernel
theorem dX8_count_24 : decode cX8_count 24 = .ok (.iload_n 1, 1) := by decide +kernel
theorem dX8_count_25 : decode cX8_count 25 = .ok (.bipush 8, 2) := by decide +kernel
theorem dX8_count_27 : decode cX8_count 27 = .ok (.bipush 10, 2) := by decide +kernel
theorem dX8_count_29 : decode cX8_count 29 = .ok (.invokestatic 55, 3) := by decide +kernel
theorem dX8_count_32 : decode cX8_count 32 = .ok (.ifCond .eq 16, 3) := by decide +kernel
theorem dX8_count_35 : decode cX8_count 35 = .ok (.aload_n 0, 1) := by decide +kernel
theorem dX8_count_36 : decode cX8_count 36 = .ok (.getfield 10, 3) := by decide +kernel
theorem dX8_count_39 : decode cX8_count 39 = .ok (.getfield 168, 3) := by decide +kernel
theorem dX8_count_42 : decode cX8_count 42 = .ok (.iload_n 1, 1) := by decide +kernel
theorem dX8_count_43 : decode cX8_count 43 = .ok (.bipush 8, 2) := by decide +kernel
theorem dX8_count_45 : decode cX8_count 45 = .ok (.isub, 1) := by decide +kernel
theorem dX8_count_46 : decode cX8_count 46 = .ok (.iaload, 1) := by decide +kernel
theorem dX8_count_47 : decode cX8_count 47 = .ok (.ireturn, 1) := by decide +kernel
theorem dX8_count_48 : decode cX8_count 48 = .ok (.iload_n 1, 1) := by decide +kernel
theorem dX8_count_49 : decode cX8_count 49 = .ok (.bipush 11, 2) := by decide +kernel
theorem dX8_count_51 : decode cX8_count 51 = .ok (.bipush 19, 2) := by decide +kernel
theorem dX8_count_53 : decode cX8_count 53 = .ok (.invokestatic 55, 3) := by decide +kernel
theorem dX8_count_56 : decode cX8_count 56 = .ok (.ifCond .eq 16, 3) := by decide +kernel
theorem dX8_count_59 : decode cX8_count 59 = .ok (.aload_n 0, 1) := by decide +kernel
theorem dX8_count_60 : decode cX8_count 60 = .ok (.getfield 10, 3) := by decide +kernel
theorem dX8_count_63 : decode cX8_count 63 = .ok (.getfield 119, 3) := by decide +kernel
theorem dX8_count_66 : decode cX8_count 66 = .ok (.iload_n 1, 1) := by decide +kernel
theorem dX8_count_67 : decode cX8_count 67 = .ok (.bipush 11, 2) := by decide +kernel
theorem dX8_count_69 : decode cX8_count 69 = .ok (.isub, 1) := by decide +kernel
theorem dX8_count_70 : decode cX8_count 70 = .ok (.iaload, 1) := by decide +kernel
theorem dX8_count_71 : decode cX8_count 71 = .ok (.ireturn, 1) := by decide +kernel
theorem dX8_count_72 : decode cX8_count 72 = .ok (.iload_n 1, 1) := by decide +kernel
theorem dX8_count_73 : decode cX8_count 73 = .ok (.lookupswitch 119 #[(0, 59), (1, 70), (7, 81), (20, 92), (21, 103), (22, 111)], 59) := by decide +kernel
theorem dX8_count_132 : decode cX8_count 132 = .ok (.aload_n 0, 1) := by decide +kernel
theorem dX8_count_133 : decode cX8_count 133 = .ok (.getfield 10, 3) := by decide +kernel
theorem dX8_count_136 : decode cX8_count 136 = .ok (.getfield 59, 3) := by decide +kernel
theorem dX8_count_139 : decode cX8_count 139 = .ok (.getfield 63, 3) := by decide +kernel
theorem dX8_count_142 : decode cX8_count 142 = .ok (.ireturn, 1) := by decide +kernel
theorem dX8_count_143 : decode cX8_count 143 = .ok (.aload_n 0, 1) := by decide +kernel
theorem dX8_count_144 : decode cX8_count 144 = .ok (.getfield 10, 3) := by decide +kernel
theorem dX8_count_147 : decode cX8_count 147 = .ok (.getfield 95, 3) := by decide +kernel
theorem dX8_count_150 : decode cX8_count 150 = .ok (.invokevirtual 128, 3) := by decide +kernel
theorem dX8_count_153 : decode cX8_count 153 = .ok (.ireturn, 1) := by decide +kernel
theorem dX8_count_154 : decode cX8_count 154 = .ok (.aload_n 0, 1) := by decide +kernel
theorem dX8_count_155 : decode cX8_count 155 = .ok (.getfield 10, 3) := by decide +kernel
theorem dX8_count_158 : decode cX8_count 158 = .ok (.getfield 95, 3) := by decide +kernel
theorem dX8_count_161 : decode cX8_count 161 = .ok (.invokevirtual 174, 3) := by decide +kernel
theorem dX8_count_164 : decode cX8_count 164 = .ok (.ireturn, 1) := by decide +kernel
theorem dX8_count_165 : decode cX8_count 165 = .ok (.aload_n 0, 1) := by decide +kernel
theorem dX8_count_166 : decode cX8_count 166 = .ok (.getfield 10, 3) := by decide +kernel
theorem dX8_count_169 : decode cX8_count 169 = .ok (.getfield 101, 3) := by decide +kernel
theorem dX8_count_172 : decode cX8_count 172 = .ok (.invokevirtual 177, 3) := by decide +kernel
theorem dX8_count_175 : decode cX8_count 175 = .ok (.ireturn, 1) := by decide +kernel
theorem dX8_count_176 : decode cX8_count 176 = .ok (.aload_n 0, 1) := by decide +kernel
theorem dX8_count_177 : decode cX8_count 177 = .ok (.getfield 19, 3) := by decide +kernel
theorem dX8_count_180 : decode cX8_count 180 = .ok (.getfield 180, 3) := by decide +kernel
theorem dX8_count_183 : decode cX8_count 183 = .ok (.ireturn, 1) := by decide +kernel
theorem dX8_count_184 : decode cX8_count 184 = .ok (.aload_n 0, 1) := by decide +kernel
theorem dX8_count_185 : decode cX8_count 185 = .ok (.getfield 47, 3) := by decide +kernel
theorem dX8_count_188 : decode cX8_count 188 = .ok (.getfield 181, 3) := by decide +kernel
theorem dX8_count_191 : decode cX8_count 191 = .ok (.ireturn, 1) := by decide +kernel
theorem dX8_count_192 : decode cX8_count 192 = .ok (.iconst (-1), 1) := by decide +kernel
theorem dX8_count_193 : decode cX8_count 193 = .ok (.ireturn, 1) := by decide +kernel
theorem dX8_fire_0 : decode cX8_fire 0 = .ok (.iload_n 1, 1) := by decide +kernel
theorem dX8_fire_1 : decode cX8_fire 1 = .ok (.sipush 500, 3) := by decide +kernel
theorem dX8_fire_4 : decode cX8_fire 4 = .ok (.sipush 1200, 3) := by decide +kernel
theorem dX8_fire_7 : decode cX8_fire 7 = .ok (.invokestatic 55, 3) := by decide +kernel
theorem dX8_fire_10 : decode cX8_fire 10 = .ok (.ifCond .eq 13, 3) := by decide +kernel
theorem dX8_fire_13 : decode cX8_fire 13 = .ok (.iload_n 2, 1) := by decide +kernel
theorem dX8_fire_14 : decode cX8_fire 14 = .ok (.iconst 1, 1) := by decide +kernel
theorem dX8_fire_15 : decode cX8_fire 15 = .ok (.bipush 20, 2) := by decide +kernel
theorem dX8_fire_17 : decode cX8_fire 17 = .ok (.invokestatic 55, 3) := by decide +kernel
theorem dX8_fire_20 : decode cX8_fire 20 = .ok (.ifCond .ne 5, 3) := by decide +kernel
theorem dX8_fire_23 : decode cX8_fire 23 = .ok (.iconst (-1), 1) := by decide +kernel
theorem dX8_fire_24 : decode cX8_fire 24 = .ok (.ireturn, 1) := by decide +kernel
theorem dX8_fire_25 : decode cX8_fire 25 = .ok (.aload_n 0, 1) := by decide +kernel
theorem dX8_fire_26 : decode cX8_fire 26 = .ok (.getfield 10, 3) := by decide +kernel
theorem dX8_fire_29 : decode cX8_fire 29 = .ok (.getfield 119, 3) := by decide +kernel
theorem dX8_fire_32 : decode cX8_fire 32 = .ok (.iconst 0, 1) := by decide +kernel
theorem dX8_fire_33 : decode cX8_fire 33 = .ok (.iaload, 1) := by decide +kernel
theorem dX8_fire_34 : decode cX8_fire 34 = .ok (.sipush 1000, 3) := by decide +kernel
theorem dX8_fire_37 : decode cX8_fire 37 = .ok (.if_icmp .lt 6, 3) := by decide +kernel
theorem dX8_fire_40 : decode cX8_fire 40 = .ok (.bipush (-3), 2) := by decide +kernel
theorem dX8_fire_42 : decode cX8_fire 42 = .ok (.ireturn, 1) := by decide +kernel
theorem dX8_fire_43 : decode cX8_fire 43 = .ok (.aload_n 0, 1) := by decide +kernel
theorem dX8_fire_44 : decode cX8_fire 44 = .ok (.getfield 19, 3) := by decide +kernel
theorem dX8_fire_47 : decode cX8_fire 47 = .ok (.aload_n 0, 1) := by decide +kernel
theorem dX8_fire_48 : decode cX8_fire 48 = .ok (.getfield 10, 3) := by decide +kernel
theorem dX8_fire_51 : decode cX8_fire 51 = .ok (.invokevirtual 69, 3) := by decide +kernel
theorem dX8_fire_54 : decode cX8_fire 54 = .ok (.aload_n 0, 1) := by decide +kernel
theorem dX8_fire_55 : decode cX8_fire 55 = .ok (.getfield 26, 3) := by decide +kernel
theorem dX8_fire_58 : decode cX8_fire 58 = .ok (.aload_n 0, 1) := by decide +kernel
theorem dX8_fire_59 : decode cX8_fire 59 = .ok (.getfield 10, 3) := by decide +kernel
theorem dX8_fire_62 : decode cX8_fire 62 = .ok (.aload_n 0, 1) := by decide +kernel
theorem dX8_fire_63 : decode cX8_fire 63 = .ok (.getfield 10, 3) := by decide +kernel
theorem dX8_fire_66 : decode cX8_fire 66 = .ok (.getfield 95, 3) := by decide +kernel
theorem dX8_fire_69 : decode cX8_fire 69 = .ok (.iload_n 1, 1) := by decide +kernel
theorem dX8_fire_70 : decode cX8_fire 70 = .ok (.iload_n 2, 1) := by decide +kernel
theorem dX8_fire_71 : decode cX8_fire 71 = .ok (.invokevirtual 184, 3) := by decide +kernel
theorem dX8_fire_74 : decode cX8_fire 74 = .ok (.aload_n 0, 1) := by decide +kernel
theorem dX8_fire_75 : decode cX8_fire 75 = .ok (.getfield 10, 3) := by decide +kernel
theorem dX8_fire_78 : decode cX8_fire 78 = .ok (.getfield 119, 3) := by decide +kernel
theorem dX8_fire_81 : decode cX8_fire 81 = .ok (.iconst 0, 1) := by decide +kernel
theorem dX8_fire_82 : decode cX8_fire 82 = .ok (.dup2, 1) := by decide +kernel
theorem dX8_fire_83 : decode cX8_fire 83 = .ok (.iaload, 1) := by decide +kernel
theorem dX8_fire_84 : decode cX8_fire 84 = .ok (.iconst 1, 1) := by decide +kernel
theorem dX8_fire_85 : decode cX8_fire 85 = .ok (.iadd, 1) := by decide +kernel
theorem dX8_fire_86 : decode cX8_fire 86 = .ok (.iastore, 1) := by decide +kernel
theorem dX8_fire_87 : decode cX8_fire 87 = .ok (.aload_n 0, 1) := by decide +kernel
theorem dX8_fire_88 : decode cX8_fire 88 = .ok (.getfield 10, 3) := by decide +kernel
theorem dX8_fire_91 : decode cX8_fire 91 = .ok (.getfield 119, 3) := by decide +kernel
theorem dX8_fire_94 : decode cX8_fire 94 = .ok (.iconst 1, 1) := by decide +kernel
theorem dX8_fire_95 : decode cX8_fire 95 = .ok (.dup2, 1) := by decide +kernel
theorem dX8_fire_96 : decode cX8_fire 96 = .ok (.iaload, 1) := by decide +kernel
theorem dX8_fire_97 : decode cX8_fire 97 = .ok (.iload_n 2, 1) := by decide +kernel
theorem dX8_fire_98 : decode cX8_fire 98 = .ok (.iadd, 1) := by decide +kernel
theorem dX8_fire_99 : decode cX8_fire 99 = .ok (.iastore, 1) := by decide +kernel
theorem dX8_fire_100 : decode cX8_fire 100 = .ok (.aload_n 0, 1) := by decide +kernel
theorem dX8_fire_101 : decode cX8_fire 101 = .ok (.getfield 10, 3) := by decide +kernel
theorem dX8_fire_104 : decode cX8_fire 104 = .ok (.getfield 119, 3) := by decide +kernel
theorem dX8_fire_107 : decode cX8_fire 107 = .ok (.iconst 4, 1) := by decide +kernel
theorem dX8_fire_108 : decode cX8_fire 108 = .ok (.dup2, 1) := by decide +kernel
theorem dX8_fire_109 : decode cX8_fire 109 = .ok (.iaload, 1) := by decide +kernel
theorem dX8_fire_110 : decode cX8_fire 110 = .ok (.aload_n 0, 1) := by decide +kernel
theorem dX8_fire_111 : decode cX8_fire 111 = .ok (.getfield 26, 3) := by decide +kernel
theorem dX8_fire_114 : decode cX8_fire 114 = .ok (.getfield 188, 3) := by decide +kernel
theorem dX8_fire_117 : decode cX8_fire 117 = .ok (.iadd, 1) := by decide +kernel
theorem dX8_fire_118 : decode cX8_fire 118 = .ok (.iastore, 1) := by decide +kernel
theorem dX8_fire_119 : decode cX8_fire 119 = .ok (.aload_n 0, 1) := by decide +kernel
theorem dX8_fire_120 : decode cX8_fire 120 = .ok (.getfield 10, 3) := by decide +kernel
theorem dX8_fire_123 : decode cX8_fire 123 = .ok (.getfield 119, 3) := by decide +kernel
theorem dX8_fire_126 : decode cX8_fire 126 = .ok (.iconst 5, 1) := by decide +kernel
theorem dX8_fire_127 : decode cX8_fire 127 = .ok (.dup2, 1) := by decide +kernel
theorem dX8_fire_128 : decode cX8_fire 128 = .ok (.iaload, 1) := by decide +kernel
theorem dX8_fire_129 : decode cX8_fire 129 = .ok (.aload_n 0, 1) := by decide +kernel
theorem dX8_fire_130 : decode cX8_fire 130 = .ok (.getfield 26, 3) := by decide +kernel
theorem dX8_fire_133 : decode cX8_fire 133 = .ok (.getfield 191, 3) := by decide +kernel
theorem dX8_fire_136 : decode cX8_fire 136 = .ok (.iadd, 1) := by decide +kernel
theorem dX8_fire_137 : decode cX8_fire 137 = .ok (.iastore, 1) := by decide +kernel
theorem dX8_fire_138 : decode cX8_fire 138 = .ok (.aload_n 0, 1) := by decide +kernel
theorem dX8_fire_139 : decode cX8_fire 139 = .ok (.getfield 10, 3) := by decide +kernel
theorem dX8_fire_142 : decode cX8_fire 142 = .ok (.getfield 119, 3) := by decide +kernel
theorem dX8_fire_145 : decode cX8_fire 145 = .ok (.bipush 6, 2) := by decide +kernel
theorem dX8_fire_147 : decode cX8_fire 147 = .ok (.dup2, 1) := by decide +kernel
theorem dX8_fire_148 : decode cX8_fire 148 = .ok (.iaload, 1) := by decide +kernel
theorem dX8_fire_149 : decode cX8_fire 149 = .ok (.aload_n 0, 1) := by decide +kernel
theorem dX8_fire_150 : decode cX8_fire 150 = .ok (.getfield 26, 3) := by decide +kernel
theorem dX8_fire_153 : decode cX8_fire 153 = .ok (.getfield 194, 3) := by decide +kernel
theorem dX8_fire_156 : decode cX8_fire 156 = .ok (.iadd, 1) := by decide +kernel
theorem dX8_fire_157 : decode cX8_fire 157 = .ok (.iastore, 1) := by decide +kernel
theorem dX8_fire_158 : decode cX8_fire 158 = .ok (.aload_n 0, 1) := by decide +kernel
theorem dX8_fire_159 : decode cX8_fire 159 = .ok (.getfield 10, 3) := by decide +kernel
theorem dX8_fire_162 : decode cX8_fire 162 = .ok (.getfield 119, 3) := by decide +kernel
theorem dX8_fire_165 : decode cX8_fire 165 = .ok (.bipush 7, 2) := by decide +kernel
theorem dX8_fire_167 : decode cX8_fire 167 = .ok (.dup2, 1) := by decide +kernel
theorem dX8_fire_168 : decode cX8_fire 168 = .ok (.iaload, 1) := by decide +kernel
theorem dX8_fire_169 : decode cX8_fire 169 = .ok (.aload_n 0, 1) := by decide +kernel
theorem dX8_fire_170 : decode cX8_fire 170 = .ok (.getfield 26, 3) := by decide +kernel
theorem dX8_fire_173 : decode cX8_fire 173 = .ok (.getfield 197, 3) := by decide +kernel
theorem dX8_fire_176 : decode cX8_fire 176 = .ok (.iadd, 1) := by decide +kernel
theorem dX8_fire_177 : decode cX8_fire 177 = .ok (.iastore, 1) := by decide +kernel
theorem dX8_fire_178 : decode cX8_fire 178 = .ok (.aload_n 0, 1) := by decide +kernel
theorem dX8_fire_179 : decode cX8_fire 179 = .ok (.getfield 10, 3) := by decide +kernel
theorem dX8_fire_182 : decode cX8_fire 182 = .ok (.getfield 119, 3) := by decide +kernel
theorem dX8_fire_185 : decode cX8_fire 185 = .ok (.bipush 8, 2) := by decide +kernel
theorem dX8_fire_187 : decode cX8_fire 187 = .ok (.dup2, 1) := by decide +kernel
theorem dX8_fire_188 : decode cX8_fire 188 = .ok (.iaload, 1) := by decide +kernel
theorem dX8_fire_189 : decode cX8_fire 189 = .ok (.aload_n 0, 1) := by decide +kernel
theorem dX8_fire_190 : decode cX8_fire 190 = .ok (.getfield 26, 3) := by decide +kernel
theorem dX8_fire_193 : decode cX8_fire 193 = .ok (.getfield 199, 3) := by decide +kernel
theorem dX8_fire_196 : decode cX8_fire 196 = .ok (.iadd, 1) := by decide +kernel
theorem dX8_fire_197 : decode cX8_fire 197 = .ok (.iastore, 1) := by decide +kernel
theorem dX8_fire_198 : decode cX8_fire 198 = .ok (.aload_n 0, 1) := by decide +kernel
theorem dX8_fire_199 : decode cX8_fire 199 = .ok (.getfield 26, 3) := by decide +kernel
theorem dX8_fire_202 : decode cX8_fire 202 = .ok (.getfield 188, 3) := by decide +kernel
theorem dX8_fire_205 : decode cX8_fire 205 = .ok (.ireturn, 1) := by decide +kernel
theorem dX8_ifFired_0 : decode cX8_ifFired 0 = .ok (.iload_n 1, 1) := by decide +kernel
theorem dX8_ifFired_1 : decode cX8_ifFired 1 = .ok (.sipush 500, 3) := by decide +kernel
theorem dX8_ifFired_4 : decode cX8_ifFired 4 = .ok (.sipush 1200, 3) := by decide +kernel
theorem dX8_ifFired_7 : decode cX8_ifFired 7 = .ok (.invokestatic 55, 3) := by decide +kernel
theorem dX8_ifFired_10 : decode cX8_ifFired 10 = .ok (.ifCond .eq 12, 3) := by decide +kernel
theorem dX8_ifFired_13 : decode cX8_ifFired 13 = .ok (.iload_n 2, 1) := by decide +kernel
theorem dX8_ifFired_14 : decode cX8_ifFired 14 = .ok (.iconst 0, 1) := by decide +kernel
theorem dX8_ifFired_15 : decode cX8_ifFired 15 = .ok (.iconst 4, 1) := by decide +kernel
theorem dX8_ifFired_16 : decode cX8_ifFired 16 = .ok (.invokestatic 55, 3) := by decide +kernel
theorem dX8_ifFired_19 : decode cX8_ifFired 19 = .ok (.ifCond .ne 5, 3) := by decide +kernel
theorem dX8_ifFired_22 : decode cX8_ifFired 22 = .ok (.iconst (-1), 1) := by decide +kernel
theorem dX8_ifFired_23 : decode cX8_ifFired 23 = .ok (.ireturn, 1) := by decide +kernel
theorem dX8_ifFired_24 : decode cX8_ifFired 24 = .ok (.aload_n 0, 1) := by decide +kernel
theorem dX8_ifFired_25 : decode cX8_ifFired 25 = .ok (.iload_n 1, 1) := by decide +kernel
theorem dX8_ifFired_26 : decode cX8_ifFired 26 = .ok (.invokevirtual 202, 3) := by decide +kernel
theorem dX8_ifFired_29 : decode cX8_ifFired 29 = .ok (.iload_n 2, 1) := by decide +kernel
theorem dX8_ifFired_30 : decode cX8_ifFired 30 = .ok (.tableswitch 62 0 3 #[30, 38, 46, 54], 30) := by decide +kernel
theorem dX8_ifFired_60 : decode cX8_ifFired 60 = .ok (.aload_n 0, 1) := by decide +kernel
theorem dX8_ifFired_61 : decode cX8_ifFired 61 = .ok (.getfield 26, 3) := by decide +kernel
theorem dX8_ifFired_64 : decode cX8_ifFired 64 = .ok (.getfield 188, 3) := by decide +kernel
theorem dX8_ifFired_67 : decode cX8_ifFired 67 = .ok (.ireturn, 1) := by decide +kernel
theorem dX8_ifFired_68 : decode cX8_ifFired 68 = .ok (.aload_n 0, 1) := by decide +kernel
theorem dX8_ifFired_69 : decode cX8_ifFired 69 = .ok (.getfield 26, 3) := by decide +kernel
theorem dX8_ifFired_72 : decode cX8_ifFired 72 = .ok (.getfield 194, 3) := by decide +kernel
theorem dX8_ifFired_75 : decode cX8_ifFired 75 = .ok (.ireturn, 1) := by decide +kernel
theorem dX8_ifFired_76 : decode cX8_ifFired 76 = .ok (.aload_n 0, 1) := by decide +kernel
theorem dX8_ifFired_77 : decode cX8_ifFired 77 = .ok (.getfield 26, 3) := by decide +kernel
theorem dX8_ifFired_80 : decode cX8_ifFired 80 = .ok (.getfield 191, 3) := by decide +kernel
theorem dX8_ifFired_83 : decode cX8_ifFired 83 = .ok (.ireturn, 1) := by decide +kernel
theorem dX8_ifFired_84 : decode cX8_ifFired 84 = .ok (.aload_n 0, 1) := by decide +kernel
theorem dX8_ifFired_85 : decode cX8_ifFired 85 = .ok (.getfield 26, 3) := by decide +kernel
theorem dX8_ifFired_88 : decode cX8_ifFired 88 = .ok (.getfield 197, 3) := by decide +kernel
theorem dX8_ifFired_91 : decode cX8_ifFired 91 = .ok (.ireturn, 1) := by decide +kernel
theorem dX8_ifFired_92 : decode cX8_ifFired 92 = .ok (.aload_n 0, 1) := by decide +kernel
theorem dX8_ifFired_93 : decode cX8_ifFired 93 = .ok (.getfield 26, 3) := by decide +kernel
theorem dX8_ifFired_96 : decode cX8_ifFired 96 = .ok (.getfield 199, 3) := by decide +kernel
theorem dX8_ifFired_99 : decode cX8_ifFired 99 = .ok (.ireturn, 1) := by decide +kernel
theorem dX8_bestHeat_0 : decode cX8_bestHeat 0 = .ok (.aload_n 0, 1) := by decide +kernel
theorem dX8_bestHeat_1 : decode cX8_bestHeat 1 = .ok (.sipush 500, 3) := by decide +kernel
theorem dX8_bestHeat_4 : decode cX8_bestHeat 4 = .ok (.invokevirtual 202, 3) := by decide +kernel
theorem dX8_bestHeat_7 : decode cX8_bestHeat 7 = .ok (.sipush 500, 3) := by decide +kernel
theorem dX8_bestHeat_10 : decode cX8_bestHeat 10 = .ok (.istore_n 1, 1) := by decide +kernel
theorem dX8_bestHeat_11 : decode cX8_bestHeat 11 = .ok (.aload_n 0, 1) := by decide +kernel
theorem dX8_bestHeat_12 : decode cX8_bestHeat 12 = .ok (.getfield 26, 3) := by decide +kernel
theorem dX8_bestHeat_15 : decode cX8_bestHeat 15 = .ok (.getfield 188, 3) := by decide +kernel
theorem dX8_bestHeat_18 : decode cX8_bestHeat 18 = .ok (.istore_n 2, 1) := by decide +kernel
theorem dX8_bestHeat_19 : decode cX8_bestHeat 19 = .ok (.iconst 0, 1) := by decide +kernel
theorem dX8_bestHeat_20 : decode cX8_bestHeat 20 = .ok (.istore_n 3, 1) := by decide +kernel
theorem dX8_bestHeat_21 : decode cX8_bestHeat 21 = .ok (.iload_n 3, 1) := by decide +kernel
theorem dX8_bestHeat_22 : decode cX8_bestHeat 22 = .ok (.aload_n 0, 1) := by decide +kernel
theorem dX8_bestHeat_23 : decode cX8_bestHeat 23 = .ok (.getfield 10, 3) := by decide +kernel
theorem dX8_bestHeat_26 : decode cX8_bestHeat 26 = .ok (.getfield 59, 3) := by decide +kernel
theorem dX8_bestHeat_29 : decode cX8_bestHeat 29 = .ok (.getfield 63, 3) := by decide +kernel
theorem dX8_bestHeat_32 : decode cX8_bestHeat 32 = .ok (.if_icmp .ge 78, 3) := by decide +kernel
theorem dX8_bestHeat_35 : decode cX8_bestHeat 35 = .ok (.aload_n 0, 1) := by decide +kernel
theorem dX8_bestHeat_36 : decode cX8_bestHeat 36 = .ok (.getfield 10, 3) := by decide +kernel
theorem dX8_bestHeat_39 : decode cX8_bestHeat 39 = .ok (.getfield 59, 3) := by decide +kernel
theorem dX8_bestHeat_42 : decode cX8_bestHeat 42 = .ok (.getfield 81, 3) := by decide +kernel
theorem dX8_bestHeat_45 : decode cX8_bestHeat 45 = .ok (.iload_n 3, 1) := by decide +kernel
theorem dX8_bestHeat_46 : decode cX8_bestHeat 46 = .ok (.iaload, 1) := by decide +kernel
theorem dX8_bestHeat_47 : decode cX8_bestHeat 47 = .ok (.istore 4, 2) := by decide +kernel
theorem dX8_bestHeat_49 : decode cX8_bestHeat 49 = .ok (.aload_n 0, 1) := by decide +kernel
theorem dX8_bestHeat_50 : decode cX8_bestHeat 50 = .ok (.iload 4, 2) := by decide +kernel
theorem dX8_bestHeat_52 : decode cX8_bestHeat 52 = .ok (.invokevirtual 202, 3) := by decide +kernel
theorem dX8_bestHeat_55 : decode cX8_bestHeat 55 = .ok (.aload_n 0, 1) := by decide +kernel
theorem dX8_bestHeat_56 : decode cX8_bestHeat 56 = .ok (.getfield 26, 3) := by decide +kernel
theorem dX8_bestHeat_59 : decode cX8_bestHeat 59 = .ok (.getfield 194, 3) := by decide +kernel
theorem dX8_bestHeat_62 : decode cX8_bestHeat 62 = .ok (.ifCond .ne 42, 3) := by decide +kernel
theorem dX8_bestHeat_65 : decode cX8_bestHeat 65 = .ok (.aload_n 0, 1) := by decide +kernel
theorem dX8_bestHeat_66 : decode cX8_bestHeat 66 = .ok (.getfield 26, 3) := by decide +kernel
theorem dX8_bestHeat_69 : decode cX8_bestHeat 69 = .ok (.getfield 188, 3) := by decide +kernel
theorem dX8_bestHeat_72 : decode cX8_bestHeat 72 = .ok (.iload_n 2, 1) := by decide +kernel
theorem dX8_bestHeat_73 : decode cX8_bestHeat 73 = .ok (.if_icmp .gt 20, 3) := by decide +kernel
theorem dX8_bestHeat_76 : decode cX8_bestHeat 76 = .ok (.aload_n 0, 1) := by decide +kernel
theorem dX8_bestHeat_77 : decode cX8_bestHeat 77 = .ok (.getfield 26, 3) := by decide +kernel
theorem dX8_bestHeat_80 : decode cX8_bestHeat 80 = .ok (.getfield 188, 3) := by decide +kernel
theorem dX8_bestHeat_83 : decode cX8_bestHeat 83 = .ok (.iload_n 2, 1) := by decide +kernel
theorem dX8_bestHeat_84 : decode cX8_bestHeat 84 = .ok (.if_icmp .ne 20, 3) := by decide +kernel
theorem dX8_bestHeat_87 : decode cX8_bestHeat 87 = .ok (.iload 4, 2) := by decide +kernel
theorem dX8_bestHeat_89 : decode cX8_bestHeat 89 = .ok (.iload_n 1, 1) := by decide +kernel
theorem dX8_bestHeat_90 : decode cX8_bestHeat 90 = .ok (.if_icmp .ge 14, 3) := by decide +kernel
theorem dX8_bestHeat_93 : decode cX8_bestHeat 93 = .ok (.iload 4, 2) := by decide +kernel
theorem dX8_bestHeat_95 : decode cX8_bestHeat 95 = .ok (.istore_n 1, 1) := by decide +kernel
theorem dX8_bestHeat_96 : decode cX8_bestHeat 96 = .ok (.aload_n 0, 1) := by decide +kernel
theorem dX8_bestHeat_97 : decode cX8_bestHeat 97 = .ok (.getfield 26, 3) := by decide +kernel
theorem dX8_bestHeat_100 : decode cX8_bestHeat 100 = .ok (.getfield 188, 3) := by decide +kernel
theorem dX8_bestHeat_103 : decode cX8_bestHeat 103 = .ok (.istore_n 2, 1) := by decide +kernel
theorem dX8_bestHeat_104 : decode cX8_bestHeat 104 = .ok (.iinc 3 1, 3) := by decide +kernel
theorem dX8_bestHeat_107 : decode cX8_bestHeat 107 = .ok (.goto (-86), 3) := by decide +kernel
theorem dX8_bestHeat_110 : decode cX8_bestHeat 110 = .ok (.iload_n 1, 1) := by decide +kernel
theorem dX8_bestHeat_111 : decode cX8_bestHeat 111 = .ok (.ireturn, 1) := by decide +kernel
theorem dX8_wish_0 : decode cX8_wish 0 = .ok (.iload_n 1, 1) := by decide +kernel
theorem dX8_wish_1 : decode cX8_wish 1 = .ok (.invokestatic 206, 3) := by decide +kernel
theorem dX8_wish_4 : decode cX8_wish 4 = .ok (.ifCond .eq 16, 3) := by decide +kernel
theorem dX8_wish_7 : decode cX8_wish 7 = .ok (.iload_n 2, 1) := by decide +kernel
theorem dX8_wish_8 : decode cX8_wish 8 = .ok (.iconst (-1), 1) := by decide +kernel
theorem dX8_wish_9 : decode cX8_wish 9 = .ok (.if_icmp .eq 13, 3) := by decide +kernel
theorem dX8_wish_12 : decode cX8_wish 12 = .ok (.aload_n 0, 1) := by decide +kernel
theorem dX8_wish_13 : decode cX8_wish 13 = .ok (.iload_n 2, 1) := by decide +kernel
theorem dX8_wish_14 : decode cX8_wish 14 = .ok (.invokevirtual 77, 3) := by decide +kernel
theorem dX8_wish_17 : decode cX8_wish 17 = .ok (.ifCond .ne 5, 3) := by decide +kernel
theorem dX8_wish_20 : decode cX8_wish 20 = .ok (.iconst (-1), 1) := by decide +kernel
theorem dX8_wish_21 : decode cX8_wish 21 = .ok (.ireturn, 1) := by decide +kernel
theorem dX8_wish_22 : decode cX8_wish 22 = .ok (.iload_n 2, 1) := by decide +kernel
theorem dX8_wish_23 : decode cX8_wish 23 = .ok (.iconst (-1), 1) := by decide +kernel
theorem dX8_wish_24 : decode cX8_wish 24 = .ok (.if_icmp .eq 22, 3) := by decide +kernel
theorem dX8_wish_27 : decode cX8_wish 27 = .ok (.aload_n 0, 1) := by decide +kernel
theorem dX8_wish_28 : decode cX8_wish 28 = .ok (.getfield 10, 3) := by decide +kernel
theorem dX8_wish_31 : decode cX8_wish 31 = .ok (.getfield 101, 3) := by decide +kernel
theorem dX8_wish_34 : decode cX8_wish 34 = .ok (.getfield 209, 3) := by decide +kernel
theorem dX8_wish_37 : decode cX8_wish 37 = .ok (.iload_n 1, 1) := by decide +kernel
theorem dX8_wish_38 : decode cX8_wish 38 = .ok (.iaload, 1) := by decide +kernel
theorem dX8_wish_39 : decode cX8_wish 39 = .ok (.iconst 3, 1) := by decide +kernel
theorem dX8_wish_40 : decode cX8_wish 40 = .ok (.if_icmp .lt 6, 3) := by decide +kernel
theorem dX8_wish_43 : decode cX8_wish 43 = .ok (.bipush (-3), 2) := by decide +kernel
theorem dX8_wish_45 : decode cX8_wish 45 = .ok (.ireturn, 1) := by decide +kernel
theorem dX8_wish_46 : decode cX8_wish 46 = .ok (.aload_n 0, 1) := by decide +kernel
theorem dX8_wish_47 : decode cX8_wish 47 = .ok (.getfield 19, 3) := by decide +kernel
theorem dX8_wish_50 : decode cX8_wish 50 = .ok (.aload_n 0, 1) := by decide +kernel
theorem dX8_wish_51 : decode cX8_wish 51 = .ok (.getfield 10, 3) := by decide +kernel
theorem dX8_wish_54 : decode cX8_wish 54 = .ok (.invokevirtual 69, 3) := by decide +kernel
theorem dX8_wish_57 : decode cX8_wish 57 = .ok (.aload_n 0, 1) := by decide +kernel
theorem dX8_wish_58 : decode cX8_wish 58 = .ok (.iconst 1, 1) := by decide +kernel
theorem dX8_wish_59 : decode cX8_wish 59 = .ok (.putfield 51, 3) := by decide +kernel
theorem dX8_wish_62 : decode cX8_wish 62 = .ok (.iload_n 2, 1) := by decide +kernel
theorem dX8_wish_63 : decode cX8_wish 63 = .ok (.iconst (-1), 1) := by decide +kernel
theorem dX8_wish_64 : decode cX8_wish 64 = .ok (.if_icmp .ne 19, 3) := by decide +kernel
theorem dX8_wish_67 : decode cX8_wish 67 = .ok (.aload_n 0, 1) := by decide +kernel
theorem dX8_wish_68 : decode cX8_wish 68 = .ok (.getfield 10, 3) := by decide +kernel
theorem dX8_wish_71 : decode cX8_wish 71 = .ok (.getfield 101, 3) := by decide +kernel
theorem dX8_wish_74 : decode cX8_wish 74 = .ok (.getfield 209, 3) := by decide +kernel
theorem dX8_wish_77 : decode cX8_wish 77 = .ok (.iload_n 1, 1) := by decide +kernel
theorem dX8_wish_78 : decode cX8_wish 78 = .ok (.iconst 0, 1) := by decide +kernel
theorem dX8_wish_79 : decode cX8_wish 79 = .ok (.iastore, 1) := by decide +kernel
theorem dX8_wish_80 : decode cX8_wish 80 = .ok (.goto 15, 3) := by decide +kernel
theorem dX8_wish_83 : decode cX8_wish 83 = .ok (.aload_n 0, 1) := by decide +kernel
theorem dX8_wish_84 : decode cX8_wish 84 = .ok (.getfield 10, 3) := by decide +kernel
theorem dX8_wish_87 : decode cX8_wish 87 = .ok (.getfield 101, 3) := by decide +kernel
theorem dX8_wish_90 : decode cX8_wish 90 = .ok (.iload_n 1, 1) := by decide +kernel
theorem dX8_wish_91 : decode cX8_wish 91 = .ok (.iload_n 2, 1) := by decide +kernel
theorem dX8_wish_92 : decode cX8_wish 92 = .ok (.invokevirtual 210, 3) := by decide +kernel
theorem dX8_wish_95 : decode cX8_wish 95 = .ok (.aload_n 0, 1) := by decide +kernel
theorem dX8_wish_96 : decode cX8_wish 96 = .ok (.getfield 10, 3) := by decide +kernel
theorem dX8_wish_99 : decode cX8_wish 99 = .ok (.getfield 101, 3) := by decide +kernel
theorem dX8_wish_102 : decode cX8_wish 102 = .ok (.getfield 209, 3) := by decide +kernel
theorem dX8_wish_105 : decode cX8_wish 105 = .ok (.iload_n 1, 1) := by decide +kernel
theorem dX8_wish_106 : decode cX8_wish 106 = .ok (.iaload, 1) := by decide +kernel
theorem dX8_wish_107 : decode cX8_wish 107 = .ok (.ireturn, 1) := by decide +kernel
theorem dX8_wished_0 : decode cX8_wished 0 = .ok (.iload_n 1, 1) := by decide +kernel
theorem dX8_wished_1 : decode cX8_wished 1 = .ok (.invokestatic 206, 3) := by decide +kernel
theorem dX8_wished_4 : decode cX8_wished 4 = .ok (.ifCond .eq 7, 3) := by decide +kernel
theorem dX8_wished_7 : decode cX8_wished 7 = .ok (.iload_n 2, 1) := by decide +kernel
theorem dX8_wished_8 : decode cX8_wished 8 = .ok (.ifCond .ge 5, 3) := by decide +kernel
theorem dX8_wished_11 : decode cX8_wished 11 = .ok (.iconst (-1), 1) := by decide +kernel
theorem dX8_wished_12 : decode cX8_wished 12 = .ok (.ireturn, 1) := by decide +kernel
theorem dX8_wished_13 : decode cX8_wished 13 = .ok (.iload_n 2, 1) := by decide +kernel
theorem dX8_wished_14 : decode cX8_wished 14 = .ok (.aload_n 0, 1) := by decide +kernel
theorem dX8_wished_15 : decode cX8_wished 15 = .ok (.getfield 10, 3) := by decide +kernel
theorem dX8_wished_18 : decode cX8_wished 18 = .ok (.getfield 101, 3) := by decide +kernel
theorem dX8_wished_21 : decode cX8_wished 21 = .ok (.getfield 209, 3) := by decide +kernel
theorem dX8_wished_24 : decode cX8_wished 24 = .ok (.iload_n 1, 1) := by decide +kernel
theorem dX8_wished_25 : decode cX8_wished 25 = .ok (.iaload, 1) := by decide +kernel
theorem dX8_wished_26 : decode cX8_wished 26 = .ok (.if_icmp .lt 6, 3) := by decide +kernel
theorem dX8_wished_29 : decode cX8_wished 29 = .ok (.bipush (-4), 2) := by decide +kernel
theorem dX8_wished_31 : decode cX8_wished 31 = .ok (.ireturn, 1) := by decide +kernel
theorem dX8_wished_32 : decode cX8_wished 32 = .ok (.aload_n 0, 1) := by decide +kernel
theorem dX8_wished_33 : decode cX8_wished 33 = .ok (.getfield 10, 3) := by decide +kernel
theorem dX8_wished_36 : decode cX8_wished 36 = .ok (.getfield 101, 3) := by decide +kernel
theorem dX8_wished_39 : decode cX8_wished 39 = .ok (.getfield 213, 3) := by decide +kernel
theorem dX8_wished_42 : decode cX8_wished 42 = .ok (.iload_n 1, 1) := by decide +kernel
theorem dX8_wished_43 : decode cX8_wished 43 = .ok (.iload_n 2, 1) := by decide +kernel
theorem dX8_wished_44 : decode cX8_wished 44 = .ok (.invokestatic 135, 3) := by decide +kernel
theorem dX8_wished_47 : decode cX8_wished 47 = .ok (.iaload, 1) := by decide +kernel
theorem dX8_wished_48 : decode cX8_wished 48 = .ok (.ireturn, 1) := by decide +kernel
theorem dX8_leastFirings_0 : decode cX8_leastFirings 0 = .ok (.aload_n 0, 1) := by decide +kernel
theorem dX8_leastFirings_1 : decode cX8_leastFirings 1 = .ok (.invokevirtual 214, 3) := by decide +kernel
theorem dX8_leastFirings_4 : decode cX8_leastFirings 4 = .ok (.aload_n 0, 1) := by decide +kernel
theorem dX8_leastFirings_5 : decode cX8_leastFirings 5 = .ok (.getfield 40, 3) := by decide +kernel
theorem dX8_leastFirings_8 : decode cX8_leastFirings 8 = .ok (.getfield 217, 3) := by decide +kernel
theorem dX8_leastFirings_11 : decode cX8_leastFirings 11 = .ok (.ifCond .eq 13, 3) := by decide +kernel
theorem dX8_leastFirings_14 : decode cX8_leastFirings 14 = .ok (.aload_n 0, 1) := by decide +kernel
theorem dX8_leastFirings_15 : decode cX8_leastFirings 15 = .ok (.getfield 40, 3) := by decide +kernel
theorem dX8_leastFirings_18 : decode cX8_leastFirings 18 = .ok (.getfield 220, 3) := by decide +kernel
theorem dX8_leastFirings_21 : decode cX8_leastFirings 21 = .ok (.goto 5, 3) := by decide +kernel
theorem dX8_leastFirings_24 : decode cX8_leastFirings 24 = .ok (.bipush (-4), 2) := by decide +kernel
theorem dX8_leastFirings_26 : decode cX8_leastFirings 26 = .ok (.ireturn, 1) := by decide +kernel
theorem dX8_planned_0 : decode cX8_planned 0 = .ok (.iload_n 1, 1) := by decide +kernel
theorem dX8_planned_1 : decode cX8_planned 1 = .ok (.ifCond .lt 12, 3) := by decide +kernel
theorem dX8_planned_4 : decode cX8_planned 4 = .ok (.iload_n 2, 1) := by decide +kernel
theorem dX8_planned_5 : decode cX8_planned 5 = .ok (.iconst 0, 1) := by decide +kernel
theorem dX8_planned_6 : decode cX8_planned 6 = .ok (.iconst 1, 1) := by decide +kernel
theorem dX8_planned_7 : decode cX8_planned 7 = .ok (.invokestatic 55, 3) := by decide +kernel
theorem dX8_planned_10 : decode cX8_planned 10 = .ok (.ifCond .ne 5, 3) := by decide +kernel
theorem dX8_planned_13 : decode cX8_planned 13 = .ok (.iconst (-1), 1) := by decide +kernel
theorem dX8_planned_14 : decode cX8_planned 14 = .ok (.ireturn, 1) := by decide +kernel
theorem dX8_planned_15 : decode cX8_planned 15 = .ok (.aload_n 0, 1) := by decide +kernel
theorem dX8_planned_16 : decode cX8_planned 16 = .ok (.invokevirtual 214, 3) := by decide +kernel
theorem dX8_planned_19 : decode cX8_planned 19 = .ok (.aload_n 0, 1) := by decide +kernel
theorem dX8_planned_20 : decode cX8_planned 20 = .ok (.getfield 40, 3) := by decide +kernel
theorem dX8_planned_23 : decode cX8_planned 23 = .ok (.getfield 217, 3) := by decide +kernel
theorem dX8_planned_26 : decode cX8_planned 26 = .ok (.ifCond .eq 14, 3) := by decide +kernel
theorem dX8_planned_29 : decode cX8_planned 29 = .ok (.iload_n 1, 1) := by decide +kernel
theorem dX8_planned_30 : decode cX8_planned 30 = .ok (.aload_n 0, 1) := by decide +kernel
theorem dX8_planned_31 : decode cX8_planned 31 = .ok (.getfield 40, 3) := by decide +kernel
theorem dX8_planned_34 : decode cX8_planned 34 = .ok (.getfield 220, 3) := by decide +kernel
theorem dX8_planned_37 : decode cX8_planned 37 = .ok (.if_icmp .lt 6, 3) := by decide +kernel
theorem dX8_planned_40 : decode cX8_planned 40 = .ok (.bipush (-4), 2) := by decide +kernel
theorem dX8_planned_42 : decode cX8_planned 42 = .ok (.ireturn, 1) := by decide +kernel
theorem dX8_planned_43 : decode cX8_planned 43 = .ok (.iload_n 2, 1) := by decide +kernel
theorem dX8_planned_44 : decode cX8_planned 44 = .ok (.ifCond .ne 15, 3) := by decide +kernel
theorem dX8_planned_47 : decode cX8_planned 47 = .ok (.aload_n 0, 1) := by decide +kernel
theorem dX8_planned_48 : decode cX8_planned 48 = .ok (.getfield 40, 3) := by decide +kernel
theorem dX8_planned_51 : decode cX8_planned 51 = .ok (.getfield 221, 3) := by decide +kernel
theorem dX8_planned_54 : decode cX8_planned 54 = .ok (.iload_n 1, 1) := by decide +kernel
theorem dX8_planned_55 : decode cX8_planned 55 = .ok (.iaload, 1) := by decide +kernel
theorem dX8_planned_56 : decode cX8_planned 56 = .ok (.goto 12, 3) := by decide +kernel
theorem dX8_planned_59 : decode cX8_planned 59 = .ok (.aload_n 0, 1) := by decide +kernel
theorem dX8_planned_60 : decode cX8_planned 60 = .ok (.getfield 40, 3) := by decide +kernel
theorem dX8_planned_63 : decode cX8_planned 63 = .ok (.getfield 224, 3) := by decide +kernel
theorem dX8_planned_66 : decode cX8_planned 66 = .ok (.iload_n 1, 1) := by decide +kernel
theorem dX8_planned_67 : decode cX8_planned 67 = .ok (.iaload, 1) := by decide +kernel
theorem dX8_planned_68 : decode cX8_planned 68 = .ok (.ireturn, 1) := by decide +kernel
theorem dX8_counter_0 : decode cX8_counter 0 = .ok (.bipush (-4), 2) := by decide +kernel
theorem dX8_counter_2 : decode cX8_counter 2 = .ok (.istore_n 1, 1) := by decide +kernel
theorem dX8_counter_3 : decode cX8_counter 3 = .ok (.iconst 0, 1) := by decide +kernel
theorem dX8_counter_4 : decode cX8_counter 4 = .ok (.istore_n 2, 1) := by decide +kernel
theorem dX8_counter_5 : decode cX8_counter 5 = .ok (.iconst 0, 1) := by decide +kernel
theorem dX8_counter_6 : decode cX8_counter 6 = .ok (.istore_n 3, 1) := by decide +kernel
theorem dX8_counter_7 : decode cX8_counter 7 = .ok (.iload_n 3, 1) := by decide +kernel
theorem dX8_counter_8 : decode cX8_counter 8 = .ok (.aload_n 0, 1) := by decide +kernel
theorem dX8_counter_9 : decode cX8_counter 9 = .ok (.getfield 10, 3) := by decide +kernel
theorem dX8_counter_12 : decode cX8_counter 12 = .ok (.getfield 59, 3) := by decide +kernel
theorem dX8_counter_15 : decode cX8_counter 15 = .ok (.getfield 63, 3) := by decide +kernel
theorem dX8_counter_18 : decode cX8_counter 18 = .ok (.if_icmp .ge 46, 3) := by decide +kernel
theorem dX8_counter_21 : decode cX8_counter 21 = .ok (.aload_n 0, 1) := by decide +kernel
theorem dX8_counter_22 : decode cX8_counter 22 = .ok (.getfield 10, 3) := by decide +kernel
theorem dX8_counter_25 : decode cX8_counter 25 = .ok (.getfield 95, 3) := by decide +kernel
theorem dX8_counter_28 : decode cX8_counter 28 = .ok (.iload_n 3, 1) := by decide +kernel
theorem dX8_counter_29 : decode cX8_counter 29 = .ok (.aload_n 0, 1) := by decide +kernel
theorem dX8_counter_30 : decode cX8_counter 30 = .ok (.getfield 10, 3) := by decide +kernel
theorem dX8_counter_33 : decode cX8_counter 33 = .ok (.getfield 59, 3) := by decide +kernel
theorem dX8_counter_36 : decode cX8_counter 36 = .ok (.invokevirtual 227, 3) := by decide +kernel
theorem dX8_counter_39 : decode cX8_counter 39 = .ok (.istore 4, 2) := by decide +kernel
theorem dX8_counter_41 : decode cX8_counter 41 = .ok (.iload_n 1, 1) := by decide +kernel
theorem dX8_counter_42 : decode cX8_counter 42 = .ok (.bipush (-4), 2) := by decide +kernel
theorem dX8_counter_44 : decode cX8_counter 44 = .ok (.if_icmp .eq 9, 3) := by decide +kernel
theorem dX8_counter_47 : decode cX8_counter 47 = .ok (.iload 4, 2) := by decide +kernel
theorem dX8_counter_49 : decode cX8_counter 49 = .ok (.iload_n 2, 1) := by decide +kernel
theorem dX8_counter_50 : decode cX8_counter 50 = .ok (.if_icmp .ge 8, 3) := by decide +kernel
theorem dX8_counter_53 : decode cX8_counter 53 = .ok (.iload_n 3, 1) := by decide +kernel
theorem dX8_counter_54 : decode cX8_counter 54 = .ok (.istore_n 1, 1) := by decide +kernel
theorem dX8_counter_55 : decode cX8_counter 55 = .ok (.iload 4, 2) := by decide +kernel
theorem dX8_counter_57 : decode cX8_counter 57 = .ok (.istore_n 2, 1) := by decide +kernel
theorem dX8_counter_58 : decode cX8_counter 58 = .ok (.iinc 3 1, 3) := by decide +kernel
theorem dX8_counter_61 : decode cX8_counter 61 = .ok (.goto (-54), 3) := by decide +kernel
theorem dX8_counter_64 : decode cX8_counter 64 = .ok (.iload_n 1, 1) := by decide +kernel
theorem dX8_counter_65 : decode cX8_counter 65 = .ok (.ireturn, 1) := by decide +kernel
theorem dX8_undo_0 : decode cX8_undo 0 = .ok (.aload_n 0, 1) := by decide +kernel
theorem dX8_undo_1 : decode cX8_undo 1 = .ok (.getfield 19, 3) := by decide +kernel
theorem dX8_undo_4 : decode cX8_undo 4 = .ok (.getfield 180, 3) := by decide +kernel
theorem dX8_undo_7 : decode cX8_undo 7 = .ok (.ifCond .ne 6, 3) := by decide +kernel
theorem dX8_undo_10 : decode cX8_undo 10 = .ok (.bipush (-2), 2) := by decide +kernel
theorem dX8_undo_12 : decode cX8_undo 12 = .ok (.ireturn, 1) := by decide +kernel
theorem dX8_undo_13 : decode cX8_undo 13 = .ok (.aload_n 0, 1) := by decide +kernel
theorem dX8_undo_14 : decode cX8_undo 14 = .ok (.getfield 19, 3) := by decide +kernel
theorem dX8_undo_17 : decode cX8_undo 17 = .ok (.aload_n 0, 1) := by decide +kernel
theorem dX8_undo_18 : decode cX8_undo 18 = .ok (.getfield 10, 3) := by decide +kernel
theorem dX8_undo_21 : decode cX8_undo 21 = .ok (.invokevirtual 230, 3) := by decide +kernel
theorem dX8_undo_24 : decode cX8_undo 24 = .ok (.aload_n 0, 1) := by decide +kernel
theorem dX8_undo_25 : decode cX8_undo 25 = .ok (.iconst 1, 1) := by decide +kernel
theorem dX8_undo_26 : decode cX8_undo 26 = .ok (.putfield 51, 3) := by decide +kernel
theorem dX8_undo_29 : decode cX8_undo 29 = .ok (.aload_n 0, 1) := by decide +kernel
theorem dX8_undo_30 : decode cX8_undo 30 = .ok (.getfield 19, 3) := by decide +kernel
theorem dX8_undo_33 : decode cX8_undo 33 = .ok (.getfield 180, 3) := by decide +kernel
theorem dX8_undo_36 : decode cX8_undo 36 = .ok (.ireturn, 1) := by decide +kernel
theorem dX8_type_0 : decode cX8_type 0 = .ok (.iload_n 1, 1) := by decide +kernel
theorem dX8_type_1 : decode cX8_type 1 = .ok (.bipush 32, 2) := by decide +kernel
theorem dX8_type_3 : decode cX8_type 3 = .ok (.bipush 126, 2) := by decide +kernel
theorem dX8_type_5 : decode cX8_type 5 = .ok (.invokestatic 55, 3) := by decide +kernel
theorem dX8_type_8 : decode cX8_type 8 = .ok (.ifCond .ne 5, 3) := by decide +kernel
theorem dX8_type_11 : decode cX8_type 11 = .ok (.iconst (-1), 1) := by decide +kernel
theorem dX8_type_12 : decode cX8_type 12 = .ok (.ireturn, 1) := by decide +kernel
theorem dX8_type_13 : decode cX8_type 13 = .ok (.aload_n 0, 1) := by decide +kernel
theorem dX8_type_14 : decode cX8_type 14 = .ok (.getfield 47, 3) := by decide +kernel
theorem dX8_type_17 : decode cX8_type 17 = .ok (.getfield 181, 3) := by decide +kernel
theorem dX8_type_20 : decode cX8_type 20 = .ok (.bipush 80, 2) := by decide +kernel
theorem dX8_type_22 : decode cX8_type 22 = .ok (.if_icmp .lt 6, 3) := by decide +kernel
theorem dX8_type_25 : decode cX8_type 25 = .ok (.bipush (-3), 2) := by decide +kernel
theorem dX8_type_27 : decode cX8_type 27 = .ok (.ireturn, 1) := by decide +kernel
theorem dX8_type_28 : decode cX8_type 28 = .ok (.aload_n 0, 1) := by decide +kernel
theorem dX8_type_29 : decode cX8_type 29 = .ok (.getfield 47, 3) := by decide +kernel
theorem dX8_type_32 : decode cX8_type 32 = .ok (.iload_n 1, 1) := by decide +kernel
theorem dX8_type_33 : decode cX8_type 33 = .ok (.i2c, 1) := by decide +kernel
theorem dX8_type_34 : decode cX8_type 34 = .ok (.invokevirtual 233, 3) := by decide +kernel
theorem dX8_type_37 : decode cX8_type 37 = .ok (.ireturn, 1) := by decide +kernel
theorem dX8_clearText_0 : decode cX8_clearText 0 = .ok (.aload_n 0, 1) := by decide +kernel
theorem dX8_clearText_1 : decode cX8_clearText 1 = .ok (.getfield 47, 3) := by decide +kernel
theorem dX8_clearText_4 : decode cX8_clearText 4 = .ok (.getfield 181, 3) := by decide +kernel
theorem dX8_clearText_7 : decode cX8_clearText 7 = .ok (.istore_n 1, 1) := by decide +kernel
theorem dX8_clearText_8 : decode cX8_clearText 8 = .ok (.aload_n 0, 1) := by decide +kernel
theorem dX8_clearText_9 : decode cX8_clearText 9 = .ok (.getfield 47, 3) := by decide +kernel
theorem dX8_clearText_12 : decode cX8_clearText 12 = .ok (.iconst 0, 1) := by decide +kernel
theorem dX8_clearText_13 : decode cX8_clearText 13 = .ok (.putfield 181, 3) := by decide +kernel
theorem dX8_clearText_16 : decode cX8_clearText 16 = .ok (.iload_n 1, 1) := by decide +kernel
theorem dX8_clearText_17 : decode cX8_clearText 17 = .ok (.ireturn, 1) := by decide +kernel
theorem dX8_fault_0 : decode cX8_fault 0 = .ok (.iload_n 1, 1) := by decide +kernel
theorem dX8_fault_1 : decode cX8_fault 1 = .ok (.iconst 0, 1) := by decide +kernel
theorem dX8_fault_2 : decode cX8_fault 2 = .ok (.iconst 1, 1) := by decide +kernel
theorem dX8_fault_3 : decode cX8_fault 3 = .ok (.invokestatic 55, 3) := by decide +kernel
theorem dX8_fault_6 : decode cX8_fault 6 = .ok (.ifCond .ne 5, 3) := by decide +kernel
theorem dX8_fault_9 : decode cX8_fault 9 = .ok (.iconst (-1), 1) := by decide +kernel
theorem dX8_fault_10 : decode cX8_fault 10 = .ok (.ireturn, 1) := by decide +kernel
theorem dX8_fault_11 : decode cX8_fault 11 = .ok (.aload_n 0, 1) := by decide +kernel
theorem dX8_fault_12 : decode cX8_fault 12 = .ok (.getfield 47, 3) := by decide +kernel
theorem dX8_fault_15 : decode cX8_fault 15 = .ok (.aload_n 0, 1) := by decide +kernel
theorem dX8_fault_16 : decode cX8_fault 16 = .ok (.getfield 10, 3) := by decide +kernel
theorem dX8_fault_19 : decode cX8_fault 19 = .ok (.getfield 59, 3) := by decide +kernel
theorem dX8_fault_22 : decode cX8_fault 22 = .ok (.getfield 63, 3) := by decide +kernel
theorem dX8_fault_25 : decode cX8_fault 25 = .ok (.invokevirtual 236, 3) := by decide +kernel
theorem dX8_fault_28 : decode cX8_fault 28 = .ok (.aload_n 0, 1) := by decide +kernel
theorem dX8_fault_29 : decode cX8_fault 29 = .ok (.getfield 47, 3) := by decide +kernel
theorem dX8_fault_32 : decode cX8_fault 32 = .ok (.invokevirtual 239, 3) := by decide +kernel
theorem dX8_fault_35 : decode cX8_fault 35 = .ok (.ifCond .ne 6, 3) := by decide +kernel
theorem dX8_fault_38 : decode cX8_fault 38 = .ok (.bipush (-4), 2) := by decide +kernel
theorem dX8_fault_40 : decode cX8_fault 40 = .ok (.ireturn, 1) := by decide +kernel
theorem dX8_fault_41 : decode cX8_fault 41 = .ok (.iload_n 1, 1) := by decide +kernel
theorem dX8_fault_42 : decode cX8_fault 42 = .ok (.ifCond .ne 13, 3) := by decide +kernel
theorem dX8_fault_45 : decode cX8_fault 45 = .ok (.aload_n 0, 1) := by decide +kernel
theorem dX8_fault_46 : decode cX8_fault 46 = .ok (.getfield 47, 3) := by decide +kernel
theorem dX8_fault_49 : decode cX8_fault 49 = .ok (.getfield 243, 3) := by decide +kernel
theorem dX8_fault_52 : decode cX8_fault 52 = .ok (.goto 10, 3) := by decide +kernel
theorem dX8_fault_55 : decode cX8_fault 55 = .ok (.aload_n 0, 1) := by decide +kernel
theorem dX8_fault_56 : decode cX8_fault 56 = .ok (.getfield 47, 3) := by decide +kernel
theorem dX8_fault_59 : decode cX8_fault 59 = .ok (.getfield 246, 3) := by decide +kernel
theorem dX8_fault_62 : decode cX8_fault 62 = .ok (.ireturn, 1) := by decide +kernel
theorem dX8_read_0 : decode cX8_read 0 = .ok (.aload_n 0, 1) := by decide +kernel
theorem dX8_read_1 : decode cX8_read 1 = .ok (.getfield 47, 3) := by decide +kernel
theorem dX8_read_4 : decode cX8_read 4 = .ok (.aload_n 0, 1) := by decide +kernel
theorem dX8_read_5 : decode cX8_read 5 = .ok (.getfield 10, 3) := by decide +kernel
theorem dX8_read_8 : decode cX8_read 8 = .ok (.getfield 59, 3) := by decide +kernel
theorem dX8_read_11 : decode cX8_read 11 = .ok (.getfield 63, 3) := by decide +kernel
theorem dX8_read_14 : decode cX8_read 14 = .ok (.invokevirtual 236, 3) := by decide +kernel
theorem dX8_read_17 : decode cX8_read 17 = .ok (.aload_n 0, 1) := by decide +kernel
theorem dX8_read_18 : decode cX8_read 18 = .ok (.getfield 47, 3) := by decide +kernel
theorem dX8_read_21 : decode cX8_read 21 = .ok (.invokevirtual 239, 3) := by decide +kernel
theorem dX8_read_24 : decode cX8_read 24 = .ok (.ifCond .eq 6, 3) := by decide +kernel
theorem dX8_read_27 : decode cX8_read 27 = .ok (.bipush (-2), 2) := by decide +kernel
theorem dX8_read_29 : decode cX8_read 29 = .ok (.ireturn, 1) := by decide +kernel
theorem dX8_read_30 : decode cX8_read 30 = .ok (.aload_n 0, 1) := by decide +kernel
theorem dX8_read_31 : decode cX8_read 31 = .ok (.getfield 19, 3) := by decide +kernel
theorem dX8_read_34 : decode cX8_read 34 = .ok (.aload_n 0, 1) := by decide +kernel
theorem dX8_read_35 : decode cX8_read 35 = .ok (.getfield 10, 3) := by decide +kernel
theorem dX8_read_38 : decode cX8_read 38 = .ok (.invokevirtual 69, 3) := by decide +kernel
theorem dX8_read_41 : decode cX8_read 41 = .ok (.aload_n 0, 1) := by decide +kernel
theorem dX8_read_42 : decode cX8_read 42 = .ok (.iconst 1, 1) := by decide +kernel
theorem dX8_read_43 : decode cX8_read 43 = .ok (.putfield 51, 3) := by decide +kernel
theorem dX8_read_46 : decode cX8_read 46 = .ok (.aload_n 0, 1) := by decide +kernel
theorem dX8_read_47 : decode cX8_read 47 = .ok (.getfield 47, 3) := by decide +kernel
theorem dX8_read_50 : decode cX8_read 50 = .ok (.aload_n 0, 1) := by decide +kernel
theorem dX8_read_51 : decode cX8_read 51 = .ok (.getfield 10, 3) := by decide +kernel
theorem dX8_read_54 : decode cX8_read 54 = .ok (.getfield 101, 3) := by decide +kernel
theorem dX8_read_57 : decode cX8_read 57 = .ok (.invokevirtual 249, 3) := by decide +kernel
theorem dX8_read_60 : decode cX8_read 60 = .ok (.ireturn, 1) := by decide +kernel
theorem dX8_within_0 : decode cX8_within 0 = .ok (.iload_n 0, 1) := by decide +kernel
theorem dX8_within_1 : decode cX8_within 1 = .ok (.iload_n 1, 1) := by decide +kernel
theorem dX8_within_2 : decode cX8_within 2 = .ok (.if_icmp .lt 12, 3) := by decide +kernel
theorem dX8_within_5 : decode cX8_within 5 = .ok (.iload_n 0, 1) := by decide +kernel
theorem dX8_within_6 : decode cX8_within 6 = .ok (.iload_n 2, 1) := by decide +kernel
theorem dX8_within_7 : decode cX8_within 7 = .ok (.if_icmp .gt 7, 3) := by decide +kernel
theorem dX8_within_10 : decode cX8_within 10 = .ok (.iconst 1, 1) := by decide +kernel
theorem dX8_within_11 : decode cX8_within 11 = .ok (.goto 4, 3) := by decide +kernel
theorem dX8_within_14 : decode cX8_within 14 = .ok (.iconst 0, 1) := by decide +kernel
theorem dX8_within_15 : decode cX8_within 15 = .ok (.ireturn, 1) := by decide +kernel
theorem dX8_placeOf_0 : decode cX8_placeOf 0 = .ok (.iload_n 0, 1) := by decide +kernel
theorem dX8_placeOf_1 : decode cX8_placeOf 1 = .ok (.iconst 3, 1) := by decide +kernel
theorem dX8_placeOf_2 : decode cX8_placeOf 2 = .ok (.imul, 1) := by decide +kernel
theorem dX8_placeOf_3 : decode cX8_placeOf 3 = .ok (.iload_n 1, 1) := by decide +kernel
theorem dX8_placeOf_4 : decode cX8_placeOf 4 = .ok (.iadd, 1) := by decide +kernel
theorem dX8_placeOf_5 : decode cX8_placeOf 5 = .ok (.ireturn, 1) := by decide +kernel
theorem dX8_isField_0 : decode cX8_isField 0 = .ok (.iload_n 0, 1) := by decide +kernel
theorem dX8_isField_1 : decode cX8_isField 1 = .ok (.iconst 0, 1) := by decide +kernel
theorem dX8_isField_2 : decode cX8_isField 2 = .ok (.bipush 6, 2) := by decide +kernel
theorem dX8_isField_4 : decode cX8_isField 4 = .ok (.invokestatic 55, 3) := by decide +kernel
theorem dX8_isField_7 : decode cX8_isField 7 = .ok (.ireturn, 1) := by decide +kernel
theorem dX8_isFrontField_0 : decode cX8_isFrontField 0 = .ok (.iload_n 0, 1) := by decide +kernel
theorem dX8_isFrontField_1 : decode cX8_isFrontField 1 = .ok (.iconst 0, 1) := by decide +kernel
theorem dX8_isFrontField_2 : decode cX8_isFrontField 2 = .ok (.iconst 5, 1) := by decide +kernel
theorem dX8_isFrontField_3 : decode cX8_isFrontField 3 = .ok (.invokestatic 55, 3) := by decide +kernel
theorem dX8_isFrontField_6 : decode cX8_isFrontField 6 = .ok (.ireturn, 1) := by decide +kernel
theorem dX8_isColor_0 : decode cX8_isColor 0 = .ok (.iload_n 1, 1) := by decide +kernel
theorem dX8_isColor_1 : decode cX8_isColor 1 = .ok (.iconst 0, 1) := by decide +kernel
theorem dX8_isColor_2 : decode cX8_isColor 2 = .ok (.aload_n 0, 1) := by decide +kernel
theorem dX8_isColor_3 : decode cX8_isColor 3 = .ok (.getfield 10, 3) := by decide +kernel
theorem dX8_isColor_6 : decode cX8_isColor 6 = .ok (.getfield 59, 3) := by decide +kernel
theorem dX8_isColor_9 : decode cX8_isColor 9 = .ok (.getfield 63, 3) := by decide +kernel
theorem dX8_isColor_12 : decode cX8_isColor 12 = .ok (.iconst 1, 1) := by decide +kernel
theorem dX8_isColor_13 : decode cX8_isColor 13 = .ok (.isub, 1) := by decide +kernel
theorem dX8_isColor_14 : decode cX8_isColor 14 = .ok (.invokestatic 55, 3) := by decide +kernel
theorem dX8_isColor_17 : decode cX8_isColor 17 = .ok (.ireturn, 1) := by decide +kernel
theorem dX8_tryHeat_0 : decode cX8_tryHeat 0 = .ok (.aload_n 0, 1) := by decide +kernel
theorem dX8_tryHeat_1 : decode cX8_tryHeat 1 = .ok (.getfield 33, 3) := by decide +kernel
theorem dX8_tryHeat_4 : decode cX8_tryHeat 4 = .ok (.aload_n 0, 1) := by decide +kernel
theorem dX8_tryHeat_5 : decode cX8_tryHeat 5 = .ok (.getfield 10, 3) := by decide +kernel
theorem dX8_tryHeat_8 : decode cX8_tryHeat 8 = .ok (.getfield 95, 3) := by decide +kernel
theorem dX8_tryHeat_11 : decode cX8_tryHeat 11 = .ok (.invokevirtual 253, 3) := by decide +kernel
theorem dX8_tryHeat_14 : decode cX8_tryHeat 14 = .ok (.aload_n 0, 1) := by decide +kernel
theorem dX8_tryHeat_15 : decode cX8_tryHeat 15 = .ok (.getfield 26, 3) := by decide +kernel
theorem dX8_tryHeat_18 : decode cX8_tryHeat 18 = .ok (.aload_n 0, 1) := by decide +kernel
theorem dX8_tryHeat_19 : decode cX8_tryHeat 19 = .ok (.getfield 10, 3) := by decide +kernel
theorem dX8_tryHeat_22 : decode cX8_tryHeat 22 = .ok (.aload_n 0, 1) := by decide +kernel
theorem dX8_tryHeat_23 : decode cX8_tryHeat 23 = .ok (.getfield 33, 3) := by decide +kernel
theorem dX8_tryHeat_26 : decode cX8_tryHeat 26 = .ok (.iload_n 1, 1) := by decide +kernel
theorem dX8_tryHeat_27 : decode cX8_tryHeat 27 = .ok (.aload_n 0, 1) := by decide +kernel
theorem dX8_tryHeat_28 : decode cX8_tryHeat 28 = .ok (.getfield 10, 3) := by decide +kernel
theorem dX8_tryHeat_31 : decode cX8_tryHeat 31 = .ok (.getfield 168, 3) := by decide +kernel
theorem dX8_tryHeat_34 : decode cX8_tryHeat 34 = .ok (.iconst 0, 1) := by decide +kernel
theorem dX8_tryHeat_35 : decode cX8_tryHeat 35 = .ok (.iaload, 1) := by decide +kernel
theorem dX8_tryHeat_36 : decode cX8_tryHeat 36 = .ok (.invokevirtual 184, 3) := by decide +kernel
theorem dX8_tryHeat_39 : decode cX8_tryHeat 39 = .ok (.return_, 1) := by decide +kernel
theorem dX8_bringPlanUpToDate_0 : decode cX8_bringPlanUpToDate 0 = .ok (.aload_n 0, 1) := by decide +kernel
theorem dX8_bringPlanUpToDate_1 : decode cX8_bringPlanUpToDate 1 = .ok (.getfield 51, 3) := by decide +kernel
theorem dX8_bringPlanUpToDate_4 : decode cX8_bringPlanUpToDate 4 = .ok (.ifCond .eq 29, 3) := by decide +kernel
theorem dX8_bringPlanUpToDate_7 : decode cX8_bringPlanUpToDate 7 = .ok (.aload_n 0, 1) := by decide +kernel
theorem dX8_bringPlanUpToDate_8 : decode cX8_bringPlanUpToDate 8 = .ok (.getfield 40, 3) := by decide +kernel
theorem dX8_bringPlanUpToDate_11 : decode cX8_bringPlanUpToDate 11 = .ok (.aload_n 0, 1) := by decide +kernel
theorem dX8_bringPlanUpToDate_12 : decode cX8_bringPlanUpToDate 12 = .ok (.getfield 10, 3) := by decide +kernel
theorem dX8_bringPlanUpToDate_15 : decode cX8_bringPlanUpToDate 15 = .ok (.getfield 101, 3) := by decide +kernel
theorem dX8_bringPlanUpToDate_18 : decode cX8_bringPlanUpToDate 18 = .ok (.aload_n 0, 1) := by decide +kernel
theorem dX8_bringPlanUpToDate_19 : decode cX8_bringPlanUpToDate 19 = .ok (.getfield 10, 3) := by decide +kernel
theorem dX8_bringPlanUpToDate_22 : decode cX8_bringPlanUpToDate 22 = .ok (.getfield 59, 3) := by decide +kernel
theorem dX8_bringPlanUpToDate_25 : decode cX8_bringPlanUpToDate 25 = .ok (.invokevirtual 257, 3) := by decide +kernel
theorem dX8_bringPlanUpToDate_28 : decode cX8_bringPlanUpToDate 28 = .ok (.aload_n 0, 1) := by decide +kernel
theorem dX8_bringPlanUpToDate_29 : decode cX8_bringPlanUpToDate 29 = .ok (.iconst 0, 1) := by decide +kernel
theorem dX8_bringPlanUpToDate_30 : decode cX8_bringPlanUpToDate 30 = .ok (.putfield 51, 3) := by decide +kernel
theorem dX8_bringPlanUpToDate_33 : decode cX8_bringPlanUpToDate 33 = .ok (.return_, 1) := by decide +kernel
theorem dX8_copyRow_0 : decode cX8_copyRow 0 = .ok (.aload_n 0, 1) := by decide +kernel
theorem dX8_copyRow_1 : decode cX8_copyRow 1 = .ok (.iconst 0, 1) := by decide +kernel
theorem dX8_copyRow_2 : decode cX8_copyRow 2 = .ok (.aload_n 1, 1) := by decide +kernel
theorem dX8_copyRow_3 : decode cX8_copyRow 3 = .ok (.iconst 0, 1) := by decide +kernel
theorem dX8_copyRow_4 : decode cX8_copyRow 4 = .ok (.aload_n 0, 1) := by decide +kernel
theorem dX8_copyRow_5 : decode cX8_copyRow 5 = .ok (.arraylength, 1) := by decide +kernel
theorem dX8_copyRow_6 : decode cX8_copyRow 6 = .ok (.aload_n 1, 1) := by decide +kernel
theorem dX8_copyRow_7 : decode cX8_copyRow 7 = .ok (.arraylength, 1) := by decide +kernel
theorem dX8_copyRow_8 : decode cX8_copyRow 8 = .ok (.invokestatic 261, 3) := by decide +kernel
theorem dX8_copyRow_11 : decode cX8_copyRow 11 = .ok (.invokestatic 266, 3) := by decide +kernel
theorem dX8_copyRow_14 : decode cX8_copyRow 14 = .ok (.return_, 1) := by decide +kernel
theorem dX9_init_0 : decode cX9_init 0 = .ok (.aload_n 0, 1) := by decide +kernel
theorem dX9_init_1 : decode cX9_init 1 = .ok (.invokespecial 1, 3) := by decide +kernel
theorem dX9_init_4 : decode cX9_init 4 = .ok (.aload_n 0, 1) := by decide +kernel
theorem dX9_init_5 : decode cX9_init 5 = .ok (.sipush 150, 3) := by decide +kernel
theorem dX9_init_8 : decode cX9_init 8 = .ok (.newarray .int, 2) := by decide +kernel
theorem dX9_init_10 : decode cX9_init 10 = .ok (.putfield 7, 3) := by decide +kernel
theorem dX9_init_13 : decode cX9_init 13 = .ok (.aload_n 0, 1) := by decide +kernel
theorem dX9_init_14 : decode cX9_init 14 = .ok (.sipush 600, 3) := by decide +kernel
theorem dX9_init_17 : decode cX9_init 17 = .ok (.newarray .int, 2) := by decide +kernel
theorem dX9_init_19 : decode cX9_init 19 = .ok (.putfield 13, 3) := by decide +kernel
theorem dX9_init_22 : decode cX9_init 22 = .ok (.aload_n 0, 1) := by decide +kernel
theorem dX9_init_23 : decode cX9_init 23 = .ok (.sipush 150, 3) := by decide +kernel
theorem dX9_init_26 : decode cX9_init 26 = .ok (.newarray .int, 2) := by decide +kernel
theorem dX9_init_28 : decode cX9_init 28 = .ok (.putfield 16, 3) := by decide +kernel
theorem dX9_init_31 : decode cX9_init 31 = .ok (.aload_n 0, 1) := by decide +kernel
theorem dX9_init_32 : decode cX9_init 32 = .ok (.bipush 80, 2) := by decide +kernel
theorem dX9_init_34 : decode cX9_init 34 = .ok (.newarray .int, 2) := by decide +kernel
theorem dX9_init_36 : decode cX9_init 36 = .ok (.putfield 19, 3) := by decide +kernel
theorem dX9_init_39 : decode cX9_init 39 = .ok (.aload_n 0, 1) := by decide +kernel
theorem dX9_init_40 : decode cX9_init 40 = .ok (.iconst 5, 1) := by decide +kernel
theorem dX9_init_41 : decode cX9_init 41 = .ok (.newarray .int, 2) := by decide +kernel
theorem dX9_init_43 : decode cX9_init 43 = .ok (.putfield 22, 3) := by decide +kernel
theorem dX9_init_46 : decode cX9_init 46 = .ok (.aload_n 0, 1) := by decide +kernel
theorem dX9_init_47 : decode cX9_init 47 = .ok (.sipush 4096, 3) := by decide +kernel
theorem dX9_init_50 : decode cX9_init 50 = .ok (.newarray .int, 2) := by decide +kernel
theorem dX9_init_52 : decode cX9_init 52 = .ok (.putfield 25, 3) := by decide +kernel
theorem dX9_init_55 : decode cX9_init 55 = .ok (.aload_n 0, 1) := by decide +kernel
theorem dX9_init_56 : decode cX9_init 56 = .ok (.getfield 7, 3) := by decide +kernel
theorem dX9_init_59 : decode cX9_init 59 = .ok (.bipush 114, 2) := by decide +kernel
theorem dX9_init_61 : decode cX9_init 61 = .ok (.iconst 3, 1) := by decide +kernel
theorem dX9_init_62 : decode cX9_init 62 = .ok (.iastore, 1) := by decide +kernel
theorem dX9_init_63 : decode cX9_init 63 = .ok (.aload_n 0, 1) := by decide +kernel
theorem dX9_init_64 : decode cX9_init 64 = .ok (.getfield 7, 3) := by decide +kernel
theorem dX9_init_67 : decode cX9_init 67 = .ok (.bipush 115, 2) := by decide +kernel
theorem dX9_init_69 : decode cX9_init 69 = .ok (.iconst 2, 1) := by decide +kernel
theorem dX9_init_70 : decode cX9_init 70 = .ok (.iastore, 1) := by decide +kernel
theorem dX9_init_71 : decode cX9_init 71 = .ok (.aload_n 0, 1) := by decide +kernel
theorem dX9_init_72 : decode cX9_init 72 = .ok (.getfield 7, 3) := by decide +kernel
theorem dX9_init_75 : decode cX9_init 75 = .ok (.bipush 116, 2) := by decide +kernel
theorem dX9_init_77 : decode cX9_init 77 = .ok (.bipush 120, 2) := by decide +kernel
theorem dX9_init_79 : decode cX9_init 79 = .ok (.iastore, 1) := by decide +kernel
theorem dX9_init_80 : decode cX9_init 80 = .ok (.return_, 1) := by decide +kernel
theorem dX9_in_0 : decode cX9_in 0 = .ok (.iload_n 0, 1) := by decide +kernel
theorem dX9_in_1 : decode cX9_in 1 = .ok (.iload_n 1, 1) := by decide +kernel
theorem dX9_in_2 : decode cX9_in 2 = .ok (.if_icmp .lt 12, 3) := by decide +kernel
theorem dX9_in_5 : decode cX9_in 5 = .ok (.iload_n 0, 1) := by decide +kernel
theorem dX9_in_6 : decode cX9_in 6 = .ok (.iload_n 2, 1) := by decide +kernel
theorem dX9_in_7 : decode cX9_in 7 = .ok (.if_icmp .gt 7, 3) := by decide +kernel
theorem dX9_in_10 : decode cX9_in 10 = .ok (.iconst 1, 1) := by decide +kernel
theorem dX9_in_11 : decode cX9_in 11 = .ok (.goto 4, 3) := by decide +kernel
theorem dX9_in_14 : decode cX9_in 14 = .ok (.iconst 0, 1) := by decide +kernel
theorem dX9_in_15 : decode cX9_in 15 = .ok (.ireturn, 1) := by decide +kernel
theorem dX9_records_0 : decode cX9_records 0 = .ok (.aload_n 0, 1) := by decide +kernel
theorem dX9_records_1 : decode cX9_records 1 = .ok (.getfield 28, 3) := by decide +kernel
theorem dX9_records_4 : decode cX9_records 4 = .ok (.iconst 4, 1) := by decide +kernel
theorem dX9_records_5 : decode cX9_records 5 = .ok (.if_icmp .ne 44, 3) := by decide +kernel
theorem dX9_records_8 : decode cX9_records 8 = .ok (.iconst 0, 1) := by decide +kernel
theorem dX9_records_9 : decode cX9_records 9 = .ok (.istore_n 1, 1) := by decide +kernel
theorem dX9_records_10 : decode cX9_records 10 = .ok (.iload_n 1, 1) := by decide +kernel
theorem dX9_records_11 : decode cX9_records 11 = .ok (.sipush 450, 3) := by decide +kernel
theorem dX9_records_14 : decode cX9_records 14 = .ok (.if_icmp .ge 25, 3) := by decide +kernel
theorem dX9_records_17 : decode cX9_records 17 = .ok (.aload_n 0, 1) := by decide +kernel
theorem dX9_records_18 : decode cX9_records 18 = .ok (.getfield 13, 3) := by decide +kernel
theorem dX9_records_21 : decode cX9_records 21 = .ok (.iload_n 1, 1) := by decide +kernel
theorem dX9_records_22 : decode cX9_records 22 = .ok (.aload_n 0, 1) := by decide +kernel
theorem dX9_records_23 : decode cX9_records 23 = .ok (.getfield 13, 3) := by decide +kernel
theorem dX9_records_26 : decode cX9_records 26 = .ok (.iload_n 1, 1) := by decide +kernel
theorem dX9_records_27 : decode cX9_records 27 = .ok (.sipush 150, 3) := by decide +kernel
theorem dX9_records_30 : decode cX9_records 30 = .ok (.iadd, 1) := by decide +kernel
theorem dX9_records_31 : decode cX9_records 31 = .ok (.iaload, 1) := by decide +kernel
theorem dX9_records_32 : decode cX9_records 32 = .ok (.iastore, 1) := by decide +kernel
theorem dX9_records_33 : decode cX9_records 33 = .ok (.iinc 1 1, 3) := by decide +kernel
theorem dX9_records_36 : decode cX9_records 36 = .ok (.goto (-26), 3) := by decide +kernel
theorem dX9_records_39 : decode cX9_records 39 = .ok (.aload_n 0, 1) := by decide +kernel
theorem dX9_records_40 : decode cX9_records 40 = .ok (.dup, 1) := by decide +kernel
theorem dX9_records_41 : decode cX9_records 41 = .ok (.getfield 28, 3) := by decide +kernel
theorem dX9_records_44 : decode cX9_records 44 = .ok (.iconst 1, 1) := by decide +kernel
theorem dX9_records_45 : decode cX9_records 45 = .ok (.isub, 1) := by decide +kernel
theorem dX9_records_46 : decode cX9_records 46 = .ok (.putfield 28, 3) := by decide +kernel
theorem dX9_records_49 : decode cX9_records 49 = .ok (.iconst 0, 1) := by decide +kernel
theorem dX9_records_50 : decode cX9_records 50 = .ok (.istore_n 1, 1) := by decide +kernel
theorem dX9_records_51 : decode cX9_records 51 = .ok (.iload_n 1, 1) := by decide +kernel
theorem dX9_records_52 : decode cX9_records 52 = .ok (.sipush 150, 3) := by decide +kernel
theorem dX9_records_55 : decode cX9_records 55 = .ok (.if_icmp .ge 30, 3) := by decide +kernel
theorem dX9_records_58 : decode cX9_records 58 = .ok (.aload_n 0, 1) := by decide +kernel
theorem dX9_records_59 : decode cX9_records 59 = .ok (.getfield 13, 3) := by decide +kernel
theorem dX9_records_62 : decode cX9_records 62 = .ok (.sipush 150, 3) := by decide +kernel
theorem dX9_records_65 : decode cX9_records 65 = .ok (.aload_n 0, 1) := by decide +kernel
theorem dX9_records_66 : decode cX9_records 66 = .ok (.getfield 28, 3) := by decide +kernel
theorem dX9_records_69 : decode cX9_records 69 = .ok (.imul, 1) := by decide +kernel
theorem dX9_records_70 : decode cX9_records 70 = .ok (.iload_n 1, 1) := by decide +kernel
theorem dX9_records_71 : decode cX9_records 71 = .ok (.iadd, 1) := by decide +kernel
theorem dX9_records_72 : decode cX9_records 72 = .ok (.aload_n 0, 1) := by decide +kernel
theorem dX9_records_73 : decode cX9_records 73 = .ok (.getfield 7, 3) := by decide +kernel
theorem dX9_records_76 : decode cX9_records 76 = .ok (.iload_n 1, 1) := by decide +kernel
theorem dX9_records_77 : decode cX9_records 77 = .ok (.iaload, 1) := by decide +kernel
theorem dX9_records_78 : decode cX9_records 78 = .ok (.iastore, 1) := by decide +kernel
theorem dX9_records_79 : decode cX9_records 79 = .ok (.iinc 1 1, 3) := by decide +kernel
theorem dX9_records_82 : decode cX9_records 82 = .ok (.goto (-31), 3) := by decide +kernel
theorem dX9_records_85 : decode cX9_records 85 = .ok (.aload_n 0, 1) := by decide +kernel
theorem dX9_records_86 : decode cX9_records 86 = .ok (.dup, 1) := by decide +kernel
theorem dX9_records_87 : decode cX9_records 87 = .ok (.getfield 28, 3) := by decide +kernel
theorem dX9_records_90 : decode cX9_records 90 = .ok (.iconst 1, 1) := by decide +kernel
theorem dX9_records_91 : decode cX9_records 91 = .ok (.iadd, 1) := by decide +kernel
theorem dX9_records_92 : decode cX9_records 92 = .ok (.putfield 28, 3) := by decide +kernel
theorem dX9_records_95 : decode cX9_records 95 = .ok (.return_, 1) := by decide +kernel
theorem dX9_undo_0 : decode cX9_undo 0 = .ok (.aload_n 0, 1) := by decide +kernel
theorem dX9_undo_1 : decode cX9_undo 1 = .ok (.getfield 28, 3) := by decide +kernel
theorem dX9_undo_4 : decode cX9_undo 4 = .ok (.ifCond .ne 6, 3) := by decide +kernel
theorem dX9_undo_7 : decode cX9_undo 7 = .ok (.bipush (-2), 2) := by decide +kernel
theorem dX9_undo_9 : decode cX9_undo 9 = .ok (.ireturn, 1) := by decide +kernel
theorem dX9_undo_10 : decode cX9_undo 10 = .ok (.aload_n 0, 1) := by decide +kernel
theorem dX9_undo_11 : decode cX9_undo 11 = .ok (.dup, 1) := by decide +kernel
theorem dX9_undo_12 : decode cX9_undo 12 = .ok (.getfield 28, 3) := by decide +kernel
theorem dX9_undo_15 : decode cX9_undo 15 = .ok (.iconst 1, 1) := by decide +kernel
theorem dX9_undo_16 : decode cX9_undo 16 = .ok (.isub, 1) := by decide +kernel
theorem dX9_undo_17 : decode cX9_undo 17 = .ok (.putfield 28, 3) := by decide +kernel
theorem dX9_undo_20 : decode cX9_undo 20 = .ok (.iconst 0, 1) := by decide +kernel
theorem dX9_undo_21 : decode cX9_undo 21 = .ok (.istore_n 1, 1) := by decide +kernel
theorem dX9_undo_22 : decode cX9_undo 22 = .ok (.iload_n 1, 1) := by decide +kernel
theorem dX9_undo_23 : decode cX9_undo 23 = .ok (.sipush 150, 3) := by decide +kernel
theorem dX9_undo_26 : decode cX9_undo 26 = .ok (.if_icmp .ge 30, 3) := by decide +kernel
theorem dX9_undo_29 : decode cX9_undo 29 = .ok (.aload_n 0, 1) := by decide +kernel
theorem dX9_undo_30 : decode cX9_undo 30 = .ok (.getfield 7, 3) := by decide +kernel
theorem dX9_undo_33 : decode cX9_undo 33 = .ok (.iload_n 1, 1) := by decide +kernel
theorem dX9_undo_34 : decode cX9_undo 34 = .ok (.aload_n 0, 1) := by decide +kernel
theorem dX9_undo_35 : decode cX9_undo 35 = .ok (.getfield 13, 3) := by decide +kernel
theorem dX9_undo_38 : decode cX9_undo 38 = .ok (.sipush 150, 3) := by decide +kernel
theorem dX9_undo_41 : decode cX9_undo 41 = .ok (.aload_n 0, 1) := by decide +kernel
theorem dX9_undo_42 : decode cX9_undo 42 = .ok (.getfield 28, 3) := by decide +kernel
theorem dX9_undo_45 : decode cX9_undo 45 = .ok (.imul, 1) := by decide +kernel
theorem dX9_undo_46 : decode cX9_undo 46 = .ok (.iload_n 1, 1) := by decide +kernel
theorem dX9_undo_47 : decode cX9_undo 47 = .ok (.iadd, 1) := by decide +kernel
theorem dX9_undo_48 : decode cX9_undo 48 = .ok (.iaload, 1) := by decide +kernel
theorem dX9_undo_49 : decode cX9_undo 49 = .ok (.iastore, 1) := by decide +kernel
theorem dX9_undo_50 : decode cX9_undo 50 = .ok (.iinc 1 1, 3) := by decide +kernel
theorem dX9_undo_53 : decode cX9_undo 53 = .ok (.goto (-31), 3) := by decide +kernel
theorem dX9_undo_56 : decode cX9_undo 56 = .ok (.aload_n 0, 1) := by decide +kernel
theorem dX9_undo_57 : decode cX9_undo 57 = .ok (.getfield 28, 3) := by decide +kernel
theorem dX9_undo_60 : decode cX9_undo 60 = .ok (.ireturn, 1) := by decide +kernel
theorem dX9_color_0 : decode cX9_color 0 = .ok (.iload_n 1, 1) := by decide +kernel
theorem dX9_color_1 : decode cX9_color 1 = .ok (.sipush 600, 3) := by decide +kernel
theorem dX9_color_4 : decode cX9_color 4 = .ok (.sipush 900, 3) := by decide +kernel
theorem dX9_color_7 : decode cX9_color 7 = .ok (.invokestatic 32, 3) := by decide +kernel
theorem dX9_color_10 : decode cX9_color 10 = .ok (.ifCond .eq 31, 3) := by decide +kernel
theorem dX9_color_13 : decode cX9_color 13 = .ok (.iload_n 2, 1) := by decide +kernel
theorem dX9_color_14 : decode cX9_color 14 = .ok (.iload_n 1, 1) := by decide +kernel
theorem dX9_color_15 : decode cX9_color 15 = .ok (.bipush 10, 2) := by decide +kernel
theorem dX9_color_17 : decode cX9_color 17 = .ok (.iadd, 1) := by decide +kernel
theorem dX9_color_18 : decode cX9_color 18 = .ok (.iload_n 1, 1) := by decide +kernel
theorem dX9_color_19 : decode cX9_color 19 = .ok (.sipush 200, 3) := by decide +kernel
theorem dX9_color_22 : decode cX9_color 22 = .ok (.iadd, 1) := by decide +kernel
theorem dX9_color_23 : decode cX9_color 23 = .ok (.invokestatic 32, 3) := by decide +kernel
theorem dX9_color_26 : decode cX9_color 26 = .ok (.ifCond .eq 15, 3) := by decide +kernel
theorem dX9_color_29 : decode cX9_color 29 = .ok (.iload_n 3, 1) := by decide +kernel
theorem dX9_color_30 : decode cX9_color 30 = .ok (.bipush 60, 2) := by decide +kernel
theorem dX9_color_32 : decode cX9_color 32 = .ok (.sipush 160, 3) := by decide +kernel
theorem dX9_color_35 : decode cX9_color 35 = .ok (.invokestatic 32, 3) := by decide +kernel
theorem dX9_color_38 : decode cX9_color 38 = .ok (.ifCond .ne 5, 3) := by decide +kernel
theorem dX9_color_41 : decode cX9_color 41 = .ok (.iconst (-1), 1) := by decide +kernel
theorem dX9_color_42 : decode cX9_color 42 = .ok (.ireturn, 1) := by decide +kernel
theorem dX9_color_43 : decode cX9_color 43 = .ok (.aload_n 0, 1) := by decide +kernel
theorem dX9_color_44 : decode cX9_color 44 = .ok (.getfield 7, 3) := by decide +kernel
theorem dX9_color_47 : decode cX9_color 47 = .ok (.iconst 0, 1) := by decide +kernel
theorem dX9_color_48 : decode cX9_color 48 = .ok (.iaload, 1) := by decide +kernel
theorem dX9_color_49 : decode cX9_color 49 = .ok (.bipush 12, 2) := by decide +kernel
theorem dX9_color_51 : decode cX9_color 51 = .ok (.if_icmp .ne 6, 3) := by decide +kernel
theorem dX9_color_54 : decode cX9_color 54 = .ok (.bipush (-3), 2) := by decide +kernel
theorem dX9_color_56 : decode cX9_color 56 = .ok (.ireturn, 1) := by decide +kernel
theorem dX9_color_57 : decode cX9_color 57 = .ok (.aload_n 0, 1) := by decide +kernel
theorem dX9_color_58 : decode cX9_color 58 = .ok (.invokevirtual 36, 3) := by decide +kernel
theorem dX9_color_61 : decode cX9_color 61 = .ok (.iconst 1, 1) := by decide +kernel
theorem dX9_color_62 : decode cX9_color 62 = .ok (.iconst 3, 1) := by decide +kernel
theorem dX9_color_63 : decode cX9_color 63 = .ok (.aload_n 0, 1) := by decide +kernel
theorem dX9_color_64 : decode cX9_color 64 = .ok (.getfield 7, 3) := by decide +kernel
theorem dX9_color_67 : decode cX9_color 67 = .ok (.iconst 0, 1) := by decide +kernel
theorem dX9_color_68 : decode cX9_color 68 = .ok (.iaload, 1) := by decide +kernel
theorem dX9_color_69 : decode cX9_color 69 = .ok (.imul, 1) := by decide +kernel
theorem dX9_color_70 : decode cX9_color 70 = .ok (.iadd, 1) := by decide +kernel
theorem dX9_color_71 : decode cX9_color 71 = .ok (.istore 4, 2) := by decide +kernel
theorem dX9_color_73 : decode cX9_color 73 = .ok (.aload_n 0, 1) := by decide +kernel
theorem dX9_color_74 : decode cX9_color 74 = .ok (.getfield 7, 3) := by decide +kernel
theorem dX9_color_77 : decode cX9_color 77 = .ok (.iload 4, 2) := by decide +kernel
theorem dX9_color_79 : decode cX9_color 79 = .ok (.iload_n 1, 1) := by decide +kernel
theorem dX9_color_80 : decode cX9_color 80 = .ok (.iastore, 1) := by decide +kernel
theorem dX9_color_81 : decode cX9_color 81 = .ok (.aload_n 0, 1) := by decide +kernel
theorem dX9_color_82 : decode cX9_color 82 = .ok (.getfield 7, 3) := by decide +kernel
theorem dX9_color_85 : decode cX9_color 85 = .ok (.iload 4, 2) := by decide +kernel
theorem dX9_color_87 : decode cX9_color 87 = .ok (.iconst 1, 1) := by decide +kernel
theorem dX9_color_88 : decode cX9_color 88 = .ok (.iadd, 1) := by decide +kernel
theorem dX9_color_89 : decode cX9_color 89 = .ok (.iload_n 2, 1) := by decide +kernel
theorem dX9_color_90 : decode cX9_color 90 = .ok (.iastore, 1) := by decide +kernel
theorem dX9_color_91 : decode cX9_color 91 = .ok (.aload_n 0, 1) := by decide +kernel
theorem dX9_color_92 : decode cX9_color 92 = .ok (.getfield 7, 3) := by decide +kernel
theorem dX9_color_95 : decode cX9_color 95 = .ok (.iload 4, 2) := by decide +kernel
theorem dX9_color_97 : decode cX9_color 97 = .ok (.iconst 2, 1) := by decide +kernel
theorem dX9_color_98 : decode cX9_color 98 = .ok (.iadd, 1) := by decide +kernel
theorem dX9_color_99 : decode cX9_color 99 = .ok (.iload_n 3, 1) := by decide +kernel
theorem dX9_color_100 : decode cX9_color 100 = .ok (.iastore, 1) := by decide +kernel
theorem dX9_color_101 : decode cX9_color 101 = .ok (.aload_n 0, 1) := by decide +kernel
theorem dX9_color_102 : decode cX9_color 102 = .ok (.getfield 7, 3) := by decide +kernel
theorem dX9_color_105 : decode cX9_color 105 = .ok (.iconst 0, 1) := by decide +kernel
theorem dX9_color_106 : decode cX9_color 106 = .ok (.dup2, 1) := by decide +kernel
theorem dX9_color_107 : decode cX9_color 107 = .ok (.iaload, 1) := by decide +kernel
theorem dX9_color_108 : decode cX9_color 108 = .ok (.iconst 1, 1) := by decide +kernel
theorem dX9_color_109 : decode cX9_color 109 = .ok (.iadd, 1) := by decide +kernel
theorem dX9_color_110 : decode cX9_color 110 = .ok (.iastore, 1) := by decide +kernel
theorem dX9_color_111 : decode cX9_color 111 = .ok (.aload_n 0, 1) := by decide +kernel
theorem dX9_color_112 : decode cX9_color 112 = .ok (.getfield 7, 3) := by decide +kernel
theorem dX9_color_115 : decode cX9_color 115 = .ok (.iconst 0, 1) := by decide +kernel
theorem dX9_color_116 : decode cX9_color 116 = .ok (.iaload, 1) := by decide +kernel
theorem dX9_color_117 : decode cX9_color 117 = .ok (.iconst 1, 1) := by decide +kernel
theorem dX9_color_118 : decode cX9_color 118 = .ok (.isub, 1) := by decide +kernel
theorem dX9_color_119 : decode cX9_color 119 = .ok (.ireturn, 1) := by decide +kernel
theorem dX9_isColor_0 : decode cX9_isColor 0 = .ok (.iload_n 1, 1) := by decide +kernel
theorem dX9_isColor_1 : decode cX9_isColor 1 = .ok (.iconst 0, 1) := by decide +kernel
theorem dX9_isColor_2 : decode cX9_isColor 2 = .ok (.aload_n 0, 1) := by decide +kernel
theorem dX9_isColor_3 : decode cX9_isColor 3 = .ok (.getfield 7, 3) := by decide +kernel
theorem dX9_isColor_6 : decode cX9_isColor 6 = .ok (.iconst 0, 1) := by decide +kernel
theorem dX9_isColor_7 : decode cX9_isColor 7 = .ok (.iaload, 1) := by decide +kernel
theorem dX9_isColor_8 : decode cX9_isColor 8 = .ok (.iconst 1, 1) := by decide +kernel
theorem dX9_isColor_9 : decode cX9_isColor 9 = .ok (.isub, 1) := by decide +kernel
theorem dX9_isColor_10 : decode cX9_isColor 10 = .ok (.invokestatic 32, 3) := by decide +kernel
theorem dX9_isColor_13 : decode cX9_isColor 13 = .ok (.ireturn, 1) := by decide +kernel
theorem dX9_melting_0 : decode cX9_melting 0 = .ok (.aload_n 0, 1) := by decide +kernel
theorem dX9_melting_1 : decode cX9_melting 1 = .ok (.getfield 7, 3) := by decide +kernel
theorem dX9_melting_4 : decode cX9_melting 4 = .ok (.iconst 1, 1) := by decide +kernel
theorem dX9_melting_5 : decode cX9_melting 5 = .ok (.iconst 3, 1) := by decide +kernel
theorem dX9_melting_6 : decode cX9_melting 6 = .ok (.iload_n 1, 1) := by decide +kernel
theorem dX9_melting_7 : decode cX9_melting 7 = .ok (.imul, 1) := by decide +kernel
theorem dX9_melting_8 : decode cX9_melting 8 = .ok (.iadd, 1) := by decide +kernel
theorem dX9_melting_9 : decode cX9_melting 9 = .ok (.iaload, 1) := by decide +kernel
theorem dX9_melting_10 : decode cX9_melting 10 = .ok (.ireturn, 1) := by decide +kernel
theorem dX9_burning_0 : decode cX9_burning 0 = .ok (.aload_n 0, 1) := by decide +kernel
theorem dX9_burning_1 : decode cX9_burning 1 = .ok (.getfield 7, 3) := by decide +kernel
theorem dX9_burning_4 : decode cX9_burning 4 = .ok (.iconst 1, 1) := by decide +kernel
theorem dX9_burning_5 : decode cX9_burning 5 = .ok (.iconst 3, 1) := by decide +kernel
theorem dX9_burning_6 : decode cX9_burning 6 = .ok (.iload_n 1, 1) := by decide +kernel
theorem dX9_burning_7 : decode cX9_burning 7 = .ok (.imul, 1) := by decide +kernel
theorem dX9_burning_8 : decode cX9_burning 8 = .ok (.iadd, 1) := by decide +kernel
theorem dX9_burning_9 : decode cX9_burning 9 = .ok (.iconst 1, 1) := by decide +kernel
theorem dX9_burning_10 : decode cX9_burning 10 = .ok (.iadd, 1) := by decide +kernel
theorem dX9_burning_11 : decode cX9_burning 11 = .ok (.iaload, 1) := by decide +kernel
theorem dX9_burning_12 : decode cX9_burning 12 = .ok (.ireturn, 1) := by decide +kernel
theorem dX9_pullOf_0 : decode cX9_pullOf 0 = .ok (.sipush 170, 3) := by decide +kernel
theorem dX9_pullOf_3 : decode cX9_pullOf 3 = .ok (.aload_n 0, 1) := by decide +kernel
theorem dX9_pullOf_4 : decode cX9_pullOf 4 = .ok (.getfield 7, 3) := by decide +kernel
theorem dX9_pullOf_7 : decode cX9_pullOf 7 = .ok (.iconst 1, 1) := by decide +kernel
theorem dX9_pullOf_8 : decode cX9_pullOf 8 = .ok (.iconst 3, 1) := by decide +kernel
theorem dX9_pullOf_9 : decode cX9_pullOf 9 = .ok (.iload_n 1, 1) := by decide +kernel
theorem dX9_pullOf_10 : decode cX9_pullOf 10 = .ok (.imul, 1) := by decide +kernel
theorem dX9_pullOf_11 : decode cX9_pullOf 11 = .ok (.iadd, 1) := by decide +kernel
theorem dX9_pullOf_12 : decode cX9_pullOf 12 = .ok (.iconst 2, 1) := by decide +kernel
theorem dX9_pullOf_13 : decode cX9_pullOf 13 = .ok (.iadd, 1) := by decide +kernel
theorem dX9_pullOf_14 : decode cX9_pullOf 14 = .ok (.iaload, 1) := by decide +kernel
theorem dX9_pullOf_15 : decode cX9_pullOf 15 = .ok (.isub, 1) := by decide +kernel
theorem dX9_pullOf_16 : decode cX9_pullOf 16 = .ok (.ireturn, 1) := by decide +kernel
theorem dX9_onPlate_0 : decode cX9_onPlate 0 = .ok (.iconst 0, 1) := by decide +kernel
theorem dX9_onPlate_1 : decode cX9_onPlate 1 = .ok (.istore_n 2, 1) := by decide +kernel
theorem dX9_onPlate_2 : decode cX9_onPlate 2 = .ok (.iconst 0, 1) := by decide +kernel
theorem dX9_onPlate_3 : decode cX9_onPlate 3 = .ok (.istore_n 3, 1) := by decide +kernel
theorem dX9_onPlate_4 : decode cX9_onPlate 4 = .ok (.iload_n 3, 1) := by decide +kernel
theorem dX9_onPlate_5 : decode cX9_onPlate 5 = .ok (.bipush 7, 2) := by decide +kernel
theorem dX9_onPlate_7 : decode cX9_onPlate 7 = .ok (.if_icmp .ge 48, 3) := by decide +kernel
theorem dX9_onPlate_10 : decode cX9_onPlate 10 = .ok (.iconst 0, 1) := by decide +kernel
theorem dX9_onPlate_11 : decode cX9_onPlate 11 = .ok (.istore 4, 2) := by decide +kernel
theorem dX9_onPlate_13 : decode cX9_onPlate 13 = .ok (.iload 4, 2) := by decide +kernel
theorem dX9_onPlate_15 : decode cX9_onPlate 15 = .ok (.aload_n 0, 1) := by decide +kernel
theorem dX9_onPlate_16 : decode cX9_onPlate 16 = .ok (.iload_n 3, 1) := by decide +kernel
theorem dX9_onPlate_17 : decode cX9_onPlate 17 = .ok (.invokevirtual 39, 3) := by decide +kernel
theorem dX9_onPlate_20 : decode cX9_onPlate 20 = .ok (.if_icmp .ge 29, 3) := by decide +kernel
theorem dX9_onPlate_23 : decode cX9_onPlate 23 = .ok (.iload_n 2, 1) := by decide +kernel
theorem dX9_onPlate_24 : decode cX9_onPlate 24 = .ok (.aload_n 0, 1) := by decide +kernel
theorem dX9_onPlate_25 : decode cX9_onPlate 25 = .ok (.iload_n 3, 1) := by decide +kernel
theorem dX9_onPlate_26 : decode cX9_onPlate 26 = .ok (.iload 4, 2) := by decide +kernel
theorem dX9_onPlate_28 : decode cX9_onPlate 28 = .ok (.iconst 0, 1) := by decide +kernel
theorem dX9_onPlate_29 : decode cX9_onPlate 29 = .ok (.invokevirtual 43, 3) := by decide +kernel
theorem dX9_onPlate_32 : decode cX9_onPlate 32 = .ok (.iload_n 1, 1) := by decide +kernel
theorem dX9_onPlate_33 : decode cX9_onPlate 33 = .ok (.if_icmp .ne 7, 3) := by decide +kernel
theorem dX9_onPlate_36 : decode cX9_onPlate 36 = .ok (.iconst 1, 1) := by decide +kernel
theorem dX9_onPlate_37 : decode cX9_onPlate 37 = .ok (.goto 4, 3) := by decide +kernel
theorem dX9_onPlate_40 : decode cX9_onPlate 40 = .ok (.iconst 0, 1) := by decide +kernel
theorem dX9_onPlate_41 : decode cX9_onPlate 41 = .ok (.iadd, 1) := by decide +kernel
theorem dX9_onPlate_42 : decode cX9_onPlate 42 = .ok (.istore_n 2, 1) := by decide +kernel
theorem dX9_onPlate_43 : decode cX9_onPlate 43 = .ok (.iinc 4 1, 3) := by decide +kernel
theorem dX9_onPlate_46 : decode cX9_onPlate 46 = .ok (.goto (-33), 3) := by decide +kernel
theorem dX9_onPlate_49 : decode cX9_onPlate 49 = .ok (.iinc 3 1, 3) := by decide +kernel
theorem dX9_onPlate_52 : decode cX9_onPlate 52 = .ok (.goto (-48), 3) := by decide +kernel
theorem dX9_onPlate_55 : decode cX9_onPlate 55 = .ok (.iload_n 2, 1) := by decide +kernel
theorem dX9_onPlate_56 : decode cX9_onPlate 56 = .ok (.ireturn, 1) := by decide +kernel
theorem dX9_inWishes_0 : decode cX9_inWishes 0 = .ok (.iconst 0, 1) := by decide +kernel
theorem dX9_inWishes_1 : decode cX9_inWishes 1 = .ok (.istore_n 2, 1) := by decide +kernel
theorem dX9_inWishes_2 : decode cX9_inWishes 2 = .ok (.iconst 0, 1) := by decide +kernel
theorem dX9_inWishes_3 : decode cX9_inWishes 3 = .ok (.istore_n 3, 1) := by decide +kernel
theorem dX9_inWishes_4 : decode cX9_inWishes 4 = .ok (.iload_n 3, 1) := by decide +kernel
theorem dX9_inWishes_5 : decode cX9_inWishes 5 = .ok (.bipush 6, 2) := by decide +kernel
theorem dX9_inWishes_7 : decode cX9_inWishes 7 = .ok (.if_icmp .ge 62, 3) := by decide +kernel
theorem dX9_inWishes_10 : decode cX9_inWishes 10 = .ok (.iconst 0, 1) := by decide +kernel
theorem dX9_inWishes_11 : decode cX9_inWishes 11 = .ok (.istore 4, 2) := by decide +kernel
theorem dX9_inWishes_13 : decode cX9_inWishes 13 = .ok (.iload 4, 2) := by decide +kernel
theorem dX9_inWishes_15 : decode cX9_inWishes 15 = .ok (.aload_n 0, 1) := by decide +kernel
theorem dX9_inWishes_16 : decode cX9_inWishes 16 = .ok (.getfield 7, 3) := by decide +kernel
theorem dX9_inWishes_19 : decode cX9_inWishes 19 = .ok (.bipush 126, 2) := by decide +kernel
theorem dX9_inWishes_21 : decode cX9_inWishes 21 = .ok (.iconst 4, 1) := by decide +kernel
theorem dX9_inWishes_22 : decode cX9_inWishes 22 = .ok (.iload_n 3, 1) := by decide +kernel
theorem dX9_inWishes_23 : decode cX9_inWishes 23 = .ok (.imul, 1) := by decide +kernel
theorem dX9_inWishes_24 : decode cX9_inWishes 24 = .ok (.iadd, 1) := by decide +kernel
theorem dX9_inWishes_25 : decode cX9_inWishes 25 = .ok (.iaload, 1) := by decide +kernel
theorem dX9_inWishes_26 : decode cX9_inWishes 26 = .ok (.if_icmp .ge 37, 3) := by decide +kernel
theorem dX9_inWishes_29 : decode cX9_inWishes 29 = .ok (.iload_n 2, 1) := by decide +kernel
theorem dX9_inWishes_30 : decode cX9_inWishes 30 = .ok (.aload_n 0, 1) := by decide +kernel
theorem dX9_inWishes_31 : decode cX9_inWishes 31 = .ok (.getfield 7, 3) := by decide +kernel
theorem dX9_inWishes_34 : decode cX9_inWishes 34 = .ok (.bipush 126, 2) := by decide +kernel
theorem dX9_inWishes_36 : decode cX9_inWishes 36 = .ok (.iconst 4, 1) := by decide +kernel
theorem dX9_inWishes_37 : decode cX9_inWishes 37 = .ok (.iload_n 3, 1) := by decide +kernel
theorem dX9_inWishes_38 : decode cX9_inWishes 38 = .ok (.imul, 1) := by decide +kernel
theorem dX9_inWishes_39 : decode cX9_inWishes 39 = .ok (.iadd, 1) := by decide +kernel
theorem dX9_inWishes_40 : decode cX9_inWishes 40 = .ok (.iconst 1, 1) := by decide +kernel
theorem dX9_inWishes_41 : decode cX9_inWishes 41 = .ok (.iadd, 1) := by decide +kernel
theorem dX9_inWishes_42 : decode cX9_inWishes 42 = .ok (.iload 4, 2) := by decide +kernel
theorem dX9_inWishes_44 : decode cX9_inWishes 44 = .ok (.iadd, 1) := by decide +kernel
theorem dX9_inWishes_45 : decode cX9_inWishes 45 = .ok (.iaload, 1) := by decide +kernel
theorem dX9_inWishes_46 : decode cX9_inWishes 46 = .ok (.iload_n 1, 1) := by decide +kernel
theorem dX9_inWishes_47 : decode cX9_inWishes 47 = .ok (.if_icmp .ne 7, 3) := by decide +kernel
theorem dX9_inWishes_50 : decode cX9_inWishes 50 = .ok (.iconst 1, 1) := by decide +kernel
theorem dX9_inWishes_51 : decode cX9_inWishes 51 = .ok (.goto 4, 3) := by decide +kernel
theorem dX9_inWishes_54 : decode cX9_inWishes 54 = .ok (.iconst 0, 1) := by decide +kernel
theorem dX9_inWishes_55 : decode cX9_inWishes 55 = .ok (.iadd, 1) := by decide +kernel
theorem dX9_inWishes_56 : decode cX9_inWishes 56 = .ok (.istore_n 2, 1) := by decide +kernel
theorem dX9_inWishes_57 : decode cX9_inWishes 57 = .ok (.iinc 4 1, 3) := by decide +kernel
theorem dX9_inWishes_60 : decode cX9_inWishes 60 = .ok (.goto (-47), 3) := by decide +kernel
theorem dX9_inWishes_63 : decode cX9_inWishes 63 = .ok (.iinc 3 1, 3) := by decide +kernel
theorem dX9_inWishes_66 : decode cX9_inWishes 66 = .ok (.goto (-62), 3) := by decide +kernel
theorem dX9_inWishes_69 : decode cX9_inWishes 69 = .ok (.iload_n 2, 1) := by decide +kernel
theorem dX9_inWishes_70 : decode cX9_inWishes 70 = .ok (.ireturn, 1) := by decide +kernel
theorem dX9_colorInfo_0 : decode cX9_colorInfo 0 = .ok (.aload_n 0, 1) := by decide +kernel
theorem dX9_colorInfo_1 : decode cX9_colorInfo 1 = .ok (.iload_n 1, 1) := by decide +kernel
theorem dX9_colorInfo_2 : decode cX9_colorInfo 2 = .ok (.invokevirtual 47, 3) := by decide +kernel
theorem dX9_colorInfo_5 : decode cX9_colorInfo 5 = .ok (.ifCond .eq 12, 3) := by decide +kernel
theorem dX9_colorInfo_8 : decode cX9_colorInfo 8 = .ok (.iload_n 2, 1) := by decide +kernel
theorem dX9_colorInfo_9 : decode cX9_colorInfo 9 = .ok (.iconst 0, 1) := by decide +kernel
theorem dX9_colorInfo_10 : decode cX9_colorInfo 10 = .ok (.iconst 5, 1) := by decide +kernel
theorem dX9_colorInfo_11 : decode cX9_colorInfo 11 = .ok (.invokestatic 32, 3) := by decide +kernel
theorem dX9_colorInfo_14 : decode cX9_colorInfo 14 = .ok (.ifCond .ne 5, 3) := by decide +kernel
theorem dX9_colorInfo_17 : decode cX9_colorInfo 17 = .ok (.iconst (-1), 1) := by decide +kernel
theorem dX9_colorInfo_18 : decode cX9_colorInfo 18 = .ok (.ireturn, 1) := by decide +kernel
theorem dX9_colorInfo_19 : decode cX9_colorInfo 19 = .ok (.iload_n 2, 1) := by decide +kernel
theorem dX9_colorInfo_20 : decode cX9_colorInfo 20 = .ok (.iconst 3, 1) := by decide +kernel
theorem dX9_colorInfo_21 : decode cX9_colorInfo 21 = .ok (.if_icmp .ge 18, 3) := by decide +kernel
theorem dX9_colorInfo_24 : decode cX9_colorInfo 24 = .ok (.aload_n 0, 1) := by decide +kernel
theorem dX9_colorInfo_25 : decode cX9_colorInfo 25 = .ok (.getfield 7, 3) := by decide +kernel
theorem dX9_colorInfo_28 : decode cX9_colorInfo 28 = .ok (.iconst 1, 1) := by decide +kernel
theorem dX9_colorInfo_29 : decode cX9_colorInfo 29 = .ok (.iconst 3, 1) := by decide +kernel
theorem dX9_colorInfo_30 : decode cX9_colorInfo 30 = .ok (.iload_n 1, 1) := by decide +kernel
theorem dX9_colorInfo_31 : decode cX9_colorInfo 31 = .ok (.imul, 1) := by decide +kernel
theorem dX9_colorInfo_32 : decode cX9_colorInfo 32 = .ok (.iadd, 1) := by decide +kernel
theorem dX9_colorInfo_33 : decode cX9_colorInfo 33 = .ok (.iload_n 2, 1) := by decide +kernel
theorem dX9_colorInfo_34 : decode cX9_colorInfo 34 = .ok (.iadd, 1) := by decide +kernel
theorem dX9_colorInfo_35 : decode cX9_colorInfo 35 = .ok (.iaload, 1) := by decide +kernel
theorem dX9_colorInfo_36 : decode cX9_colorInfo 36 = .ok (.goto 34, 3) := by decide +kernel
theorem dX9_colorInfo_39 : decode cX9_colorInfo 39 = .ok (.iload_n 2, 1) := by decide +kernel
theorem dX9_colorInfo_40 : decode cX9_colorInfo 40 = .ok (.iconst 3, 1) := by decide +kernel
theorem dX9_colorInfo_41 : decode cX9_colorInfo 41 = .ok (.if_icmp .ne 11, 3) := by decide +kernel
theorem dX9_colorInfo_44 : decode cX9_colorInfo 44 = .ok (.aload_n 0, 1) := by decide +kernel
theorem dX9_colorInfo_45 : decode cX9_colorInfo 45 = .ok (.iload_n 1, 1) := by decide +kernel
theorem dX9_colorInfo_46 : decode cX9_colorInfo 46 = .ok (.invokevirtual 51, 3) := by decide +kernel
theorem dX9_colorInfo_49 : decode cX9_colorInfo 49 = .ok (.goto 21, 3) := by decide +kernel
theorem dX9_colorInfo_52 : decode cX9_colorInfo 52 = .ok (.iload_n 2, 1) := by decide +kernel
theorem dX9_colorInfo_53 : decode cX9_colorInfo 53 = .ok (.iconst 4, 1) := by decide +kernel
theorem dX9_colorInfo_54 : decode cX9_colorInfo 54 = .ok (.if_icmp .ne 11, 3) := by decide +kernel
theorem dX9_colorInfo_57 : decode cX9_colorInfo 57 = .ok (.aload_n 0, 1) := by decide +kernel
theorem dX9_colorInfo_58 : decode cX9_colorInfo 58 = .ok (.iload_n 1, 1) := by decide +kernel
theorem dX9_colorInfo_59 : decode cX9_colorInfo 59 = .ok (.invokevirtual 54, 3) := by decide +kernel
theorem dX9_colorInfo_62 : decode cX9_colorInfo 62 = .ok (.goto 8, 3) := by decide +kernel
theorem dX9_colorInfo_65 : decode cX9_colorInfo 65 = .ok (.aload_n 0, 1) := by decide +kernel
theorem dX9_colorInfo_66 : decode cX9_colorInfo 66 = .ok (.iload_n 1, 1) := by decide +kernel
theorem dX9_colorInfo_67 : decode cX9_colorInfo 67 = .ok (.invokevirtual 57, 3) := by decide +kernel
theorem dX9_colorInfo_70 : decode cX9_colorInfo 70 = .ok (.ireturn, 1) := by decide +kernel
theorem dX9_isField_0 : decode cX9_isField 0 = .ok (.iload_n 0, 1) := by decide +kernel
theorem dX9_isField_1 : decode cX9_isField 1 = .ok (.iconst 0, 1) := by decide +kernel
theorem dX9_isField_2 : decode cX9_isField 2 = .ok (.bipush 6, 2) := by decide +kernel
theorem dX9_isField_4 : decode cX9_isField 4 = .ok (.invokestatic 32, 3) := by decide +kernel
theorem dX9_isField_7 : decode cX9_isField 7 = .ok (.ireturn, 1) := by decide +kernel
theorem dX9_fieldAt_0 : decode cX9_fieldAt 0 = .ok (.bipush 37, 2) := by decide +kernel
theorem dX9_fieldAt_2 : decode cX9_fieldAt 2 = .ok (.bipush 11, 2) := by decide +kernel
theorem dX9_fieldAt_4 : decode cX9_fieldAt 4 = .ok (.iload_n 0, 1) := by decide +kernel
theorem dX9_fieldAt_5 : decode cX9_fieldAt 5 = .ok (.imul, 1) := by decide +kernel
theorem dX9_fieldAt_6 : decode cX9_fieldAt 6 = .ok (.iadd, 1) := by decide +kernel
theorem dX9_fieldAt_7 : decode cX9_fieldAt 7 = .ok (.ireturn, 1) := by decide +kernel
theorem dX9_layers_0 : decode cX9_layers 0 = .ok (.aload_n 0, 1) := by decide +kernel
theorem dX9_layers_1 : decode cX9_layers 1 = .ok (.getfield 7, 3) := by decide +kernel
theorem dX9_layers_4 : decode cX9_layers 4 = .ok (.iload_n 1, 1) := by decide +kernel
theorem dX9_layers_5 : decode cX9_layers 5 = .ok (.invokestatic 60, 3) := by decide +kernel
theorem dX9_layers_8 : decode cX9_layers 8 = .ok (.iaload, 1) := by decide +kernel
theorem dX9_layers_9 : decode cX9_layers 9 = .ok (.ireturn, 1) := by decide +kernel
theorem dX9_layerAt_0 : decode cX9_layerAt 0 = .ok (.iload_n 0, 1) := by decide +kernel
theorem dX9_layerAt_1 : decode cX9_layerAt 1 = .ok (.invokestatic 60, 3) := by decide +kernel
theorem dX9_layerAt_4 : decode cX9_layerAt 4 = .ok (.iconst 2, 1) := by decide +kernel
theorem dX9_layerAt_5 : decode cX9_layerAt 5 = .ok (.iadd, 1) := by decide +kernel
theorem dX9_layerAt_6 : decode cX9_layerAt 6 = .ok (.iconst 3, 1) := by decide +kernel
theorem dX9_layerAt_7 : decode cX9_layerAt 7 = .ok (.iload_n 1, 1) := by decide +kernel
theorem dX9_layerAt_8 : decode cX9_layerAt 8 = .ok (.imul, 1) := by decide +kernel
theorem dX9_layerAt_9 : decode cX9_layerAt 9 = .ok (.iadd, 1) := by decide +kernel
theorem dX9_layerAt_10 : decode cX9_layerAt 10 = .ok (.ireturn, 1) := by decide +kernel
theorem dX9_of_0 : decode cX9_of 0 = .ok (.aload_n 0, 1) := by decide +kernel
theorem dX9_of_1 : decode cX9_of 1 = .ok (.getfield 7, 3) := by decide +kernel
theorem dX9_of_4 : decode cX9_of 4 = .ok (.iload_n 1, 1) := by decide +kernel
theorem dX9_of_5 : decode cX9_of 5 = .ok (.iload_n 2, 1) := by decide +kernel
theorem dX9_of_6 : decode cX9_of 6 = .ok (.invokestatic 63, 3) := by decide +kernel
theorem dX9_of_9 : decode cX9_of 9 = .ok (.iload_n 3, 1) := by decide +kernel
theorem dX9_of_10 : decode cX9_of 10 = .ok (.iadd, 1) := by decide +kernel
theorem dX9_of_11 : decode cX9_of 11 = .ok (.iaload, 1) := by decide +kernel
theorem dX9_of_12 : decode cX9_of 12 = .ok (.ireturn, 1) := by decide +kernel
theorem dX9_layersWith_0 : decode cX9_layersWith 0 = .ok (.iconst 0, 1) := by decide +kernel
theorem dX9_layersWith_1 : decode cX9_layersWith 1 = .ok (.istore 4, 2) := by decide +kernel
theorem dX9_layersWith_3 : decode cX9_layersWith 3 = .ok (.iconst 0, 1) := by decide +kernel
theorem dX9_layersWith_4 : decode cX9_layersWith 4 = .ok (.istore 5, 2) := by decide +kernel
theorem dX9_layersWith_6 : decode cX9_layersWith 6 = .ok (.iload 5, 2) := by decide +kernel
theorem dX9_layersWith_8 : decode cX9_layersWith 8 = .ok (.aload_n 0, 1) := by decide +kernel
theorem dX9_layersWith_9 : decode cX9_layersWith 9 = .ok (.iload_n 1, 1) := by decide +kernel
theorem dX9_layersWith_10 : decode cX9_layersWith 10 = .ok (.invokevirtual 39, 3) := by decide +kernel
theorem dX9_layersWith_13 : decode cX9_layersWith 13 = .ok (.if_icmp .ge 35, 3) := by decide +kernel
theorem dX9_layersWith_16 : decode cX9_layersWith 16 = .ok (.iload 4, 2) := by decide +kernel
theorem dX9_layersWith_18 : decode cX9_layersWith 18 = .ok (.aload_n 0, 1) := by decide +kernel
theorem dX9_layersWith_19 : decode cX9_layersWith 19 = .ok (.iload_n 1, 1) := by decide +kernel
theorem dX9_layersWith_20 : decode cX9_layersWith 20 = .ok (.iload 5, 2) := by decide +kernel
theorem dX9_layersWith_22 : decode cX9_layersWith 22 = .ok (.iconst 1, 1) := by decide +kernel
theorem dX9_layersWith_23 : decode cX9_layersWith 23 = .ok (.invokevirtual 43, 3) := by decide +kernel
theorem dX9_layersWith_26 : decode cX9_layersWith 26 = .ok (.iload_n 2, 1) := by decide +kernel
theorem dX9_layersWith_27 : decode cX9_layersWith 27 = .ok (.iload_n 3, 1) := by decide +kernel
theorem dX9_layersWith_28 : decode cX9_layersWith 28 = .ok (.invokestatic 32, 3) := by decide +kernel
theorem dX9_layersWith_31 : decode cX9_layersWith 31 = .ok (.ifCond .eq 7, 3) := by decide +kernel
theorem dX9_layersWith_34 : decode cX9_layersWith 34 = .ok (.iconst 1, 1) := by decide +kernel
theorem dX9_layersWith_35 : decode cX9_layersWith 35 = .ok (.goto 4, 3) := by decide +kernel
theorem dX9_layersWith_38 : decode cX9_layersWith 38 = .ok (.iconst 0, 1) := by decide +kernel
theorem dX9_layersWith_39 : decode cX9_layersWith 39 = .ok (.iadd, 1) := by decide +kernel
theorem dX9_layersWith_40 : decode cX9_layersWith 40 = .ok (.istore 4, 2) := by decide +kernel
theorem dX9_layersWith_42 : decode cX9_layersWith 42 = .ok (.iinc 5 1, 3) := by decide +kernel
theorem dX9_layersWith_45 : decode cX9_layersWith 45 = .ok (.goto (-39), 3) := by decide +kernel
theorem dX9_layersWith_48 : decode cX9_layersWith 48 = .ok (.iload 4, 2) := by decide +kernel
theorem dX9_layersWith_50 : decode cX9_layersWith 50 = .ok (.ireturn, 1) := by decide +kernel
theorem dX9_put_0 : decode cX9_put 0 = .ok (.iload_n 1, 1) := by decide +kernel
theorem dX9_put_1 : decode cX9_put 1 = .ok (.invokestatic 67, 3) := by decide +kernel
theorem dX9_put_4 : decode cX9_put 4 = .ok (.ifCond .eq 11, 3) := by decide +kernel
theorem dX9_put_7 : decode cX9_put 7 = .ok (.aload_n 0, 1) := by decide +kernel
theorem dX9_put_8 : decode cX9_put 8 = .ok (.iload_n 2, 1) := by decide +kernel
theorem dX9_put_9 : decode cX9_put 9 = .ok (.invokevirtual 47, 3) := by decide +kernel
theorem dX9_put_12 : decode cX9_put 12 = .ok (.ifCond .ne 5, 3) := by decide +kernel
theorem dX9_put_15 : decode cX9_put 15 = .ok (.iconst (-1), 1) := by decide +kernel
theorem dX9_put_16 : decode cX9_put 16 = .ok (.ireturn, 1) := by decide +kernel
theorem dX9_put_17 : decode cX9_put 17 = .ok (.aload_n 0, 1) := by decide +kernel
theorem dX9_put_18 : decode cX9_put 18 = .ok (.iload_n 1, 1) := by decide +kernel
theorem dX9_put_19 : decode cX9_put 19 = .ok (.iconst 0, 1) := by decide +kernel
theorem dX9_put_20 : decode cX9_put 20 = .ok (.iconst 0, 1) := by decide +kernel
theorem dX9_put_21 : decode cX9_put 21 = .ok (.invokevirtual 70, 3) := by decide +kernel
theorem dX9_put_24 : decode cX9_put 24 = .ok (.ifCond .le 6, 3) := by decide +kernel
theorem dX9_put_27 : decode cX9_put 27 = .ok (.bipush (-2), 2) := by decide +kernel
theorem dX9_put_29 : decode cX9_put 29 = .ok (.ireturn, 1) := by decide +kernel
theorem dX9_put_30 : decode cX9_put 30 = .ok (.aload_n 0, 1) := by decide +kernel
theorem dX9_put_31 : decode cX9_put 31 = .ok (.iload_n 1, 1) := by decide +kernel
theorem dX9_put_32 : decode cX9_put 32 = .ok (.invokevirtual 39, 3) := by decide +kernel
theorem dX9_put_35 : decode cX9_put 35 = .ok (.iconst 3, 1) := by decide +kernel
theorem dX9_put_36 : decode cX9_put 36 = .ok (.if_icmp .ne 6, 3) := by decide +kernel
theorem dX9_put_39 : decode cX9_put 39 = .ok (.bipush (-3), 2) := by decide +kernel
theorem dX9_put_41 : decode cX9_put 41 = .ok (.ireturn, 1) := by decide +kernel
theorem dX9_put_42 : decode cX9_put 42 = .ok (.aload_n 0, 1) := by decide +kernel
theorem dX9_put_43 : decode cX9_put 43 = .ok (.invokevirtual 36, 3) := by decide +kernel
theorem dX9_put_46 : decode cX9_put 46 = .ok (.iload_n 1, 1) := by decide +kernel
theorem dX9_put_47 : decode cX9_put 47 = .ok (.aload_n 0, 1) := by decide +kernel
theorem dX9_put_48 : decode cX9_put 48 = .ok (.iload_n 1, 1) := by decide +kernel
theorem dX9_put_49 : decode cX9_put 49 = .ok (.invokevirtual 39, 3) := by decide +kernel
theorem dX9_put_52 : decode cX9_put 52 = .ok (.invokestatic 63, 3) := by decide +kernel
theorem dX9_put_55 : decode cX9_put 55 = .ok (.istore_n 3, 1) := by decide +kernel
theorem dX9_put_56 : decode cX9_put 56 = .ok (.aload_n 0, 1) := by decide +kernel
theorem dX9_put_57 : decode cX9_put 57 = .ok (.getfield 7, 3) := by decide +kernel
theorem dX9_put_60 : decode cX9_put 60 = .ok (.iload_n 3, 1) := by decide +kernel
theorem dX9_put_61 : decode cX9_put 61 = .ok (.iload_n 2, 1) := by decide +kernel
theorem dX9_put_62 : decode cX9_put 62 = .ok (.iastore, 1) := by decide +kernel
theorem dX9_put_63 : decode cX9_put 63 = .ok (.aload_n 0, 1) := by decide +kernel
theorem dX9_put_64 : decode cX9_put 64 = .ok (.getfield 7, 3) := by decide +kernel
theorem dX9_put_67 : decode cX9_put 67 = .ok (.iload_n 3, 1) := by decide +kernel
theorem dX9_put_68 : decode cX9_put 68 = .ok (.iconst 1, 1) := by decide +kernel
theorem dX9_put_69 : decode cX9_put 69 = .ok (.iadd, 1) := by decide +kernel
theorem dX9_put_70 : decode cX9_put 70 = .ok (.iconst 0, 1) := by decide +kernel
theorem dX9_put_71 : decode cX9_put 71 = .ok (.iastore, 1) := by decide +kernel
theorem dX9_put_72 : decode cX9_put 72 = .ok (.aload_n 0, 1) := by decide +kernel
theorem dX9_put_73 : decode cX9_put 73 = .ok (.getfield 7, 3) := by decide +kernel
theorem dX9_put_76 : decode cX9_put 76 = .ok (.iload_n 3, 1) := by decide +kernel
theorem dX9_put_77 : decode cX9_put 77 = .ok (.iconst 2, 1) := by decide +kernel
theorem dX9_put_78 : decode cX9_put 78 = .ok (.iadd, 1) := by decide +kernel
theorem dX9_put_79 : decode cX9_put 79 = .ok (.iconst 0, 1) := by decide +kernel
theorem dX9_put_80 : decode cX9_put 80 = .ok (.iastore, 1) := by decide +kernel
theorem dX9_put_81 : decode cX9_put 81 = .ok (.aload_n 0, 1) := by decide +kernel
theorem dX9_put_82 : decode cX9_put 82 = .ok (.getfield 7, 3) := by decide +kernel
theorem dX9_put_85 : decode cX9_put 85 = .ok (.iload_n 1, 1) := by decide +kernel
theorem dX9_put_86 : decode cX9_put 86 = .ok (.invokestatic 60, 3) := by decide +kernel
theorem dX9_put_89 : decode cX9_put 89 = .ok (.dup2, 1) := by decide +kernel
theorem dX9_put_90 : decode cX9_put 90 = .ok (.iaload, 1) := by decide +kernel
theorem dX9_put_91 : decode cX9_put 91 = .ok (.iconst 1, 1) := by decide +kernel
theorem dX9_put_92 : decode cX9_put 92 = .ok (.iadd, 1) := by decide +kernel
theorem dX9_put_93 : decode cX9_put 93 = .ok (.iastore, 1) := by decide +kernel
theorem dX9_put_94 : decode cX9_put 94 = .ok (.aload_n 0, 1) := by decide +kernel
theorem dX9_put_95 : decode cX9_put 95 = .ok (.getfield 7, 3) := by decide +kernel
theorem dX9_put_98 : decode cX9_put 98 = .ok (.bipush 119, 2) := by decide +kernel
theorem dX9_put_100 : decode cX9_put 100 = .ok (.dup2, 1) := by decide +kernel
theorem dX9_put_101 : decode cX9_put 101 = .ok (.iaload, 1) := by decide +kernel
theorem dX9_put_102 : decode cX9_put 102 = .ok (.iconst 1, 1) := by decide +kernel
theorem dX9_put_103 : decode cX9_put 103 = .ok (.iadd, 1) := by decide +kernel
theorem dX9_put_104 : decode cX9_put 104 = .ok (.iastore, 1) := by decide +kernel
theorem dX9_put_105 : decode cX9_put 105 = .ok (.aload_n 0, 1) := by decide +kernel
theorem dX9_put_106 : decode cX9_put 106 = .ok (.iload_n 1, 1) := by decide +kernel
theorem dX9_put_107 : decode cX9_put 107 = .ok (.invokevirtual 39, 3) := by decide +kernel
theorem dX9_put_110 : decode cX9_put 110 = .ok (.iconst 1, 1) := by decide +kernel
theorem dX9_put_111 : decode cX9_put 111 = .ok (.isub, 1) := by decide +kernel
theorem dX9_put_112 : decode cX9_put 112 = .ok (.ireturn, 1) := by decide +kernel
theorem dX9_takeOff_0 : decode cX9_takeOff 0 = .ok (.iload_n 1, 1) := by decide +kernel
theorem dX9_takeOff_1 : decode cX9_takeOff 1 = .ok (.invokestatic 67, 3) := by decide +kernel
theorem dX9_takeOff_4 : decode cX9_takeOff 4 = .ok (.ifCond .ne 5, 3) := by decide +kernel
theorem dX9_takeOff_7 : decode cX9_takeOff 7 = .ok (.iconst (-1), 1) := by decide +kernel
theorem dX9_takeOff_8 : decode cX9_takeOff 8 = .ok (.ireturn, 1) := by decide +kernel
theorem dX9_takeOff_9 : decode cX9_takeOff 9 = .ok (.aload_n 0, 1) := by decide +kernel
theorem dX9_takeOff_10 : decode cX9_takeOff 10 = .ok (.iload_n 1, 1) := by decide +kernel
theorem dX9_takeOff_11 : decode cX9_takeOff 11 = .ok (.invokevirtual 39, 3) := by decide +kernel
theorem dX9_takeOff_14 : decode cX9_takeOff 14 = .ok (.iconst 1, 1) := by decide +kernel
theorem dX9_takeOff_15 : decode cX9_takeOff 15 = .ok (.isub, 1) := by decide +kernel
theorem dX9_takeOff_16 : decode cX9_takeOff 16 = .ok (.istore_n 2, 1) := by decide +kernel
theorem dX9_takeOff_17 : decode cX9_takeOff 17 = .ok (.iload_n 2, 1) := by decide +kernel
theorem dX9_takeOff_18 : decode cX9_takeOff 18 = .ok (.ifCond .lt 13, 3) := by decide +kernel
theorem dX9_takeOff_21 : decode cX9_takeOff 21 = .ok (.aload_n 0, 1) := by decide +kernel
theorem dX9_takeOff_22 : decode cX9_takeOff 22 = .ok (.iload_n 1, 1) := by decide +kernel
theorem dX9_takeOff_23 : decode cX9_takeOff 23 = .ok (.iload_n 2, 1) := by decide +kernel
theorem dX9_takeOff_24 : decode cX9_takeOff 24 = .ok (.iconst 1, 1) := by decide +kernel
theorem dX9_takeOff_25 : decode cX9_takeOff 25 = .ok (.invokevirtual 43, 3) := by decide +kernel
theorem dX9_takeOff_28 : decode cX9_takeOff 28 = .ok (.ifCond .eq 6, 3) := by decide +kernel
theorem dX9_takeOff_31 : decode cX9_takeOff 31 = .ok (.bipush (-2), 2) := by decide +kernel
theorem dX9_takeOff_33 : decode cX9_takeOff 33 = .ok (.ireturn, 1) := by decide +kernel
theorem dX9_takeOff_34 : decode cX9_takeOff 34 = .ok (.aload_n 0, 1) := by decide +kernel
theorem dX9_takeOff_35 : decode cX9_takeOff 35 = .ok (.invokevirtual 36, 3) := by decide +kernel
theorem dX9_takeOff_38 : decode cX9_takeOff 38 = .ok (.aload_n 0, 1) := by decide +kernel
theorem dX9_takeOff_39 : decode cX9_takeOff 39 = .ok (.getfield 7, 3) := by decide +kernel
theorem dX9_takeOff_42 : decode cX9_takeOff 42 = .ok (.iload_n 1, 1) := by decide +kernel
theorem dX9_takeOff_43 : decode cX9_takeOff 43 = .ok (.invokestatic 60, 3) := by decide +kernel
theorem dX9_takeOff_46 : decode cX9_takeOff 46 = .ok (.dup2, 1) := by decide +kernel
theorem dX9_takeOff_47 : decode cX9_takeOff 47 = .ok (.iaload, 1) := by decide +kernel
theorem dX9_takeOff_48 : decode cX9_takeOff 48 = .ok (.iconst 1, 1) := by decide +kernel
theorem dX9_takeOff_49 : decode cX9_takeOff 49 = .ok (.isub, 1) := by decide +kernel
theorem dX9_takeOff_50 : decode cX9_takeOff 50 = .ok (.iastore, 1) := by decide +kernel
theorem dX9_takeOff_51 : decode cX9_takeOff 51 = .ok (.aload_n 0, 1) := by decide +kernel
theorem dX9_takeOff_52 : decode cX9_takeOff 52 = .ok (.getfield 7, 3) := by decide +kernel
theorem dX9_takeOff_55 : decode cX9_takeOff 55 = .ok (.bipush 120, 2) := by decide +kernel
theorem dX9_takeOff_57 : decode cX9_takeOff 57 = .ok (.dup2, 1) := by decide +kernel
theorem dX9_takeOff_58 : decode cX9_takeOff 58 = .ok (.iaload, 1) := by decide +kernel
theorem dX9_takeOff_59 : decode cX9_takeOff 59 = .ok (.iconst 1, 1) := by decide +kernel
theorem dX9_takeOff_60 : decode cX9_takeOff 60 = .ok (.iadd, 1) := by decide +kernel
theorem dX9_takeOff_61 : decode cX9_takeOff 61 = .ok (.iastore, 1) := by decide +kernel
theorem dX9_takeOff_62 : decode cX9_takeOff 62 = .ok (.aload_n 0, 1) := by decide +kernel
theorem dX9_takeOff_63 : decode cX9_takeOff 63 = .ok (.iload_n 1, 1) := by decide +kernel
theorem dX9_takeOff_64 : decode cX9_takeOff 64 = .ok (.iload_n 2, 1) := by decide +kernel
theorem dX9_takeOff_65 : decode cX9_takeOff 65 = .ok (.iconst 0, 1) := by decide +kernel
theorem dX9_takeOff_66 : decode cX9_takeOff 66 = .ok (.invokevirtual 43, 3) := by decide +kernel
theorem dX9_takeOff_69 : decode cX9_takeOff 69 = .ok (.ireturn, 1) := by decide +kernel
theorem dX9_allLayers_0 : decode cX9_allLayers 0 = .ok (.iconst 0, 1) := by decide +kernel
theorem dX9_allLayers_1 : decode cX9_allLayers 1 = .ok (.istore_n 3, 1) := by decide +kernel
theorem dX9_allLayers_2 : decode cX9_allLayers 2 = .ok (.iconst 0, 1) := by decide +kernel
theorem dX9_allLayers_3 : decode cX9_allLayers 3 = .ok (.istore 4, 2) := by decide +kernel
theorem dX9_allLayers_5 : decode cX9_allLayers 5 = .ok (.iload 4, 2) := by decide +kernel
theorem dX9_allLayers_7 : decode cX9_allLayers 7 = .ok (.bipush 7, 2) := by decide +kernel
theorem dX9_allLayers_9 : decode cX9_allLayers 9 = .ok (.if_icmp .ge 20, 3) := by decide +kernel
theorem dX9_allLayers_12 : decode cX9_allLayers 12 = .ok (.iload_n 3, 1) := by decide +kernel
theorem dX9_allLayers_13 : decode cX9_allLayers 13 = .ok (.aload_n 0, 1) := by decide +kernel
theorem dX9_allLayers_14 : decode cX9_allLayers 14 = .ok (.iload 4, 2) := by decide +kernel
theorem dX9_allLayers_16 : decode cX9_allLayers 16 = .ok (.iload_n 1, 1) := by decide +kernel
theorem dX9_allLayers_17 : decode cX9_allLayers 17 = .ok (.iload_n 2, 1) := by decide +kernel
theorem dX9_allLayers_18 : decode cX9_allLayers 18 = .ok (.invokevirtual 70, 3) := by decide +kernel
theorem dX9_allLayers_21 : decode cX9_allLayers 21 = .ok (.iadd, 1) := by decide +kernel
theorem dX9_allLayers_22 : decode cX9_allLayers 22 = .ok (.istore_n 3, 1) := by decide +kernel
theorem dX9_allLayers_23 : decode cX9_allLayers 23 = .ok (.iinc 4 1, 3) := by decide +kernel
theorem dX9_allLayers_26 : decode cX9_allLayers 26 = .ok (.goto (-21), 3) := by decide +kernel
theorem dX9_allLayers_29 : decode cX9_allLayers 29 = .ok (.iload_n 3, 1) := by decide +kernel
theorem dX9_allLayers_30 : decode cX9_allLayers 30 = .ok (.ireturn, 1) := by decide +kernel
theorem dX9_clean_0 : decode cX9_clean 0 = .ok (.aload_n 0, 1) := by decide +kernel
theorem dX9_clean_1 : decode cX9_clean 1 = .ok (.invokevirtual 36, 3) := by decide +kernel
theorem dX9_clean_4 : decode cX9_clean 4 = .ok (.aload_n 0, 1) := by decide +kernel
theorem dX9_clean_5 : decode cX9_clean 5 = .ok (.iconst 0, 1) := by decide +kernel
theorem dX9_clean_6 : decode cX9_clean 6 = .ok (.iconst 4, 1) := by decide +kernel
theorem dX9_clean_7 : decode cX9_clean 7 = .ok (.invokevirtual 73, 3) := by decide +kernel
theorem dX9_clean_10 : decode cX9_clean 10 = .ok (.istore_n 1, 1) := by decide +kernel
theorem dX9_clean_11 : decode cX9_clean 11 = .ok (.iconst 0, 1) := by decide +kernel
theorem dX9_clean_12 : decode cX9_clean 12 = .ok (.istore_n 2, 1) := by decide +kernel
theorem dX9_clean_13 : decode cX9_clean 13 = .ok (.iload_n 2, 1) := by decide +kernel
theorem dX9_clean_14 : decode cX9_clean 14 = .ok (.bipush 7, 2) := by decide +kernel
theorem dX9_clean_16 : decode cX9_clean 16 = .ok (.if_icmp .ge 31, 3) := by decide +kernel
theorem dX9_clean_19 : decode cX9_clean 19 = .ok (.aload_n 0, 1) := by decide +kernel
theorem dX9_clean_20 : decode cX9_clean 20 = .ok (.getfield 7, 3) := by decide +kernel
theorem dX9_clean_23 : decode cX9_clean 23 = .ok (.iload_n 2, 1) := by decide +kernel
theorem dX9_clean_24 : decode cX9_clean 24 = .ok (.invokestatic 60, 3) := by decide +kernel
theorem dX9_clean_27 : decode cX9_clean 27 = .ok (.iconst 0, 1) := by decide +kernel
theorem dX9_clean_28 : decode cX9_clean 28 = .ok (.iastore, 1) := by decide +kernel
theorem dX9_clean_29 : decode cX9_clean 29 = .ok (.aload_n 0, 1) := by decide +kernel
theorem dX9_clean_30 : decode cX9_clean 30 = .ok (.getfield 7, 3) := by decide +kernel
theorem dX9_clean_33 : decode cX9_clean 33 = .ok (.iload_n 2, 1) := by decide +kernel
theorem dX9_clean_34 : decode cX9_clean 34 = .ok (.invokestatic 60, 3) := by decide +kernel
theorem dX9_clean_37 : decode cX9_clean 37 = .ok (.iconst 1, 1) := by decide +kernel
theorem dX9_clean_38 : decode cX9_clean 38 = .ok (.iadd, 1) := by decide +kernel
theorem dX9_clean_39 : decode cX9_clean 39 = .ok (.iconst 0, 1) := by decide +kernel
theorem dX9_clean_40 : decode cX9_clean 40 = .ok (.iastore, 1) := by decide +kernel
theorem dX9_clean_41 : decode cX9_clean 41 = .ok (.iinc 2 1, 3) := by decide +kernel
theorem dX9_clean_44 : decode cX9_clean 44 = .ok (.goto (-31), 3) := by decide +kernel
theorem dX9_clean_47 : decode cX9_clean 47 = .ok (.aload_n 0, 1) := by decide +kernel
theorem dX9_clean_48 : decode cX9_clean 48 = .ok (.getfield 7, 3) := by decide +kernel
theorem dX9_clean_51 : decode cX9_clean 51 = .ok (.bipush 119, 2) := by decide +kernel
theorem dX9_clean_53 : decode cX9_clean 53 = .ok (.iconst 0, 1) := by decide +kernel
theorem dX9_clean_54 : decode cX9_clean 54 = .ok (.iastore, 1) := by decide +kernel
theorem dX9_clean_55 : decode cX9_clean 55 = .ok (.aload_n 0, 1) := by decide +kernel
theorem dX9_clean_56 : decode cX9_clean 56 = .ok (.getfield 7, 3) := by decide +kernel
theorem dX9_clean_59 : decode cX9_clean 59 = .ok (.bipush 120, 2) := by decide +kernel
theorem dX9_clean_61 : decode cX9_clean 61 = .ok (.iconst 0, 1) := by decide +kernel
theorem dX9_clean_62 : decode cX9_clean 62 = .ok (.iastore, 1) := by decide +kernel
theorem dX9_clean_63 : decode cX9_clean 63 = .ok (.iload_n 1, 1) := by decide +kernel
theorem dX9_clean_64 : decode cX9_clean 64 = .ok (.ireturn, 1) := by decide +kernel
theorem dX9_layer_0 : decode cX9_layer 0 = .ok (.iload_n 1, 1) := by decide +kernel
theorem dX9_layer_1 : decode cX9_layer 1 = .ok (.invokestatic 67, 3) := by decide +kernel
theorem dX9_layer_4 : decode cX9_layer 4 = .ok (.ifCond .eq 16, 3) := by decide +kernel
theorem dX9_layer_7 : decode cX9_layer 7 = .ok (.iload_n 2, 1) := by decide +kernel
theorem dX9_layer_8 : decode cX9_layer 8 = .ok (.ifCond .lt 12, 3) := by decide +kernel
theorem dX9_layer_11 : decode cX9_layer 11 = .ok (.iload_n 3, 1) := by decide +kernel
theorem dX9_layer_12 : decode cX9_layer 12 = .ok (.iconst 0, 1) := by decide +kernel
theorem dX9_layer_13 : decode cX9_layer 13 = .ok (.iconst 2, 1) := by decide +kernel
theorem dX9_layer_14 : decode cX9_layer 14 = .ok (.invokestatic 32, 3) := by decide +kernel
theorem dX9_layer_17 : decode cX9_layer 17 = .ok (.ifCond .ne 5, 3) := by decide +kernel
theorem dX9_layer_20 : decode cX9_layer 20 = .ok (.iconst (-1), 1) := by decide +kernel
theorem dX9_layer_21 : decode cX9_layer 21 = .ok (.ireturn, 1) := by decide +kernel
theorem dX9_layer_22 : decode cX9_layer 22 = .ok (.iload_n 2, 1) := by decide +kernel
theorem dX9_layer_23 : decode cX9_layer 23 = .ok (.aload_n 0, 1) := by decide +kernel
theorem dX9_layer_24 : decode cX9_layer 24 = .ok (.iload_n 1, 1) := by decide +kernel
theorem dX9_layer_25 : decode cX9_layer 25 = .ok (.invokevirtual 39, 3) := by decide +kernel
theorem dX9_layer_28 : decode cX9_layer 28 = .ok (.if_icmp .lt 8, 3) := by decide +kernel
theorem dX9_layer_31 : decode cX9_layer 31 = .ok (.bipush (-4), 2) := by decide +kernel
theorem dX9_layer_33 : decode cX9_layer 33 = .ok (.goto 10, 3) := by decide +kernel
theorem dX9_layer_36 : decode cX9_layer 36 = .ok (.aload_n 0, 1) := by decide +kernel
theorem dX9_layer_37 : decode cX9_layer 37 = .ok (.iload_n 1, 1) := by decide +kernel
theorem dX9_layer_38 : decode cX9_layer 38 = .ok (.iload_n 2, 1) := by decide +kernel
theorem dX9_layer_39 : decode cX9_layer 39 = .ok (.iload_n 3, 1) := by decide +kernel
theorem dX9_layer_40 : decode cX9_layer 40 = .ok (.invokevirtual 43, 3) := by decide +kernel
theorem dX9_layer_43 : decode cX9_layer 43 = .ok (.ireturn, 1) := by decide +kernel
theorem dX9_pull_0 : decode cX9_pull 0 = .ok (.iconst 0, 1) := by decide +kernel
theorem dX9_pull_1 : decode cX9_pull 1 = .ok (.istore_n 2, 1) := by decide +kernel
theorem dX9_pull_2 : decode cX9_pull 2 = .ok (.iconst 0, 1) := by decide +kernel
theorem dX9_pull_3 : decode cX9_pull 3 = .ok (.istore_n 3, 1) := by decide +kernel
theorem dX9_pull_4 : decode cX9_pull 4 = .ok (.iload_n 3, 1) := by decide +kernel
theorem dX9_pull_5 : decode cX9_pull 5 = .ok (.aload_n 0, 1) := by decide +kernel
theorem dX9_pull_6 : decode cX9_pull 6 = .ok (.iload_n 1, 1) := by decide +kernel
theorem dX9_pull_7 : decode cX9_pull 7 = .ok (.invokevirtual 39, 3) := by decide +kernel
theorem dX9_pull_10 : decode cX9_pull 10 = .ok (.if_icmp .ge 42, 3) := by decide +kernel
theorem dX9_pull_13 : decode cX9_pull 13 = .ok (.iload_n 2, 1) := by decide +kernel
theorem dX9_pull_14 : decode cX9_pull 14 = .ok (.aload_n 0, 1) := by decide +kernel
theorem dX9_pull_15 : decode cX9_pull 15 = .ok (.iload_n 1, 1) := by decide +kernel
theorem dX9_pull_16 : decode cX9_pull 16 = .ok (.iload_n 3, 1) := by decide +kernel
theorem dX9_pull_17 : decode cX9_pull 17 = .ok (.iconst 1, 1) := by decide +kernel
theorem dX9_pull_18 : decode cX9_pull 18 = .ok (.invokevirtual 43, 3) := by decide +kernel
theorem dX9_pull_21 : decode cX9_pull 21 = .ok (.iconst 2, 1) := by decide +kernel
theorem dX9_pull_22 : decode cX9_pull 22 = .ok (.iconst 3, 1) := by decide +kernel
theorem dX9_pull_23 : decode cX9_pull 23 = .ok (.invokestatic 32, 3) := by decide +kernel
theorem dX9_pull_26 : decode cX9_pull 26 = .ok (.ifCond .eq 17, 3) := by decide +kernel
theorem dX9_pull_29 : decode cX9_pull 29 = .ok (.aload_n 0, 1) := by decide +kernel
theorem dX9_pull_30 : decode cX9_pull 30 = .ok (.aload_n 0, 1) := by decide +kernel
theorem dX9_pull_31 : decode cX9_pull 31 = .ok (.iload_n 1, 1) := by decide +kernel
theorem dX9_pull_32 : decode cX9_pull 32 = .ok (.iload_n 3, 1) := by decide +kernel
theorem dX9_pull_33 : decode cX9_pull 33 = .ok (.iconst 0, 1) := by decide +kernel
theorem dX9_pull_34 : decode cX9_pull 34 = .ok (.invokevirtual 43, 3) := by decide +kernel
theorem dX9_pull_37 : decode cX9_pull 37 = .ok (.invokevirtual 51, 3) := by decide +kernel
theorem dX9_pull_40 : decode cX9_pull 40 = .ok (.goto 4, 3) := by decide +kernel
theorem dX9_pull_43 : decode cX9_pull 43 = .ok (.iconst 0, 1) := by decide +kernel
theorem dX9_pull_44 : decode cX9_pull 44 = .ok (.iadd, 1) := by decide +kernel
theorem dX9_pull_45 : decode cX9_pull 45 = .ok (.istore_n 2, 1) := by decide +kernel
theorem dX9_pull_46 : decode cX9_pull 46 = .ok (.iinc 3 1, 3) := by decide +kernel
theorem dX9_pull_49 : decode cX9_pull 49 = .ok (.goto (-45), 3) := by decide +kernel
theorem dX9_pull_52 : decode cX9_pull 52 = .ok (.iload_n 2, 1) := by decide +kernel
theorem dX9_pull_53 : decode cX9_pull 53 = .ok (.ireturn, 1) := by decide +kernel
theorem dX9_strain_0 : decode cX9_strain 0 = .ok (.aload_n 0, 1) := by decide +kernel
theorem dX9_strain_1 : decode cX9_strain 1 = .ok (.iload_n 1, 1) := by decide +kernel
theorem dX9_strain_2 : decode cX9_strain 2 = .ok (.invokevirtual 76, 3) := by decide +kernel
theorem dX9_strain_5 : decode cX9_strain 5 = .ok (.iload_n 2, 1) := by decide +kernel
theorem dX9_strain_6 : decode cX9_strain 6 = .ok (.isub, 1) := by decide +kernel
theorem dX9_strain_7 : decode cX9_strain 7 = .ok (.istore_n 3, 1) := by decide +kernel
theorem dX9_strain_8 : decode cX9_strain 8 = .ok (.iload_n 3, 1) := by decide +kernel
theorem dX9_strain_9 : decode cX9_strain 9 = .ok (.ifCond .ge 8, 3) := by decide +kernel
theorem dX9_strain_12 : decode cX9_strain 12 = .ok (.iload_n 3, 1) := by decide +kernel
theorem dX9_strain_13 : decode cX9_strain 13 = .ok (.ineg, 1) := by decide +kernel
theorem dX9_strain_14 : decode cX9_strain 14 = .ok (.goto 4, 3) := by decide +kernel
theorem dX9_strain_17 : decode cX9_strain 17 = .ok (.iload_n 3, 1) := by decide +kernel
theorem dX9_strain_18 : decode cX9_strain 18 = .ok (.ireturn, 1) := by decide +kernel
theorem dX9_greatestMelting_0 : decode cX9_greatestMelting 0 = .ok (.bipush (-4), 2) := by decide +kernel
theorem dX9_greatestMelting_2 : decode cX9_greatestMelting 2 = .ok (.istore_n 2, 1) := by decide +kernel
theorem dX9_greatestMelting_3 : decode cX9_greatestMelting 3 = .ok (.iconst 0, 1) := by decide +kernel
theorem dX9_greatestMelting_4 : decode cX9_greatestMelting 4 = .ok (.istore_n 3, 1) := by decide +kernel
theorem dX9_greatestMelting_5 : decode cX9_greatestMelting 5 = .ok (.iload_n 3, 1) := by decide +kernel
theorem dX9_greatestMelting_6 : decode cX9_greatestMelting 6 = .ok (.aload_n 0, 1) := by decide +kernel
theorem dX9_greatestMelting_7 : decode cX9_greatestMelting 7 = .ok (.iload_n 1, 1) := by decide +kernel
theorem dX9_greatestMelting_8 : decode cX9_greatestMelting 8 = .ok (.invokevirtual 39, 3) := by decide +kernel
theorem dX9_greatestMelting_11 : decode cX9_greatestMelting 11 = .ok (.if_icmp .ge 35, 3) := by decide +kernel
theorem dX9_greatestMelting_14 : decode cX9_greatestMelting 14 = .ok (.aload_n 0, 1) := by decide +kernel
theorem dX9_greatestMelting_15 : decode cX9_greatestMelting 15 = .ok (.aload_n 0, 1) := by decide +kernel
theorem dX9_greatestMelting_16 : decode cX9_greatestMelting 16 = .ok (.iload_n 1, 1) := by decide +kernel
theorem dX9_greatestMelting_17 : decode cX9_greatestMelting 17 = .ok (.iload_n 3, 1) := by decide +kernel
theorem dX9_greatestMelting_18 : decode cX9_greatestMelting 18 = .ok (.iconst 0, 1) := by decide +kernel
theorem dX9_greatestMelting_19 : decode cX9_greatestMelting 19 = .ok (.invokevirtual 43, 3) := by decide +kernel
theorem dX9_greatestMelting_22 : decode cX9_greatestMelting 22 = .ok (.invokevirtual 79, 3) := by decide +kernel
theorem dX9_greatestMelting_25 : decode cX9_greatestMelting 25 = .ok (.istore 4, 2) := by decide +kernel
theorem dX9_greatestMelting_27 : decode cX9_greatestMelting 27 = .ok (.iload 4, 2) := by decide +kernel
theorem dX9_greatestMelting_29 : decode cX9_greatestMelting 29 = .ok (.iload_n 2, 1) := by decide +kernel
theorem dX9_greatestMelting_30 : decode cX9_greatestMelting 30 = .ok (.if_icmp .le 8, 3) := by decide +kernel
theorem dX9_greatestMelting_33 : decode cX9_greatestMelting 33 = .ok (.iload 4, 2) := by decide +kernel
theorem dX9_greatestMelting_35 : decode cX9_greatestMelting 35 = .ok (.goto 4, 3) := by decide +kernel
theorem dX9_greatestMelting_38 : decode cX9_greatestMelting 38 = .ok (.iload_n 2, 1) := by decide +kernel
theorem dX9_greatestMelting_39 : decode cX9_greatestMelting 39 = .ok (.istore_n 2, 1) := by decide +kernel
theorem dX9_greatestMelting_40 : decode cX9_greatestMelting 40 = .ok (.iinc 3 1, 3) := by decide +kernel
theorem dX9_greatestMelting_43 : decode cX9_greatestMelting 43 = .ok (.goto (-38), 3) := by decide +kernel
theorem dX9_greatestMelting_46 : decode cX9_greatestMelting 46 = .ok (.iload_n 2, 1) := by decide +kernel
theorem dX9_greatestMelting_47 : decode cX9_greatestMelting 47 = .ok (.ireturn, 1) := by decide +kernel
theorem dX9_leastBurning_0 : decode cX9_leastBurning 0 = .ok (.bipush (-4), 2) := by decide +kernel
theorem dX9_leastBurning_2 : decode cX9_leastBurning 2 = .ok (.istore_n 2, 1) := by decide +kernel
theorem dX9_leastBurning_3 : decode cX9_leastBurning 3 = .ok (.iconst 0, 1) := by decide +kernel
theorem dX9_leastBurning_4 : decode cX9_leastBurning 4 = .ok (.istore_n 3, 1) := by decide +kernel
theorem dX9_leastBurning_5 : decode cX9_leastBurning 5 = .ok (.iload_n 3, 1) := by decide +kernel
theorem dX9_leastBurning_6 : decode cX9_leastBurning 6 = .ok (.aload_n 0, 1) := by decide +kernel
theorem dX9_leastBurning_7 : decode cX9_leastBurning 7 = .ok (.iload_n 1, 1) := by decide +kernel
theorem dX9_leastBurning_8 : decode cX9_leastBurning 8 = .ok (.invokevirtual 39, 3) := by decide +kernel
theorem dX9_leastBurning_11 : decode cX9_leastBurning 11 = .ok (.if_icmp .ge 52, 3) := by decide +kernel
theorem dX9_leastBurning_14 : decode cX9_leastBurning 14 = .ok (.aload_n 0, 1) := by decide +kernel
theorem dX9_leastBurning_15 : decode cX9_leastBurning 15 = .ok (.aload_n 0, 1) := by decide +kernel
theorem dX9_leastBurning_16 : decode cX9_leastBurning 16 = .ok (.iload_n 1, 1) := by decide +kernel
theorem dX9_leastBurning_17 : decode cX9_leastBurning 17 = .ok (.iload_n 3, 1) := by decide +kernel
theorem dX9_leastBurning_18 : decode cX9_leastBurning 18 = .ok (.iconst 0, 1) := by decide +kernel
theorem dX9_leastBurning_19 : decode cX9_leastBurning 19 = .ok (.invokevirtual 43, 3) := by decide +kernel
theorem dX9_leastBurning_22 : decode cX9_leastBurning 22 = .ok (.invokevirtual 82, 3) := by decide +kernel
theorem dX9_leastBurning_25 : decode cX9_leastBurning 25 = .ok (.istore 4, 2) := by decide +kernel
theorem dX9_leastBurning_27 : decode cX9_leastBurning 27 = .ok (.aload_n 0, 1) := by decide +kernel
theorem dX9_leastBurning_28 : decode cX9_leastBurning 28 = .ok (.iload_n 1, 1) := by decide +kernel
theorem dX9_leastBurning_29 : decode cX9_leastBurning 29 = .ok (.iload_n 3, 1) := by decide +kernel
theorem dX9_leastBurning_30 : decode cX9_leastBurning 30 = .ok (.iconst 1, 1) := by decide +kernel
theorem dX9_leastBurning_31 : decode cX9_leastBurning 31 = .ok (.invokevirtual 43, 3) := by decide +kernel
theorem dX9_leastBurning_34 : decode cX9_leastBurning 34 = .ok (.iconst 4, 1) := by decide +kernel
theorem dX9_leastBurning_35 : decode cX9_leastBurning 35 = .ok (.if_icmp .eq 20, 3) := by decide +kernel
theorem dX9_leastBurning_38 : decode cX9_leastBurning 38 = .ok (.iload_n 2, 1) := by decide +kernel
theorem dX9_leastBurning_39 : decode cX9_leastBurning 39 = .ok (.bipush (-4), 2) := by decide +kernel
theorem dX9_leastBurning_41 : decode cX9_leastBurning 41 = .ok (.if_icmp .eq 9, 3) := by decide +kernel
theorem dX9_leastBurning_44 : decode cX9_leastBurning 44 = .ok (.iload 4, 2) := by decide +kernel
theorem dX9_leastBurning_46 : decode cX9_leastBurning 46 = .ok (.iload_n 2, 1) := by decide +kernel
theorem dX9_leastBurning_47 : decode cX9_leastBurning 47 = .ok (.if_icmp .ge 8, 3) := by decide +kernel
theorem dX9_leastBurning_50 : decode cX9_leastBurning 50 = .ok (.iload 4, 2) := by decide +kernel
theorem dX9_leastBurning_52 : decode cX9_leastBurning 52 = .ok (.goto 4, 3) := by decide +kernel
theorem dX9_leastBurning_55 : decode cX9_leastBurning 55 = .ok (.iload_n 2, 1) := by decide +kernel
theorem dX9_leastBurning_56 : decode cX9_leastBurning 56 = .ok (.istore_n 2, 1) := by decide +kernel
theorem dX9_leastBurning_57 : decode cX9_leastBurning 57 = .ok (.iinc 3 1, 3) := by decide +kernel
theorem dX9_leastBurning_60 : decode cX9_leastBurning 60 = .ok (.goto (-55), 3) := by decide +kernel
theorem dX9_leastBurning_63 : decode cX9_leastBurning 63 = .ok (.iload_n 2, 1) := by decide +kernel
theorem dX9_leastBurning_64 : decode cX9_leastBurning 64 = .ok (.ireturn, 1) := by decide +kernel
theorem dX9_field_0 : decode cX9_field 0 = .ok (.iload_n 1, 1) := by decide +kernel
theorem dX9_field_1 : decode cX9_field 1 = .ok (.invokestatic 67, 3) := by decide +kernel
theorem dX9_field_4 : decode cX9_field 4 = .ok (.ifCond .eq 12, 3) := by decide +kernel
theorem dX9_field_7 : decode cX9_field 7 = .ok (.iload_n 2, 1) := by decide +kernel
theorem dX9_field_8 : decode cX9_field 8 = .ok (.iconst 0, 1) := by decide +kernel
theorem dX9_field_9 : decode cX9_field 9 = .ok (.iconst 5, 1) := by decide +kernel
theorem dX9_field_10 : decode cX9_field 10 = .ok (.invokestatic 32, 3) := by decide +kernel
theorem dX9_field_13 : decode cX9_field 13 = .ok (.ifCond .ne 5, 3) := by decide +kernel
theorem dX9_field_16 : decode cX9_field 16 = .ok (.iconst (-1), 1) := by decide +kernel
theorem dX9_field_17 : decode cX9_field 17 = .ok (.ireturn, 1) := by decide +kernel
theorem dX9_field_18 : decode cX9_field 18 = .ok (.iload_n 2, 1) := by decide +kernel
theorem dX9_field_19 : decode cX9_field 19 = .ok (.tableswitch 97 0 4 #[33, 39, 45, 68, 91], 33) := by decide +kernel
theorem dX9_field_52 : decode cX9_field 52 = .ok (.aload_n 0, 1) := by decide +kernel
theorem dX9_field_53 : decode cX9_field 53 = .ok (.iload_n 1, 1) := by decide +kernel
theorem dX9_field_54 : decode cX9_field 54 = .ok (.invokevirtual 39, 3) := by decide +kernel
theorem dX9_field_57 : decode cX9_field 57 = .ok (.ireturn, 1) := by decide +kernel
theorem dX9_field_58 : decode cX9_field 58 = .ok (.aload_n 0, 1) := by decide +kernel
theorem dX9_field_59 : decode cX9_field 59 = .ok (.iload_n 1, 1) := by decide +kernel
theorem dX9_field_60 : decode cX9_field 60 = .ok (.invokevirtual 76, 3) := by decide +kernel
theorem dX9_field_63 : decode cX9_field 63 = .ok (.ireturn, 1) := by decide +kernel
theorem dX9_field_64 : decode cX9_field 64 = .ok (.iload_n 1, 1) := by decide +kernel
theorem dX9_field_65 : decode cX9_field 65 = .ok (.bipush 6, 2) := by decide +kernel
theorem dX9_field_67 : decode cX9_field 67 = .ok (.if_icmp .ne 8, 3) := by decide +kernel
theorem dX9_field_70 : decode cX9_field 70 = .ok (.bipush (-4), 2) := by decide +kernel
theorem dX9_field_72 : decode cX9_field 72 = .ok (.goto 14, 3) := by decide +kernel
theorem dX9_field_75 : decode cX9_field 75 = .ok (.aload_n 0, 1) := by decide +kernel
theorem dX9_field_76 : decode cX9_field 76 = .ok (.iload_n 1, 1) := by decide +kernel
theorem dX9_field_77 : decode cX9_field 77 = .ok (.aload_n 0, 1) := by decide +kernel
theorem dX9_field_78 : decode cX9_field 78 = .ok (.bipush 6, 2) := by decide +kernel
theorem dX9_field_80 : decode cX9_field 80 = .ok (.invokevirtual 76, 3) := by decide +kernel
theorem dX9_field_83 : decode cX9_field 83 = .ok (.invokevirtual 85, 3) := by decide +kernel
theorem dX9_field_86 : decode cX9_field 86 = .ok (.ireturn, 1) := by decide +kernel
theorem dX9_field_87 : decode cX9_field 87 = .ok (.iload_n 1, 1) := by decide +kernel
theorem dX9_field_88 : decode cX9_field 88 = .ok (.bipush 6, 2) := by decide +kernel
theorem dX9_field_90 : decode cX9_field 90 = .ok (.if_icmp .ne 8, 3) := by decide +kernel
theorem dX9_field_93 : decode cX9_field 93 = .ok (.bipush (-4), 2) := by decide +kernel
theorem dX9_field_95 : decode cX9_field 95 = .ok (.goto 14, 3) := by decide +kernel
theorem dX9_field_98 : decode cX9_field 98 = .ok (.aload_n 0, 1) := by decide +kernel
theorem dX9_field_99 : decode cX9_field 99 = .ok (.getfield 7, 3) := by decide +kernel
theorem dX9_field_102 : decode cX9_field 102 = .ok (.iload_n 1, 1) := by decide +kernel
theorem dX9_field_103 : decode cX9_field 103 = .ok (.invokestatic 60, 3) := by decide +kernel
theorem dX9_field_106 : decode cX9_field 106 = .ok (.iconst 1, 1) := by decide +kernel
theorem dX9_field_107 : decode cX9_field 107 = .ok (.iadd, 1) := by decide +kernel
theorem dX9_field_108 : decode cX9_field 108 = .ok (.iaload, 1) := by decide +kernel
theorem dX9_field_109 : decode cX9_field 109 = .ok (.ireturn, 1) := by decide +kernel
theorem dX9_field_110 : decode cX9_field 110 = .ok (.aload_n 0, 1) := by decide +kernel
theorem dX9_field_111 : decode cX9_field 111 = .ok (.iload_n 1, 1) := by decide +kernel
theorem dX9_field_112 : decode cX9_field 112 = .ok (.invokevirtual 88, 3) := by decide +kernel
theorem dX9_field_115 : decode cX9_field 115 = .ok (.ireturn, 1) := by decide +kernel
theorem dX9_field_116 : decode cX9_field 116 = .ok (.aload_n 0, 1) := by decide +kernel
theorem dX9_field_117 : decode cX9_field 117 = .ok (.iload_n 1, 1) := by decide +kernel
theorem dX9_field_118 : decode cX9_field 118 = .ok (.invokevirtual 91, 3) := by decide +kernel
theorem dX9_field_121 : decode cX9_field 121 = .ok (.ireturn, 1) := by decide +kernel
theorem dX9_isSetting_0 : decode cX9_isSetting 0 = .ok (.iload_n 0, 1) := by decide +kernel
theorem dX9_isSetting_1 : decode cX9_isSetting 1 = .ok (.lookupswitch 42 #[(0, 27), (1, 35)], 27) := by decide +kernel
theorem dX9_isSetting_28 : decode cX9_isSetting 28 = .ok (.iload_n 1, 1) := by decide +kernel
theorem dX9_isSetting_29 : decode cX9_isSetting 29 = .ok (.iconst 1, 1) := by decide +kernel
theorem dX9_isSetting_30 : decode cX9_isSetting 30 = .ok (.bipush 10, 2) := by decide +kernel
theorem dX9_isSetting_32 : decode cX9_isSetting 32 = .ok (.invokestatic 32, 3) := by decide +kernel
theorem dX9_isSetting_35 : decode cX9_isSetting 35 = .ok (.ireturn, 1) := by decide +kernel
theorem dX9_isSetting_36 : decode cX9_isSetting 36 = .ok (.iload_n 1, 1) := by decide +kernel
theorem dX9_isSetting_37 : decode cX9_isSetting 37 = .ok (.iconst 0, 1) := by decide +kernel
theorem dX9_isSetting_38 : decode cX9_isSetting 38 = .ok (.iconst 5, 1) := by decide +kernel
theorem dX9_isSetting_39 : decode cX9_isSetting 39 = .ok (.invokestatic 32, 3) := by decide +kernel
theorem dX9_isSetting_42 : decode cX9_isSetting 42 = .ok (.ireturn, 1) := by decide +kernel
theorem dX9_isSetting_43 : decode cX9_isSetting 43 = .ok (.iload_n 0, 1) := by decide +kernel
theorem dX9_isSetting_44 : decode cX9_isSetting 44 = .ok (.iconst 2, 1) := by decide +kernel
theorem dX9_isSetting_45 : decode cX9_isSetting 45 = .ok (.if_icmp .ne 18, 3) := by decide +kernel
theorem dX9_isSetting_48 : decode cX9_isSetting 48 = .ok (.iload_n 1, 1) := by decide +kernel
theorem dX9_isSetting_49 : decode cX9_isSetting 49 = .ok (.iconst 0, 1) := by decide +kernel
theorem dX9_isSetting_50 : decode cX9_isSetting 50 = .ok (.sipush 400, 3) := by decide +kernel
theorem dX9_isSetting_53 : decode cX9_isSetting 53 = .ok (.invokestatic 32, 3) := by decide +kernel
theorem dX9_isSetting_56 : decode cX9_isSetting 56 = .ok (.ifCond .eq 7, 3) := by decide +kernel
theorem dX9_isSetting_59 : decode cX9_isSetting 59 = .ok (.iconst 1, 1) := by decide +kernel
theorem dX9_isSetting_60 : decode cX9_isSetting 60 = .ok (.goto 4, 3) := by decide +kernel
theorem dX9_isSetting_63 : decode cX9_isSetting 63 = .ok (.iconst 0, 1) := by decide +kernel
theorem dX9_isSetting_64 : decode cX9_isSetting 64 = .ok (.ireturn, 1) := by decide +kernel
theorem dX9_set_0 : decode cX9_set 0 = .ok (.iload_n 1, 1) := by decide +kernel
theorem dX9_set_1 : decode cX9_set 1 = .ok (.iload_n 2, 1) := by decide +kernel
theorem dX9_set_2 : decode cX9_set 2 = .ok (.invokestatic 94, 3) := by decide +kernel
theorem dX9_set_5 : decode cX9_set 5 = .ok (.ifCond .ne 5, 3) := by decide +kernel
theorem dX9_set_8 : decode cX9_set 8 = .ok (.iconst (-1), 1) := by decide +kernel
theorem dX9_set_9 : decode cX9_set 9 = .ok (.ireturn, 1) := by decide +kernel
theorem dX9_set_10 : decode cX9_set 10 = .ok (.aload_n 0, 1) := by decide +kernel
theorem dX9_set_11 : decode cX9_set 11 = .ok (.invokevirtual 36, 3) := by decide +kernel
theorem dX9_set_14 : decode cX9_set 14 = .ok (.aload_n 0, 1) := by decide +kernel
theorem dX9_set_15 : decode cX9_set 15 = .ok (.getfield 7, 3) := by decide +kernel
theorem dX9_set_18 : decode cX9_set 18 = .ok (.bipush 114, 2) := by decide +kernel
theorem dX9_set_20 : decode cX9_set 20 = .ok (.iload_n 1, 1) := by decide +kernel
theorem dX9_set_21 : decode cX9_set 21 = .ok (.iadd, 1) := by decide +kernel
theorem dX9_set_22 : decode cX9_set 22 = .ok (.iaload, 1) := by decide +kernel
theorem dX9_set_23 : decode cX9_set 23 = .ok (.istore_n 3, 1) := by decide +kernel
theorem dX9_set_24 : decode cX9_set 24 = .ok (.aload_n 0, 1) := by decide +kernel
theorem dX9_set_25 : decode cX9_set 25 = .ok (.getfield 7, 3) := by decide +kernel
theorem dX9_set_28 : decode cX9_set 28 = .ok (.bipush 114, 2) := by decide +kernel
theorem dX9_set_30 : decode cX9_set 30 = .ok (.iload_n 1, 1) := by decide +kernel
theorem dX9_set_31 : decode cX9_set 31 = .ok (.iadd, 1) := by decide +kernel
theorem dX9_set_32 : decode cX9_set 32 = .ok (.iload_n 2, 1) := by decide +kernel
theorem dX9_set_33 : decode cX9_set 33 = .ok (.iastore, 1) := by decide +kernel
theorem dX9_set_34 : decode cX9_set 34 = .ok (.iload_n 3, 1) := by decide +kernel
theorem dX9_set_35 : decode cX9_set 35 = .ok (.ireturn, 1) := by decide +kernel
theorem dX9_crackedOnes_0 : decode cX9_crackedOnes 0 = .ok (.iconst 0, 1) := by decide +kernel
theorem dX9_crackedOnes_1 : decode cX9_crackedOnes 1 = .ok (.istore_n 1, 1) := by decide +kernel
theorem dX9_crackedOnes_2 : decode cX9_crackedOnes 2 = .ok (.iconst 0, 1) := by decide +kernel
theorem dX9_crackedOnes_3 : decode cX9_crackedOnes 3 = .ok (.istore_n 2, 1) := by decide +kernel
theorem dX9_crackedOnes_4 : decode cX9_crackedOnes 4 = .ok (.iload_n 2, 1) := by decide +kernel
theorem dX9_crackedOnes_5 : decode cX9_crackedOnes 5 = .ok (.bipush 6, 2) := by decide +kernel
theorem dX9_crackedOnes_7 : decode cX9_crackedOnes 7 = .ok (.if_icmp .ge 23, 3) := by decide +kernel
theorem dX9_crackedOnes_10 : decode cX9_crackedOnes 10 = .ok (.iload_n 1, 1) := by decide +kernel
theorem dX9_crackedOnes_11 : decode cX9_crackedOnes 11 = .ok (.aload_n 0, 1) := by decide +kernel
theorem dX9_crackedOnes_12 : decode cX9_crackedOnes 12 = .ok (.getfield 7, 3) := by decide +kernel
theorem dX9_crackedOnes_15 : decode cX9_crackedOnes 15 = .ok (.iload_n 2, 1) := by decide +kernel
theorem dX9_crackedOnes_16 : decode cX9_crackedOnes 16 = .ok (.invokestatic 60, 3) := by decide +kernel
theorem dX9_crackedOnes_19 : decode cX9_crackedOnes 19 = .ok (.iconst 1, 1) := by decide +kernel
theorem dX9_crackedOnes_20 : decode cX9_crackedOnes 20 = .ok (.iadd, 1) := by decide +kernel
theorem dX9_crackedOnes_21 : decode cX9_crackedOnes 21 = .ok (.iaload, 1) := by decide +kernel
theorem dX9_crackedOnes_22 : decode cX9_crackedOnes 22 = .ok (.iadd, 1) := by decide +kernel
theorem dX9_crackedOnes_23 : decode cX9_crackedOnes 23 = .ok (.istore_n 1, 1) := by decide +kernel
theorem dX9_crackedOnes_24 : decode cX9_crackedOnes 24 = .ok (.iinc 2 1, 3) := by decide +kernel
theorem dX9_crackedOnes_27 : decode cX9_crackedOnes 27 = .ok (.goto (-23), 3) := by decide +kernel
theorem dX9_crackedOnes_30 : decode cX9_crackedOnes 30 = .ok (.iload_n 1, 1) := by decide +kernel
theorem dX9_crackedOnes_31 : decode cX9_crackedOnes 31 = .ok (.ireturn, 1) := by decide +kernel
theorem dX9_wishedOnes_0 : decode cX9_wishedOnes 0 = .ok (.iconst 0, 1) := by decide +kernel
theorem dX9_wishedOnes_1 : decode cX9_wishedOnes 1 = .ok (.istore_n 1, 1) := by decide +kernel
theorem dX9_wishedOnes_2 : decode cX9_wishedOnes 2 = .ok (.iconst 0, 1) := by decide +kernel
theorem dX9_wishedOnes_3 : decode cX9_wishedOnes 3 = .ok (.istore_n 2, 1) := by decide +kernel
theorem dX9_wishedOnes_4 : decode cX9_wishedOnes 4 = .ok (.iload_n 2, 1) := by decide +kernel
theorem dX9_wishedOnes_5 : decode cX9_wishedOnes 5 = .ok (.bipush 6, 2) := by decide +kernel
theorem dX9_wishedOnes_7 : decode cX9_wishedOnes 7 = .ok (.if_icmp .ge 23, 3) := by decide +kernel
theorem dX9_wishedOnes_10 : decode cX9_wishedOnes 10 = .ok (.iload_n 1, 1) := by decide +kernel
theorem dX9_wishedOnes_11 : decode cX9_wishedOnes 11 = .ok (.aload_n 0, 1) := by decide +kernel
theorem dX9_wishedOnes_12 : decode cX9_wishedOnes 12 = .ok (.getfield 7, 3) := by decide +kernel
theorem dX9_wishedOnes_15 : decode cX9_wishedOnes 15 = .ok (.bipush 126, 2) := by decide +kernel
theorem dX9_wishedOnes_17 : decode cX9_wishedOnes 17 = .ok (.iconst 4, 1) := by decide +kernel
theorem dX9_wishedOnes_18 : decode cX9_wishedOnes 18 = .ok (.iload_n 2, 1) := by decide +kernel
theorem dX9_wishedOnes_19 : decode cX9_wishedOnes 19 = .ok (.imul, 1) := by decide +kernel
theorem dX9_wishedOnes_20 : decode cX9_wishedOnes 20 = .ok (.iadd, 1) := by decide +kernel
theorem dX9_wishedOnes_21 : decode cX9_wishedOnes 21 = .ok (.iaload, 1) := by decide +kernel
theorem dX9_wishedOnes_22 : decode cX9_wishedOnes 22 = .ok (.iadd, 1) := by decide +kernel
theorem dX9_wishedOnes_23 : decode cX9_wishedOnes 23 = .ok (.istore_n 1, 1) := by decide +kernel
theorem dX9_wishedOnes_24 : decode cX9_wishedOnes 24 = .ok (.iinc 2 1, 3) := by decide +kernel
theorem dX9_wishedOnes_27 : decode cX9_wishedOnes 27 = .ok (.goto (-23), 3) := by decide +kernel
theorem dX9_wishedOnes_30 : decode cX9_wishedOnes 30 = .ok (.iload_n 1, 1) := by decide +kernel
theorem dX9_wishedOnes_31 : decode cX9_wishedOnes 31 = .ok (.ireturn, 1) := by decide +kernel
theorem dX9_count_0 : decode cX9_count 0 = .ok (.iload_n 1, 1) := by decide +kernel
theorem dX9_count_1 : decode cX9_count 1 = .ok (.iconst 2, 1) := by decide +kernel
theorem dX9_count_2 : decode cX9_count 2 = .ok (.bipush 6, 2) := by decide +kernel
theorem dX9_count_4 : decode cX9_count 4 = .ok (.invokestatic 32, 3) := by decide +kernel
theorem dX9_count_7 : decode cX9_count 7 = .ok (.ifCond .eq 14, 3) := by decide +kernel
theorem dX9_count_10 : decode cX9_count 10 = .ok (.aload_n 0, 1) := by decide +kernel
theorem dX9_count_11 : decode cX9_count 11 = .ok (.iload_n 1, 1) := by decide +kernel
theorem dX9_count_12 : decode cX9_count 12 = .ok (.iconst 2, 1) := by decide +kernel
theorem dX9_count_13 : decode cX9_count 13 = .ok (.isub, 1) := by decide +kernel
end
section
theorem dX9_count_14 : decode cX9_count 14 = .ok (.iload_n 1, 1) := by decide +kernel
theorem dX9_count_15 : decode cX9_count 15 = .ok (.iconst 2, 1) := by decide +kernel
theorem dX9_count_16 : decode cX9_count 16 = .ok (.isub, 1) := by decide +kernel
theorem dX9_count_17 : decode cX9_count 17 = .ok (.invokevirtual 73, 3) := by decide +kernel
theorem dX9_count_20 : decode cX9_count 20 = .ok (.ireturn, 1) := by decide +kernel
theorem dX9_count_21 : decode cX9_count 21 = .ok (.iload_n 1, 1) := by decide +kernel
theorem dX9_count_22 : decode cX9_count 22 = .ok (.bipush 8, 2) := by decide +kernel
theorem dX9_count_24 : decode cX9_count 24 = .ok (.bipush 10, 2) := by decide +kernel
theorem dX9_count_26 : decode cX9_count 26 = .ok (.invokestatic 32, 3) := by decide +kernel
theorem dX9_count_29 : decode cX9_count 29 = .ok (.ifCond .eq 16, 3) := by decide +kernel
theorem dX9_count_32 : decode cX9_count 32 = .ok (.aload_n 0, 1) := by decide +kernel
theorem dX9_count_33 : decode cX9_count 33 = .ok (.getfield 7, 3) := by decide +kernel
theorem dX9_count_36 : decode cX9_count 36 = .ok (.bipush 114, 2) := by decide +kernel
theorem dX9_count_38 : decode cX9_count 38 = .ok (.iload_n 1, 1) := by decide +kernel
theorem dX9_count_39 : decode cX9_count 39 = .ok (.iadd, 1) := by decide +kernel
theorem dX9_count_40 : decode cX9_count 40 = .ok (.bipush 8, 2) := by decide +kernel
theorem dX9_count_42 : decode cX9_count 42 = .ok (.isub, 1) := by decide +kernel
theorem dX9_count_43 : decode cX9_count 43 = .ok (.iaload, 1) := by decide +kernel
theorem dX9_count_44 : decode cX9_count 44 = .ok (.ireturn, 1) := by decide +kernel
theorem dX9_count_45 : decode cX9_count 45 = .ok (.iload_n 1, 1) := by decide +kernel
theorem dX9_count_46 : decode cX9_count 46 = .ok (.bipush 11, 2) := by decide +kernel
theorem dX9_count_48 : decode cX9_count 48 = .ok (.bipush 19, 2) := by decide +kernel
theorem dX9_count_50 : decode cX9_count 50 = .ok (.invokestatic 32, 3) := by decide +kernel
theorem dX9_count_53 : decode cX9_count 53 = .ok (.ifCond .eq 16, 3) := by decide +kernel
theorem dX9_count_56 : decode cX9_count 56 = .ok (.aload_n 0, 1) := by decide +kernel
theorem dX9_count_57 : decode cX9_count 57 = .ok (.getfield 7, 3) := by decide +kernel
theorem dX9_count_60 : decode cX9_count 60 = .ok (.bipush 117, 2) := by decide +kernel
theorem dX9_count_62 : decode cX9_count 62 = .ok (.iload_n 1, 1) := by decide +kernel
theorem dX9_count_63 : decode cX9_count 63 = .ok (.iadd, 1) := by decide +kernel
theorem dX9_count_64 : decode cX9_count 64 = .ok (.bipush 11, 2) := by decide +kernel
theorem dX9_count_66 : decode cX9_count 66 = .ok (.isub, 1) := by decide +kernel
theorem dX9_count_67 : decode cX9_count 67 = .ok (.iaload, 1) := by decide +kernel
theorem dX9_count_68 : decode cX9_count 68 = .ok (.ireturn, 1) := by decide +kernel
theorem dX9_count_69 : decode cX9_count 69 = .ok (.iload_n 1, 1) := by decide +kernel
theorem dX9_count_70 : decode cX9_count 70 = .ok (.lookupswitch 92 #[(0, 58), (1, 65), (7, 72), (20, 77), (21, 82), (22, 87)], 58) := by decide +kernel
theorem dX9_count_128 : decode cX9_count 128 = .ok (.aload_n 0, 1) := by decide +kernel
theorem dX9_count_129 : decode cX9_count 129 = .ok (.getfield 7, 3) := by decide +kernel
theorem dX9_count_132 : decode cX9_count 132 = .ok (.iconst 0, 1) := by decide +kernel
theorem dX9_count_133 : decode cX9_count 133 = .ok (.iaload, 1) := by decide +kernel
theorem dX9_count_134 : decode cX9_count 134 = .ok (.ireturn, 1) := by decide +kernel
theorem dX9_count_135 : decode cX9_count 135 = .ok (.aload_n 0, 1) := by decide +kernel
theorem dX9_count_136 : decode cX9_count 136 = .ok (.iconst 0, 1) := by decide +kernel
theorem dX9_count_137 : decode cX9_count 137 = .ok (.iconst 4, 1) := by decide +kernel
theorem dX9_count_138 : decode cX9_count 138 = .ok (.invokevirtual 73, 3) := by decide +kernel
theorem dX9_count_141 : decode cX9_count 141 = .ok (.ireturn, 1) := by decide +kernel
theorem dX9_count_142 : decode cX9_count 142 = .ok (.aload_n 0, 1) := by decide +kernel
theorem dX9_count_143 : decode cX9_count 143 = .ok (.invokevirtual 98, 3) := by decide +kernel
theorem dX9_count_146 : decode cX9_count 146 = .ok (.ireturn, 1) := by decide +kernel
theorem dX9_count_147 : decode cX9_count 147 = .ok (.aload_n 0, 1) := by decide +kernel
theorem dX9_count_148 : decode cX9_count 148 = .ok (.invokevirtual 102, 3) := by decide +kernel
theorem dX9_count_151 : decode cX9_count 151 = .ok (.ireturn, 1) := by decide +kernel
theorem dX9_count_152 : decode cX9_count 152 = .ok (.aload_n 0, 1) := by decide +kernel
theorem dX9_count_153 : decode cX9_count 153 = .ok (.getfield 28, 3) := by decide +kernel
theorem dX9_count_156 : decode cX9_count 156 = .ok (.ireturn, 1) := by decide +kernel
theorem dX9_count_157 : decode cX9_count 157 = .ok (.aload_n 0, 1) := by decide +kernel
theorem dX9_count_158 : decode cX9_count 158 = .ok (.getfield 105, 3) := by decide +kernel
theorem dX9_count_161 : decode cX9_count 161 = .ok (.ireturn, 1) := by decide +kernel
theorem dX9_count_162 : decode cX9_count 162 = .ok (.iconst (-1), 1) := by decide +kernel
theorem dX9_count_163 : decode cX9_count 163 = .ok (.ireturn, 1) := by decide +kernel
theorem dX9_becomes_0 : decode cX9_becomes 0 = .ok (.aload_n 0, 1) := by decide +kernel
theorem dX9_becomes_1 : decode cX9_becomes 1 = .ok (.getfield 7, 3) := by decide +kernel
theorem dX9_becomes_4 : decode cX9_becomes 4 = .ok (.iload_n 1, 1) := by decide +kernel
theorem dX9_becomes_5 : decode cX9_becomes 5 = .ok (.iaload, 1) := by decide +kernel
theorem dX9_becomes_6 : decode cX9_becomes 6 = .ok (.istore 4, 2) := by decide +kernel
theorem dX9_becomes_8 : decode cX9_becomes 8 = .ok (.aload_n 0, 1) := by decide +kernel
theorem dX9_becomes_9 : decode cX9_becomes 9 = .ok (.getfield 7, 3) := by decide +kernel
theorem dX9_becomes_12 : decode cX9_becomes 12 = .ok (.iload_n 1, 1) := by decide +kernel
theorem dX9_becomes_13 : decode cX9_becomes 13 = .ok (.iconst 1, 1) := by decide +kernel
theorem dX9_becomes_14 : decode cX9_becomes 14 = .ok (.iadd, 1) := by decide +kernel
theorem dX9_becomes_15 : decode cX9_becomes 15 = .ok (.iaload, 1) := by decide +kernel
theorem dX9_becomes_16 : decode cX9_becomes 16 = .ok (.istore 5, 2) := by decide +kernel
theorem dX9_becomes_18 : decode cX9_becomes 18 = .ok (.iload 5, 2) := by decide +kernel
theorem dX9_becomes_20 : decode cX9_becomes 20 = .ok (.iconst 4, 1) := by decide +kernel
theorem dX9_becomes_21 : decode cX9_becomes 21 = .ok (.if_icmp .ne 5, 3) := by decide +kernel
theorem dX9_becomes_24 : decode cX9_becomes 24 = .ok (.iconst 0, 1) := by decide +kernel
theorem dX9_becomes_25 : decode cX9_becomes 25 = .ok (.ireturn, 1) := by decide +kernel
theorem dX9_becomes_26 : decode cX9_becomes 26 = .ok (.iload_n 2, 1) := by decide +kernel
theorem dX9_becomes_27 : decode cX9_becomes 27 = .ok (.aload_n 0, 1) := by decide +kernel
theorem dX9_becomes_28 : decode cX9_becomes 28 = .ok (.iload 4, 2) := by decide +kernel
theorem dX9_becomes_30 : decode cX9_becomes 30 = .ok (.invokevirtual 82, 3) := by decide +kernel
theorem dX9_becomes_33 : decode cX9_becomes 33 = .ok (.if_icmp .le 25, 3) := by decide +kernel
theorem dX9_becomes_36 : decode cX9_becomes 36 = .ok (.aload_n 0, 1) := by decide +kernel
theorem dX9_becomes_37 : decode cX9_becomes 37 = .ok (.getfield 7, 3) := by decide +kernel
theorem dX9_becomes_40 : decode cX9_becomes 40 = .ok (.iload_n 1, 1) := by decide +kernel
theorem dX9_becomes_41 : decode cX9_becomes 41 = .ok (.iconst 1, 1) := by decide +kernel
theorem dX9_becomes_42 : decode cX9_becomes 42 = .ok (.iadd, 1) := by decide +kernel
theorem dX9_becomes_43 : decode cX9_becomes 43 = .ok (.iconst 4, 1) := by decide +kernel
theorem dX9_becomes_44 : decode cX9_becomes 44 = .ok (.iastore, 1) := by decide +kernel
theorem dX9_becomes_45 : decode cX9_becomes 45 = .ok (.aload_n 0, 1) := by decide +kernel
theorem dX9_becomes_46 : decode cX9_becomes 46 = .ok (.getfield 7, 3) := by decide +kernel
theorem dX9_becomes_49 : decode cX9_becomes 49 = .ok (.bipush 123, 2) := by decide +kernel
theorem dX9_becomes_51 : decode cX9_becomes 51 = .ok (.dup2, 1) := by decide +kernel
theorem dX9_becomes_52 : decode cX9_becomes 52 = .ok (.iaload, 1) := by decide +kernel
theorem dX9_becomes_53 : decode cX9_becomes 53 = .ok (.iconst 1, 1) := by decide +kernel
theorem dX9_becomes_54 : decode cX9_becomes 54 = .ok (.iadd, 1) := by decide +kernel
theorem dX9_becomes_55 : decode cX9_becomes 55 = .ok (.iastore, 1) := by decide +kernel
theorem dX9_becomes_56 : decode cX9_becomes 56 = .ok (.iconst 0, 1) := by decide +kernel
theorem dX9_becomes_57 : decode cX9_becomes 57 = .ok (.ireturn, 1) := by decide +kernel
theorem dX9_becomes_58 : decode cX9_becomes 58 = .ok (.iload 5, 2) := by decide +kernel
theorem dX9_becomes_60 : decode cX9_becomes 60 = .ok (.ifCond .eq 9, 3) := by decide +kernel
theorem dX9_becomes_63 : decode cX9_becomes 63 = .ok (.iload 5, 2) := by decide +kernel
theorem dX9_becomes_65 : decode cX9_becomes 65 = .ok (.iconst 1, 1) := by decide +kernel
theorem dX9_becomes_66 : decode cX9_becomes 66 = .ok (.if_icmp .ne 90, 3) := by decide +kernel
theorem dX9_becomes_69 : decode cX9_becomes 69 = .ok (.iload_n 2, 1) := by decide +kernel
theorem dX9_becomes_70 : decode cX9_becomes 70 = .ok (.aload_n 0, 1) := by decide +kernel
theorem dX9_becomes_71 : decode cX9_becomes 71 = .ok (.iload 4, 2) := by decide +kernel
theorem dX9_becomes_73 : decode cX9_becomes 73 = .ok (.invokevirtual 79, 3) := by decide +kernel
theorem dX9_becomes_76 : decode cX9_becomes 76 = .ok (.if_icmp .lt 18, 3) := by decide +kernel
theorem dX9_becomes_79 : decode cX9_becomes 79 = .ok (.iload_n 3, 1) := by decide +kernel
theorem dX9_becomes_80 : decode cX9_becomes 80 = .ok (.aload_n 0, 1) := by decide +kernel
theorem dX9_becomes_81 : decode cX9_becomes 81 = .ok (.getfield 7, 3) := by decide +kernel
theorem dX9_becomes_84 : decode cX9_becomes 84 = .ok (.bipush 114, 2) := by decide +kernel
theorem dX9_becomes_86 : decode cX9_becomes 86 = .ok (.iaload, 1) := by decide +kernel
theorem dX9_becomes_87 : decode cX9_becomes 87 = .ok (.if_icmp .lt 7, 3) := by decide +kernel
theorem dX9_becomes_90 : decode cX9_becomes 90 = .ok (.iconst 1, 1) := by decide +kernel
theorem dX9_becomes_91 : decode cX9_becomes 91 = .ok (.goto 4, 3) := by decide +kernel
theorem dX9_becomes_94 : decode cX9_becomes 94 = .ok (.iconst 0, 1) := by decide +kernel
theorem dX9_becomes_95 : decode cX9_becomes 95 = .ok (.istore 6, 2) := by decide +kernel
theorem dX9_becomes_97 : decode cX9_becomes 97 = .ok (.aload_n 0, 1) := by decide +kernel
theorem dX9_becomes_98 : decode cX9_becomes 98 = .ok (.getfield 7, 3) := by decide +kernel
theorem dX9_becomes_101 : decode cX9_becomes 101 = .ok (.iload_n 1, 1) := by decide +kernel
theorem dX9_becomes_102 : decode cX9_becomes 102 = .ok (.iconst 1, 1) := by decide +kernel
theorem dX9_becomes_103 : decode cX9_becomes 103 = .ok (.iadd, 1) := by decide +kernel
theorem dX9_becomes_104 : decode cX9_becomes 104 = .ok (.iload 6, 2) := by decide +kernel
theorem dX9_becomes_106 : decode cX9_becomes 106 = .ok (.ifCond .eq 7, 3) := by decide +kernel
theorem dX9_becomes_109 : decode cX9_becomes 109 = .ok (.iconst 2, 1) := by decide +kernel
theorem dX9_becomes_110 : decode cX9_becomes 110 = .ok (.goto 22, 3) := by decide +kernel
theorem dX9_becomes_113 : decode cX9_becomes 113 = .ok (.iload_n 2, 1) := by decide +kernel
theorem dX9_becomes_114 : decode cX9_becomes 114 = .ok (.aload_n 0, 1) := by decide +kernel
theorem dX9_becomes_115 : decode cX9_becomes 115 = .ok (.iload 4, 2) := by decide +kernel
theorem dX9_becomes_117 : decode cX9_becomes 117 = .ok (.invokevirtual 79, 3) := by decide +kernel
theorem dX9_becomes_120 : decode cX9_becomes 120 = .ok (.bipush 40, 2) := by decide +kernel
theorem dX9_becomes_122 : decode cX9_becomes 122 = .ok (.isub, 1) := by decide +kernel
theorem dX9_becomes_123 : decode cX9_becomes 123 = .ok (.if_icmp .lt 7, 3) := by decide +kernel
theorem dX9_becomes_126 : decode cX9_becomes 126 = .ok (.iconst 1, 1) := by decide +kernel
theorem dX9_becomes_127 : decode cX9_becomes 127 = .ok (.goto 5, 3) := by decide +kernel
theorem dX9_becomes_130 : decode cX9_becomes 130 = .ok (.iload 5, 2) := by decide +kernel
theorem dX9_becomes_132 : decode cX9_becomes 132 = .ok (.iastore, 1) := by decide +kernel
theorem dX9_becomes_133 : decode cX9_becomes 133 = .ok (.aload_n 0, 1) := by decide +kernel
theorem dX9_becomes_134 : decode cX9_becomes 134 = .ok (.getfield 7, 3) := by decide +kernel
theorem dX9_becomes_137 : decode cX9_becomes 137 = .ok (.bipush 121, 2) := by decide +kernel
theorem dX9_becomes_139 : decode cX9_becomes 139 = .ok (.dup2, 1) := by decide +kernel
theorem dX9_becomes_140 : decode cX9_becomes 140 = .ok (.iaload, 1) := by decide +kernel
theorem dX9_becomes_141 : decode cX9_becomes 141 = .ok (.iload 6, 2) := by decide +kernel
theorem dX9_becomes_143 : decode cX9_becomes 143 = .ok (.ifCond .eq 7, 3) := by decide +kernel
theorem dX9_becomes_146 : decode cX9_becomes 146 = .ok (.iconst 1, 1) := by decide +kernel
theorem dX9_becomes_147 : decode cX9_becomes 147 = .ok (.goto 4, 3) := by decide +kernel
theorem dX9_becomes_150 : decode cX9_becomes 150 = .ok (.iconst 0, 1) := by decide +kernel
theorem dX9_becomes_151 : decode cX9_becomes 151 = .ok (.iadd, 1) := by decide +kernel
theorem dX9_becomes_152 : decode cX9_becomes 152 = .ok (.iastore, 1) := by decide +kernel
theorem dX9_becomes_153 : decode cX9_becomes 153 = .ok (.iload 6, 2) := by decide +kernel
theorem dX9_becomes_155 : decode cX9_becomes 155 = .ok (.ireturn, 1) := by decide +kernel
theorem dX9_becomes_156 : decode cX9_becomes 156 = .ok (.iload_n 2, 1) := by decide +kernel
theorem dX9_becomes_157 : decode cX9_becomes 157 = .ok (.aload_n 0, 1) := by decide +kernel
theorem dX9_becomes_158 : decode cX9_becomes 158 = .ok (.iload 4, 2) := by decide +kernel
theorem dX9_becomes_160 : decode cX9_becomes 160 = .ok (.invokevirtual 79, 3) := by decide +kernel
theorem dX9_becomes_163 : decode cX9_becomes 163 = .ok (.bipush 20, 2) := by decide +kernel
theorem dX9_becomes_165 : decode cX9_becomes 165 = .ok (.isub, 1) := by decide +kernel
theorem dX9_becomes_166 : decode cX9_becomes 166 = .ok (.if_icmp .ge 5, 3) := by decide +kernel
theorem dX9_becomes_169 : decode cX9_becomes 169 = .ok (.iconst 0, 1) := by decide +kernel
theorem dX9_becomes_170 : decode cX9_becomes 170 = .ok (.ireturn, 1) := by decide +kernel
theorem dX9_becomes_171 : decode cX9_becomes 171 = .ok (.aload_n 0, 1) := by decide +kernel
theorem dX9_becomes_172 : decode cX9_becomes 172 = .ok (.getfield 7, 3) := by decide +kernel
theorem dX9_becomes_175 : decode cX9_becomes 175 = .ok (.iload_n 1, 1) := by decide +kernel
theorem dX9_becomes_176 : decode cX9_becomes 176 = .ok (.iconst 2, 1) := by decide +kernel
theorem dX9_becomes_177 : decode cX9_becomes 177 = .ok (.iadd, 1) := by decide +kernel
theorem dX9_becomes_178 : decode cX9_becomes 178 = .ok (.dup2, 1) := by decide +kernel
theorem dX9_becomes_179 : decode cX9_becomes 179 = .ok (.iaload, 1) := by decide +kernel
theorem dX9_becomes_180 : decode cX9_becomes 180 = .ok (.iconst 1, 1) := by decide +kernel
theorem dX9_becomes_181 : decode cX9_becomes 181 = .ok (.iadd, 1) := by decide +kernel
theorem dX9_becomes_182 : decode cX9_becomes 182 = .ok (.iastore, 1) := by decide +kernel
theorem dX9_becomes_183 : decode cX9_becomes 183 = .ok (.aload_n 0, 1) := by decide +kernel
theorem dX9_becomes_184 : decode cX9_becomes 184 = .ok (.getfield 7, 3) := by decide +kernel
theorem dX9_becomes_187 : decode cX9_becomes 187 = .ok (.iload_n 1, 1) := by decide +kernel
theorem dX9_becomes_188 : decode cX9_becomes 188 = .ok (.iconst 2, 1) := by decide +kernel
theorem dX9_becomes_189 : decode cX9_becomes 189 = .ok (.iadd, 1) := by decide +kernel
theorem dX9_becomes_190 : decode cX9_becomes 190 = .ok (.iaload, 1) := by decide +kernel
theorem dX9_becomes_191 : decode cX9_becomes 191 = .ok (.aload_n 0, 1) := by decide +kernel
theorem dX9_becomes_192 : decode cX9_becomes 192 = .ok (.getfield 7, 3) := by decide +kernel
theorem dX9_becomes_195 : decode cX9_becomes 195 = .ok (.bipush 115, 2) := by decide +kernel
theorem dX9_becomes_197 : decode cX9_becomes 197 = .ok (.iaload, 1) := by decide +kernel
theorem dX9_becomes_198 : decode cX9_becomes 198 = .ok (.if_icmp .le 33, 3) := by decide +kernel
theorem dX9_becomes_201 : decode cX9_becomes 201 = .ok (.aload_n 0, 1) := by decide +kernel
theorem dX9_becomes_202 : decode cX9_becomes 202 = .ok (.getfield 7, 3) := by decide +kernel
theorem dX9_becomes_205 : decode cX9_becomes 205 = .ok (.bipush 122, 2) := by decide +kernel
theorem dX9_becomes_207 : decode cX9_becomes 207 = .ok (.dup2, 1) := by decide +kernel
theorem dX9_becomes_208 : decode cX9_becomes 208 = .ok (.iaload, 1) := by decide +kernel
theorem dX9_becomes_209 : decode cX9_becomes 209 = .ok (.iload 5, 2) := by decide +kernel
theorem dX9_becomes_211 : decode cX9_becomes 211 = .ok (.iconst 2, 1) := by decide +kernel
theorem dX9_becomes_212 : decode cX9_becomes 212 = .ok (.if_icmp .ne 7, 3) := by decide +kernel
theorem dX9_becomes_215 : decode cX9_becomes 215 = .ok (.iconst 1, 1) := by decide +kernel
theorem dX9_becomes_216 : decode cX9_becomes 216 = .ok (.goto 4, 3) := by decide +kernel
theorem dX9_becomes_219 : decode cX9_becomes 219 = .ok (.iconst 0, 1) := by decide +kernel
theorem dX9_becomes_220 : decode cX9_becomes 220 = .ok (.iadd, 1) := by decide +kernel
theorem dX9_becomes_221 : decode cX9_becomes 221 = .ok (.iastore, 1) := by decide +kernel
theorem dX9_becomes_222 : decode cX9_becomes 222 = .ok (.aload_n 0, 1) := by decide +kernel
theorem dX9_becomes_223 : decode cX9_becomes 223 = .ok (.getfield 7, 3) := by decide +kernel
theorem dX9_becomes_226 : decode cX9_becomes 226 = .ok (.iload_n 1, 1) := by decide +kernel
theorem dX9_becomes_227 : decode cX9_becomes 227 = .ok (.iconst 1, 1) := by decide +kernel
theorem dX9_becomes_228 : decode cX9_becomes 228 = .ok (.iadd, 1) := by decide +kernel
theorem dX9_becomes_229 : decode cX9_becomes 229 = .ok (.iconst 3, 1) := by decide +kernel
theorem dX9_becomes_230 : decode cX9_becomes 230 = .ok (.iastore, 1) := by decide +kernel
theorem dX9_becomes_231 : decode cX9_becomes 231 = .ok (.iconst 1, 1) := by decide +kernel
theorem dX9_becomes_232 : decode cX9_becomes 232 = .ok (.ireturn, 1) := by decide +kernel
theorem dX9_fires_0 : decode cX9_fires 0 = .ok (.aload_n 0, 1) := by decide +kernel
theorem dX9_fires_1 : decode cX9_fires 1 = .ok (.getfield 7, 3) := by decide +kernel
theorem dX9_fires_4 : decode cX9_fires 4 = .ok (.bipush 117, 2) := by decide +kernel
theorem dX9_fires_6 : decode cX9_fires 6 = .ok (.dup2, 1) := by decide +kernel
theorem dX9_fires_7 : decode cX9_fires 7 = .ok (.iaload, 1) := by decide +kernel
theorem dX9_fires_8 : decode cX9_fires 8 = .ok (.iconst 1, 1) := by decide +kernel
theorem dX9_fires_9 : decode cX9_fires 9 = .ok (.iadd, 1) := by decide +kernel
theorem dX9_fires_10 : decode cX9_fires 10 = .ok (.iastore, 1) := by decide +kernel
theorem dX9_fires_11 : decode cX9_fires 11 = .ok (.aload_n 0, 1) := by decide +kernel
theorem dX9_fires_12 : decode cX9_fires 12 = .ok (.getfield 7, 3) := by decide +kernel
theorem dX9_fires_15 : decode cX9_fires 15 = .ok (.bipush 118, 2) := by decide +kernel
theorem dX9_fires_17 : decode cX9_fires 17 = .ok (.dup2, 1) := by decide +kernel
theorem dX9_fires_18 : decode cX9_fires 18 = .ok (.iaload, 1) := by decide +kernel
theorem dX9_fires_19 : decode cX9_fires 19 = .ok (.iload_n 2, 1) := by decide +kernel
theorem dX9_fires_20 : decode cX9_fires 20 = .ok (.iadd, 1) := by decide +kernel
theorem dX9_fires_21 : decode cX9_fires 21 = .ok (.iastore, 1) := by decide +kernel
theorem dX9_fires_22 : decode cX9_fires 22 = .ok (.iconst 0, 1) := by decide +kernel
theorem dX9_fires_23 : decode cX9_fires 23 = .ok (.istore_n 3, 1) := by decide +kernel
theorem dX9_fires_24 : decode cX9_fires 24 = .ok (.iload_n 3, 1) := by decide +kernel
theorem dX9_fires_25 : decode cX9_fires 25 = .ok (.bipush 7, 2) := by decide +kernel
theorem dX9_fires_27 : decode cX9_fires 27 = .ok (.if_icmp .ge 105, 3) := by decide +kernel
theorem dX9_fires_30 : decode cX9_fires 30 = .ok (.iconst 1, 1) := by decide +kernel
theorem dX9_fires_31 : decode cX9_fires 31 = .ok (.istore 4, 2) := by decide +kernel
theorem dX9_fires_33 : decode cX9_fires 33 = .ok (.iconst 0, 1) := by decide +kernel
theorem dX9_fires_34 : decode cX9_fires 34 = .ok (.istore 5, 2) := by decide +kernel
theorem dX9_fires_36 : decode cX9_fires 36 = .ok (.iload 5, 2) := by decide +kernel
theorem dX9_fires_38 : decode cX9_fires 38 = .ok (.aload_n 0, 1) := by decide +kernel
theorem dX9_fires_39 : decode cX9_fires 39 = .ok (.iload_n 3, 1) := by decide +kernel
theorem dX9_fires_40 : decode cX9_fires 40 = .ok (.invokevirtual 39, 3) := by decide +kernel
theorem dX9_fires_43 : decode cX9_fires 43 = .ok (.if_icmp .ge 40, 3) := by decide +kernel
theorem dX9_fires_46 : decode cX9_fires 46 = .ok (.aload_n 0, 1) := by decide +kernel
theorem dX9_fires_47 : decode cX9_fires 47 = .ok (.iload_n 3, 1) := by decide +kernel
theorem dX9_fires_48 : decode cX9_fires 48 = .ok (.iload 5, 2) := by decide +kernel
theorem dX9_fires_50 : decode cX9_fires 50 = .ok (.invokestatic 63, 3) := by decide +kernel
theorem dX9_fires_53 : decode cX9_fires 53 = .ok (.iload_n 1, 1) := by decide +kernel
theorem dX9_fires_54 : decode cX9_fires 54 = .ok (.iload_n 2, 1) := by decide +kernel
theorem dX9_fires_55 : decode cX9_fires 55 = .ok (.invokevirtual 108, 3) := by decide +kernel
theorem dX9_fires_58 : decode cX9_fires 58 = .ok (.istore 6, 2) := by decide +kernel
theorem dX9_fires_60 : decode cX9_fires 60 = .ok (.iload 4, 2) := by decide +kernel
theorem dX9_fires_62 : decode cX9_fires 62 = .ok (.ifCond .eq 12, 3) := by decide +kernel
theorem dX9_fires_65 : decode cX9_fires 65 = .ok (.iload 6, 2) := by decide +kernel
theorem dX9_fires_67 : decode cX9_fires 67 = .ok (.ifCond .eq 7, 3) := by decide +kernel
theorem dX9_fires_70 : decode cX9_fires 70 = .ok (.iconst 1, 1) := by decide +kernel
theorem dX9_fires_71 : decode cX9_fires 71 = .ok (.goto 4, 3) := by decide +kernel
theorem dX9_fires_74 : decode cX9_fires 74 = .ok (.iconst 0, 1) := by decide +kernel
theorem dX9_fires_75 : decode cX9_fires 75 = .ok (.istore 4, 2) := by decide +kernel
theorem dX9_fires_77 : decode cX9_fires 77 = .ok (.iinc 5 1, 3) := by decide +kernel
theorem dX9_fires_80 : decode cX9_fires 80 = .ok (.goto (-44), 3) := by decide +kernel
theorem dX9_fires_83 : decode cX9_fires 83 = .ok (.iload_n 3, 1) := by decide +kernel
theorem dX9_fires_84 : decode cX9_fires 84 = .ok (.invokestatic 60, 3) := by decide +kernel
theorem dX9_fires_87 : decode cX9_fires 87 = .ok (.iconst 1, 1) := by decide +kernel
theorem dX9_fires_88 : decode cX9_fires 88 = .ok (.iadd, 1) := by decide +kernel
theorem dX9_fires_89 : decode cX9_fires 89 = .ok (.istore 5, 2) := by decide +kernel
theorem dX9_fires_91 : decode cX9_fires 91 = .ok (.iload 4, 2) := by decide +kernel
theorem dX9_fires_93 : decode cX9_fires 93 = .ok (.ifCond .eq 33, 3) := by decide +kernel
theorem dX9_fires_96 : decode cX9_fires 96 = .ok (.aload_n 0, 1) := by decide +kernel
theorem dX9_fires_97 : decode cX9_fires 97 = .ok (.getfield 7, 3) := by decide +kernel
theorem dX9_fires_100 : decode cX9_fires 100 = .ok (.iload 5, 2) := by decide +kernel
theorem dX9_fires_102 : decode cX9_fires 102 = .ok (.iaload, 1) := by decide +kernel
theorem dX9_fires_103 : decode cX9_fires 103 = .ok (.iconst 1, 1) := by decide +kernel
theorem dX9_fires_104 : decode cX9_fires 104 = .ok (.if_icmp .ne 22, 3) := by decide +kernel
theorem dX9_fires_107 : decode cX9_fires 107 = .ok (.aload_n 0, 1) := by decide +kernel
theorem dX9_fires_108 : decode cX9_fires 108 = .ok (.getfield 7, 3) := by decide +kernel
theorem dX9_fires_111 : decode cX9_fires 111 = .ok (.iload 5, 2) := by decide +kernel
theorem dX9_fires_113 : decode cX9_fires 113 = .ok (.iconst 0, 1) := by decide +kernel
theorem dX9_fires_114 : decode cX9_fires 114 = .ok (.iastore, 1) := by decide +kernel
theorem dX9_fires_115 : decode cX9_fires 115 = .ok (.aload_n 0, 1) := by decide +kernel
theorem dX9_fires_116 : decode cX9_fires 116 = .ok (.getfield 7, 3) := by decide +kernel
theorem dX9_fires_119 : decode cX9_fires 119 = .ok (.bipush 125, 2) := by decide +kernel
theorem dX9_fires_121 : decode cX9_fires 121 = .ok (.dup2, 1) := by decide +kernel
theorem dX9_fires_122 : decode cX9_fires 122 = .ok (.iaload, 1) := by decide +kernel
theorem dX9_fires_123 : decode cX9_fires 123 = .ok (.iconst 1, 1) := by decide +kernel
theorem dX9_fires_124 : decode cX9_fires 124 = .ok (.iadd, 1) := by decide +kernel
theorem dX9_fires_125 : decode cX9_fires 125 = .ok (.iastore, 1) := by decide +kernel
theorem dX9_fires_126 : decode cX9_fires 126 = .ok (.iinc 3 1, 3) := by decide +kernel
theorem dX9_fires_129 : decode cX9_fires 129 = .ok (.goto (-105), 3) := by decide +kernel
theorem dX9_fires_132 : decode cX9_fires 132 = .ok (.aload_n 0, 1) := by decide +kernel
theorem dX9_fires_133 : decode cX9_fires 133 = .ok (.bipush 6, 2) := by decide +kernel
theorem dX9_fires_135 : decode cX9_fires 135 = .ok (.invokevirtual 76, 3) := by decide +kernel
theorem dX9_fires_138 : decode cX9_fires 138 = .ok (.istore_n 3, 1) := by decide +kernel
theorem dX9_fires_139 : decode cX9_fires 139 = .ok (.iconst 0, 1) := by decide +kernel
theorem dX9_fires_140 : decode cX9_fires 140 = .ok (.istore 4, 2) := by decide +kernel
theorem dX9_fires_142 : decode cX9_fires 142 = .ok (.iload 4, 2) := by decide +kernel
theorem dX9_fires_144 : decode cX9_fires 144 = .ok (.bipush 6, 2) := by decide +kernel
theorem dX9_fires_146 : decode cX9_fires 146 = .ok (.if_icmp .ge 75, 3) := by decide +kernel
theorem dX9_fires_149 : decode cX9_fires 149 = .ok (.iload 4, 2) := by decide +kernel
theorem dX9_fires_151 : decode cX9_fires 151 = .ok (.invokestatic 60, 3) := by decide +kernel
theorem dX9_fires_154 : decode cX9_fires 154 = .ok (.iconst 1, 1) := by decide +kernel
theorem dX9_fires_155 : decode cX9_fires 155 = .ok (.iadd, 1) := by decide +kernel
theorem dX9_fires_156 : decode cX9_fires 156 = .ok (.istore 5, 2) := by decide +kernel
theorem dX9_fires_158 : decode cX9_fires 158 = .ok (.aload_n 0, 1) := by decide +kernel
theorem dX9_fires_159 : decode cX9_fires 159 = .ok (.getfield 7, 3) := by decide +kernel
theorem dX9_fires_162 : decode cX9_fires 162 = .ok (.iload 5, 2) := by decide +kernel
theorem dX9_fires_164 : decode cX9_fires 164 = .ok (.iaload, 1) := by decide +kernel
theorem dX9_fires_165 : decode cX9_fires 165 = .ok (.ifCond .ne 50, 3) := by decide +kernel
theorem dX9_fires_168 : decode cX9_fires 168 = .ok (.aload_n 0, 1) := by decide +kernel
theorem dX9_fires_169 : decode cX9_fires 169 = .ok (.iload 4, 2) := by decide +kernel
theorem dX9_fires_171 : decode cX9_fires 171 = .ok (.iconst 2, 1) := by decide +kernel
theorem dX9_fires_172 : decode cX9_fires 172 = .ok (.iconst 3, 1) := by decide +kernel
theorem dX9_fires_173 : decode cX9_fires 173 = .ok (.invokevirtual 70, 3) := by decide +kernel
theorem dX9_fires_176 : decode cX9_fires 176 = .ok (.ifCond .le 39, 3) := by decide +kernel
theorem dX9_fires_179 : decode cX9_fires 179 = .ok (.aload_n 0, 1) := by decide +kernel
theorem dX9_fires_180 : decode cX9_fires 180 = .ok (.iload 4, 2) := by decide +kernel
theorem dX9_fires_182 : decode cX9_fires 182 = .ok (.iload_n 3, 1) := by decide +kernel
theorem dX9_fires_183 : decode cX9_fires 183 = .ok (.invokevirtual 85, 3) := by decide +kernel
theorem dX9_fires_186 : decode cX9_fires 186 = .ok (.aload_n 0, 1) := by decide +kernel
theorem dX9_fires_187 : decode cX9_fires 187 = .ok (.getfield 7, 3) := by decide +kernel
theorem dX9_fires_190 : decode cX9_fires 190 = .ok (.bipush 116, 2) := by decide +kernel
theorem dX9_fires_192 : decode cX9_fires 192 = .ok (.iaload, 1) := by decide +kernel
theorem dX9_fires_193 : decode cX9_fires 193 = .ok (.if_icmp .le 22, 3) := by decide +kernel
theorem dX9_fires_196 : decode cX9_fires 196 = .ok (.aload_n 0, 1) := by decide +kernel
theorem dX9_fires_197 : decode cX9_fires 197 = .ok (.getfield 7, 3) := by decide +kernel
theorem dX9_fires_200 : decode cX9_fires 200 = .ok (.iload 5, 2) := by decide +kernel
theorem dX9_fires_202 : decode cX9_fires 202 = .ok (.iconst 1, 1) := by decide +kernel
theorem dX9_fires_203 : decode cX9_fires 203 = .ok (.iastore, 1) := by decide +kernel
theorem dX9_fires_204 : decode cX9_fires 204 = .ok (.aload_n 0, 1) := by decide +kernel
theorem dX9_fires_205 : decode cX9_fires 205 = .ok (.getfield 7, 3) := by decide +kernel
theorem dX9_fires_208 : decode cX9_fires 208 = .ok (.bipush 124, 2) := by decide +kernel
theorem dX9_fires_210 : decode cX9_fires 210 = .ok (.dup2, 1) := by decide +kernel
theorem dX9_fires_211 : decode cX9_fires 211 = .ok (.iaload, 1) := by decide +kernel
theorem dX9_fires_212 : decode cX9_fires 212 = .ok (.iconst 1, 1) := by decide +kernel
theorem dX9_fires_213 : decode cX9_fires 213 = .ok (.iadd, 1) := by decide +kernel
theorem dX9_fires_214 : decode cX9_fires 214 = .ok (.iastore, 1) := by decide +kernel
theorem dX9_fires_215 : decode cX9_fires 215 = .ok (.iinc 4 1, 3) := by decide +kernel
theorem dX9_fires_218 : decode cX9_fires 218 = .ok (.goto (-76), 3) := by decide +kernel
theorem dX9_fires_221 : decode cX9_fires 221 = .ok (.return_, 1) := by decide +kernel
theorem dX9_isHeat_0 : decode cX9_isHeat 0 = .ok (.iload_n 0, 1) := by decide +kernel
theorem dX9_isHeat_1 : decode cX9_isHeat 1 = .ok (.sipush 500, 3) := by decide +kernel
theorem dX9_isHeat_4 : decode cX9_isHeat 4 = .ok (.sipush 1200, 3) := by decide +kernel
theorem dX9_isHeat_7 : decode cX9_isHeat 7 = .ok (.invokestatic 32, 3) := by decide +kernel
theorem dX9_isHeat_10 : decode cX9_isHeat 10 = .ok (.ireturn, 1) := by decide +kernel
theorem dX9_fire_0 : decode cX9_fire 0 = .ok (.iload_n 1, 1) := by decide +kernel
theorem dX9_fire_1 : decode cX9_fire 1 = .ok (.invokestatic 111, 3) := by decide +kernel
theorem dX9_fire_4 : decode cX9_fire 4 = .ok (.ifCond .eq 13, 3) := by decide +kernel
theorem dX9_fire_7 : decode cX9_fire 7 = .ok (.iload_n 2, 1) := by decide +kernel
theorem dX9_fire_8 : decode cX9_fire 8 = .ok (.iconst 1, 1) := by decide +kernel
theorem dX9_fire_9 : decode cX9_fire 9 = .ok (.bipush 20, 2) := by decide +kernel
theorem dX9_fire_11 : decode cX9_fire 11 = .ok (.invokestatic 32, 3) := by decide +kernel
theorem dX9_fire_14 : decode cX9_fire 14 = .ok (.ifCond .ne 5, 3) := by decide +kernel
theorem dX9_fire_17 : decode cX9_fire 17 = .ok (.iconst (-1), 1) := by decide +kernel
theorem dX9_fire_18 : decode cX9_fire 18 = .ok (.ireturn, 1) := by decide +kernel
theorem dX9_fire_19 : decode cX9_fire 19 = .ok (.aload_n 0, 1) := by decide +kernel
theorem dX9_fire_20 : decode cX9_fire 20 = .ok (.getfield 7, 3) := by decide +kernel
theorem dX9_fire_23 : decode cX9_fire 23 = .ok (.bipush 117, 2) := by decide +kernel
theorem dX9_fire_25 : decode cX9_fire 25 = .ok (.iaload, 1) := by decide +kernel
theorem dX9_fire_26 : decode cX9_fire 26 = .ok (.sipush 1000, 3) := by decide +kernel
theorem dX9_fire_29 : decode cX9_fire 29 = .ok (.if_icmp .ne 6, 3) := by decide +kernel
theorem dX9_fire_32 : decode cX9_fire 32 = .ok (.bipush (-3), 2) := by decide +kernel
theorem dX9_fire_34 : decode cX9_fire 34 = .ok (.ireturn, 1) := by decide +kernel
theorem dX9_fire_35 : decode cX9_fire 35 = .ok (.aload_n 0, 1) := by decide +kernel
theorem dX9_fire_36 : decode cX9_fire 36 = .ok (.invokevirtual 36, 3) := by decide +kernel
theorem dX9_fire_39 : decode cX9_fire 39 = .ok (.aload_n 0, 1) := by decide +kernel
theorem dX9_fire_40 : decode cX9_fire 40 = .ok (.getfield 7, 3) := by decide +kernel
theorem dX9_fire_43 : decode cX9_fire 43 = .ok (.bipush 121, 2) := by decide +kernel
theorem dX9_fire_45 : decode cX9_fire 45 = .ok (.iaload, 1) := by decide +kernel
theorem dX9_fire_46 : decode cX9_fire 46 = .ok (.istore_n 3, 1) := by decide +kernel
theorem dX9_fire_47 : decode cX9_fire 47 = .ok (.aload_n 0, 1) := by decide +kernel
theorem dX9_fire_48 : decode cX9_fire 48 = .ok (.iload_n 1, 1) := by decide +kernel
theorem dX9_fire_49 : decode cX9_fire 49 = .ok (.iload_n 2, 1) := by decide +kernel
theorem dX9_fire_50 : decode cX9_fire 50 = .ok (.invokevirtual 114, 3) := by decide +kernel
theorem dX9_fire_53 : decode cX9_fire 53 = .ok (.aload_n 0, 1) := by decide +kernel
theorem dX9_fire_54 : decode cX9_fire 54 = .ok (.getfield 7, 3) := by decide +kernel
theorem dX9_fire_57 : decode cX9_fire 57 = .ok (.bipush 121, 2) := by decide +kernel
theorem dX9_fire_59 : decode cX9_fire 59 = .ok (.iaload, 1) := by decide +kernel
theorem dX9_fire_60 : decode cX9_fire 60 = .ok (.iload_n 3, 1) := by decide +kernel
theorem dX9_fire_61 : decode cX9_fire 61 = .ok (.isub, 1) := by decide +kernel
theorem dX9_fire_62 : decode cX9_fire 62 = .ok (.ireturn, 1) := by decide +kernel
theorem dX9_tries_0 : decode cX9_tries 0 = .ok (.iconst 0, 1) := by decide +kernel
theorem dX9_tries_1 : decode cX9_tries 1 = .ok (.istore_n 2, 1) := by decide +kernel
theorem dX9_tries_2 : decode cX9_tries 2 = .ok (.iload_n 2, 1) := by decide +kernel
theorem dX9_tries_3 : decode cX9_tries 3 = .ok (.sipush 150, 3) := by decide +kernel
theorem dX9_tries_6 : decode cX9_tries 6 = .ok (.if_icmp .ge 21, 3) := by decide +kernel
theorem dX9_tries_9 : decode cX9_tries 9 = .ok (.aload_n 0, 1) := by decide +kernel
theorem dX9_tries_10 : decode cX9_tries 10 = .ok (.getfield 16, 3) := by decide +kernel
theorem dX9_tries_13 : decode cX9_tries 13 = .ok (.iload_n 2, 1) := by decide +kernel
theorem dX9_tries_14 : decode cX9_tries 14 = .ok (.aload_n 0, 1) := by decide +kernel
theorem dX9_tries_15 : decode cX9_tries 15 = .ok (.getfield 7, 3) := by decide +kernel
theorem dX9_tries_18 : decode cX9_tries 18 = .ok (.iload_n 2, 1) := by decide +kernel
theorem dX9_tries_19 : decode cX9_tries 19 = .ok (.iaload, 1) := by decide +kernel
theorem dX9_tries_20 : decode cX9_tries 20 = .ok (.iastore, 1) := by decide +kernel
theorem dX9_tries_21 : decode cX9_tries 21 = .ok (.iinc 2 1, 3) := by decide +kernel
theorem dX9_tries_24 : decode cX9_tries 24 = .ok (.goto (-22), 3) := by decide +kernel
theorem dX9_tries_27 : decode cX9_tries 27 = .ok (.aload_n 0, 1) := by decide +kernel
theorem dX9_tries_28 : decode cX9_tries 28 = .ok (.iload_n 1, 1) := by decide +kernel
theorem dX9_tries_29 : decode cX9_tries 29 = .ok (.aload_n 0, 1) := by decide +kernel
theorem dX9_tries_30 : decode cX9_tries 30 = .ok (.getfield 7, 3) := by decide +kernel
theorem dX9_tries_33 : decode cX9_tries 33 = .ok (.bipush 114, 2) := by decide +kernel
theorem dX9_tries_35 : decode cX9_tries 35 = .ok (.iaload, 1) := by decide +kernel
theorem dX9_tries_36 : decode cX9_tries 36 = .ok (.invokevirtual 114, 3) := by decide +kernel
theorem dX9_tries_39 : decode cX9_tries 39 = .ok (.iconst 0, 1) := by decide +kernel
theorem dX9_tries_40 : decode cX9_tries 40 = .ok (.istore_n 2, 1) := by decide +kernel
theorem dX9_tries_41 : decode cX9_tries 41 = .ok (.iload_n 2, 1) := by decide +kernel
theorem dX9_tries_42 : decode cX9_tries 42 = .ok (.iconst 5, 1) := by decide +kernel
theorem dX9_tries_43 : decode cX9_tries 43 = .ok (.if_icmp .ge 71, 3) := by decide +kernel
theorem dX9_tries_46 : decode cX9_tries 46 = .ok (.bipush 117, 2) := by decide +kernel
theorem dX9_tries_48 : decode cX9_tries 48 = .ok (.iload_n 2, 1) := by decide +kernel
theorem dX9_tries_49 : decode cX9_tries 49 = .ok (.ifCond .ne 7, 3) := by decide +kernel
theorem dX9_tries_52 : decode cX9_tries 52 = .ok (.iconst 4, 1) := by decide +kernel
theorem dX9_tries_53 : decode cX9_tries 53 = .ok (.goto 34, 3) := by decide +kernel
theorem dX9_tries_56 : decode cX9_tries 56 = .ok (.iload_n 2, 1) := by decide +kernel
theorem dX9_tries_57 : decode cX9_tries 57 = .ok (.iconst 1, 1) := by decide +kernel
theorem dX9_tries_58 : decode cX9_tries 58 = .ok (.if_icmp .ne 8, 3) := by decide +kernel
theorem dX9_tries_61 : decode cX9_tries 61 = .ok (.bipush 6, 2) := by decide +kernel
theorem dX9_tries_63 : decode cX9_tries 63 = .ok (.goto 24, 3) := by decide +kernel
theorem dX9_tries_66 : decode cX9_tries 66 = .ok (.iload_n 2, 1) := by decide +kernel
theorem dX9_tries_67 : decode cX9_tries 67 = .ok (.iconst 2, 1) := by decide +kernel
theorem dX9_tries_68 : decode cX9_tries 68 = .ok (.if_icmp .ne 7, 3) := by decide +kernel
theorem dX9_tries_71 : decode cX9_tries 71 = .ok (.iconst 5, 1) := by decide +kernel
theorem dX9_tries_72 : decode cX9_tries 72 = .ok (.goto 15, 3) := by decide +kernel
theorem dX9_tries_75 : decode cX9_tries 75 = .ok (.iload_n 2, 1) := by decide +kernel
theorem dX9_tries_76 : decode cX9_tries 76 = .ok (.iconst 3, 1) := by decide +kernel
theorem dX9_tries_77 : decode cX9_tries 77 = .ok (.if_icmp .ne 8, 3) := by decide +kernel
theorem dX9_tries_80 : decode cX9_tries 80 = .ok (.bipush 7, 2) := by decide +kernel
theorem dX9_tries_82 : decode cX9_tries 82 = .ok (.goto 5, 3) := by decide +kernel
theorem dX9_tries_85 : decode cX9_tries 85 = .ok (.bipush 8, 2) := by decide +kernel
theorem dX9_tries_87 : decode cX9_tries 87 = .ok (.iadd, 1) := by decide +kernel
theorem dX9_tries_88 : decode cX9_tries 88 = .ok (.istore_n 3, 1) := by decide +kernel
theorem dX9_tries_89 : decode cX9_tries 89 = .ok (.aload_n 0, 1) := by decide +kernel
theorem dX9_tries_90 : decode cX9_tries 90 = .ok (.getfield 22, 3) := by decide +kernel
theorem dX9_tries_93 : decode cX9_tries 93 = .ok (.iload_n 2, 1) := by decide +kernel
theorem dX9_tries_94 : decode cX9_tries 94 = .ok (.aload_n 0, 1) := by decide +kernel
theorem dX9_tries_95 : decode cX9_tries 95 = .ok (.getfield 7, 3) := by decide +kernel
theorem dX9_tries_98 : decode cX9_tries 98 = .ok (.iload_n 3, 1) := by decide +kernel
theorem dX9_tries_99 : decode cX9_tries 99 = .ok (.iaload, 1) := by decide +kernel
theorem dX9_tries_100 : decode cX9_tries 100 = .ok (.aload_n 0, 1) := by decide +kernel
theorem dX9_tries_101 : decode cX9_tries 101 = .ok (.getfield 16, 3) := by decide +kernel
theorem dX9_tries_104 : decode cX9_tries 104 = .ok (.iload_n 3, 1) := by decide +kernel
theorem dX9_tries_105 : decode cX9_tries 105 = .ok (.iaload, 1) := by decide +kernel
theorem dX9_tries_106 : decode cX9_tries 106 = .ok (.isub, 1) := by decide +kernel
theorem dX9_tries_107 : decode cX9_tries 107 = .ok (.iastore, 1) := by decide +kernel
theorem dX9_tries_108 : decode cX9_tries 108 = .ok (.iinc 2 1, 3) := by decide +kernel
theorem dX9_tries_111 : decode cX9_tries 111 = .ok (.goto (-70), 3) := by decide +kernel
theorem dX9_tries_114 : decode cX9_tries 114 = .ok (.iconst 0, 1) := by decide +kernel
theorem dX9_tries_115 : decode cX9_tries 115 = .ok (.istore_n 2, 1) := by decide +kernel
theorem dX9_tries_116 : decode cX9_tries 116 = .ok (.iload_n 2, 1) := by decide +kernel
theorem dX9_tries_117 : decode cX9_tries 117 = .ok (.sipush 150, 3) := by decide +kernel
theorem dX9_tries_120 : decode cX9_tries 120 = .ok (.if_icmp .ge 21, 3) := by decide +kernel
theorem dX9_tries_123 : decode cX9_tries 123 = .ok (.aload_n 0, 1) := by decide +kernel
theorem dX9_tries_124 : decode cX9_tries 124 = .ok (.getfield 7, 3) := by decide +kernel
theorem dX9_tries_127 : decode cX9_tries 127 = .ok (.iload_n 2, 1) := by decide +kernel
theorem dX9_tries_128 : decode cX9_tries 128 = .ok (.aload_n 0, 1) := by decide +kernel
theorem dX9_tries_129 : decode cX9_tries 129 = .ok (.getfield 16, 3) := by decide +kernel
theorem dX9_tries_132 : decode cX9_tries 132 = .ok (.iload_n 2, 1) := by decide +kernel
theorem dX9_tries_133 : decode cX9_tries 133 = .ok (.iaload, 1) := by decide +kernel
theorem dX9_tries_134 : decode cX9_tries 134 = .ok (.iastore, 1) := by decide +kernel
theorem dX9_tries_135 : decode cX9_tries 135 = .ok (.iinc 2 1, 3) := by decide +kernel
theorem dX9_tries_138 : decode cX9_tries 138 = .ok (.goto (-22), 3) := by decide +kernel
theorem dX9_tries_141 : decode cX9_tries 141 = .ok (.return_, 1) := by decide +kernel
theorem dX9_ifFired_0 : decode cX9_ifFired 0 = .ok (.iload_n 1, 1) := by decide +kernel
theorem dX9_ifFired_1 : decode cX9_ifFired 1 = .ok (.invokestatic 111, 3) := by decide +kernel
theorem dX9_ifFired_4 : decode cX9_ifFired 4 = .ok (.ifCond .eq 12, 3) := by decide +kernel
theorem dX9_ifFired_7 : decode cX9_ifFired 7 = .ok (.iload_n 2, 1) := by decide +kernel
theorem dX9_ifFired_8 : decode cX9_ifFired 8 = .ok (.iconst 0, 1) := by decide +kernel
theorem dX9_ifFired_9 : decode cX9_ifFired 9 = .ok (.iconst 4, 1) := by decide +kernel
theorem dX9_ifFired_10 : decode cX9_ifFired 10 = .ok (.invokestatic 32, 3) := by decide +kernel
theorem dX9_ifFired_13 : decode cX9_ifFired 13 = .ok (.ifCond .ne 5, 3) := by decide +kernel
theorem dX9_ifFired_16 : decode cX9_ifFired 16 = .ok (.iconst (-1), 1) := by decide +kernel
theorem dX9_ifFired_17 : decode cX9_ifFired 17 = .ok (.ireturn, 1) := by decide +kernel
theorem dX9_ifFired_18 : decode cX9_ifFired 18 = .ok (.aload_n 0, 1) := by decide +kernel
theorem dX9_ifFired_19 : decode cX9_ifFired 19 = .ok (.iload_n 1, 1) := by decide +kernel
theorem dX9_ifFired_20 : decode cX9_ifFired 20 = .ok (.invokevirtual 118, 3) := by decide +kernel
theorem dX9_ifFired_23 : decode cX9_ifFired 23 = .ok (.aload_n 0, 1) := by decide +kernel
theorem dX9_ifFired_24 : decode cX9_ifFired 24 = .ok (.getfield 22, 3) := by decide +kernel
theorem dX9_ifFired_27 : decode cX9_ifFired 27 = .ok (.iload_n 2, 1) := by decide +kernel
theorem dX9_ifFired_28 : decode cX9_ifFired 28 = .ok (.iaload, 1) := by decide +kernel
theorem dX9_ifFired_29 : decode cX9_ifFired 29 = .ok (.ireturn, 1) := by decide +kernel
theorem dX9_bestHeat_0 : decode cX9_bestHeat 0 = .ok (.sipush 500, 3) := by decide +kernel
theorem dX9_bestHeat_3 : decode cX9_bestHeat 3 = .ok (.istore_n 1, 1) := by decide +kernel
theorem dX9_bestHeat_4 : decode cX9_bestHeat 4 = .ok (.iconst (-1), 1) := by decide +kernel
theorem dX9_bestHeat_5 : decode cX9_bestHeat 5 = .ok (.istore_n 2, 1) := by decide +kernel
theorem dX9_bestHeat_6 : decode cX9_bestHeat 6 = .ok (.iconst 0, 1) := by decide +kernel
theorem dX9_bestHeat_7 : decode cX9_bestHeat 7 = .ok (.istore_n 3, 1) := by decide +kernel
theorem dX9_bestHeat_8 : decode cX9_bestHeat 8 = .ok (.sipush 500, 3) := by decide +kernel
theorem dX9_bestHeat_11 : decode cX9_bestHeat 11 = .ok (.istore 4, 2) := by decide +kernel
theorem dX9_bestHeat_13 : decode cX9_bestHeat 13 = .ok (.iload 4, 2) := by decide +kernel
theorem dX9_bestHeat_15 : decode cX9_bestHeat 15 = .ok (.sipush 1200, 3) := by decide +kernel
theorem dX9_bestHeat_18 : decode cX9_bestHeat 18 = .ok (.if_icmp .gt 71, 3) := by decide +kernel
theorem dX9_bestHeat_21 : decode cX9_bestHeat 21 = .ok (.aload_n 0, 1) := by decide +kernel
theorem dX9_bestHeat_22 : decode cX9_bestHeat 22 = .ok (.iload 4, 2) := by decide +kernel
theorem dX9_bestHeat_24 : decode cX9_bestHeat 24 = .ok (.invokevirtual 118, 3) := by decide +kernel
theorem dX9_bestHeat_27 : decode cX9_bestHeat 27 = .ok (.aload_n 0, 1) := by decide +kernel
theorem dX9_bestHeat_28 : decode cX9_bestHeat 28 = .ok (.getfield 22, 3) := by decide +kernel
theorem dX9_bestHeat_31 : decode cX9_bestHeat 31 = .ok (.iconst 1, 1) := by decide +kernel
theorem dX9_bestHeat_32 : decode cX9_bestHeat 32 = .ok (.iaload, 1) := by decide +kernel
theorem dX9_bestHeat_33 : decode cX9_bestHeat 33 = .ok (.ifCond .ne 50, 3) := by decide +kernel
theorem dX9_bestHeat_36 : decode cX9_bestHeat 36 = .ok (.aload_n 0, 1) := by decide +kernel
theorem dX9_bestHeat_37 : decode cX9_bestHeat 37 = .ok (.getfield 22, 3) := by decide +kernel
theorem dX9_bestHeat_40 : decode cX9_bestHeat 40 = .ok (.iconst 0, 1) := by decide +kernel
theorem dX9_bestHeat_41 : decode cX9_bestHeat 41 = .ok (.iaload, 1) := by decide +kernel
theorem dX9_bestHeat_42 : decode cX9_bestHeat 42 = .ok (.iload_n 2, 1) := by decide +kernel
theorem dX9_bestHeat_43 : decode cX9_bestHeat 43 = .ok (.if_icmp .gt 23, 3) := by decide +kernel
theorem dX9_bestHeat_46 : decode cX9_bestHeat 46 = .ok (.aload_n 0, 1) := by decide +kernel
theorem dX9_bestHeat_47 : decode cX9_bestHeat 47 = .ok (.getfield 22, 3) := by decide +kernel
theorem dX9_bestHeat_50 : decode cX9_bestHeat 50 = .ok (.iconst 0, 1) := by decide +kernel
theorem dX9_bestHeat_51 : decode cX9_bestHeat 51 = .ok (.iaload, 1) := by decide +kernel
theorem dX9_bestHeat_52 : decode cX9_bestHeat 52 = .ok (.iload_n 2, 1) := by decide +kernel
theorem dX9_bestHeat_53 : decode cX9_bestHeat 53 = .ok (.if_icmp .ne 30, 3) := by decide +kernel
theorem dX9_bestHeat_56 : decode cX9_bestHeat 56 = .ok (.aload_n 0, 1) := by decide +kernel
theorem dX9_bestHeat_57 : decode cX9_bestHeat 57 = .ok (.getfield 22, 3) := by decide +kernel
theorem dX9_bestHeat_60 : decode cX9_bestHeat 60 = .ok (.iconst 2, 1) := by decide +kernel
theorem dX9_bestHeat_61 : decode cX9_bestHeat 61 = .ok (.iaload, 1) := by decide +kernel
theorem dX9_bestHeat_62 : decode cX9_bestHeat 62 = .ok (.iload_n 3, 1) := by decide +kernel
theorem dX9_bestHeat_63 : decode cX9_bestHeat 63 = .ok (.if_icmp .ge 20, 3) := by decide +kernel
theorem dX9_bestHeat_66 : decode cX9_bestHeat 66 = .ok (.iload 4, 2) := by decide +kernel
theorem dX9_bestHeat_68 : decode cX9_bestHeat 68 = .ok (.istore_n 1, 1) := by decide +kernel
theorem dX9_bestHeat_69 : decode cX9_bestHeat 69 = .ok (.aload_n 0, 1) := by decide +kernel
theorem dX9_bestHeat_70 : decode cX9_bestHeat 70 = .ok (.getfield 22, 3) := by decide +kernel
theorem dX9_bestHeat_73 : decode cX9_bestHeat 73 = .ok (.iconst 0, 1) := by decide +kernel
theorem dX9_bestHeat_74 : decode cX9_bestHeat 74 = .ok (.iaload, 1) := by decide +kernel
theorem dX9_bestHeat_75 : decode cX9_bestHeat 75 = .ok (.istore_n 2, 1) := by decide +kernel
theorem dX9_bestHeat_76 : decode cX9_bestHeat 76 = .ok (.aload_n 0, 1) := by decide +kernel
theorem dX9_bestHeat_77 : decode cX9_bestHeat 77 = .ok (.getfield 22, 3) := by decide +kernel
theorem dX9_bestHeat_80 : decode cX9_bestHeat 80 = .ok (.iconst 2, 1) := by decide +kernel
theorem dX9_bestHeat_81 : decode cX9_bestHeat 81 = .ok (.iaload, 1) := by decide +kernel
theorem dX9_bestHeat_82 : decode cX9_bestHeat 82 = .ok (.istore_n 3, 1) := by decide +kernel
theorem dX9_bestHeat_83 : decode cX9_bestHeat 83 = .ok (.iinc 4 1, 3) := by decide +kernel
theorem dX9_bestHeat_86 : decode cX9_bestHeat 86 = .ok (.goto (-73), 3) := by decide +kernel
theorem dX9_bestHeat_89 : decode cX9_bestHeat 89 = .ok (.iload_n 1, 1) := by decide +kernel
theorem dX9_bestHeat_90 : decode cX9_bestHeat 90 = .ok (.ireturn, 1) := by decide +kernel
theorem dX9_isFront_0 : decode cX9_isFront 0 = .ok (.iload_n 0, 1) := by decide +kernel
theorem dX9_isFront_1 : decode cX9_isFront 1 = .ok (.iconst 0, 1) := by decide +kernel
theorem dX9_isFront_2 : decode cX9_isFront 2 = .ok (.iconst 5, 1) := by decide +kernel
theorem dX9_isFront_3 : decode cX9_isFront 3 = .ok (.invokestatic 32, 3) := by decide +kernel
theorem dX9_isFront_6 : decode cX9_isFront 6 = .ok (.ireturn, 1) := by decide +kernel
theorem dX9_wish_0 : decode cX9_wish 0 = .ok (.iload_n 1, 1) := by decide +kernel
theorem dX9_wish_1 : decode cX9_wish 1 = .ok (.invokestatic 122, 3) := by decide +kernel
theorem dX9_wish_4 : decode cX9_wish 4 = .ok (.ifCond .eq 16, 3) := by decide +kernel
theorem dX9_wish_7 : decode cX9_wish 7 = .ok (.iload_n 2, 1) := by decide +kernel
theorem dX9_wish_8 : decode cX9_wish 8 = .ok (.iconst (-1), 1) := by decide +kernel
theorem dX9_wish_9 : decode cX9_wish 9 = .ok (.if_icmp .eq 13, 3) := by decide +kernel
theorem dX9_wish_12 : decode cX9_wish 12 = .ok (.aload_n 0, 1) := by decide +kernel
theorem dX9_wish_13 : decode cX9_wish 13 = .ok (.iload_n 2, 1) := by decide +kernel
theorem dX9_wish_14 : decode cX9_wish 14 = .ok (.invokevirtual 47, 3) := by decide +kernel
theorem dX9_wish_17 : decode cX9_wish 17 = .ok (.ifCond .ne 5, 3) := by decide +kernel
theorem dX9_wish_20 : decode cX9_wish 20 = .ok (.iconst (-1), 1) := by decide +kernel
theorem dX9_wish_21 : decode cX9_wish 21 = .ok (.ireturn, 1) := by decide +kernel
theorem dX9_wish_22 : decode cX9_wish 22 = .ok (.bipush 126, 2) := by decide +kernel
theorem dX9_wish_24 : decode cX9_wish 24 = .ok (.iconst 4, 1) := by decide +kernel
theorem dX9_wish_25 : decode cX9_wish 25 = .ok (.iload_n 1, 1) := by decide +kernel
theorem dX9_wish_26 : decode cX9_wish 26 = .ok (.imul, 1) := by decide +kernel
theorem dX9_wish_27 : decode cX9_wish 27 = .ok (.iadd, 1) := by decide +kernel
theorem dX9_wish_28 : decode cX9_wish 28 = .ok (.istore_n 3, 1) := by decide +kernel
theorem dX9_wish_29 : decode cX9_wish 29 = .ok (.iload_n 2, 1) := by decide +kernel
theorem dX9_wish_30 : decode cX9_wish 30 = .ok (.ifCond .lt 16, 3) := by decide +kernel
theorem dX9_wish_33 : decode cX9_wish 33 = .ok (.aload_n 0, 1) := by decide +kernel
theorem dX9_wish_34 : decode cX9_wish 34 = .ok (.getfield 7, 3) := by decide +kernel
theorem dX9_wish_37 : decode cX9_wish 37 = .ok (.iload_n 3, 1) := by decide +kernel
theorem dX9_wish_38 : decode cX9_wish 38 = .ok (.iaload, 1) := by decide +kernel
theorem dX9_wish_39 : decode cX9_wish 39 = .ok (.iconst 3, 1) := by decide +kernel
theorem dX9_wish_40 : decode cX9_wish 40 = .ok (.if_icmp .ne 6, 3) := by decide +kernel
theorem dX9_wish_43 : decode cX9_wish 43 = .ok (.bipush (-3), 2) := by decide +kernel
theorem dX9_wish_45 : decode cX9_wish 45 = .ok (.ireturn, 1) := by decide +kernel
theorem dX9_wish_46 : decode cX9_wish 46 = .ok (.aload_n 0, 1) := by decide +kernel
theorem dX9_wish_47 : decode cX9_wish 47 = .ok (.invokevirtual 36, 3) := by decide +kernel
theorem dX9_wish_50 : decode cX9_wish 50 = .ok (.iload_n 2, 1) := by decide +kernel
theorem dX9_wish_51 : decode cX9_wish 51 = .ok (.ifCond .ge 13, 3) := by decide +kernel
theorem dX9_wish_54 : decode cX9_wish 54 = .ok (.aload_n 0, 1) := by decide +kernel
theorem dX9_wish_55 : decode cX9_wish 55 = .ok (.getfield 7, 3) := by decide +kernel
theorem dX9_wish_58 : decode cX9_wish 58 = .ok (.iload_n 3, 1) := by decide +kernel
theorem dX9_wish_59 : decode cX9_wish 59 = .ok (.iconst 0, 1) := by decide +kernel
theorem dX9_wish_60 : decode cX9_wish 60 = .ok (.iastore, 1) := by decide +kernel
theorem dX9_wish_61 : decode cX9_wish 61 = .ok (.goto 29, 3) := by decide +kernel
theorem dX9_wish_64 : decode cX9_wish 64 = .ok (.aload_n 0, 1) := by decide +kernel
theorem dX9_wish_65 : decode cX9_wish 65 = .ok (.getfield 7, 3) := by decide +kernel
theorem dX9_wish_68 : decode cX9_wish 68 = .ok (.iload_n 3, 1) := by decide +kernel
theorem dX9_wish_69 : decode cX9_wish 69 = .ok (.iconst 1, 1) := by decide +kernel
theorem dX9_wish_70 : decode cX9_wish 70 = .ok (.iadd, 1) := by decide +kernel
theorem dX9_wish_71 : decode cX9_wish 71 = .ok (.aload_n 0, 1) := by decide +kernel
theorem dX9_wish_72 : decode cX9_wish 72 = .ok (.getfield 7, 3) := by decide +kernel
theorem dX9_wish_75 : decode cX9_wish 75 = .ok (.iload_n 3, 1) := by decide +kernel
theorem dX9_wish_76 : decode cX9_wish 76 = .ok (.iaload, 1) := by decide +kernel
theorem dX9_wish_77 : decode cX9_wish 77 = .ok (.iadd, 1) := by decide +kernel
theorem dX9_wish_78 : decode cX9_wish 78 = .ok (.iload_n 2, 1) := by decide +kernel
theorem dX9_wish_79 : decode cX9_wish 79 = .ok (.iastore, 1) := by decide +kernel
theorem dX9_wish_80 : decode cX9_wish 80 = .ok (.aload_n 0, 1) := by decide +kernel
theorem dX9_wish_81 : decode cX9_wish 81 = .ok (.getfield 7, 3) := by decide +kernel
theorem dX9_wish_84 : decode cX9_wish 84 = .ok (.iload_n 3, 1) := by decide +kernel
theorem dX9_wish_85 : decode cX9_wish 85 = .ok (.dup2, 1) := by decide +kernel
theorem dX9_wish_86 : decode cX9_wish 86 = .ok (.iaload, 1) := by decide +kernel
theorem dX9_wish_87 : decode cX9_wish 87 = .ok (.iconst 1, 1) := by decide +kernel
theorem dX9_wish_88 : decode cX9_wish 88 = .ok (.iadd, 1) := by decide +kernel
theorem dX9_wish_89 : decode cX9_wish 89 = .ok (.iastore, 1) := by decide +kernel
theorem dX9_wish_90 : decode cX9_wish 90 = .ok (.aload_n 0, 1) := by decide +kernel
theorem dX9_wish_91 : decode cX9_wish 91 = .ok (.getfield 7, 3) := by decide +kernel
theorem dX9_wish_94 : decode cX9_wish 94 = .ok (.iload_n 3, 1) := by decide +kernel
theorem dX9_wish_95 : decode cX9_wish 95 = .ok (.iaload, 1) := by decide +kernel
theorem dX9_wish_96 : decode cX9_wish 96 = .ok (.ireturn, 1) := by decide +kernel
theorem dX9_wished_0 : decode cX9_wished 0 = .ok (.iload_n 1, 1) := by decide +kernel
theorem dX9_wished_1 : decode cX9_wished 1 = .ok (.invokestatic 122, 3) := by decide +kernel
theorem dX9_wished_4 : decode cX9_wished 4 = .ok (.ifCond .eq 7, 3) := by decide +kernel
theorem dX9_wished_7 : decode cX9_wished 7 = .ok (.iload_n 2, 1) := by decide +kernel
theorem dX9_wished_8 : decode cX9_wished 8 = .ok (.ifCond .ge 5, 3) := by decide +kernel
theorem dX9_wished_11 : decode cX9_wished 11 = .ok (.iconst (-1), 1) := by decide +kernel
theorem dX9_wished_12 : decode cX9_wished 12 = .ok (.ireturn, 1) := by decide +kernel
theorem dX9_wished_13 : decode cX9_wished 13 = .ok (.iload_n 2, 1) := by decide +kernel
theorem dX9_wished_14 : decode cX9_wished 14 = .ok (.aload_n 0, 1) := by decide +kernel
theorem dX9_wished_15 : decode cX9_wished 15 = .ok (.getfield 7, 3) := by decide +kernel
theorem dX9_wished_18 : decode cX9_wished 18 = .ok (.bipush 126, 2) := by decide +kernel
theorem dX9_wished_20 : decode cX9_wished 20 = .ok (.iconst 4, 1) := by decide +kernel
theorem dX9_wished_21 : decode cX9_wished 21 = .ok (.iload_n 1, 1) := by decide +kernel
theorem dX9_wished_22 : decode cX9_wished 22 = .ok (.imul, 1) := by decide +kernel
theorem dX9_wished_23 : decode cX9_wished 23 = .ok (.iadd, 1) := by decide +kernel
theorem dX9_wished_24 : decode cX9_wished 24 = .ok (.iaload, 1) := by decide +kernel
theorem dX9_wished_25 : decode cX9_wished 25 = .ok (.if_icmp .lt 8, 3) := by decide +kernel
theorem dX9_wished_28 : decode cX9_wished 28 = .ok (.bipush (-4), 2) := by decide +kernel
theorem dX9_wished_30 : decode cX9_wished 30 = .ok (.goto 18, 3) := by decide +kernel
theorem dX9_wished_33 : decode cX9_wished 33 = .ok (.aload_n 0, 1) := by decide +kernel
theorem dX9_wished_34 : decode cX9_wished 34 = .ok (.getfield 7, 3) := by decide +kernel
theorem dX9_wished_37 : decode cX9_wished 37 = .ok (.bipush 126, 2) := by decide +kernel
theorem dX9_wished_39 : decode cX9_wished 39 = .ok (.iconst 4, 1) := by decide +kernel
theorem dX9_wished_40 : decode cX9_wished 40 = .ok (.iload_n 1, 1) := by decide +kernel
theorem dX9_wished_41 : decode cX9_wished 41 = .ok (.imul, 1) := by decide +kernel
theorem dX9_wished_42 : decode cX9_wished 42 = .ok (.iadd, 1) := by decide +kernel
theorem dX9_wished_43 : decode cX9_wished 43 = .ok (.iconst 1, 1) := by decide +kernel
theorem dX9_wished_44 : decode cX9_wished 44 = .ok (.iadd, 1) := by decide +kernel
theorem dX9_wished_45 : decode cX9_wished 45 = .ok (.iload_n 2, 1) := by decide +kernel
theorem dX9_wished_46 : decode cX9_wished 46 = .ok (.iadd, 1) := by decide +kernel
theorem dX9_wished_47 : decode cX9_wished 47 = .ok (.iaload, 1) := by decide +kernel
theorem dX9_wished_48 : decode cX9_wished 48 = .ok (.ireturn, 1) := by decide +kernel
theorem dX9_digit_0 : decode cX9_digit 0 = .ok (.iload_n 0, 1) := by decide +kernel
theorem dX9_digit_1 : decode cX9_digit 1 = .ok (.iconst 2, 1) := by decide +kernel
theorem dX9_digit_2 : decode cX9_digit 2 = .ok (.iload_n 1, 1) := by decide +kernel
theorem dX9_digit_3 : decode cX9_digit 3 = .ok (.imul, 1) := by decide +kernel
theorem dX9_digit_4 : decode cX9_digit 4 = .ok (.ishr, 1) := by decide +kernel
theorem dX9_digit_5 : decode cX9_digit 5 = .ok (.iconst 3, 1) := by decide +kernel
theorem dX9_digit_6 : decode cX9_digit 6 = .ok (.iand, 1) := by decide +kernel
theorem dX9_digit_7 : decode cX9_digit 7 = .ok (.ireturn, 1) := by decide +kernel
theorem dX9_cap_0 : decode cX9_cap 0 = .ok (.sipush 1200, 3) := by decide +kernel
theorem dX9_cap_3 : decode cX9_cap 3 = .ok (.istore_n 2, 1) := by decide +kernel
theorem dX9_cap_4 : decode cX9_cap 4 = .ok (.iconst 0, 1) := by decide +kernel
theorem dX9_cap_5 : decode cX9_cap 5 = .ok (.istore_n 3, 1) := by decide +kernel
theorem dX9_cap_6 : decode cX9_cap 6 = .ok (.iload_n 3, 1) := by decide +kernel
theorem dX9_cap_7 : decode cX9_cap 7 = .ok (.bipush 6, 2) := by decide +kernel
theorem dX9_cap_9 : decode cX9_cap 9 = .ok (.if_icmp .ge 63, 3) := by decide +kernel
theorem dX9_cap_12 : decode cX9_cap 12 = .ok (.iconst 0, 1) := by decide +kernel
theorem dX9_cap_13 : decode cX9_cap 13 = .ok (.istore 4, 2) := by decide +kernel
theorem dX9_cap_15 : decode cX9_cap 15 = .ok (.iload 4, 2) := by decide +kernel
theorem dX9_cap_17 : decode cX9_cap 17 = .ok (.iload_n 1, 1) := by decide +kernel
theorem dX9_cap_18 : decode cX9_cap 18 = .ok (.iload_n 3, 1) := by decide +kernel
theorem dX9_cap_19 : decode cX9_cap 19 = .ok (.invokestatic 125, 3) := by decide +kernel
theorem dX9_cap_22 : decode cX9_cap 22 = .ok (.if_icmp .ge 44, 3) := by decide +kernel
theorem dX9_cap_25 : decode cX9_cap 25 = .ok (.aload_n 0, 1) := by decide +kernel
theorem dX9_cap_26 : decode cX9_cap 26 = .ok (.aload_n 0, 1) := by decide +kernel
theorem dX9_cap_27 : decode cX9_cap 27 = .ok (.getfield 7, 3) := by decide +kernel
theorem dX9_cap_30 : decode cX9_cap 30 = .ok (.bipush 126, 2) := by decide +kernel
theorem dX9_cap_32 : decode cX9_cap 32 = .ok (.iconst 4, 1) := by decide +kernel
theorem dX9_cap_33 : decode cX9_cap 33 = .ok (.iload_n 3, 1) := by decide +kernel
theorem dX9_cap_34 : decode cX9_cap 34 = .ok (.imul, 1) := by decide +kernel
theorem dX9_cap_35 : decode cX9_cap 35 = .ok (.iadd, 1) := by decide +kernel
theorem dX9_cap_36 : decode cX9_cap 36 = .ok (.iconst 1, 1) := by decide +kernel
theorem dX9_cap_37 : decode cX9_cap 37 = .ok (.iadd, 1) := by decide +kernel
theorem dX9_cap_38 : decode cX9_cap 38 = .ok (.iload 4, 2) := by decide +kernel
theorem dX9_cap_40 : decode cX9_cap 40 = .ok (.iadd, 1) := by decide +kernel
theorem dX9_cap_41 : decode cX9_cap 41 = .ok (.iaload, 1) := by decide +kernel
theorem dX9_cap_42 : decode cX9_cap 42 = .ok (.invokevirtual 82, 3) := by decide +kernel
theorem dX9_cap_45 : decode cX9_cap 45 = .ok (.istore 5, 2) := by decide +kernel
theorem dX9_cap_47 : decode cX9_cap 47 = .ok (.iload 5, 2) := by decide +kernel
theorem dX9_cap_49 : decode cX9_cap 49 = .ok (.iload_n 2, 1) := by decide +kernel
theorem dX9_cap_50 : decode cX9_cap 50 = .ok (.if_icmp .ge 8, 3) := by decide +kernel
theorem dX9_cap_53 : decode cX9_cap 53 = .ok (.iload 5, 2) := by decide +kernel
theorem dX9_cap_55 : decode cX9_cap 55 = .ok (.goto 4, 3) := by decide +kernel
theorem dX9_cap_58 : decode cX9_cap 58 = .ok (.iload_n 2, 1) := by decide +kernel
theorem dX9_cap_59 : decode cX9_cap 59 = .ok (.istore_n 2, 1) := by decide +kernel
theorem dX9_cap_60 : decode cX9_cap 60 = .ok (.iinc 4 1, 3) := by decide +kernel
theorem dX9_cap_63 : decode cX9_cap 63 = .ok (.goto (-48), 3) := by decide +kernel
theorem dX9_cap_66 : decode cX9_cap 66 = .ok (.iinc 3 1, 3) := by decide +kernel
theorem dX9_cap_69 : decode cX9_cap 69 = .ok (.goto (-63), 3) := by decide +kernel
theorem dX9_cap_72 : decode cX9_cap 72 = .ok (.iload_n 2, 1) := by decide +kernel
theorem dX9_cap_73 : decode cX9_cap 73 = .ok (.ireturn, 1) := by decide +kernel
theorem dX9_behind_0 : decode cX9_behind 0 = .ok (.iload_n 1, 1) := by decide +kernel
theorem dX9_behind_1 : decode cX9_behind 1 = .ok (.istore 4, 2) := by decide +kernel
theorem dX9_behind_3 : decode cX9_behind 3 = .ok (.iconst 0, 1) := by decide +kernel
theorem dX9_behind_4 : decode cX9_behind 4 = .ok (.istore 5, 2) := by decide +kernel
theorem dX9_behind_6 : decode cX9_behind 6 = .ok (.iload_n 3, 1) := by decide +kernel
theorem dX9_behind_7 : decode cX9_behind 7 = .ok (.istore 6, 2) := by decide +kernel
theorem dX9_behind_9 : decode cX9_behind 9 = .ok (.iconst 0, 1) := by decide +kernel
theorem dX9_behind_10 : decode cX9_behind 10 = .ok (.istore 7, 2) := by decide +kernel
theorem dX9_behind_12 : decode cX9_behind 12 = .ok (.iload 7, 2) := by decide +kernel
theorem dX9_behind_14 : decode cX9_behind 14 = .ok (.bipush 6, 2) := by decide +kernel
theorem dX9_behind_16 : decode cX9_behind 16 = .ok (.if_icmp .ge 124, 3) := by decide +kernel
theorem dX9_behind_19 : decode cX9_behind 19 = .ok (.iload_n 2, 1) := by decide +kernel
theorem dX9_behind_20 : decode cX9_behind 20 = .ok (.iload 7, 2) := by decide +kernel
theorem dX9_behind_22 : decode cX9_behind 22 = .ok (.ishr, 1) := by decide +kernel
theorem dX9_behind_23 : decode cX9_behind 23 = .ok (.iconst 1, 1) := by decide +kernel
theorem dX9_behind_24 : decode cX9_behind 24 = .ok (.iand, 1) := by decide +kernel
theorem dX9_behind_25 : decode cX9_behind 25 = .ok (.iconst 1, 1) := by decide +kernel
theorem dX9_behind_26 : decode cX9_behind 26 = .ok (.if_icmp .ne 108, 3) := by decide +kernel
theorem dX9_behind_29 : decode cX9_behind 29 = .ok (.iload_n 1, 1) := by decide +kernel
theorem dX9_behind_30 : decode cX9_behind 30 = .ok (.iload 7, 2) := by decide +kernel
theorem dX9_behind_32 : decode cX9_behind 32 = .ok (.invokestatic 125, 3) := by decide +kernel
theorem dX9_behind_35 : decode cX9_behind 35 = .ok (.aload_n 0, 1) := by decide +kernel
theorem dX9_behind_36 : decode cX9_behind 36 = .ok (.getfield 7, 3) := by decide +kernel
theorem dX9_behind_39 : decode cX9_behind 39 = .ok (.bipush 126, 2) := by decide +kernel
theorem dX9_behind_41 : decode cX9_behind 41 = .ok (.iconst 4, 1) := by decide +kernel
theorem dX9_behind_42 : decode cX9_behind 42 = .ok (.iload 7, 2) := by decide +kernel
theorem dX9_behind_44 : decode cX9_behind 44 = .ok (.imul, 1) := by decide +kernel
theorem dX9_behind_45 : decode cX9_behind 45 = .ok (.iadd, 1) := by decide +kernel
theorem dX9_behind_46 : decode cX9_behind 46 = .ok (.iaload, 1) := by decide +kernel
theorem dX9_behind_47 : decode cX9_behind 47 = .ok (.if_icmp .ne 5, 3) := by decide +kernel
theorem dX9_behind_50 : decode cX9_behind 50 = .ok (.iconst (-1), 1) := by decide +kernel
theorem dX9_behind_51 : decode cX9_behind 51 = .ok (.ireturn, 1) := by decide +kernel
theorem dX9_behind_52 : decode cX9_behind 52 = .ok (.aload_n 0, 1) := by decide +kernel
theorem dX9_behind_53 : decode cX9_behind 53 = .ok (.getfield 7, 3) := by decide +kernel
theorem dX9_behind_56 : decode cX9_behind 56 = .ok (.bipush 126, 2) := by decide +kernel
theorem dX9_behind_58 : decode cX9_behind 58 = .ok (.iconst 4, 1) := by decide +kernel
theorem dX9_behind_59 : decode cX9_behind 59 = .ok (.iload 7, 2) := by decide +kernel
theorem dX9_behind_61 : decode cX9_behind 61 = .ok (.imul, 1) := by decide +kernel
theorem dX9_behind_62 : decode cX9_behind 62 = .ok (.iadd, 1) := by decide +kernel
theorem dX9_behind_63 : decode cX9_behind 63 = .ok (.iconst 1, 1) := by decide +kernel
theorem dX9_behind_64 : decode cX9_behind 64 = .ok (.iadd, 1) := by decide +kernel
theorem dX9_behind_65 : decode cX9_behind 65 = .ok (.iload_n 1, 1) := by decide +kernel
theorem dX9_behind_66 : decode cX9_behind 66 = .ok (.iload 7, 2) := by decide +kernel
theorem dX9_behind_68 : decode cX9_behind 68 = .ok (.invokestatic 125, 3) := by decide +kernel
theorem dX9_behind_71 : decode cX9_behind 71 = .ok (.iadd, 1) := by decide +kernel
theorem dX9_behind_72 : decode cX9_behind 72 = .ok (.iaload, 1) := by decide +kernel
theorem dX9_behind_73 : decode cX9_behind 73 = .ok (.istore 8, 2) := by decide +kernel
theorem dX9_behind_75 : decode cX9_behind 75 = .ok (.aload_n 0, 1) := by decide +kernel
theorem dX9_behind_76 : decode cX9_behind 76 = .ok (.iload 8, 2) := by decide +kernel
theorem dX9_behind_78 : decode cX9_behind 78 = .ok (.invokevirtual 79, 3) := by decide +kernel
theorem dX9_behind_81 : decode cX9_behind 81 = .ok (.iload 5, 2) := by decide +kernel
theorem dX9_behind_83 : decode cX9_behind 83 = .ok (.if_icmp .le 12, 3) := by decide +kernel
theorem dX9_behind_86 : decode cX9_behind 86 = .ok (.aload_n 0, 1) := by decide +kernel
theorem dX9_behind_87 : decode cX9_behind 87 = .ok (.iload 8, 2) := by decide +kernel
theorem dX9_behind_89 : decode cX9_behind 89 = .ok (.invokevirtual 79, 3) := by decide +kernel
theorem dX9_behind_92 : decode cX9_behind 92 = .ok (.goto 5, 3) := by decide +kernel
theorem dX9_behind_95 : decode cX9_behind 95 = .ok (.iload 5, 2) := by decide +kernel
theorem dX9_behind_97 : decode cX9_behind 97 = .ok (.istore 5, 2) := by decide +kernel
theorem dX9_behind_99 : decode cX9_behind 99 = .ok (.aload_n 0, 1) := by decide +kernel
theorem dX9_behind_100 : decode cX9_behind 100 = .ok (.iload 8, 2) := by decide +kernel
theorem dX9_behind_102 : decode cX9_behind 102 = .ok (.invokevirtual 82, 3) := by decide +kernel
theorem dX9_behind_105 : decode cX9_behind 105 = .ok (.iload 6, 2) := by decide +kernel
theorem dX9_behind_107 : decode cX9_behind 107 = .ok (.if_icmp .ge 12, 3) := by decide +kernel
theorem dX9_behind_110 : decode cX9_behind 110 = .ok (.aload_n 0, 1) := by decide +kernel
theorem dX9_behind_111 : decode cX9_behind 111 = .ok (.iload 8, 2) := by decide +kernel
theorem dX9_behind_113 : decode cX9_behind 113 = .ok (.invokevirtual 82, 3) := by decide +kernel
theorem dX9_behind_116 : decode cX9_behind 116 = .ok (.goto 5, 3) := by decide +kernel
theorem dX9_behind_119 : decode cX9_behind 119 = .ok (.iload 6, 2) := by decide +kernel
theorem dX9_behind_121 : decode cX9_behind 121 = .ok (.istore 6, 2) := by decide +kernel
theorem dX9_behind_123 : decode cX9_behind 123 = .ok (.iload 4, 2) := by decide +kernel
theorem dX9_behind_125 : decode cX9_behind 125 = .ok (.iconst 1, 1) := by decide +kernel
theorem dX9_behind_126 : decode cX9_behind 126 = .ok (.iconst 2, 1) := by decide +kernel
theorem dX9_behind_127 : decode cX9_behind 127 = .ok (.iload 7, 2) := by decide +kernel
theorem dX9_behind_129 : decode cX9_behind 129 = .ok (.imul, 1) := by decide +kernel
theorem dX9_behind_130 : decode cX9_behind 130 = .ok (.ishl, 1) := by decide +kernel
theorem dX9_behind_131 : decode cX9_behind 131 = .ok (.iadd, 1) := by decide +kernel
theorem dX9_behind_132 : decode cX9_behind 132 = .ok (.istore 4, 2) := by decide +kernel
theorem dX9_behind_134 : decode cX9_behind 134 = .ok (.iinc 7 1, 3) := by decide +kernel
theorem dX9_behind_137 : decode cX9_behind 137 = .ok (.goto (-125), 3) := by decide +kernel
theorem dX9_behind_140 : decode cX9_behind 140 = .ok (.aload_n 0, 1) := by decide +kernel
theorem dX9_behind_141 : decode cX9_behind 141 = .ok (.iload 5, 2) := by decide +kernel
theorem dX9_behind_143 : decode cX9_behind 143 = .ok (.putfield 128, 3) := by decide +kernel
theorem dX9_behind_146 : decode cX9_behind 146 = .ok (.iload 5, 2) := by decide +kernel
theorem dX9_behind_148 : decode cX9_behind 148 = .ok (.iload 6, 2) := by decide +kernel
theorem dX9_behind_150 : decode cX9_behind 150 = .ok (.if_icmp .gt 8, 3) := by decide +kernel
theorem dX9_behind_153 : decode cX9_behind 153 = .ok (.iload 4, 2) := by decide +kernel
theorem dX9_behind_155 : decode cX9_behind 155 = .ok (.goto 4, 3) := by decide +kernel
theorem dX9_behind_158 : decode cX9_behind 158 = .ok (.iconst (-1), 1) := by decide +kernel
theorem dX9_behind_159 : decode cX9_behind 159 = .ok (.ireturn, 1) := by decide +kernel
theorem dX9_isWithin_0 : decode cX9_isWithin 0 = .ok (.iconst 1, 1) := by decide +kernel
theorem dX9_isWithin_1 : decode cX9_isWithin 1 = .ok (.istore_n 2, 1) := by decide +kernel
theorem dX9_isWithin_2 : decode cX9_isWithin 2 = .ok (.iconst 0, 1) := by decide +kernel
theorem dX9_isWithin_3 : decode cX9_isWithin 3 = .ok (.istore_n 3, 1) := by decide +kernel
theorem dX9_isWithin_4 : decode cX9_isWithin 4 = .ok (.iload_n 3, 1) := by decide +kernel
theorem dX9_isWithin_5 : decode cX9_isWithin 5 = .ok (.bipush 6, 2) := by decide +kernel
theorem dX9_isWithin_7 : decode cX9_isWithin 7 = .ok (.if_icmp .ge 38, 3) := by decide +kernel
theorem dX9_isWithin_10 : decode cX9_isWithin 10 = .ok (.iload_n 2, 1) := by decide +kernel
theorem dX9_isWithin_11 : decode cX9_isWithin 11 = .ok (.ifCond .eq 26, 3) := by decide +kernel
theorem dX9_isWithin_14 : decode cX9_isWithin 14 = .ok (.iload_n 1, 1) := by decide +kernel
theorem dX9_isWithin_15 : decode cX9_isWithin 15 = .ok (.iload_n 3, 1) := by decide +kernel
theorem dX9_isWithin_16 : decode cX9_isWithin 16 = .ok (.invokestatic 125, 3) := by decide +kernel
theorem dX9_isWithin_19 : decode cX9_isWithin 19 = .ok (.aload_n 0, 1) := by decide +kernel
theorem dX9_isWithin_20 : decode cX9_isWithin 20 = .ok (.getfield 7, 3) := by decide +kernel
theorem dX9_isWithin_23 : decode cX9_isWithin 23 = .ok (.bipush 126, 2) := by decide +kernel
theorem dX9_isWithin_25 : decode cX9_isWithin 25 = .ok (.iconst 4, 1) := by decide +kernel
theorem dX9_isWithin_26 : decode cX9_isWithin 26 = .ok (.iload_n 3, 1) := by decide +kernel
theorem dX9_isWithin_27 : decode cX9_isWithin 27 = .ok (.imul, 1) := by decide +kernel
theorem dX9_isWithin_28 : decode cX9_isWithin 28 = .ok (.iadd, 1) := by decide +kernel
theorem dX9_isWithin_29 : decode cX9_isWithin 29 = .ok (.iaload, 1) := by decide +kernel
theorem dX9_isWithin_30 : decode cX9_isWithin 30 = .ok (.if_icmp .gt 7, 3) := by decide +kernel
theorem dX9_isWithin_33 : decode cX9_isWithin 33 = .ok (.iconst 1, 1) := by decide +kernel
theorem dX9_isWithin_34 : decode cX9_isWithin 34 = .ok (.goto 4, 3) := by decide +kernel
theorem dX9_isWithin_37 : decode cX9_isWithin 37 = .ok (.iconst 0, 1) := by decide +kernel
theorem dX9_isWithin_38 : decode cX9_isWithin 38 = .ok (.istore_n 2, 1) := by decide +kernel
theorem dX9_isWithin_39 : decode cX9_isWithin 39 = .ok (.iinc 3 1, 3) := by decide +kernel
theorem dX9_isWithin_42 : decode cX9_isWithin 42 = .ok (.goto (-38), 3) := by decide +kernel
theorem dX9_isWithin_45 : decode cX9_isWithin 45 = .ok (.iload_n 2, 1) := by decide +kernel
theorem dX9_isWithin_46 : decode cX9_isWithin 46 = .ok (.ireturn, 1) := by decide +kernel
theorem dX9_plans_0 : decode cX9_plans 0 = .ok (.sipush 4095, 3) := by decide +kernel
theorem dX9_plans_3 : decode cX9_plans 3 = .ok (.istore_n 1, 1) := by decide +kernel
theorem dX9_plans_4 : decode cX9_plans 4 = .ok (.iload_n 1, 1) := by decide +kernel
theorem dX9_plans_5 : decode cX9_plans 5 = .ok (.ifCond .lt 196, 3) := by decide +kernel
theorem dX9_plans_8 : decode cX9_plans 8 = .ok (.aload_n 0, 1) := by decide +kernel
theorem dX9_plans_9 : decode cX9_plans 9 = .ok (.getfield 25, 3) := by decide +kernel
theorem dX9_plans_12 : decode cX9_plans 12 = .ok (.iload_n 1, 1) := by decide +kernel
theorem dX9_plans_13 : decode cX9_plans 13 = .ok (.iconst (-1), 1) := by decide +kernel
theorem dX9_plans_14 : decode cX9_plans 14 = .ok (.iastore, 1) := by decide +kernel
theorem dX9_plans_15 : decode cX9_plans 15 = .ok (.aload_n 0, 1) := by decide +kernel
theorem dX9_plans_16 : decode cX9_plans 16 = .ok (.iload_n 1, 1) := by decide +kernel
theorem dX9_plans_17 : decode cX9_plans 17 = .ok (.invokevirtual 131, 3) := by decide +kernel
theorem dX9_plans_20 : decode cX9_plans 20 = .ok (.istore_n 2, 1) := by decide +kernel
theorem dX9_plans_21 : decode cX9_plans 21 = .ok (.iload_n 2, 1) := by decide +kernel
theorem dX9_plans_22 : decode cX9_plans 22 = .ok (.ifCond .eq 11, 3) := by decide +kernel
theorem dX9_plans_25 : decode cX9_plans 25 = .ok (.aload_n 0, 1) := by decide +kernel
theorem dX9_plans_26 : decode cX9_plans 26 = .ok (.iload_n 1, 1) := by decide +kernel
theorem dX9_plans_27 : decode cX9_plans 27 = .ok (.invokevirtual 134, 3) := by decide +kernel
theorem dX9_plans_30 : decode cX9_plans 30 = .ok (.goto 4, 3) := by decide +kernel
theorem dX9_plans_33 : decode cX9_plans 33 = .ok (.iconst 0, 1) := by decide +kernel
theorem dX9_plans_34 : decode cX9_plans 34 = .ok (.istore_n 3, 1) := by decide +kernel
theorem dX9_plans_35 : decode cX9_plans 35 = .ok (.iconst 1, 1) := by decide +kernel
theorem dX9_plans_36 : decode cX9_plans 36 = .ok (.istore 4, 2) := by decide +kernel
theorem dX9_plans_38 : decode cX9_plans 38 = .ok (.iconst 0, 1) := by decide +kernel
theorem dX9_plans_39 : decode cX9_plans 39 = .ok (.istore 5, 2) := by decide +kernel
theorem dX9_plans_41 : decode cX9_plans 41 = .ok (.iload 5, 2) := by decide +kernel
theorem dX9_plans_43 : decode cX9_plans 43 = .ok (.bipush 6, 2) := by decide +kernel
theorem dX9_plans_45 : decode cX9_plans 45 = .ok (.if_icmp .ge 42, 3) := by decide +kernel
theorem dX9_plans_48 : decode cX9_plans 48 = .ok (.iload 4, 2) := by decide +kernel
theorem dX9_plans_50 : decode cX9_plans 50 = .ok (.ifCond .eq 28, 3) := by decide +kernel
theorem dX9_plans_53 : decode cX9_plans 53 = .ok (.iload_n 1, 1) := by decide +kernel
theorem dX9_plans_54 : decode cX9_plans 54 = .ok (.iload 5, 2) := by decide +kernel
theorem dX9_plans_56 : decode cX9_plans 56 = .ok (.invokestatic 125, 3) := by decide +kernel
theorem dX9_plans_59 : decode cX9_plans 59 = .ok (.aload_n 0, 1) := by decide +kernel
theorem dX9_plans_60 : decode cX9_plans 60 = .ok (.getfield 7, 3) := by decide +kernel
theorem dX9_plans_63 : decode cX9_plans 63 = .ok (.bipush 126, 2) := by decide +kernel
theorem dX9_plans_65 : decode cX9_plans 65 = .ok (.iconst 4, 1) := by decide +kernel
theorem dX9_plans_66 : decode cX9_plans 66 = .ok (.iload 5, 2) := by decide +kernel
theorem dX9_plans_68 : decode cX9_plans 68 = .ok (.imul, 1) := by decide +kernel
theorem dX9_plans_69 : decode cX9_plans 69 = .ok (.iadd, 1) := by decide +kernel
theorem dX9_plans_70 : decode cX9_plans 70 = .ok (.iaload, 1) := by decide +kernel
theorem dX9_plans_71 : decode cX9_plans 71 = .ok (.if_icmp .ne 7, 3) := by decide +kernel
theorem dX9_plans_74 : decode cX9_plans 74 = .ok (.iconst 1, 1) := by decide +kernel
theorem dX9_plans_75 : decode cX9_plans 75 = .ok (.goto 4, 3) := by decide +kernel
theorem dX9_plans_78 : decode cX9_plans 78 = .ok (.iconst 0, 1) := by decide +kernel
theorem dX9_plans_79 : decode cX9_plans 79 = .ok (.istore 4, 2) := by decide +kernel
theorem dX9_plans_81 : decode cX9_plans 81 = .ok (.iinc 5 1, 3) := by decide +kernel
theorem dX9_plans_84 : decode cX9_plans 84 = .ok (.goto (-43), 3) := by decide +kernel
theorem dX9_plans_87 : decode cX9_plans 87 = .ok (.aload_n 0, 1) := by decide +kernel
theorem dX9_plans_88 : decode cX9_plans 88 = .ok (.getfield 25, 3) := by decide +kernel
theorem dX9_plans_91 : decode cX9_plans 91 = .ok (.iload_n 1, 1) := by decide +kernel
theorem dX9_plans_92 : decode cX9_plans 92 = .ok (.iload 4, 2) := by decide +kernel
theorem dX9_plans_94 : decode cX9_plans 94 = .ok (.ifCond .eq 7, 3) := by decide +kernel
theorem dX9_plans_97 : decode cX9_plans 97 = .ok (.iconst 0, 1) := by decide +kernel
theorem dX9_plans_98 : decode cX9_plans 98 = .ok (.goto 4, 3) := by decide +kernel
theorem dX9_plans_101 : decode cX9_plans 101 = .ok (.iconst (-1), 1) := by decide +kernel
theorem dX9_plans_102 : decode cX9_plans 102 = .ok (.iastore, 1) := by decide +kernel
theorem dX9_plans_103 : decode cX9_plans 103 = .ok (.iconst 1, 1) := by decide +kernel
theorem dX9_plans_104 : decode cX9_plans 104 = .ok (.istore 5, 2) := by decide +kernel
theorem dX9_plans_106 : decode cX9_plans 106 = .ok (.iload 5, 2) := by decide +kernel
theorem dX9_plans_108 : decode cX9_plans 108 = .ok (.bipush 64, 2) := by decide +kernel
theorem dX9_plans_110 : decode cX9_plans 110 = .ok (.if_icmp .ge 85, 3) := by decide +kernel
theorem dX9_plans_113 : decode cX9_plans 113 = .ok (.iload_n 2, 1) := by decide +kernel
theorem dX9_plans_114 : decode cX9_plans 114 = .ok (.ifCond .eq 81, 3) := by decide +kernel
theorem dX9_plans_117 : decode cX9_plans 117 = .ok (.iload 4, 2) := by decide +kernel
theorem dX9_plans_119 : decode cX9_plans 119 = .ok (.ifCond .ne 76, 3) := by decide +kernel
theorem dX9_plans_122 : decode cX9_plans 122 = .ok (.aload_n 0, 1) := by decide +kernel
theorem dX9_plans_123 : decode cX9_plans 123 = .ok (.iload_n 1, 1) := by decide +kernel
theorem dX9_plans_124 : decode cX9_plans 124 = .ok (.iload 5, 2) := by decide +kernel
theorem dX9_plans_126 : decode cX9_plans 126 = .ok (.iload_n 3, 1) := by decide +kernel
theorem dX9_plans_127 : decode cX9_plans 127 = .ok (.invokevirtual 137, 3) := by decide +kernel
theorem dX9_plans_130 : decode cX9_plans 130 = .ok (.istore 6, 2) := by decide +kernel
theorem dX9_plans_132 : decode cX9_plans 132 = .ok (.iload 6, 2) := by decide +kernel
theorem dX9_plans_134 : decode cX9_plans 134 = .ok (.ifCond .lt 55, 3) := by decide +kernel
theorem dX9_plans_137 : decode cX9_plans 137 = .ok (.aload_n 0, 1) := by decide +kernel
theorem dX9_plans_138 : decode cX9_plans 138 = .ok (.getfield 25, 3) := by decide +kernel
theorem dX9_plans_141 : decode cX9_plans 141 = .ok (.iload 6, 2) := by decide +kernel
theorem dX9_plans_143 : decode cX9_plans 143 = .ok (.iaload, 1) := by decide +kernel
theorem dX9_plans_144 : decode cX9_plans 144 = .ok (.ifCond .lt 45, 3) := by decide +kernel
theorem dX9_plans_147 : decode cX9_plans 147 = .ok (.aload_n 0, 1) := by decide +kernel
theorem dX9_plans_148 : decode cX9_plans 148 = .ok (.getfield 25, 3) := by decide +kernel
theorem dX9_plans_151 : decode cX9_plans 151 = .ok (.iload_n 1, 1) := by decide +kernel
theorem dX9_plans_152 : decode cX9_plans 152 = .ok (.iaload, 1) := by decide +kernel
theorem dX9_plans_153 : decode cX9_plans 153 = .ok (.ifCond .lt 21, 3) := by decide +kernel
theorem dX9_plans_156 : decode cX9_plans 156 = .ok (.aload_n 0, 1) := by decide +kernel
theorem dX9_plans_157 : decode cX9_plans 157 = .ok (.getfield 25, 3) := by decide +kernel
theorem dX9_plans_160 : decode cX9_plans 160 = .ok (.iload 6, 2) := by decide +kernel
theorem dX9_plans_162 : decode cX9_plans 162 = .ok (.iaload, 1) := by decide +kernel
theorem dX9_plans_163 : decode cX9_plans 163 = .ok (.iconst 1, 1) := by decide +kernel
theorem dX9_plans_164 : decode cX9_plans 164 = .ok (.iadd, 1) := by decide +kernel
theorem dX9_plans_165 : decode cX9_plans 165 = .ok (.aload_n 0, 1) := by decide +kernel
theorem dX9_plans_166 : decode cX9_plans 166 = .ok (.getfield 25, 3) := by decide +kernel
theorem dX9_plans_169 : decode cX9_plans 169 = .ok (.iload_n 1, 1) := by decide +kernel
theorem dX9_plans_170 : decode cX9_plans 170 = .ok (.iaload, 1) := by decide +kernel
theorem dX9_plans_171 : decode cX9_plans 171 = .ok (.if_icmp .ge 18, 3) := by decide +kernel
theorem dX9_plans_174 : decode cX9_plans 174 = .ok (.aload_n 0, 1) := by decide +kernel
theorem dX9_plans_175 : decode cX9_plans 175 = .ok (.getfield 25, 3) := by decide +kernel
theorem dX9_plans_178 : decode cX9_plans 178 = .ok (.iload_n 1, 1) := by decide +kernel
theorem dX9_plans_179 : decode cX9_plans 179 = .ok (.aload_n 0, 1) := by decide +kernel
theorem dX9_plans_180 : decode cX9_plans 180 = .ok (.getfield 25, 3) := by decide +kernel
theorem dX9_plans_183 : decode cX9_plans 183 = .ok (.iload 6, 2) := by decide +kernel
theorem dX9_plans_185 : decode cX9_plans 185 = .ok (.iaload, 1) := by decide +kernel
theorem dX9_plans_186 : decode cX9_plans 186 = .ok (.iconst 1, 1) := by decide +kernel
theorem dX9_plans_187 : decode cX9_plans 187 = .ok (.iadd, 1) := by decide +kernel
theorem dX9_plans_188 : decode cX9_plans 188 = .ok (.iastore, 1) := by decide +kernel
theorem dX9_plans_189 : decode cX9_plans 189 = .ok (.iinc 5 1, 3) := by decide +kernel
theorem dX9_plans_192 : decode cX9_plans 192 = .ok (.goto (-86), 3) := by decide +kernel
theorem dX9_plans_195 : decode cX9_plans 195 = .ok (.iinc 1 (-1), 3) := by decide +kernel
theorem dX9_plans_198 : decode cX9_plans 198 = .ok (.goto (-194), 3) := by decide +kernel
theorem dX9_plans_201 : decode cX9_plans 201 = .ok (.return_, 1) := by decide +kernel
theorem dX9_leastFirings_0 : decode cX9_leastFirings 0 = .ok (.aload_n 0, 1) := by decide +kernel
theorem dX9_leastFirings_1 : decode cX9_leastFirings 1 = .ok (.invokevirtual 140, 3) := by decide +kernel
theorem dX9_leastFirings_4 : decode cX9_leastFirings 4 = .ok (.aload_n 0, 1) := by decide +kernel
theorem dX9_leastFirings_5 : decode cX9_leastFirings 5 = .ok (.getfield 25, 3) := by decide +kernel
theorem dX9_leastFirings_8 : decode cX9_leastFirings 8 = .ok (.iconst 0, 1) := by decide +kernel
theorem dX9_leastFirings_9 : decode cX9_leastFirings 9 = .ok (.iaload, 1) := by decide +kernel
theorem dX9_leastFirings_10 : decode cX9_leastFirings 10 = .ok (.ifCond .ge 8, 3) := by decide +kernel
theorem dX9_leastFirings_13 : decode cX9_leastFirings 13 = .ok (.bipush (-4), 2) := by decide +kernel
theorem dX9_leastFirings_15 : decode cX9_leastFirings 15 = .ok (.goto 9, 3) := by decide +kernel
theorem dX9_leastFirings_18 : decode cX9_leastFirings 18 = .ok (.aload_n 0, 1) := by decide +kernel
theorem dX9_leastFirings_19 : decode cX9_leastFirings 19 = .ok (.getfield 25, 3) := by decide +kernel
theorem dX9_leastFirings_22 : decode cX9_leastFirings 22 = .ok (.iconst 0, 1) := by decide +kernel
theorem dX9_leastFirings_23 : decode cX9_leastFirings 23 = .ok (.iaload, 1) := by decide +kernel
theorem dX9_leastFirings_24 : decode cX9_leastFirings 24 = .ok (.ireturn, 1) := by decide +kernel
theorem dX9_planned_0 : decode cX9_planned 0 = .ok (.iload_n 1, 1) := by decide +kernel
theorem dX9_planned_1 : decode cX9_planned 1 = .ok (.ifCond .lt 12, 3) := by decide +kernel
theorem dX9_planned_4 : decode cX9_planned 4 = .ok (.iload_n 2, 1) := by decide +kernel
theorem dX9_planned_5 : decode cX9_planned 5 = .ok (.iconst 0, 1) := by decide +kernel
theorem dX9_planned_6 : decode cX9_planned 6 = .ok (.iconst 1, 1) := by decide +kernel
theorem dX9_planned_7 : decode cX9_planned 7 = .ok (.invokestatic 32, 3) := by decide +kernel
theorem dX9_planned_10 : decode cX9_planned 10 = .ok (.ifCond .ne 5, 3) := by decide +kernel
theorem dX9_planned_13 : decode cX9_planned 13 = .ok (.iconst (-1), 1) := by decide +kernel
theorem dX9_planned_14 : decode cX9_planned 14 = .ok (.ireturn, 1) := by decide +kernel
theorem dX9_planned_15 : decode cX9_planned 15 = .ok (.aload_n 0, 1) := by decide +kernel
theorem dX9_planned_16 : decode cX9_planned 16 = .ok (.invokevirtual 140, 3) := by decide +kernel
theorem dX9_planned_19 : decode cX9_planned 19 = .ok (.aload_n 0, 1) := by decide +kernel
theorem dX9_planned_20 : decode cX9_planned 20 = .ok (.getfield 25, 3) := by decide +kernel
theorem dX9_planned_23 : decode cX9_planned 23 = .ok (.iconst 0, 1) := by decide +kernel
theorem dX9_planned_24 : decode cX9_planned 24 = .ok (.iaload, 1) := by decide +kernel
theorem dX9_planned_25 : decode cX9_planned 25 = .ok (.iload_n 1, 1) := by decide +kernel
theorem dX9_planned_26 : decode cX9_planned 26 = .ok (.if_icmp .gt 6, 3) := by decide +kernel
theorem dX9_planned_29 : decode cX9_planned 29 = .ok (.bipush (-4), 2) := by decide +kernel
theorem dX9_planned_31 : decode cX9_planned 31 = .ok (.ireturn, 1) := by decide +kernel
theorem dX9_planned_32 : decode cX9_planned 32 = .ok (.iconst 0, 1) := by decide +kernel
theorem dX9_planned_33 : decode cX9_planned 33 = .ok (.istore_n 3, 1) := by decide +kernel
theorem dX9_planned_34 : decode cX9_planned 34 = .ok (.iconst 0, 1) := by decide +kernel
theorem dX9_planned_35 : decode cX9_planned 35 = .ok (.istore 4, 2) := by decide +kernel
theorem dX9_planned_37 : decode cX9_planned 37 = .ok (.iconst 0, 1) := by decide +kernel
theorem dX9_planned_38 : decode cX9_planned 38 = .ok (.istore 5, 2) := by decide +kernel
theorem dX9_planned_40 : decode cX9_planned 40 = .ok (.iload 5, 2) := by decide +kernel
theorem dX9_planned_42 : decode cX9_planned 42 = .ok (.iload_n 1, 1) := by decide +kernel
theorem dX9_planned_43 : decode cX9_planned 43 = .ok (.if_icmp .gt 73, 3) := by decide +kernel
theorem dX9_planned_46 : decode cX9_planned 46 = .ok (.aload_n 0, 1) := by decide +kernel
theorem dX9_planned_47 : decode cX9_planned 47 = .ok (.iload_n 3, 1) := by decide +kernel
theorem dX9_planned_48 : decode cX9_planned 48 = .ok (.invokevirtual 134, 3) := by decide +kernel
theorem dX9_planned_51 : decode cX9_planned 51 = .ok (.istore 6, 2) := by decide +kernel
theorem dX9_planned_53 : decode cX9_planned 53 = .ok (.iconst 1, 1) := by decide +kernel
theorem dX9_planned_54 : decode cX9_planned 54 = .ok (.istore 4, 2) := by decide +kernel
theorem dX9_planned_56 : decode cX9_planned 56 = .ok (.aload_n 0, 1) := by decide +kernel
theorem dX9_planned_57 : decode cX9_planned 57 = .ok (.iload_n 3, 1) := by decide +kernel
theorem dX9_planned_58 : decode cX9_planned 58 = .ok (.iload 4, 2) := by decide +kernel
theorem dX9_planned_60 : decode cX9_planned 60 = .ok (.iload 6, 2) := by decide +kernel
theorem dX9_planned_62 : decode cX9_planned 62 = .ok (.invokevirtual 137, 3) := by decide +kernel
theorem dX9_planned_65 : decode cX9_planned 65 = .ok (.istore 7, 2) := by decide +kernel
theorem dX9_planned_67 : decode cX9_planned 67 = .ok (.iload 7, 2) := by decide +kernel
theorem dX9_planned_69 : decode cX9_planned 69 = .ok (.ifCond .lt 21, 3) := by decide +kernel
theorem dX9_planned_72 : decode cX9_planned 72 = .ok (.aload_n 0, 1) := by decide +kernel
theorem dX9_planned_73 : decode cX9_planned 73 = .ok (.getfield 25, 3) := by decide +kernel
theorem dX9_planned_76 : decode cX9_planned 76 = .ok (.iload 7, 2) := by decide +kernel
theorem dX9_planned_78 : decode cX9_planned 78 = .ok (.iaload, 1) := by decide +kernel
theorem dX9_planned_79 : decode cX9_planned 79 = .ok (.aload_n 0, 1) := by decide +kernel
theorem dX9_planned_80 : decode cX9_planned 80 = .ok (.getfield 25, 3) := by decide +kernel
theorem dX9_planned_83 : decode cX9_planned 83 = .ok (.iload_n 3, 1) := by decide +kernel
theorem dX9_planned_84 : decode cX9_planned 84 = .ok (.iaload, 1) := by decide +kernel
theorem dX9_planned_85 : decode cX9_planned 85 = .ok (.iconst 1, 1) := by decide +kernel
theorem dX9_planned_86 : decode cX9_planned 86 = .ok (.isub, 1) := by decide +kernel
theorem dX9_planned_87 : decode cX9_planned 87 = .ok (.if_icmp .eq 20, 3) := by decide +kernel
theorem dX9_planned_90 : decode cX9_planned 90 = .ok (.iinc 4 1, 3) := by decide +kernel
theorem dX9_planned_93 : decode cX9_planned 93 = .ok (.aload_n 0, 1) := by decide +kernel
theorem dX9_planned_94 : decode cX9_planned 94 = .ok (.iload_n 3, 1) := by decide +kernel
theorem dX9_planned_95 : decode cX9_planned 95 = .ok (.iload 4, 2) := by decide +kernel
theorem dX9_planned_97 : decode cX9_planned 97 = .ok (.iload 6, 2) := by decide +kernel
theorem dX9_planned_99 : decode cX9_planned 99 = .ok (.invokevirtual 137, 3) := by decide +kernel
theorem dX9_planned_102 : decode cX9_planned 102 = .ok (.istore 7, 2) := by decide +kernel
theorem dX9_planned_104 : decode cX9_planned 104 = .ok (.goto (-37), 3) := by decide +kernel
theorem dX9_planned_107 : decode cX9_planned 107 = .ok (.iload 7, 2) := by decide +kernel
theorem dX9_planned_109 : decode cX9_planned 109 = .ok (.istore_n 3, 1) := by decide +kernel
theorem dX9_planned_110 : decode cX9_planned 110 = .ok (.iinc 5 1, 3) := by decide +kernel
theorem dX9_planned_113 : decode cX9_planned 113 = .ok (.goto (-73), 3) := by decide +kernel
theorem dX9_planned_116 : decode cX9_planned 116 = .ok (.iload_n 2, 1) := by decide +kernel
theorem dX9_planned_117 : decode cX9_planned 117 = .ok (.ifCond .ne 8, 3) := by decide +kernel
theorem dX9_planned_120 : decode cX9_planned 120 = .ok (.iload 4, 2) := by decide +kernel
theorem dX9_planned_122 : decode cX9_planned 122 = .ok (.goto 7, 3) := by decide +kernel
theorem dX9_planned_125 : decode cX9_planned 125 = .ok (.aload_n 0, 1) := by decide +kernel
theorem dX9_planned_126 : decode cX9_planned 126 = .ok (.getfield 128, 3) := by decide +kernel
theorem dX9_planned_129 : decode cX9_planned 129 = .ok (.ireturn, 1) := by decide +kernel
theorem dX9_counter_0 : decode cX9_counter 0 = .ok (.bipush (-4), 2) := by decide +kernel
theorem dX9_counter_2 : decode cX9_counter 2 = .ok (.istore_n 1, 1) := by decide +kernel
theorem dX9_counter_3 : decode cX9_counter 3 = .ok (.iconst 0, 1) := by decide +kernel
theorem dX9_counter_4 : decode cX9_counter 4 = .ok (.istore_n 2, 1) := by decide +kernel
theorem dX9_counter_5 : decode cX9_counter 5 = .ok (.iconst 0, 1) := by decide +kernel
theorem dX9_counter_6 : decode cX9_counter 6 = .ok (.istore_n 3, 1) := by decide +kernel
theorem dX9_counter_7 : decode cX9_counter 7 = .ok (.iload_n 3, 1) := by decide +kernel
theorem dX9_counter_8 : decode cX9_counter 8 = .ok (.aload_n 0, 1) := by decide +kernel
theorem dX9_counter_9 : decode cX9_counter 9 = .ok (.getfield 7, 3) := by decide +kernel
theorem dX9_counter_12 : decode cX9_counter 12 = .ok (.iconst 0, 1) := by decide +kernel
theorem dX9_counter_13 : decode cX9_counter 13 = .ok (.iaload, 1) := by decide +kernel
theorem dX9_counter_14 : decode cX9_counter 14 = .ok (.if_icmp .ge 106, 3) := by decide +kernel
theorem dX9_counter_17 : decode cX9_counter 17 = .ok (.iconst 0, 1) := by decide +kernel
theorem dX9_counter_18 : decode cX9_counter 18 = .ok (.istore 4, 2) := by decide +kernel
theorem dX9_counter_20 : decode cX9_counter 20 = .ok (.iconst 0, 1) := by decide +kernel
theorem dX9_counter_21 : decode cX9_counter 21 = .ok (.istore 5, 2) := by decide +kernel
theorem dX9_counter_23 : decode cX9_counter 23 = .ok (.iload 5, 2) := by decide +kernel
theorem dX9_counter_25 : decode cX9_counter 25 = .ok (.bipush 6, 2) := by decide +kernel
theorem dX9_counter_27 : decode cX9_counter 27 = .ok (.if_icmp .ge 45, 3) := by decide +kernel
theorem dX9_counter_30 : decode cX9_counter 30 = .ok (.aload_n 0, 1) := by decide +kernel
theorem dX9_counter_31 : decode cX9_counter 31 = .ok (.iload 5, 2) := by decide +kernel
theorem dX9_counter_33 : decode cX9_counter 33 = .ok (.aload_n 0, 1) := by decide +kernel
theorem dX9_counter_34 : decode cX9_counter 34 = .ok (.bipush 6, 2) := by decide +kernel
theorem dX9_counter_36 : decode cX9_counter 36 = .ok (.invokevirtual 76, 3) := by decide +kernel
theorem dX9_counter_39 : decode cX9_counter 39 = .ok (.aload_n 0, 1) := by decide +kernel
theorem dX9_counter_40 : decode cX9_counter 40 = .ok (.iload_n 3, 1) := by decide +kernel
theorem dX9_counter_41 : decode cX9_counter 41 = .ok (.invokevirtual 51, 3) := by decide +kernel
theorem dX9_counter_44 : decode cX9_counter 44 = .ok (.iadd, 1) := by decide +kernel
theorem dX9_counter_45 : decode cX9_counter 45 = .ok (.invokevirtual 85, 3) := by decide +kernel
theorem dX9_counter_48 : decode cX9_counter 48 = .ok (.istore 6, 2) := by decide +kernel
theorem dX9_counter_50 : decode cX9_counter 50 = .ok (.iload 6, 2) := by decide +kernel
theorem dX9_counter_52 : decode cX9_counter 52 = .ok (.iload 4, 2) := by decide +kernel
theorem dX9_counter_54 : decode cX9_counter 54 = .ok (.if_icmp .le 8, 3) := by decide +kernel
theorem dX9_counter_57 : decode cX9_counter 57 = .ok (.iload 6, 2) := by decide +kernel
theorem dX9_counter_59 : decode cX9_counter 59 = .ok (.goto 5, 3) := by decide +kernel
theorem dX9_counter_62 : decode cX9_counter 62 = .ok (.iload 4, 2) := by decide +kernel
theorem dX9_counter_64 : decode cX9_counter 64 = .ok (.istore 4, 2) := by decide +kernel
theorem dX9_counter_66 : decode cX9_counter 66 = .ok (.iinc 5 1, 3) := by decide +kernel
theorem dX9_counter_69 : decode cX9_counter 69 = .ok (.goto (-46), 3) := by decide +kernel
theorem dX9_counter_72 : decode cX9_counter 72 = .ok (.iload_n 1, 1) := by decide +kernel
theorem dX9_counter_73 : decode cX9_counter 73 = .ok (.bipush (-4), 2) := by decide +kernel
theorem dX9_counter_75 : decode cX9_counter 75 = .ok (.if_icmp .eq 9, 3) := by decide +kernel
theorem dX9_counter_78 : decode cX9_counter 78 = .ok (.iload 4, 2) := by decide +kernel
theorem dX9_counter_80 : decode cX9_counter 80 = .ok (.iload_n 2, 1) := by decide +kernel
theorem dX9_counter_81 : decode cX9_counter 81 = .ok (.if_icmp .ge 7, 3) := by decide +kernel
theorem dX9_counter_84 : decode cX9_counter 84 = .ok (.iconst 1, 1) := by decide +kernel
theorem dX9_counter_85 : decode cX9_counter 85 = .ok (.goto 4, 3) := by decide +kernel
theorem dX9_counter_88 : decode cX9_counter 88 = .ok (.iconst 0, 1) := by decide +kernel
theorem dX9_counter_89 : decode cX9_counter 89 = .ok (.istore 5, 2) := by decide +kernel
theorem dX9_counter_91 : decode cX9_counter 91 = .ok (.iload 5, 2) := by decide +kernel
theorem dX9_counter_93 : decode cX9_counter 93 = .ok (.ifCond .eq 7, 3) := by decide +kernel
theorem dX9_counter_96 : decode cX9_counter 96 = .ok (.iload_n 3, 1) := by decide +kernel
theorem dX9_counter_97 : decode cX9_counter 97 = .ok (.goto 4, 3) := by decide +kernel
theorem dX9_counter_100 : decode cX9_counter 100 = .ok (.iload_n 1, 1) := by decide +kernel
theorem dX9_counter_101 : decode cX9_counter 101 = .ok (.istore_n 1, 1) := by decide +kernel
theorem dX9_counter_102 : decode cX9_counter 102 = .ok (.iload 5, 2) := by decide +kernel
theorem dX9_counter_104 : decode cX9_counter 104 = .ok (.ifCond .eq 8, 3) := by decide +kernel
theorem dX9_counter_107 : decode cX9_counter 107 = .ok (.iload 4, 2) := by decide +kernel
theorem dX9_counter_109 : decode cX9_counter 109 = .ok (.goto 4, 3) := by decide +kernel
theorem dX9_counter_112 : decode cX9_counter 112 = .ok (.iload_n 2, 1) := by decide +kernel
theorem dX9_counter_113 : decode cX9_counter 113 = .ok (.istore_n 2, 1) := by decide +kernel
theorem dX9_counter_114 : decode cX9_counter 114 = .ok (.iinc 3 1, 3) := by decide +kernel
theorem dX9_counter_117 : decode cX9_counter 117 = .ok (.goto (-110), 3) := by decide +kernel
theorem dX9_counter_120 : decode cX9_counter 120 = .ok (.iload_n 1, 1) := by decide +kernel
theorem dX9_counter_121 : decode cX9_counter 121 = .ok (.ireturn, 1) := by decide +kernel
theorem dX9_type_0 : decode cX9_type 0 = .ok (.iload_n 1, 1) := by decide +kernel
theorem dX9_type_1 : decode cX9_type 1 = .ok (.bipush 32, 2) := by decide +kernel
theorem dX9_type_3 : decode cX9_type 3 = .ok (.bipush 126, 2) := by decide +kernel
theorem dX9_type_5 : decode cX9_type 5 = .ok (.invokestatic 32, 3) := by decide +kernel
theorem dX9_type_8 : decode cX9_type 8 = .ok (.ifCond .ne 5, 3) := by decide +kernel
theorem dX9_type_11 : decode cX9_type 11 = .ok (.iconst (-1), 1) := by decide +kernel
theorem dX9_type_12 : decode cX9_type 12 = .ok (.ireturn, 1) := by decide +kernel
theorem dX9_type_13 : decode cX9_type 13 = .ok (.aload_n 0, 1) := by decide +kernel
theorem dX9_type_14 : decode cX9_type 14 = .ok (.getfield 105, 3) := by decide +kernel
theorem dX9_type_17 : decode cX9_type 17 = .ok (.bipush 80, 2) := by decide +kernel
theorem dX9_type_19 : decode cX9_type 19 = .ok (.if_icmp .ne 6, 3) := by decide +kernel
theorem dX9_type_22 : decode cX9_type 22 = .ok (.bipush (-3), 2) := by decide +kernel
theorem dX9_type_24 : decode cX9_type 24 = .ok (.ireturn, 1) := by decide +kernel
theorem dX9_type_25 : decode cX9_type 25 = .ok (.aload_n 0, 1) := by decide +kernel
theorem dX9_type_26 : decode cX9_type 26 = .ok (.getfield 19, 3) := by decide +kernel
theorem dX9_type_29 : decode cX9_type 29 = .ok (.aload_n 0, 1) := by decide +kernel
theorem dX9_type_30 : decode cX9_type 30 = .ok (.getfield 105, 3) := by decide +kernel
theorem dX9_type_33 : decode cX9_type 33 = .ok (.iload_n 1, 1) := by decide +kernel
theorem dX9_type_34 : decode cX9_type 34 = .ok (.iastore, 1) := by decide +kernel
theorem dX9_type_35 : decode cX9_type 35 = .ok (.aload_n 0, 1) := by decide +kernel
theorem dX9_type_36 : decode cX9_type 36 = .ok (.dup, 1) := by decide +kernel
theorem dX9_type_37 : decode cX9_type 37 = .ok (.getfield 105, 3) := by decide +kernel
theorem dX9_type_40 : decode cX9_type 40 = .ok (.iconst 1, 1) := by decide +kernel
theorem dX9_type_41 : decode cX9_type 41 = .ok (.iadd, 1) := by decide +kernel
theorem dX9_type_42 : decode cX9_type 42 = .ok (.putfield 105, 3) := by decide +kernel
theorem dX9_type_45 : decode cX9_type 45 = .ok (.aload_n 0, 1) := by decide +kernel
theorem dX9_type_46 : decode cX9_type 46 = .ok (.getfield 105, 3) := by decide +kernel
theorem dX9_type_49 : decode cX9_type 49 = .ok (.ireturn, 1) := by decide +kernel
theorem dX9_clearText_0 : decode cX9_clearText 0 = .ok (.aload_n 0, 1) := by decide +kernel
theorem dX9_clearText_1 : decode cX9_clearText 1 = .ok (.getfield 105, 3) := by decide +kernel
theorem dX9_clearText_4 : decode cX9_clearText 4 = .ok (.istore_n 1, 1) := by decide +kernel
theorem dX9_clearText_5 : decode cX9_clearText 5 = .ok (.aload_n 0, 1) := by decide +kernel
theorem dX9_clearText_6 : decode cX9_clearText 6 = .ok (.iconst 0, 1) := by decide +kernel
theorem dX9_clearText_7 : decode cX9_clearText 7 = .ok (.putfield 105, 3) := by decide +kernel
theorem dX9_clearText_10 : decode cX9_clearText 10 = .ok (.iload_n 1, 1) := by decide +kernel
theorem dX9_clearText_11 : decode cX9_clearText 11 = .ok (.ireturn, 1) := by decide +kernel
theorem dX9_reads_0 : decode cX9_reads 0 = .ok (.iconst 0, 1) := by decide +kernel
theorem dX9_reads_1 : decode cX9_reads 1 = .ok (.istore_n 2, 1) := by decide +kernel
theorem dX9_reads_2 : decode cX9_reads 2 = .ok (.iconst 0, 1) := by decide +kernel
theorem dX9_reads_3 : decode cX9_reads 3 = .ok (.istore_n 3, 1) := by decide +kernel
theorem dX9_reads_4 : decode cX9_reads 4 = .ok (.iconst 0, 1) := by decide +kernel
theorem dX9_reads_5 : decode cX9_reads 5 = .ok (.istore 4, 2) := by decide +kernel
theorem dX9_reads_7 : decode cX9_reads 7 = .ok (.aload_n 0, 1) := by decide +kernel
theorem dX9_reads_8 : decode cX9_reads 8 = .ok (.iconst 0, 1) := by decide +kernel
theorem dX9_reads_9 : decode cX9_reads 9 = .ok (.putfield 143, 3) := by decide +kernel
theorem dX9_reads_12 : decode cX9_reads 12 = .ok (.aload_n 0, 1) := by decide +kernel
theorem dX9_reads_13 : decode cX9_reads 13 = .ok (.iconst 0, 1) := by decide +kernel
theorem dX9_reads_14 : decode cX9_reads 14 = .ok (.putfield 146, 3) := by decide +kernel
theorem dX9_reads_17 : decode cX9_reads 17 = .ok (.aload_n 0, 1) := by decide +kernel
theorem dX9_reads_18 : decode cX9_reads 18 = .ok (.getfield 146, 3) := by decide +kernel
theorem dX9_reads_21 : decode cX9_reads 21 = .ok (.aload_n 0, 1) := by decide +kernel
theorem dX9_reads_22 : decode cX9_reads 22 = .ok (.getfield 105, 3) := by decide +kernel
theorem dX9_reads_25 : decode cX9_reads 25 = .ok (.if_icmp .ge 293, 3) := by decide +kernel
theorem dX9_reads_28 : decode cX9_reads 28 = .ok (.aload_n 0, 1) := by decide +kernel
theorem dX9_reads_29 : decode cX9_reads 29 = .ok (.getfield 19, 3) := by decide +kernel
theorem dX9_reads_32 : decode cX9_reads 32 = .ok (.aload_n 0, 1) := by decide +kernel
theorem dX9_reads_33 : decode cX9_reads 33 = .ok (.getfield 146, 3) := by decide +kernel
theorem dX9_reads_36 : decode cX9_reads 36 = .ok (.iaload, 1) := by decide +kernel
theorem dX9_reads_37 : decode cX9_reads 37 = .ok (.istore 5, 2) := by decide +kernel
theorem dX9_reads_39 : decode cX9_reads 39 = .ok (.iload_n 2, 1) := by decide +kernel
theorem dX9_reads_40 : decode cX9_reads 40 = .ok (.iconst 2, 1) := by decide +kernel
theorem dX9_reads_41 : decode cX9_reads 41 = .ok (.if_icmp .ne 19, 3) := by decide +kernel
theorem dX9_reads_44 : decode cX9_reads 44 = .ok (.iload 5, 2) := by decide +kernel
theorem dX9_reads_46 : decode cX9_reads 46 = .ok (.bipush 97, 2) := by decide +kernel
theorem dX9_reads_48 : decode cX9_reads 48 = .ok (.bipush 108, 2) := by decide +kernel
theorem dX9_reads_50 : decode cX9_reads 50 = .ok (.invokestatic 32, 3) := by decide +kernel
theorem dX9_reads_53 : decode cX9_reads 53 = .ok (.ifCond .eq 7, 3) := by decide +kernel
theorem dX9_reads_56 : decode cX9_reads 56 = .ok (.iconst 1, 1) := by decide +kernel
theorem dX9_reads_57 : decode cX9_reads 57 = .ok (.goto 4, 3) := by decide +kernel
theorem dX9_reads_60 : decode cX9_reads 60 = .ok (.iconst 0, 1) := by decide +kernel
theorem dX9_reads_61 : decode cX9_reads 61 = .ok (.istore 6, 2) := by decide +kernel
theorem dX9_reads_63 : decode cX9_reads 63 = .ok (.iload_n 2, 1) := by decide +kernel
theorem dX9_reads_64 : decode cX9_reads 64 = .ok (.ifCond .ne 15, 3) := by decide +kernel
theorem dX9_reads_67 : decode cX9_reads 67 = .ok (.iload 5, 2) := by decide +kernel
theorem dX9_reads_69 : decode cX9_reads 69 = .ok (.bipush 48, 2) := by decide +kernel
theorem dX9_reads_71 : decode cX9_reads 71 = .ok (.bipush 53, 2) := by decide +kernel
theorem dX9_reads_73 : decode cX9_reads 73 = .ok (.invokestatic 32, 3) := by decide +kernel
theorem dX9_reads_76 : decode cX9_reads 76 = .ok (.goto 40, 3) := by decide +kernel
theorem dX9_reads_79 : decode cX9_reads 79 = .ok (.iload_n 2, 1) := by decide +kernel
theorem dX9_reads_80 : decode cX9_reads 80 = .ok (.iconst 1, 1) := by decide +kernel
theorem dX9_reads_81 : decode cX9_reads 81 = .ok (.if_icmp .ne 18, 3) := by decide +kernel
theorem dX9_reads_84 : decode cX9_reads 84 = .ok (.iload 5, 2) := by decide +kernel
theorem dX9_reads_86 : decode cX9_reads 86 = .ok (.bipush 61, 2) := by decide +kernel
theorem dX9_reads_88 : decode cX9_reads 88 = .ok (.if_icmp .ne 7, 3) := by decide +kernel
theorem dX9_reads_91 : decode cX9_reads 91 = .ok (.iconst 1, 1) := by decide +kernel
theorem dX9_reads_92 : decode cX9_reads 92 = .ok (.goto 24, 3) := by decide +kernel
theorem dX9_reads_95 : decode cX9_reads 95 = .ok (.iconst 0, 1) := by decide +kernel
theorem dX9_reads_96 : decode cX9_reads 96 = .ok (.goto 20, 3) := by decide +kernel
theorem dX9_reads_99 : decode cX9_reads 99 = .ok (.iload 6, 2) := by decide +kernel
theorem dX9_reads_101 : decode cX9_reads 101 = .ok (.ifCond .ne 10, 3) := by decide +kernel
theorem dX9_reads_104 : decode cX9_reads 104 = .ok (.iload 5, 2) := by decide +kernel
theorem dX9_reads_106 : decode cX9_reads 106 = .ok (.bipush 59, 2) := by decide +kernel
theorem dX9_reads_108 : decode cX9_reads 108 = .ok (.if_icmp .ne 7, 3) := by decide +kernel
theorem dX9_reads_111 : decode cX9_reads 111 = .ok (.iconst 1, 1) := by decide +kernel
theorem dX9_reads_112 : decode cX9_reads 112 = .ok (.goto 4, 3) := by decide +kernel
theorem dX9_reads_115 : decode cX9_reads 115 = .ok (.iconst 0, 1) := by decide +kernel
theorem dX9_reads_116 : decode cX9_reads 116 = .ok (.istore 7, 2) := by decide +kernel
theorem dX9_reads_118 : decode cX9_reads 118 = .ok (.aload_n 0, 1) := by decide +kernel
theorem dX9_reads_119 : decode cX9_reads 119 = .ok (.iload 7, 2) := by decide +kernel
theorem dX9_reads_121 : decode cX9_reads 121 = .ok (.ifCond .ne 7, 3) := by decide +kernel
theorem dX9_reads_124 : decode cX9_reads 124 = .ok (.iconst 1, 1) := by decide +kernel
theorem dX9_reads_125 : decode cX9_reads 125 = .ok (.goto 40, 3) := by decide +kernel
theorem dX9_reads_128 : decode cX9_reads 128 = .ok (.iload 6, 2) := by decide +kernel
theorem dX9_reads_130 : decode cX9_reads 130 = .ok (.ifCond .eq 19, 3) := by decide +kernel
theorem dX9_reads_133 : decode cX9_reads 133 = .ok (.aload_n 0, 1) := by decide +kernel
theorem dX9_reads_134 : decode cX9_reads 134 = .ok (.iload 5, 2) := by decide +kernel
theorem dX9_reads_136 : decode cX9_reads 136 = .ok (.bipush 97, 2) := by decide +kernel
theorem dX9_reads_138 : decode cX9_reads 138 = .ok (.isub, 1) := by decide +kernel
theorem dX9_reads_139 : decode cX9_reads 139 = .ok (.invokevirtual 47, 3) := by decide +kernel
theorem dX9_reads_142 : decode cX9_reads 142 = .ok (.ifCond .ne 7, 3) := by decide +kernel
theorem dX9_reads_145 : decode cX9_reads 145 = .ok (.iconst 2, 1) := by decide +kernel
theorem dX9_reads_146 : decode cX9_reads 146 = .ok (.goto 19, 3) := by decide +kernel
theorem dX9_reads_149 : decode cX9_reads 149 = .ok (.iload 6, 2) := by decide +kernel
theorem dX9_reads_151 : decode cX9_reads 151 = .ok (.ifCond .eq 13, 3) := by decide +kernel
theorem dX9_reads_154 : decode cX9_reads 154 = .ok (.iload 4, 2) := by decide +kernel
theorem dX9_reads_156 : decode cX9_reads 156 = .ok (.iconst 3, 1) := by decide +kernel
theorem dX9_reads_157 : decode cX9_reads 157 = .ok (.if_icmp .ne 7, 3) := by decide +kernel
theorem dX9_reads_160 : decode cX9_reads 160 = .ok (.iconst 3, 1) := by decide +kernel
theorem dX9_reads_161 : decode cX9_reads 161 = .ok (.goto 4, 3) := by decide +kernel
theorem dX9_reads_164 : decode cX9_reads 164 = .ok (.iconst 0, 1) := by decide +kernel
theorem dX9_reads_165 : decode cX9_reads 165 = .ok (.putfield 149, 3) := by decide +kernel
theorem dX9_reads_168 : decode cX9_reads 168 = .ok (.aload_n 0, 1) := by decide +kernel
theorem dX9_reads_169 : decode cX9_reads 169 = .ok (.getfield 149, 3) := by decide +kernel
theorem dX9_reads_172 : decode cX9_reads 172 = .ok (.ifCond .le 5, 3) := by decide +kernel
theorem dX9_reads_175 : decode cX9_reads 175 = .ok (.iconst 1, 1) := by decide +kernel
theorem dX9_reads_176 : decode cX9_reads 176 = .ok (.ireturn, 1) := by decide +kernel
theorem dX9_reads_177 : decode cX9_reads 177 = .ok (.iload_n 2, 1) := by decide +kernel
theorem dX9_reads_178 : decode cX9_reads 178 = .ok (.ifCond .ne 12, 3) := by decide +kernel
theorem dX9_reads_181 : decode cX9_reads 181 = .ok (.iload 5, 2) := by decide +kernel
theorem dX9_reads_183 : decode cX9_reads 183 = .ok (.bipush 48, 2) := by decide +kernel
theorem dX9_reads_185 : decode cX9_reads 185 = .ok (.isub, 1) := by decide +kernel
theorem dX9_reads_186 : decode cX9_reads 186 = .ok (.istore_n 3, 1) := by decide +kernel
theorem dX9_reads_187 : decode cX9_reads 187 = .ok (.iconst 0, 1) := by decide +kernel
theorem dX9_reads_188 : decode cX9_reads 188 = .ok (.istore 4, 2) := by decide +kernel
theorem dX9_reads_190 : decode cX9_reads 190 = .ok (.iload 6, 2) := by decide +kernel
theorem dX9_reads_192 : decode cX9_reads 192 = .ok (.ifCond .eq 6, 3) := by decide +kernel
theorem dX9_reads_195 : decode cX9_reads 195 = .ok (.iinc 4 1, 3) := by decide +kernel
theorem dX9_reads_198 : decode cX9_reads 198 = .ok (.iload_n 1, 1) := by decide +kernel
theorem dX9_reads_199 : decode cX9_reads 199 = .ok (.ifCond .eq 20, 3) := by decide +kernel
theorem dX9_reads_202 : decode cX9_reads 202 = .ok (.iload_n 2, 1) := by decide +kernel
theorem dX9_reads_203 : decode cX9_reads 203 = .ok (.iconst 1, 1) := by decide +kernel
theorem dX9_reads_204 : decode cX9_reads 204 = .ok (.if_icmp .ne 15, 3) := by decide +kernel
theorem dX9_reads_207 : decode cX9_reads 207 = .ok (.aload_n 0, 1) := by decide +kernel
theorem dX9_reads_208 : decode cX9_reads 208 = .ok (.getfield 7, 3) := by decide +kernel
theorem dX9_reads_211 : decode cX9_reads 211 = .ok (.bipush 126, 2) := by decide +kernel
theorem dX9_reads_213 : decode cX9_reads 213 = .ok (.iconst 4, 1) := by decide +kernel
theorem dX9_reads_214 : decode cX9_reads 214 = .ok (.iload_n 3, 1) := by decide +kernel
theorem dX9_reads_215 : decode cX9_reads 215 = .ok (.imul, 1) := by decide +kernel
theorem dX9_reads_216 : decode cX9_reads 216 = .ok (.iadd, 1) := by decide +kernel
theorem dX9_reads_217 : decode cX9_reads 217 = .ok (.iconst 0, 1) := by decide +kernel
theorem dX9_reads_218 : decode cX9_reads 218 = .ok (.iastore, 1) := by decide +kernel
theorem dX9_reads_219 : decode cX9_reads 219 = .ok (.iload_n 1, 1) := by decide +kernel
theorem dX9_reads_220 : decode cX9_reads 220 = .ok (.ifCond .eq 40, 3) := by decide +kernel
theorem dX9_reads_223 : decode cX9_reads 223 = .ok (.iload 6, 2) := by decide +kernel
theorem dX9_reads_225 : decode cX9_reads 225 = .ok (.ifCond .eq 35, 3) := by decide +kernel
theorem dX9_reads_228 : decode cX9_reads 228 = .ok (.aload_n 0, 1) := by decide +kernel
theorem dX9_reads_229 : decode cX9_reads 229 = .ok (.getfield 7, 3) := by decide +kernel
theorem dX9_reads_232 : decode cX9_reads 232 = .ok (.bipush 126, 2) := by decide +kernel
theorem dX9_reads_234 : decode cX9_reads 234 = .ok (.iconst 4, 1) := by decide +kernel
theorem dX9_reads_235 : decode cX9_reads 235 = .ok (.iload_n 3, 1) := by decide +kernel
theorem dX9_reads_236 : decode cX9_reads 236 = .ok (.imul, 1) := by decide +kernel
theorem dX9_reads_237 : decode cX9_reads 237 = .ok (.iadd, 1) := by decide +kernel
theorem dX9_reads_238 : decode cX9_reads 238 = .ok (.iload 4, 2) := by decide +kernel
theorem dX9_reads_240 : decode cX9_reads 240 = .ok (.iadd, 1) := by decide +kernel
theorem dX9_reads_241 : decode cX9_reads 241 = .ok (.iload 5, 2) := by decide +kernel
theorem dX9_reads_243 : decode cX9_reads 243 = .ok (.bipush 97, 2) := by decide +kernel
theorem dX9_reads_245 : decode cX9_reads 245 = .ok (.isub, 1) := by decide +kernel
theorem dX9_reads_246 : decode cX9_reads 246 = .ok (.iastore, 1) := by decide +kernel
theorem dX9_reads_247 : decode cX9_reads 247 = .ok (.aload_n 0, 1) := by decide +kernel
theorem dX9_reads_248 : decode cX9_reads 248 = .ok (.getfield 7, 3) := by decide +kernel
theorem dX9_reads_251 : decode cX9_reads 251 = .ok (.bipush 126, 2) := by decide +kernel
theorem dX9_reads_253 : decode cX9_reads 253 = .ok (.iconst 4, 1) := by decide +kernel
theorem dX9_reads_254 : decode cX9_reads 254 = .ok (.iload_n 3, 1) := by decide +kernel
theorem dX9_reads_255 : decode cX9_reads 255 = .ok (.imul, 1) := by decide +kernel
theorem dX9_reads_256 : decode cX9_reads 256 = .ok (.iadd, 1) := by decide +kernel
theorem dX9_reads_257 : decode cX9_reads 257 = .ok (.iload 4, 2) := by decide +kernel
theorem dX9_reads_259 : decode cX9_reads 259 = .ok (.iastore, 1) := by decide +kernel
theorem dX9_reads_260 : decode cX9_reads 260 = .ok (.aload_n 0, 1) := by decide +kernel
theorem dX9_reads_261 : decode cX9_reads 261 = .ok (.dup, 1) := by decide +kernel
theorem dX9_reads_262 : decode cX9_reads 262 = .ok (.getfield 143, 3) := by decide +kernel
theorem dX9_reads_265 : decode cX9_reads 265 = .ok (.iload 5, 2) := by decide +kernel
theorem dX9_reads_267 : decode cX9_reads 267 = .ok (.bipush 59, 2) := by decide +kernel
theorem dX9_reads_269 : decode cX9_reads 269 = .ok (.if_icmp .ne 7, 3) := by decide +kernel
theorem dX9_reads_272 : decode cX9_reads 272 = .ok (.iconst 1, 1) := by decide +kernel
theorem dX9_reads_273 : decode cX9_reads 273 = .ok (.goto 4, 3) := by decide +kernel
theorem dX9_reads_276 : decode cX9_reads 276 = .ok (.iconst 0, 1) := by decide +kernel
theorem dX9_reads_277 : decode cX9_reads 277 = .ok (.iadd, 1) := by decide +kernel
theorem dX9_reads_278 : decode cX9_reads 278 = .ok (.putfield 143, 3) := by decide +kernel
theorem dX9_reads_281 : decode cX9_reads 281 = .ok (.iload 5, 2) := by decide +kernel
theorem dX9_reads_283 : decode cX9_reads 283 = .ok (.bipush 59, 2) := by decide +kernel
theorem dX9_reads_285 : decode cX9_reads 285 = .ok (.if_icmp .ne 7, 3) := by decide +kernel
theorem dX9_reads_288 : decode cX9_reads 288 = .ok (.iconst 0, 1) := by decide +kernel
theorem dX9_reads_289 : decode cX9_reads 289 = .ok (.goto 15, 3) := by decide +kernel
theorem dX9_reads_292 : decode cX9_reads 292 = .ok (.iload_n 2, 1) := by decide +kernel
theorem dX9_reads_293 : decode cX9_reads 293 = .ok (.iconst 2, 1) := by decide +kernel
theorem dX9_reads_294 : decode cX9_reads 294 = .ok (.if_icmp .ge 9, 3) := by decide +kernel
theorem dX9_reads_297 : decode cX9_reads 297 = .ok (.iload_n 2, 1) := by decide +kernel
theorem dX9_reads_298 : decode cX9_reads 298 = .ok (.iconst 1, 1) := by decide +kernel
theorem dX9_reads_299 : decode cX9_reads 299 = .ok (.iadd, 1) := by decide +kernel
theorem dX9_reads_300 : decode cX9_reads 300 = .ok (.goto 4, 3) := by decide +kernel
theorem dX9_reads_303 : decode cX9_reads 303 = .ok (.iconst 2, 1) := by decide +kernel
theorem dX9_reads_304 : decode cX9_reads 304 = .ok (.istore_n 2, 1) := by decide +kernel
theorem dX9_reads_305 : decode cX9_reads 305 = .ok (.aload_n 0, 1) := by decide +kernel
theorem dX9_reads_306 : decode cX9_reads 306 = .ok (.dup, 1) := by decide +kernel
theorem dX9_reads_307 : decode cX9_reads 307 = .ok (.getfield 146, 3) := by decide +kernel
theorem dX9_reads_310 : decode cX9_reads 310 = .ok (.iconst 1, 1) := by decide +kernel
theorem dX9_reads_311 : decode cX9_reads 311 = .ok (.iadd, 1) := by decide +kernel
theorem dX9_reads_312 : decode cX9_reads 312 = .ok (.putfield 146, 3) := by decide +kernel
theorem dX9_reads_315 : decode cX9_reads 315 = .ok (.goto (-298), 3) := by decide +kernel
theorem dX9_reads_318 : decode cX9_reads 318 = .ok (.aload_n 0, 1) := by decide +kernel
theorem dX9_reads_319 : decode cX9_reads 319 = .ok (.iconst 4, 1) := by decide +kernel
theorem dX9_reads_320 : decode cX9_reads 320 = .ok (.putfield 149, 3) := by decide +kernel
theorem dX9_reads_323 : decode cX9_reads 323 = .ok (.iload_n 2, 1) := by decide +kernel
theorem dX9_reads_324 : decode cX9_reads 324 = .ok (.ifCond .le 7, 3) := by decide +kernel
theorem dX9_reads_327 : decode cX9_reads 327 = .ok (.iconst 1, 1) := by decide +kernel
theorem dX9_reads_328 : decode cX9_reads 328 = .ok (.goto 4, 3) := by decide +kernel
theorem dX9_reads_331 : decode cX9_reads 331 = .ok (.iconst 0, 1) := by decide +kernel
theorem dX9_reads_332 : decode cX9_reads 332 = .ok (.ireturn, 1) := by decide +kernel
theorem dX9_fault_0 : decode cX9_fault 0 = .ok (.iload_n 1, 1) := by decide +kernel
theorem dX9_fault_1 : decode cX9_fault 1 = .ok (.iconst 0, 1) := by decide +kernel
theorem dX9_fault_2 : decode cX9_fault 2 = .ok (.iconst 1, 1) := by decide +kernel
theorem dX9_fault_3 : decode cX9_fault 3 = .ok (.invokestatic 32, 3) := by decide +kernel
theorem dX9_fault_6 : decode cX9_fault 6 = .ok (.ifCond .ne 5, 3) := by decide +kernel
theorem dX9_fault_9 : decode cX9_fault 9 = .ok (.iconst (-1), 1) := by decide +kernel
theorem dX9_fault_10 : decode cX9_fault 10 = .ok (.ireturn, 1) := by decide +kernel
theorem dX9_fault_11 : decode cX9_fault 11 = .ok (.aload_n 0, 1) := by decide +kernel
theorem dX9_fault_12 : decode cX9_fault 12 = .ok (.iconst 0, 1) := by decide +kernel
theorem dX9_fault_13 : decode cX9_fault 13 = .ok (.invokevirtual 152, 3) := by decide +kernel
theorem dX9_fault_16 : decode cX9_fault 16 = .ok (.ifCond .ne 8, 3) := by decide +kernel
theorem dX9_fault_19 : decode cX9_fault 19 = .ok (.bipush (-4), 2) := by decide +kernel
theorem dX9_fault_21 : decode cX9_fault 21 = .ok (.goto 18, 3) := by decide +kernel
theorem dX9_fault_24 : decode cX9_fault 24 = .ok (.iload_n 1, 1) := by decide +kernel
theorem dX9_fault_25 : decode cX9_fault 25 = .ok (.ifCond .ne 10, 3) := by decide +kernel
theorem dX9_fault_28 : decode cX9_fault 28 = .ok (.aload_n 0, 1) := by decide +kernel
theorem dX9_fault_29 : decode cX9_fault 29 = .ok (.getfield 146, 3) := by decide +kernel
theorem dX9_fault_32 : decode cX9_fault 32 = .ok (.goto 7, 3) := by decide +kernel
theorem dX9_fault_35 : decode cX9_fault 35 = .ok (.aload_n 0, 1) := by decide +kernel
theorem dX9_fault_36 : decode cX9_fault 36 = .ok (.getfield 149, 3) := by decide +kernel
theorem dX9_fault_39 : decode cX9_fault 39 = .ok (.ireturn, 1) := by decide +kernel
theorem dX9_read_0 : decode cX9_read 0 = .ok (.aload_n 0, 1) := by decide +kernel
theorem dX9_read_1 : decode cX9_read 1 = .ok (.iconst 0, 1) := by decide +kernel
theorem dX9_read_2 : decode cX9_read 2 = .ok (.invokevirtual 152, 3) := by decide +kernel
theorem dX9_read_5 : decode cX9_read 5 = .ok (.ifCond .eq 6, 3) := by decide +kernel
theorem dX9_read_8 : decode cX9_read 8 = .ok (.bipush (-2), 2) := by decide +kernel
theorem dX9_read_10 : decode cX9_read 10 = .ok (.ireturn, 1) := by decide +kernel
theorem dX9_read_11 : decode cX9_read 11 = .ok (.aload_n 0, 1) := by decide +kernel
theorem dX9_read_12 : decode cX9_read 12 = .ok (.invokevirtual 36, 3) := by decide +kernel
theorem dX9_read_15 : decode cX9_read 15 = .ok (.aload_n 0, 1) := by decide +kernel
theorem dX9_read_16 : decode cX9_read 16 = .ok (.iconst 1, 1) := by decide +kernel
theorem dX9_read_17 : decode cX9_read 17 = .ok (.invokevirtual 152, 3) := by decide +kernel
theorem dX9_read_20 : decode cX9_read 20 = .ok (.istore_n 1, 1) := by decide +kernel
theorem dX9_read_21 : decode cX9_read 21 = .ok (.aload_n 0, 1) := by decide +kernel
theorem dX9_read_22 : decode cX9_read 22 = .ok (.getfield 143, 3) := by decide +kernel
theorem dX9_read_25 : decode cX9_read 25 = .ok (.ireturn, 1) := by decide +kernel
theorem dL_law_0 : decode cL_law 0 = .ok (.new 7, 3) := by decide +kernel
theorem dL_law_3 : decode cL_law 3 = .ok (.dup, 1) := by decide +kernel
theorem dL_law_4 : decode cL_law 4 = .ok (.invokespecial 9, 3) := by decide +kernel
theorem dL_law_7 : decode cL_law 7 = .ok (.astore_n 1, 1) := by decide +kernel
theorem dL_law_8 : decode cL_law 8 = .ok (.new 10, 3) := by decide +kernel
theorem dL_law_11 : decode cL_law 11 = .ok (.dup, 1) := by decide +kernel
theorem dL_law_12 : decode cL_law 12 = .ok (.invokespecial 12, 3) := by decide +kernel
theorem dL_law_15 : decode cL_law 15 = .ok (.astore_n 2, 1) := by decide +kernel
theorem dL_law_16 : decode cL_law 16 = .ok (.iconst 0, 1) := by decide +kernel
theorem dL_law_17 : decode cL_law 17 = .ok (.istore_n 3, 1) := by decide +kernel
theorem dL_law_18 : decode cL_law 18 = .ok (.iload_n 3, 1) := by decide +kernel
theorem dL_law_19 : decode cL_law 19 = .ok (.aload_n 0, 1) := by decide +kernel
theorem dL_law_20 : decode cL_law 20 = .ok (.arraylength, 1) := by decide +kernel
theorem dL_law_21 : decode cL_law 21 = .ok (.iconst 4, 1) := by decide +kernel
theorem dL_law_22 : decode cL_law 22 = .ok (.isub, 1) := by decide +kernel
theorem dL_law_23 : decode cL_law 23 = .ok (.if_icmp .gt 685, 3) := by decide +kernel
theorem dL_law_26 : decode cL_law 26 = .ok (.aload_n 0, 1) := by decide +kernel
theorem dL_law_27 : decode cL_law 27 = .ok (.iload_n 3, 1) := by decide +kernel
theorem dL_law_28 : decode cL_law 28 = .ok (.iaload, 1) := by decide +kernel
theorem dL_law_29 : decode cL_law 29 = .ok (.bipush 31, 2) := by decide +kernel
theorem dL_law_31 : decode cL_law 31 = .ok (.iand, 1) := by decide +kernel
theorem dL_law_32 : decode cL_law 32 = .ok (.tableswitch 670 0 21 #[104, 147, 180, 213, 236, 249, 292, 325, 358, 381, 414, 447, 460, 493, 526, 539, 572, 585, 598, 621, 634, 657], 104) := by decide +kernel
theorem dL_law_136 : decode cL_law 136 = .ok (.aload_n 1, 1) := by decide +kernel
theorem dL_law_137 : decode cL_law 137 = .ok (.aload_n 0, 1) := by decide +kernel
theorem dL_law_138 : decode cL_law 138 = .ok (.iload_n 3, 1) := by decide +kernel
theorem dL_law_139 : decode cL_law 139 = .ok (.iconst 1, 1) := by decide +kernel
theorem dL_law_140 : decode cL_law 140 = .ok (.iadd, 1) := by decide +kernel
theorem dL_law_141 : decode cL_law 141 = .ok (.iaload, 1) := by decide +kernel
theorem dL_law_142 : decode cL_law 142 = .ok (.aload_n 0, 1) := by decide +kernel
theorem dL_law_143 : decode cL_law 143 = .ok (.iload_n 3, 1) := by decide +kernel
theorem dL_law_144 : decode cL_law 144 = .ok (.iconst 2, 1) := by decide +kernel
theorem dL_law_145 : decode cL_law 145 = .ok (.iadd, 1) := by decide +kernel
theorem dL_law_146 : decode cL_law 146 = .ok (.iaload, 1) := by decide +kernel
theorem dL_law_147 : decode cL_law 147 = .ok (.aload_n 0, 1) := by decide +kernel
theorem dL_law_148 : decode cL_law 148 = .ok (.iload_n 3, 1) := by decide +kernel
theorem dL_law_149 : decode cL_law 149 = .ok (.iconst 3, 1) := by decide +kernel
theorem dL_law_150 : decode cL_law 150 = .ok (.iadd, 1) := by decide +kernel
theorem dL_law_151 : decode cL_law 151 = .ok (.iaload, 1) := by decide +kernel
theorem dL_law_152 : decode cL_law 152 = .ok (.invokevirtual 13, 3) := by decide +kernel
theorem dL_law_155 : decode cL_law 155 = .ok (.aload_n 2, 1) := by decide +kernel
theorem dL_law_156 : decode cL_law 156 = .ok (.aload_n 0, 1) := by decide +kernel
theorem dL_law_157 : decode cL_law 157 = .ok (.iload_n 3, 1) := by decide +kernel
theorem dL_law_158 : decode cL_law 158 = .ok (.iconst 1, 1) := by decide +kernel
theorem dL_law_159 : decode cL_law 159 = .ok (.iadd, 1) := by decide +kernel
theorem dL_law_160 : decode cL_law 160 = .ok (.iaload, 1) := by decide +kernel
theorem dL_law_161 : decode cL_law 161 = .ok (.aload_n 0, 1) := by decide +kernel
theorem dL_law_162 : decode cL_law 162 = .ok (.iload_n 3, 1) := by decide +kernel
theorem dL_law_163 : decode cL_law 163 = .ok (.iconst 2, 1) := by decide +kernel
theorem dL_law_164 : decode cL_law 164 = .ok (.iadd, 1) := by decide +kernel
theorem dL_law_165 : decode cL_law 165 = .ok (.iaload, 1) := by decide +kernel
theorem dL_law_166 : decode cL_law 166 = .ok (.aload_n 0, 1) := by decide +kernel
theorem dL_law_167 : decode cL_law 167 = .ok (.iload_n 3, 1) := by decide +kernel
theorem dL_law_168 : decode cL_law 168 = .ok (.iconst 3, 1) := by decide +kernel
theorem dL_law_169 : decode cL_law 169 = .ok (.iadd, 1) := by decide +kernel
theorem dL_law_170 : decode cL_law 170 = .ok (.iaload, 1) := by decide +kernel
theorem dL_law_171 : decode cL_law 171 = .ok (.invokevirtual 17, 3) := by decide +kernel
theorem dL_law_174 : decode cL_law 174 = .ok (.if_icmp .eq 528, 3) := by decide +kernel
theorem dL_law_177 : decode cL_law 177 = .ok (.iconst 0, 1) := by decide +kernel
theorem dL_law_178 : decode cL_law 178 = .ok (.ireturn, 1) := by decide +kernel
theorem dL_law_179 : decode cL_law 179 = .ok (.aload_n 1, 1) := by decide +kernel
theorem dL_law_180 : decode cL_law 180 = .ok (.aload_n 0, 1) := by decide +kernel
theorem dL_law_181 : decode cL_law 181 = .ok (.iload_n 3, 1) := by decide +kernel
theorem dL_law_182 : decode cL_law 182 = .ok (.iconst 1, 1) := by decide +kernel
theorem dL_law_183 : decode cL_law 183 = .ok (.iadd, 1) := by decide +kernel
theorem dL_law_184 : decode cL_law 184 = .ok (.iaload, 1) := by decide +kernel
theorem dL_law_185 : decode cL_law 185 = .ok (.aload_n 0, 1) := by decide +kernel
theorem dL_law_186 : decode cL_law 186 = .ok (.iload_n 3, 1) := by decide +kernel
theorem dL_law_187 : decode cL_law 187 = .ok (.iconst 2, 1) := by decide +kernel
theorem dL_law_188 : decode cL_law 188 = .ok (.iadd, 1) := by decide +kernel
theorem dL_law_189 : decode cL_law 189 = .ok (.iaload, 1) := by decide +kernel
theorem dL_law_190 : decode cL_law 190 = .ok (.invokevirtual 18, 3) := by decide +kernel
theorem dL_law_193 : decode cL_law 193 = .ok (.aload_n 2, 1) := by decide +kernel
theorem dL_law_194 : decode cL_law 194 = .ok (.aload_n 0, 1) := by decide +kernel
theorem dL_law_195 : decode cL_law 195 = .ok (.iload_n 3, 1) := by decide +kernel
theorem dL_law_196 : decode cL_law 196 = .ok (.iconst 1, 1) := by decide +kernel
theorem dL_law_197 : decode cL_law 197 = .ok (.iadd, 1) := by decide +kernel
theorem dL_law_198 : decode cL_law 198 = .ok (.iaload, 1) := by decide +kernel
theorem dL_law_199 : decode cL_law 199 = .ok (.aload_n 0, 1) := by decide +kernel
theorem dL_law_200 : decode cL_law 200 = .ok (.iload_n 3, 1) := by decide +kernel
theorem dL_law_201 : decode cL_law 201 = .ok (.iconst 2, 1) := by decide +kernel
theorem dL_law_202 : decode cL_law 202 = .ok (.iadd, 1) := by decide +kernel
theorem dL_law_203 : decode cL_law 203 = .ok (.iaload, 1) := by decide +kernel
theorem dL_law_204 : decode cL_law 204 = .ok (.invokevirtual 22, 3) := by decide +kernel
theorem dL_law_207 : decode cL_law 207 = .ok (.if_icmp .eq 495, 3) := by decide +kernel
theorem dL_law_210 : decode cL_law 210 = .ok (.iconst 0, 1) := by decide +kernel
theorem dL_law_211 : decode cL_law 211 = .ok (.ireturn, 1) := by decide +kernel
theorem dL_law_212 : decode cL_law 212 = .ok (.aload_n 1, 1) := by decide +kernel
theorem dL_law_213 : decode cL_law 213 = .ok (.aload_n 0, 1) := by decide +kernel
theorem dL_law_214 : decode cL_law 214 = .ok (.iload_n 3, 1) := by decide +kernel
theorem dL_law_215 : decode cL_law 215 = .ok (.iconst 1, 1) := by decide +kernel
theorem dL_law_216 : decode cL_law 216 = .ok (.iadd, 1) := by decide +kernel
theorem dL_law_217 : decode cL_law 217 = .ok (.iaload, 1) := by decide +kernel
theorem dL_law_218 : decode cL_law 218 = .ok (.aload_n 0, 1) := by decide +kernel
theorem dL_law_219 : decode cL_law 219 = .ok (.iload_n 3, 1) := by decide +kernel
theorem dL_law_220 : decode cL_law 220 = .ok (.iconst 2, 1) := by decide +kernel
theorem dL_law_221 : decode cL_law 221 = .ok (.iadd, 1) := by decide +kernel
theorem dL_law_222 : decode cL_law 222 = .ok (.iaload, 1) := by decide +kernel
theorem dL_law_223 : decode cL_law 223 = .ok (.invokevirtual 23, 3) := by decide +kernel
theorem dL_law_226 : decode cL_law 226 = .ok (.aload_n 2, 1) := by decide +kernel
theorem dL_law_227 : decode cL_law 227 = .ok (.aload_n 0, 1) := by decide +kernel
theorem dL_law_228 : decode cL_law 228 = .ok (.iload_n 3, 1) := by decide +kernel
theorem dL_law_229 : decode cL_law 229 = .ok (.iconst 1, 1) := by decide +kernel
theorem dL_law_230 : decode cL_law 230 = .ok (.iadd, 1) := by decide +kernel
theorem dL_law_231 : decode cL_law 231 = .ok (.iaload, 1) := by decide +kernel
theorem dL_law_232 : decode cL_law 232 = .ok (.aload_n 0, 1) := by decide +kernel
theorem dL_law_233 : decode cL_law 233 = .ok (.iload_n 3, 1) := by decide +kernel
theorem dL_law_234 : decode cL_law 234 = .ok (.iconst 2, 1) := by decide +kernel
theorem dL_law_235 : decode cL_law 235 = .ok (.iadd, 1) := by decide +kernel
theorem dL_law_236 : decode cL_law 236 = .ok (.iaload, 1) := by decide +kernel
theorem dL_law_237 : decode cL_law 237 = .ok (.invokevirtual 26, 3) := by decide +kernel
theorem dL_law_240 : decode cL_law 240 = .ok (.if_icmp .eq 462, 3) := by decide +kernel
theorem dL_law_243 : decode cL_law 243 = .ok (.iconst 0, 1) := by decide +kernel
theorem dL_law_244 : decode cL_law 244 = .ok (.ireturn, 1) := by decide +kernel
theorem dL_law_245 : decode cL_law 245 = .ok (.aload_n 1, 1) := by decide +kernel
theorem dL_law_246 : decode cL_law 246 = .ok (.aload_n 0, 1) := by decide +kernel
theorem dL_law_247 : decode cL_law 247 = .ok (.iload_n 3, 1) := by decide +kernel
theorem dL_law_248 : decode cL_law 248 = .ok (.iconst 1, 1) := by decide +kernel
theorem dL_law_249 : decode cL_law 249 = .ok (.iadd, 1) := by decide +kernel
theorem dL_law_250 : decode cL_law 250 = .ok (.iaload, 1) := by decide +kernel
theorem dL_law_251 : decode cL_law 251 = .ok (.invokevirtual 27, 3) := by decide +kernel
theorem dL_law_254 : decode cL_law 254 = .ok (.aload_n 2, 1) := by decide +kernel
theorem dL_law_255 : decode cL_law 255 = .ok (.aload_n 0, 1) := by decide +kernel
theorem dL_law_256 : decode cL_law 256 = .ok (.iload_n 3, 1) := by decide +kernel
theorem dL_law_257 : decode cL_law 257 = .ok (.iconst 1, 1) := by decide +kernel
theorem dL_law_258 : decode cL_law 258 = .ok (.iadd, 1) := by decide +kernel
theorem dL_law_259 : decode cL_law 259 = .ok (.iaload, 1) := by decide +kernel
theorem dL_law_260 : decode cL_law 260 = .ok (.invokevirtual 31, 3) := by decide +kernel
theorem dL_law_263 : decode cL_law 263 = .ok (.if_icmp .eq 439, 3) := by decide +kernel
theorem dL_law_266 : decode cL_law 266 = .ok (.iconst 0, 1) := by decide +kernel
theorem dL_law_267 : decode cL_law 267 = .ok (.ireturn, 1) := by decide +kernel
theorem dL_law_268 : decode cL_law 268 = .ok (.aload_n 1, 1) := by decide +kernel
theorem dL_law_269 : decode cL_law 269 = .ok (.invokevirtual 32, 3) := by decide +kernel
theorem dL_law_272 : decode cL_law 272 = .ok (.aload_n 2, 1) := by decide +kernel
theorem dL_law_273 : decode cL_law 273 = .ok (.invokevirtual 36, 3) := by decide +kernel
theorem dL_law_276 : decode cL_law 276 = .ok (.if_icmp .eq 426, 3) := by decide +kernel
theorem dL_law_279 : decode cL_law 279 = .ok (.iconst 0, 1) := by decide +kernel
theorem dL_law_280 : decode cL_law 280 = .ok (.ireturn, 1) := by decide +kernel
theorem dL_law_281 : decode cL_law 281 = .ok (.aload_n 1, 1) := by decide +kernel
theorem dL_law_282 : decode cL_law 282 = .ok (.aload_n 0, 1) := by decide +kernel
theorem dL_law_283 : decode cL_law 283 = .ok (.iload_n 3, 1) := by decide +kernel
theorem dL_law_284 : decode cL_law 284 = .ok (.iconst 1, 1) := by decide +kernel
theorem dL_law_285 : decode cL_law 285 = .ok (.iadd, 1) := by decide +kernel
theorem dL_law_286 : decode cL_law 286 = .ok (.iaload, 1) := by decide +kernel
theorem dL_law_287 : decode cL_law 287 = .ok (.aload_n 0, 1) := by decide +kernel
theorem dL_law_288 : decode cL_law 288 = .ok (.iload_n 3, 1) := by decide +kernel
theorem dL_law_289 : decode cL_law 289 = .ok (.iconst 2, 1) := by decide +kernel
theorem dL_law_290 : decode cL_law 290 = .ok (.iadd, 1) := by decide +kernel
theorem dL_law_291 : decode cL_law 291 = .ok (.iaload, 1) := by decide +kernel
theorem dL_law_292 : decode cL_law 292 = .ok (.aload_n 0, 1) := by decide +kernel
theorem dL_law_293 : decode cL_law 293 = .ok (.iload_n 3, 1) := by decide +kernel
theorem dL_law_294 : decode cL_law 294 = .ok (.iconst 3, 1) := by decide +kernel
theorem dL_law_295 : decode cL_law 295 = .ok (.iadd, 1) := by decide +kernel
theorem dL_law_296 : decode cL_law 296 = .ok (.iaload, 1) := by decide +kernel
theorem dL_law_297 : decode cL_law 297 = .ok (.invokevirtual 37, 3) := by decide +kernel
theorem dL_law_300 : decode cL_law 300 = .ok (.aload_n 2, 1) := by decide +kernel
theorem dL_law_301 : decode cL_law 301 = .ok (.aload_n 0, 1) := by decide +kernel
theorem dL_law_302 : decode cL_law 302 = .ok (.iload_n 3, 1) := by decide +kernel
theorem dL_law_303 : decode cL_law 303 = .ok (.iconst 1, 1) := by decide +kernel
theorem dL_law_304 : decode cL_law 304 = .ok (.iadd, 1) := by decide +kernel
theorem dL_law_305 : decode cL_law 305 = .ok (.iaload, 1) := by decide +kernel
theorem dL_law_306 : decode cL_law 306 = .ok (.aload_n 0, 1) := by decide +kernel
theorem dL_law_307 : decode cL_law 307 = .ok (.iload_n 3, 1) := by decide +kernel
theorem dL_law_308 : decode cL_law 308 = .ok (.iconst 2, 1) := by decide +kernel
theorem dL_law_309 : decode cL_law 309 = .ok (.iadd, 1) := by decide +kernel
theorem dL_law_310 : decode cL_law 310 = .ok (.iaload, 1) := by decide +kernel
theorem dL_law_311 : decode cL_law 311 = .ok (.aload_n 0, 1) := by decide +kernel
theorem dL_law_312 : decode cL_law 312 = .ok (.iload_n 3, 1) := by decide +kernel
theorem dL_law_313 : decode cL_law 313 = .ok (.iconst 3, 1) := by decide +kernel
theorem dL_law_314 : decode cL_law 314 = .ok (.iadd, 1) := by decide +kernel
theorem dL_law_315 : decode cL_law 315 = .ok (.iaload, 1) := by decide +kernel
theorem dL_law_316 : decode cL_law 316 = .ok (.invokevirtual 40, 3) := by decide +kernel
theorem dL_law_319 : decode cL_law 319 = .ok (.if_icmp .eq 383, 3) := by decide +kernel
theorem dL_law_322 : decode cL_law 322 = .ok (.iconst 0, 1) := by decide +kernel
theorem dL_law_323 : decode cL_law 323 = .ok (.ireturn, 1) := by decide +kernel
theorem dL_law_324 : decode cL_law 324 = .ok (.aload_n 1, 1) := by decide +kernel
theorem dL_law_325 : decode cL_law 325 = .ok (.aload_n 0, 1) := by decide +kernel
theorem dL_law_326 : decode cL_law 326 = .ok (.iload_n 3, 1) := by decide +kernel
theorem dL_law_327 : decode cL_law 327 = .ok (.iconst 1, 1) := by decide +kernel
theorem dL_law_328 : decode cL_law 328 = .ok (.iadd, 1) := by decide +kernel
theorem dL_law_329 : decode cL_law 329 = .ok (.iaload, 1) := by decide +kernel
theorem dL_law_330 : decode cL_law 330 = .ok (.aload_n 0, 1) := by decide +kernel
theorem dL_law_331 : decode cL_law 331 = .ok (.iload_n 3, 1) := by decide +kernel
theorem dL_law_332 : decode cL_law 332 = .ok (.iconst 2, 1) := by decide +kernel
theorem dL_law_333 : decode cL_law 333 = .ok (.iadd, 1) := by decide +kernel
theorem dL_law_334 : decode cL_law 334 = .ok (.iaload, 1) := by decide +kernel
theorem dL_law_335 : decode cL_law 335 = .ok (.invokevirtual 41, 3) := by decide +kernel
theorem dL_law_338 : decode cL_law 338 = .ok (.aload_n 2, 1) := by decide +kernel
theorem dL_law_339 : decode cL_law 339 = .ok (.aload_n 0, 1) := by decide +kernel
theorem dL_law_340 : decode cL_law 340 = .ok (.iload_n 3, 1) := by decide +kernel
theorem dL_law_341 : decode cL_law 341 = .ok (.iconst 1, 1) := by decide +kernel
theorem dL_law_342 : decode cL_law 342 = .ok (.iadd, 1) := by decide +kernel
theorem dL_law_343 : decode cL_law 343 = .ok (.iaload, 1) := by decide +kernel
theorem dL_law_344 : decode cL_law 344 = .ok (.aload_n 0, 1) := by decide +kernel
theorem dL_law_345 : decode cL_law 345 = .ok (.iload_n 3, 1) := by decide +kernel
theorem dL_law_346 : decode cL_law 346 = .ok (.iconst 2, 1) := by decide +kernel
theorem dL_law_347 : decode cL_law 347 = .ok (.iadd, 1) := by decide +kernel
theorem dL_law_348 : decode cL_law 348 = .ok (.iaload, 1) := by decide +kernel
theorem dL_law_349 : decode cL_law 349 = .ok (.invokevirtual 44, 3) := by decide +kernel
theorem dL_law_352 : decode cL_law 352 = .ok (.if_icmp .eq 350, 3) := by decide +kernel
theorem dL_law_355 : decode cL_law 355 = .ok (.iconst 0, 1) := by decide +kernel
theorem dL_law_356 : decode cL_law 356 = .ok (.ireturn, 1) := by decide +kernel
theorem dL_law_357 : decode cL_law 357 = .ok (.aload_n 1, 1) := by decide +kernel
theorem dL_law_358 : decode cL_law 358 = .ok (.aload_n 0, 1) := by decide +kernel
theorem dL_law_359 : decode cL_law 359 = .ok (.iload_n 3, 1) := by decide +kernel
theorem dL_law_360 : decode cL_law 360 = .ok (.iconst 1, 1) := by decide +kernel
theorem dL_law_361 : decode cL_law 361 = .ok (.iadd, 1) := by decide +kernel
theorem dL_law_362 : decode cL_law 362 = .ok (.iaload, 1) := by decide +kernel
theorem dL_law_363 : decode cL_law 363 = .ok (.aload_n 0, 1) := by decide +kernel
theorem dL_law_364 : decode cL_law 364 = .ok (.iload_n 3, 1) := by decide +kernel
theorem dL_law_365 : decode cL_law 365 = .ok (.iconst 2, 1) := by decide +kernel
theorem dL_law_366 : decode cL_law 366 = .ok (.iadd, 1) := by decide +kernel
theorem dL_law_367 : decode cL_law 367 = .ok (.iaload, 1) := by decide +kernel
theorem dL_law_368 : decode cL_law 368 = .ok (.invokevirtual 45, 3) := by decide +kernel
theorem dL_law_371 : decode cL_law 371 = .ok (.aload_n 2, 1) := by decide +kernel
theorem dL_law_372 : decode cL_law 372 = .ok (.aload_n 0, 1) := by decide +kernel
theorem dL_law_373 : decode cL_law 373 = .ok (.iload_n 3, 1) := by decide +kernel
theorem dL_law_374 : decode cL_law 374 = .ok (.iconst 1, 1) := by decide +kernel
theorem dL_law_375 : decode cL_law 375 = .ok (.iadd, 1) := by decide +kernel
theorem dL_law_376 : decode cL_law 376 = .ok (.iaload, 1) := by decide +kernel
theorem dL_law_377 : decode cL_law 377 = .ok (.aload_n 0, 1) := by decide +kernel
theorem dL_law_378 : decode cL_law 378 = .ok (.iload_n 3, 1) := by decide +kernel
theorem dL_law_379 : decode cL_law 379 = .ok (.iconst 2, 1) := by decide +kernel
theorem dL_law_380 : decode cL_law 380 = .ok (.iadd, 1) := by decide +kernel
theorem dL_law_381 : decode cL_law 381 = .ok (.iaload, 1) := by decide +kernel
theorem dL_law_382 : decode cL_law 382 = .ok (.invokevirtual 48, 3) := by decide +kernel
theorem dL_law_385 : decode cL_law 385 = .ok (.if_icmp .eq 317, 3) := by decide +kernel
theorem dL_law_388 : decode cL_law 388 = .ok (.iconst 0, 1) := by decide +kernel
theorem dL_law_389 : decode cL_law 389 = .ok (.ireturn, 1) := by decide +kernel
theorem dL_law_390 : decode cL_law 390 = .ok (.aload_n 1, 1) := by decide +kernel
theorem dL_law_391 : decode cL_law 391 = .ok (.aload_n 0, 1) := by decide +kernel
theorem dL_law_392 : decode cL_law 392 = .ok (.iload_n 3, 1) := by decide +kernel
theorem dL_law_393 : decode cL_law 393 = .ok (.iconst 1, 1) := by decide +kernel
theorem dL_law_394 : decode cL_law 394 = .ok (.iadd, 1) := by decide +kernel
theorem dL_law_395 : decode cL_law 395 = .ok (.iaload, 1) := by decide +kernel
theorem dL_law_396 : decode cL_law 396 = .ok (.invokevirtual 49, 3) := by decide +kernel
theorem dL_law_399 : decode cL_law 399 = .ok (.aload_n 2, 1) := by decide +kernel
theorem dL_law_400 : decode cL_law 400 = .ok (.aload_n 0, 1) := by decide +kernel
theorem dL_law_401 : decode cL_law 401 = .ok (.iload_n 3, 1) := by decide +kernel
theorem dL_law_402 : decode cL_law 402 = .ok (.iconst 1, 1) := by decide +kernel
theorem dL_law_403 : decode cL_law 403 = .ok (.iadd, 1) := by decide +kernel
theorem dL_law_404 : decode cL_law 404 = .ok (.iaload, 1) := by decide +kernel
theorem dL_law_405 : decode cL_law 405 = .ok (.invokevirtual 52, 3) := by decide +kernel
theorem dL_law_408 : decode cL_law 408 = .ok (.if_icmp .eq 294, 3) := by decide +kernel
theorem dL_law_411 : decode cL_law 411 = .ok (.iconst 0, 1) := by decide +kernel
theorem dL_law_412 : decode cL_law 412 = .ok (.ireturn, 1) := by decide +kernel
theorem dL_law_413 : decode cL_law 413 = .ok (.aload_n 1, 1) := by decide +kernel
theorem dL_law_414 : decode cL_law 414 = .ok (.aload_n 0, 1) := by decide +kernel
theorem dL_law_415 : decode cL_law 415 = .ok (.iload_n 3, 1) := by decide +kernel
theorem dL_law_416 : decode cL_law 416 = .ok (.iconst 1, 1) := by decide +kernel
theorem dL_law_417 : decode cL_law 417 = .ok (.iadd, 1) := by decide +kernel
theorem dL_law_418 : decode cL_law 418 = .ok (.iaload, 1) := by decide +kernel
theorem dL_law_419 : decode cL_law 419 = .ok (.aload_n 0, 1) := by decide +kernel
theorem dL_law_420 : decode cL_law 420 = .ok (.iload_n 3, 1) := by decide +kernel
theorem dL_law_421 : decode cL_law 421 = .ok (.iconst 2, 1) := by decide +kernel
theorem dL_law_422 : decode cL_law 422 = .ok (.iadd, 1) := by decide +kernel
theorem dL_law_423 : decode cL_law 423 = .ok (.iaload, 1) := by decide +kernel
theorem dL_law_424 : decode cL_law 424 = .ok (.invokevirtual 53, 3) := by decide +kernel
theorem dL_law_427 : decode cL_law 427 = .ok (.aload_n 2, 1) := by decide +kernel
theorem dL_law_428 : decode cL_law 428 = .ok (.aload_n 0, 1) := by decide +kernel
theorem dL_law_429 : decode cL_law 429 = .ok (.iload_n 3, 1) := by decide +kernel
theorem dL_law_430 : decode cL_law 430 = .ok (.iconst 1, 1) := by decide +kernel
theorem dL_law_431 : decode cL_law 431 = .ok (.iadd, 1) := by decide +kernel
theorem dL_law_432 : decode cL_law 432 = .ok (.iaload, 1) := by decide +kernel
theorem dL_law_433 : decode cL_law 433 = .ok (.aload_n 0, 1) := by decide +kernel
theorem dL_law_434 : decode cL_law 434 = .ok (.iload_n 3, 1) := by decide +kernel
theorem dL_law_435 : decode cL_law 435 = .ok (.iconst 2, 1) := by decide +kernel
theorem dL_law_436 : decode cL_law 436 = .ok (.iadd, 1) := by decide +kernel
theorem dL_law_437 : decode cL_law 437 = .ok (.iaload, 1) := by decide +kernel
theorem dL_law_438 : decode cL_law 438 = .ok (.invokevirtual 56, 3) := by decide +kernel
theorem dL_law_441 : decode cL_law 441 = .ok (.if_icmp .eq 261, 3) := by decide +kernel
theorem dL_law_444 : decode cL_law 444 = .ok (.iconst 0, 1) := by decide +kernel
theorem dL_law_445 : decode cL_law 445 = .ok (.ireturn, 1) := by decide +kernel
theorem dL_law_446 : decode cL_law 446 = .ok (.aload_n 1, 1) := by decide +kernel
theorem dL_law_447 : decode cL_law 447 = .ok (.aload_n 0, 1) := by decide +kernel
theorem dL_law_448 : decode cL_law 448 = .ok (.iload_n 3, 1) := by decide +kernel
theorem dL_law_449 : decode cL_law 449 = .ok (.iconst 1, 1) := by decide +kernel
theorem dL_law_450 : decode cL_law 450 = .ok (.iadd, 1) := by decide +kernel
theorem dL_law_451 : decode cL_law 451 = .ok (.iaload, 1) := by decide +kernel
theorem dL_law_452 : decode cL_law 452 = .ok (.aload_n 0, 1) := by decide +kernel
theorem dL_law_453 : decode cL_law 453 = .ok (.iload_n 3, 1) := by decide +kernel
theorem dL_law_454 : decode cL_law 454 = .ok (.iconst 2, 1) := by decide +kernel
theorem dL_law_455 : decode cL_law 455 = .ok (.iadd, 1) := by decide +kernel
theorem dL_law_456 : decode cL_law 456 = .ok (.iaload, 1) := by decide +kernel
theorem dL_law_457 : decode cL_law 457 = .ok (.invokevirtual 57, 3) := by decide +kernel
theorem dL_law_460 : decode cL_law 460 = .ok (.aload_n 2, 1) := by decide +kernel
theorem dL_law_461 : decode cL_law 461 = .ok (.aload_n 0, 1) := by decide +kernel
theorem dL_law_462 : decode cL_law 462 = .ok (.iload_n 3, 1) := by decide +kernel
theorem dL_law_463 : decode cL_law 463 = .ok (.iconst 1, 1) := by decide +kernel
theorem dL_law_464 : decode cL_law 464 = .ok (.iadd, 1) := by decide +kernel
theorem dL_law_465 : decode cL_law 465 = .ok (.iaload, 1) := by decide +kernel
theorem dL_law_466 : decode cL_law 466 = .ok (.aload_n 0, 1) := by decide +kernel
theorem dL_law_467 : decode cL_law 467 = .ok (.iload_n 3, 1) := by decide +kernel
theorem dL_law_468 : decode cL_law 468 = .ok (.iconst 2, 1) := by decide +kernel
theorem dL_law_469 : decode cL_law 469 = .ok (.iadd, 1) := by decide +kernel
theorem dL_law_470 : decode cL_law 470 = .ok (.iaload, 1) := by decide +kernel
theorem dL_law_471 : decode cL_law 471 = .ok (.invokevirtual 60, 3) := by decide +kernel
theorem dL_law_474 : decode cL_law 474 = .ok (.if_icmp .eq 228, 3) := by decide +kernel
theorem dL_law_477 : decode cL_law 477 = .ok (.iconst 0, 1) := by decide +kernel
theorem dL_law_478 : decode cL_law 478 = .ok (.ireturn, 1) := by decide +kernel
theorem dL_law_479 : decode cL_law 479 = .ok (.aload_n 1, 1) := by decide +kernel
theorem dL_law_480 : decode cL_law 480 = .ok (.invokevirtual 61, 3) := by decide +kernel
theorem dL_law_483 : decode cL_law 483 = .ok (.aload_n 2, 1) := by decide +kernel
theorem dL_law_484 : decode cL_law 484 = .ok (.invokevirtual 64, 3) := by decide +kernel
theorem dL_law_487 : decode cL_law 487 = .ok (.if_icmp .eq 215, 3) := by decide +kernel
theorem dL_law_490 : decode cL_law 490 = .ok (.iconst 0, 1) := by decide +kernel
theorem dL_law_491 : decode cL_law 491 = .ok (.ireturn, 1) := by decide +kernel
theorem dL_law_492 : decode cL_law 492 = .ok (.aload_n 1, 1) := by decide +kernel
theorem dL_law_493 : decode cL_law 493 = .ok (.aload_n 0, 1) := by decide +kernel
theorem dL_law_494 : decode cL_law 494 = .ok (.iload_n 3, 1) := by decide +kernel
theorem dL_law_495 : decode cL_law 495 = .ok (.iconst 1, 1) := by decide +kernel
theorem dL_law_496 : decode cL_law 496 = .ok (.iadd, 1) := by decide +kernel
theorem dL_law_497 : decode cL_law 497 = .ok (.iaload, 1) := by decide +kernel
theorem dL_law_498 : decode cL_law 498 = .ok (.aload_n 0, 1) := by decide +kernel
theorem dL_law_499 : decode cL_law 499 = .ok (.iload_n 3, 1) := by decide +kernel
theorem dL_law_500 : decode cL_law 500 = .ok (.iconst 2, 1) := by decide +kernel
theorem dL_law_501 : decode cL_law 501 = .ok (.iadd, 1) := by decide +kernel
theorem dL_law_502 : decode cL_law 502 = .ok (.iaload, 1) := by decide +kernel
theorem dL_law_503 : decode cL_law 503 = .ok (.invokevirtual 65, 3) := by decide +kernel
theorem dL_law_506 : decode cL_law 506 = .ok (.aload_n 2, 1) := by decide +kernel
theorem dL_law_507 : decode cL_law 507 = .ok (.aload_n 0, 1) := by decide +kernel
theorem dL_law_508 : decode cL_law 508 = .ok (.iload_n 3, 1) := by decide +kernel
theorem dL_law_509 : decode cL_law 509 = .ok (.iconst 1, 1) := by decide +kernel
theorem dL_law_510 : decode cL_law 510 = .ok (.iadd, 1) := by decide +kernel
theorem dL_law_511 : decode cL_law 511 = .ok (.iaload, 1) := by decide +kernel
theorem dL_law_512 : decode cL_law 512 = .ok (.aload_n 0, 1) := by decide +kernel
theorem dL_law_513 : decode cL_law 513 = .ok (.iload_n 3, 1) := by decide +kernel
theorem dL_law_514 : decode cL_law 514 = .ok (.iconst 2, 1) := by decide +kernel
theorem dL_law_515 : decode cL_law 515 = .ok (.iadd, 1) := by decide +kernel
theorem dL_law_516 : decode cL_law 516 = .ok (.iaload, 1) := by decide +kernel
theorem dL_law_517 : decode cL_law 517 = .ok (.invokevirtual 68, 3) := by decide +kernel
theorem dL_law_520 : decode cL_law 520 = .ok (.if_icmp .eq 182, 3) := by decide +kernel
theorem dL_law_523 : decode cL_law 523 = .ok (.iconst 0, 1) := by decide +kernel
theorem dL_law_524 : decode cL_law 524 = .ok (.ireturn, 1) := by decide +kernel
theorem dL_law_525 : decode cL_law 525 = .ok (.aload_n 1, 1) := by decide +kernel
theorem dL_law_526 : decode cL_law 526 = .ok (.aload_n 0, 1) := by decide +kernel
theorem dL_law_527 : decode cL_law 527 = .ok (.iload_n 3, 1) := by decide +kernel
theorem dL_law_528 : decode cL_law 528 = .ok (.iconst 1, 1) := by decide +kernel
theorem dL_law_529 : decode cL_law 529 = .ok (.iadd, 1) := by decide +kernel
theorem dL_law_530 : decode cL_law 530 = .ok (.iaload, 1) := by decide +kernel
theorem dL_law_531 : decode cL_law 531 = .ok (.aload_n 0, 1) := by decide +kernel
theorem dL_law_532 : decode cL_law 532 = .ok (.iload_n 3, 1) := by decide +kernel
theorem dL_law_533 : decode cL_law 533 = .ok (.iconst 2, 1) := by decide +kernel
theorem dL_law_534 : decode cL_law 534 = .ok (.iadd, 1) := by decide +kernel
theorem dL_law_535 : decode cL_law 535 = .ok (.iaload, 1) := by decide +kernel
theorem dL_law_536 : decode cL_law 536 = .ok (.invokevirtual 69, 3) := by decide +kernel
theorem dL_law_539 : decode cL_law 539 = .ok (.aload_n 2, 1) := by decide +kernel
theorem dL_law_540 : decode cL_law 540 = .ok (.aload_n 0, 1) := by decide +kernel
theorem dL_law_541 : decode cL_law 541 = .ok (.iload_n 3, 1) := by decide +kernel
theorem dL_law_542 : decode cL_law 542 = .ok (.iconst 1, 1) := by decide +kernel
theorem dL_law_543 : decode cL_law 543 = .ok (.iadd, 1) := by decide +kernel
theorem dL_law_544 : decode cL_law 544 = .ok (.iaload, 1) := by decide +kernel
theorem dL_law_545 : decode cL_law 545 = .ok (.aload_n 0, 1) := by decide +kernel
theorem dL_law_546 : decode cL_law 546 = .ok (.iload_n 3, 1) := by decide +kernel
theorem dL_law_547 : decode cL_law 547 = .ok (.iconst 2, 1) := by decide +kernel
theorem dL_law_548 : decode cL_law 548 = .ok (.iadd, 1) := by decide +kernel
theorem dL_law_549 : decode cL_law 549 = .ok (.iaload, 1) := by decide +kernel
theorem dL_law_550 : decode cL_law 550 = .ok (.invokevirtual 72, 3) := by decide +kernel
theorem dL_law_553 : decode cL_law 553 = .ok (.if_icmp .eq 149, 3) := by decide +kernel
theorem dL_law_556 : decode cL_law 556 = .ok (.iconst 0, 1) := by decide +kernel
theorem dL_law_557 : decode cL_law 557 = .ok (.ireturn, 1) := by decide +kernel
theorem dL_law_558 : decode cL_law 558 = .ok (.aload_n 1, 1) := by decide +kernel
theorem dL_law_559 : decode cL_law 559 = .ok (.invokevirtual 73, 3) := by decide +kernel
theorem dL_law_562 : decode cL_law 562 = .ok (.aload_n 2, 1) := by decide +kernel
theorem dL_law_563 : decode cL_law 563 = .ok (.invokevirtual 76, 3) := by decide +kernel
theorem dL_law_566 : decode cL_law 566 = .ok (.if_icmp .eq 136, 3) := by decide +kernel
theorem dL_law_569 : decode cL_law 569 = .ok (.iconst 0, 1) := by decide +kernel
theorem dL_law_570 : decode cL_law 570 = .ok (.ireturn, 1) := by decide +kernel
theorem dL_law_571 : decode cL_law 571 = .ok (.aload_n 1, 1) := by decide +kernel
theorem dL_law_572 : decode cL_law 572 = .ok (.aload_n 0, 1) := by decide +kernel
theorem dL_law_573 : decode cL_law 573 = .ok (.iload_n 3, 1) := by decide +kernel
theorem dL_law_574 : decode cL_law 574 = .ok (.iconst 1, 1) := by decide +kernel
theorem dL_law_575 : decode cL_law 575 = .ok (.iadd, 1) := by decide +kernel
theorem dL_law_576 : decode cL_law 576 = .ok (.iaload, 1) := by decide +kernel
theorem dL_law_577 : decode cL_law 577 = .ok (.aload_n 0, 1) := by decide +kernel
theorem dL_law_578 : decode cL_law 578 = .ok (.iload_n 3, 1) := by decide +kernel
theorem dL_law_579 : decode cL_law 579 = .ok (.iconst 2, 1) := by decide +kernel
theorem dL_law_580 : decode cL_law 580 = .ok (.iadd, 1) := by decide +kernel
theorem dL_law_581 : decode cL_law 581 = .ok (.iaload, 1) := by decide +kernel
theorem dL_law_582 : decode cL_law 582 = .ok (.invokevirtual 77, 3) := by decide +kernel
theorem dL_law_585 : decode cL_law 585 = .ok (.aload_n 2, 1) := by decide +kernel
theorem dL_law_586 : decode cL_law 586 = .ok (.aload_n 0, 1) := by decide +kernel
theorem dL_law_587 : decode cL_law 587 = .ok (.iload_n 3, 1) := by decide +kernel
theorem dL_law_588 : decode cL_law 588 = .ok (.iconst 1, 1) := by decide +kernel
theorem dL_law_589 : decode cL_law 589 = .ok (.iadd, 1) := by decide +kernel
theorem dL_law_590 : decode cL_law 590 = .ok (.iaload, 1) := by decide +kernel
theorem dL_law_591 : decode cL_law 591 = .ok (.aload_n 0, 1) := by decide +kernel
theorem dL_law_592 : decode cL_law 592 = .ok (.iload_n 3, 1) := by decide +kernel
theorem dL_law_593 : decode cL_law 593 = .ok (.iconst 2, 1) := by decide +kernel
theorem dL_law_594 : decode cL_law 594 = .ok (.iadd, 1) := by decide +kernel
theorem dL_law_595 : decode cL_law 595 = .ok (.iaload, 1) := by decide +kernel
theorem dL_law_596 : decode cL_law 596 = .ok (.invokevirtual 80, 3) := by decide +kernel
theorem dL_law_599 : decode cL_law 599 = .ok (.if_icmp .eq 103, 3) := by decide +kernel
theorem dL_law_602 : decode cL_law 602 = .ok (.iconst 0, 1) := by decide +kernel
theorem dL_law_603 : decode cL_law 603 = .ok (.ireturn, 1) := by decide +kernel
theorem dL_law_604 : decode cL_law 604 = .ok (.aload_n 1, 1) := by decide +kernel
theorem dL_law_605 : decode cL_law 605 = .ok (.invokevirtual 81, 3) := by decide +kernel
theorem dL_law_608 : decode cL_law 608 = .ok (.aload_n 2, 1) := by decide +kernel
theorem dL_law_609 : decode cL_law 609 = .ok (.invokevirtual 84, 3) := by decide +kernel
theorem dL_law_612 : decode cL_law 612 = .ok (.if_icmp .eq 90, 3) := by decide +kernel
theorem dL_law_615 : decode cL_law 615 = .ok (.iconst 0, 1) := by decide +kernel
theorem dL_law_616 : decode cL_law 616 = .ok (.ireturn, 1) := by decide +kernel
theorem dL_law_617 : decode cL_law 617 = .ok (.aload_n 1, 1) := by decide +kernel
theorem dL_law_618 : decode cL_law 618 = .ok (.invokevirtual 85, 3) := by decide +kernel
theorem dL_law_621 : decode cL_law 621 = .ok (.aload_n 2, 1) := by decide +kernel
theorem dL_law_622 : decode cL_law 622 = .ok (.invokevirtual 88, 3) := by decide +kernel
theorem dL_law_625 : decode cL_law 625 = .ok (.if_icmp .eq 77, 3) := by decide +kernel
theorem dL_law_628 : decode cL_law 628 = .ok (.iconst 0, 1) := by decide +kernel
theorem dL_law_629 : decode cL_law 629 = .ok (.ireturn, 1) := by decide +kernel
theorem dL_law_630 : decode cL_law 630 = .ok (.aload_n 1, 1) := by decide +kernel
theorem dL_law_631 : decode cL_law 631 = .ok (.aload_n 0, 1) := by decide +kernel
theorem dL_law_632 : decode cL_law 632 = .ok (.iload_n 3, 1) := by decide +kernel
theorem dL_law_633 : decode cL_law 633 = .ok (.iconst 1, 1) := by decide +kernel
theorem dL_law_634 : decode cL_law 634 = .ok (.iadd, 1) := by decide +kernel
theorem dL_law_635 : decode cL_law 635 = .ok (.iaload, 1) := by decide +kernel
theorem dL_law_636 : decode cL_law 636 = .ok (.invokevirtual 89, 3) := by decide +kernel
theorem dL_law_639 : decode cL_law 639 = .ok (.aload_n 2, 1) := by decide +kernel
theorem dL_law_640 : decode cL_law 640 = .ok (.aload_n 0, 1) := by decide +kernel
theorem dL_law_641 : decode cL_law 641 = .ok (.iload_n 3, 1) := by decide +kernel
theorem dL_law_642 : decode cL_law 642 = .ok (.iconst 1, 1) := by decide +kernel
theorem dL_law_643 : decode cL_law 643 = .ok (.iadd, 1) := by decide +kernel
theorem dL_law_644 : decode cL_law 644 = .ok (.iaload, 1) := by decide +kernel
theorem dL_law_645 : decode cL_law 645 = .ok (.invokevirtual 92, 3) := by decide +kernel
theorem dL_law_648 : decode cL_law 648 = .ok (.if_icmp .eq 54, 3) := by decide +kernel
theorem dL_law_651 : decode cL_law 651 = .ok (.iconst 0, 1) := by decide +kernel
theorem dL_law_652 : decode cL_law 652 = .ok (.ireturn, 1) := by decide +kernel
theorem dL_law_653 : decode cL_law 653 = .ok (.aload_n 1, 1) := by decide +kernel
theorem dL_law_654 : decode cL_law 654 = .ok (.invokevirtual 93, 3) := by decide +kernel
theorem dL_law_657 : decode cL_law 657 = .ok (.aload_n 2, 1) := by decide +kernel
theorem dL_law_658 : decode cL_law 658 = .ok (.invokevirtual 96, 3) := by decide +kernel
theorem dL_law_661 : decode cL_law 661 = .ok (.if_icmp .eq 41, 3) := by decide +kernel
theorem dL_law_664 : decode cL_law 664 = .ok (.iconst 0, 1) := by decide +kernel
theorem dL_law_665 : decode cL_law 665 = .ok (.ireturn, 1) := by decide +kernel
theorem dL_law_666 : decode cL_law 666 = .ok (.aload_n 1, 1) := by decide +kernel
theorem dL_law_667 : decode cL_law 667 = .ok (.aload_n 0, 1) := by decide +kernel
theorem dL_law_668 : decode cL_law 668 = .ok (.iload_n 3, 1) := by decide +kernel
theorem dL_law_669 : decode cL_law 669 = .ok (.iconst 1, 1) := by decide +kernel
theorem dL_law_670 : decode cL_law 670 = .ok (.iadd, 1) := by decide +kernel
theorem dL_law_671 : decode cL_law 671 = .ok (.iaload, 1) := by decide +kernel
theorem dL_law_672 : decode cL_law 672 = .ok (.invokevirtual 97, 3) := by decide +kernel
theorem dL_law_675 : decode cL_law 675 = .ok (.aload_n 2, 1) := by decide +kernel
theorem dL_law_676 : decode cL_law 676 = .ok (.aload_n 0, 1) := by decide +kernel
theorem dL_law_677 : decode cL_law 677 = .ok (.iload_n 3, 1) := by decide +kernel
theorem dL_law_678 : decode cL_law 678 = .ok (.iconst 1, 1) := by decide +kernel
theorem dL_law_679 : decode cL_law 679 = .ok (.iadd, 1) := by decide +kernel
theorem dL_law_680 : decode cL_law 680 = .ok (.iaload, 1) := by decide +kernel
theorem dL_law_681 : decode cL_law 681 = .ok (.invokevirtual 100, 3) := by decide +kernel
theorem dL_law_684 : decode cL_law 684 = .ok (.if_icmp .eq 18, 3) := by decide +kernel
theorem dL_law_687 : decode cL_law 687 = .ok (.iconst 0, 1) := by decide +kernel
theorem dL_law_688 : decode cL_law 688 = .ok (.ireturn, 1) := by decide +kernel
theorem dL_law_689 : decode cL_law 689 = .ok (.aload_n 1, 1) := by decide +kernel
theorem dL_law_690 : decode cL_law 690 = .ok (.invokevirtual 101, 3) := by decide +kernel
theorem dL_law_693 : decode cL_law 693 = .ok (.aload_n 2, 1) := by decide +kernel
theorem dL_law_694 : decode cL_law 694 = .ok (.invokevirtual 104, 3) := by decide +kernel
theorem dL_law_697 : decode cL_law 697 = .ok (.if_icmp .eq 5, 3) := by decide +kernel
theorem dL_law_700 : decode cL_law 700 = .ok (.iconst 0, 1) := by decide +kernel
theorem dL_law_701 : decode cL_law 701 = .ok (.ireturn, 1) := by decide +kernel
theorem dL_law_702 : decode cL_law 702 = .ok (.iinc 3 4, 3) := by decide +kernel
theorem dL_law_705 : decode cL_law 705 = .ok (.goto (-687), 3) := by decide +kernel
theorem dL_law_708 : decode cL_law 708 = .ok (.iconst 1, 1) := by decide +kernel
theorem dL_law_709 : decode cL_law 709 = .ok (.ireturn, 1) := by decide +kernel
end
section

/-! values: an int as a whole number, a cell by its place; a world: what cells there are, and a memory of whole numbers -/
abbrev AV : Type := Int ⊕ Nat
abbrev ShF : Type := Option (Option Nat)
abbrev ShC : Type := (Nat × List ShF) ⊕ ((Nat × Nat) ⊕ List (Option Nat))
abbrev AM : Type := Nat → Int → Int
abbrev HP : Type := List ShC × AM
abbrev MI : Type := MethodName × ByteArray × Nat × Option FieldType
abbrev AX : Type := Nat × (Nat → Int32)
abbrev AE : Type := AX × Nat × Nat × Nat × Nat
def GW : List Cond := lw_tbl.filter goodWord
def am_nest : Cond → Bool
  | .fieldLinkNest .. => true
  | .methodLinkNest .. => true
  | _ => false
def NWL : List Cond := lw_tbl.filter am_nest
def am_up (m : AM) (k : Nat) (j v : Int) : AM := fun k' j' => if k' = k ∧ j' = j then v else m k' j'
abbrev rng (x : Int) : Prop := -2147483648 ≤ x ∧ x ≤ 2147483647
def cv (ad : Nat → Nat) : AV → Value
  | .inl x => .int (Int32.ofInt x)
  | .inr k => .ref (ad k)
def cfl (ad : Nat → Nat) (m : AM) (k : Nat) (j : Nat) : ShF → Value
  | none => .int (Int32.ofInt (m k (j : Int)))
  | some none => .null
  | some (some r) => .ref (ad r)
def ce (dA : Nat → ClassId) (ad : Nat → Nat) (m : AM) (k : Nat) : ShC → va_E
  | .inl (ci, fs) => .inr (ci, fs.mapIdx (cfl ad m k))
  | .inr (.inl (t, n)) => .inl (dA t, n, .inl (fun j => Int32.ofInt (m k (j : Int))))
  | .inr (.inr rs) => .inl (dA 3, rs.length, .inr (.inr (.inr (.inr (fun j => (rs.getD j none).map ad)))))
def con (dA : Nat → ClassId) (ad : Nat → Nat) (h : HP) : va_W := h.1.mapIdx (fun k c => (ad k, ce dA ad h.2 k c))
def slC : ShC → Nat
  | .inl (_, fs) => fs.length
  | .inr (.inl (_, n)) => n
  | .inr (.inr rs) => rs.length
def slS (sh : List ShC) : Nat := (sh.map slC).sum
theorem con_get {dA : Nat → ClassId} {ad : Nat → Nat} {h : HP} {k : Nat} {c : ShC} (hc : h.1[k]? = some c) : (con dA ad h)[k]? = some (ad k, ce dA ad h.2 k c) := by
  simp [con, List.getElem?_mapIdx, hc]
theorem con_len {dA : Nat → ClassId} {ad : Nat → Nat} {h : HP} : (con dA ad h).length = h.1.length := by simp [con]
theorem ce_ne {dA : Nat → ClassId} {ad : Nat → Nat} {m : AM} {k i : Nat} {j v : Int} {c : ShC} (h : i ≠ k) : ce dA ad (am_up m k j v) i c = ce dA ad m i c := by
  have e : ∀ (z : Int), am_up m k j v i z = m i z := fun z => by simp [am_up, h]
  rcases c with ⟨ci, fs⟩ | ⟨t, n⟩ | rs
  · simp only [ce]
    congr 3
    funext z f
    cases f with
    | none => simp [cfl, e]
    | some r => cases r <;> rfl
  · simp [ce, e]
  · rfl
theorem con_set {dA : Nat → ClassId} {ad : Nat → Nat} {sh sh' : List ShC} {m m' : AM} {k : Nat} {c : ShC} (hk : k < sh.length) (hsh : sh' = sh.set k c) (ho : ∀ i c, i ≠ k → ce dA ad m' i c = ce dA ad m i c) : con dA ad (sh', m') = (con dA ad (sh, m)).set k (ad k, ce dA ad m' k c) := by
  subst hsh
  apply List.ext_getElem?
  intro i
  by_cases hi : i = k
  · subst hi
    simp [con, List.getElem?_mapIdx, hk]
  · rw [List.getElem?_set_ne (Ne.symm hi)]
    simp only [con, List.getElem?_mapIdx]
    rw [List.getElem?_set_ne (Ne.symm hi)]
    cases h : sh[i]? with
    | none => rfl
    | some c0 => simp [ho i c0 hi]
theorem con_setI {dA : Nat → ClassId} {ad : Nat → Nat} {sh : List ShC} {m : AM} {k : Nat} {j v : Int} {c : ShC} (hc : sh[k]? = some c) : con dA ad (sh, am_up m k j v) = (con dA ad (sh, m)).set k (ad k, ce dA ad (am_up m k j v) k c) := by
  obtain ⟨hk, hg⟩ := List.getElem?_eq_some_iff.mp hc
  exact con_set hk (by rw [← hg]; exact (List.set_getElem_self hk).symm) (fun i c h => ce_ne h)
theorem ce_fI {dA : Nat → ClassId} {ad : Nat → Nat} {m : AM} {k j ci : Nat} {v : Int} {fs : List ShF} (hf : fs[j]? = some none) : ce dA ad (am_up m k (j : Int) v) k (.inl (ci, fs)) = .inr (ci, (fs.mapIdx (cfl ad m k)).set j (.int (Int32.ofInt v))) := by
  simp only [ce]
  congr 2
  apply List.ext_getElem?
  intro i
  by_cases hi : i = j
  · subst hi
    obtain ⟨hl, -⟩ := List.getElem?_eq_some_iff.mp hf
    rw [List.getElem?_set_self (by simpa using hl), List.getElem?_mapIdx, hf]
    simp [cfl, am_up]
  · rw [List.getElem?_set_ne (Ne.symm hi), List.getElem?_mapIdx, List.getElem?_mapIdx]
    cases h : fs[i]? with
    | none => rfl
    | some f =>
      cases f with
      | none =>
        have hne : ¬ (i : Int) = (j : Int) := by omega
        simp [cfl, am_up, hne]
      | some r => cases r <;> rfl
theorem ce_aI {dA : Nat → ClassId} {ad : Nat → Nat} {m : AM} {k t n : Nat} {i v : Int} (h0 : 0 ≤ i) : ce dA ad (am_up m k i v) k (.inr (.inl (t, n))) = .inl (dA t, n, .inl (upd (fun j => Int32.ofInt (m k (j : Int))) i.toNat (Int32.ofInt v))) := by
  simp only [ce]
  congr 4
  funext j
  by_cases hj : j = i.toNat
  · have e : (j : Int) = i := by omega
    have e2 : am_up m k i v k (j : Int) = v := if_pos ⟨rfl, e⟩
    have e3 : upd (fun j => Int32.ofInt (m k (j : Int))) i.toNat (Int32.ofInt v) j = Int32.ofInt v := if_pos hj
    rw [e2, e3]
  · have e : ¬ (j : Int) = i := by omega
    have e2 : am_up m k i v k (j : Int) = m k (j : Int) := if_neg (fun z => e z.2)
    have e3 : upd (fun j => Int32.ofInt (m k (j : Int))) i.toNat (Int32.ofInt v) j = Int32.ofInt (m k (j : Int)) := if_neg hj
    rw [e2, e3]
theorem ofI_add (x y : Int) : Int32.ofInt (x + y) = Int32.ofInt x + Int32.ofInt y := Int32.toBitVec.inj (by simp [BitVec.ofInt_add])
theorem ofI_mul (x y : Int) : Int32.ofInt (x * y) = Int32.ofInt x * Int32.ofInt y := Int32.toBitVec.inj (by simp [BitVec.ofInt_mul])
theorem ofI_neg (x : Int) : Int32.ofInt (-x) = -Int32.ofInt x := by simp
theorem ofI_sub (x y : Int) : Int32.ofInt (x - y) = Int32.ofInt x - Int32.ofInt y := by rw [Int.sub_eq_add_neg, ofI_add, ofI_neg, Int32.sub_eq_add_neg]
theorem ofI_toInt {x : Int} (h : rng x) : (Int32.ofInt x).toInt = x := Int32.toInt_ofInt_of_le (by have := h.1; omega) (by have := h.2; omega)
theorem ofI_le {x y : Int} (hx : rng x) (hy : rng y) : Int32.ofInt x ≤ Int32.ofInt y ↔ x ≤ y := by rw [Int32.le_iff_toInt_le, ofI_toInt hx, ofI_toInt hy]
theorem ofI_lt {x y : Int} (hx : rng x) (hy : rng y) : Int32.ofInt x < Int32.ofInt y ↔ x < y := by rw [Int32.lt_iff_toInt_lt, ofI_toInt hx, ofI_toInt hy]
theorem ofI_eq {x y : Int} (hx : rng x) (hy : rng y) : Int32.ofInt x = Int32.ofInt y ↔ x = y := by rw [← Int32.toInt_inj, ofI_toInt hx, ofI_toInt hy]
theorem ofI_cl {x : Int} (hx : rng x) : (Int32.ofInt x).toNatClampNeg = x.toNat := Int32.toNatClampNeg_ofInt_of_le (by have := hx.1; omega) (by have := hx.2; omega)
theorem ofI_in {x : Int} {n : Nat} (h0 : 0 ≤ x) (h1 : x < n) (hn : n < 2147483648) : vp_in (Int32.ofInt x) n := by
  have hr : rng x := ⟨by omega, by omega⟩
  rw [vp_in_iff, ofI_toInt hr]
  omega
theorem rng_toInt (x : Int32) : rng x.toInt := ⟨by have := Int32.le_toInt x; omega, by have := Int32.toInt_lt x; omega⟩
theorem cv_cat (ad : Nat → Nat) (v : AV) : (cv ad v).category = 1 := by cases v <;> rfl
/-! the places of the locals -/
def lvL (ad : Nat → Nat) (ls : Array Slot) (nL : Nat) (L : List (Option AV)) : Prop := ls.size = nL ∧ lv_wf ls ∧ ∀ (i : Nat) (v : AV), L[i]? = some (some v) → ls[i]? = some (.val (cv ad v))
def aPr (ad : Nat → Nat) (L : List (Option AV)) : List (Nat × Value) := (List.range L.length).filterMap (fun i => match L[i]? with | some (some v) => some (i, cv ad v) | _ => none)
theorem aPr_mem {ad : Nat → Nat} {L : List (Option AV)} {q : Nat × Value} : q ∈ aPr ad L ↔ ∃ v, L[q.1]? = some (some v) ∧ q.2 = cv ad v := by
  unfold aPr
  rw [List.mem_filterMap]
  constructor
  · rintro ⟨i, -, h⟩
    cases hv : L[i]? with
    | none => simp [hv] at h
    | some o =>
      cases o with
      | none => simp [hv] at h
      | some v =>
        simp only [hv, Option.some.injEq] at h
        subst h
        exact ⟨v, hv, rfl⟩
  · rintro ⟨v, hv, e⟩
    refine ⟨q.1, List.mem_range.mpr (List.getElem?_eq_some_iff.mp hv).1, ?_⟩
    obtain ⟨a, b⟩ := q
    simp only at hv e
    subst e
    simp [hv]
theorem lvL.has {ad : Nat → Nat} {ls : Array Slot} {nL : Nat} {L : List (Option AV)} (h : lvL ad ls nL L) : lv_has ls nL (aPr ad L) := by
  refine ⟨h.1, h.2.1, fun q hq => ?_⟩
  obtain ⟨v, hv, e⟩ := aPr_mem.mp hq
  rw [e]
  exact h.2.2 q.1 v hv
theorem lvL.store {ad : Nat → Nat} {ls' : Array Slot} {nL i : Nat} {L : List (Option AV)} {v : AV} (h : lv_has ls' nL ((i, cv ad v) :: (aPr ad L).filter (fun q => !(q.1 == i) && !(q.1 + 1 == i && q.2.category == 2)))) : lvL ad ls' nL (L.set i (some v)) := by
  refine ⟨h.1, h.2.1, fun j x hj => ?_⟩
  by_cases e : j = i
  · subst e
    have hl : j < L.length := by
      have := (List.getElem?_eq_some_iff.mp hj).1
      simpa using this
    rw [List.getElem?_set_self hl] at hj
    cases hj
    exact h.2.2 (j, cv ad v) List.mem_cons_self
  · rw [List.getElem?_set_ne (Ne.symm e)] at hj
    refine h.2.2 (j, cv ad x) (List.mem_cons_of_mem _ (List.mem_filter.mpr ⟨aPr_mem.mpr ⟨x, hj, rfl⟩, ?_⟩))
    simp [e, cv_cat]
theorem lvL.agree {ad ad' : Nat → Nat} {ls : Array Slot} {nL : Nat} {L : List (Option AV)} (h : lvL ad ls nL L) (ha : ∀ (i k : Nat), L[i]? = some (some (.inr k)) → ad' k = ad k) : lvL ad' ls nL L := by
  refine ⟨h.1, h.2.1, fun i v hv => ?_⟩
  rw [h.2.2 i v hv]
  cases v with
  | inl x => rfl
  | inr k => simp only [cv]; rw [ha i k hv]
/-! what stands fast in a walk, and what moves -/
def tysA (dA : Nat → ClassId) : List (ClassId × FieldType) := [(dA 0, .int), (dA 1, .boolean), (dA 2, .char), (dA 3, .object RX0)]
def sLeast : Nat → Int32 := fun j => if j = 0 then 1 else 0
def sGreat : Nat → Int32 := fun j => if j = 0 then 10 else if j = 1 then 5 else 400
def aRO (X : AX) (ad : Nat → Nat) (A : Nat → Prop) (U : State) : Prop :=
  (va_X (ad 1000) X.1 X.2 U U.heap ∧ ad 1000 < U.heap.size ∧ ¬ A (ad 1000)) ∧ (va_X (ad 1001) 3 sLeast U U.heap ∧ ad 1001 < U.heap.size ∧ ¬ A (ad 1001)) ∧ (va_X (ad 1002) 3 sGreat U U.heap ∧ ad 1002 < U.heap.size ∧ ¬ A (ad 1002)) ∧ va_Z RX8 "LEAST_SETTING" "[I" (.ref (ad 1001)) A U U.heap ∧ va_Z RX8 "GREATEST_SETTING" "[I" (.ref (ad 1002)) A U U.heap
def aSt (M : MI) (E : AE) (p : Program) (R : Room) (s : State) (m : MethodId) (args : Array Value) (meth : Method) (c : Code) (A : Nat → Prop) (dC : Nat → ClassId) (dI : Nat → Nat → Nat) (dA : Nat → ClassId) (n0 m0 : Nat) : Prop :=
  p.tables.exec = Jvm.exec ∧ c.code = M.2.1 ∧ meth.sig.returnType = M.2.2.2 ∧ c.maxLocals = M.2.2.1 ∧ s.vm.findClass M.1.cls = some m.cls ∧ (∀ w ∈ GW, w.before args s = true) ∧ meth.locks = false ∧ meth.name = M.1.name ∧ (∀ w ∈ NWL, va_Nw w s) ∧ va_AO RX0 s ∧ va_K (dC, dI) vwCl (tysA dA) s ∧ (∀ q, s.heap.size ≤ q → A q) ∧ E.2.1 ≤ R.frames ∧ E.2.2.1 ≤ R.locals ∧ E.2.2.2.1 = R.cells + n0 ∧ E.2.2.2.2 = R.slots + m0
def aDy (M : MI) (E : AE) (s : State) (H : Heap) (locs : List Loc) (cells slots : Nat) (A : Nat → Prop) (dC : Nat → ClassId) (dI : Nat → Nat → Nat) (dA : Nat → ClassId) (ad ad0 : Nat → Nat) (ls : Array Slot) (n0 m0 : Nat) (L : List (Option AV)) (h : HP) : Prop :=
  va_P (dC, dI) vwCl (con dA ad h) H ∧ va_D A (con dA ad h) ∧ va_S A s.heap H locs ∧ cells + n0 = h.1.length ∧ slots + m0 = slS h.1 ∧ lvL ad ls M.2.2.1 L ∧ aRO E.1 ad A s ∧ (∀ k : Nat, (k < n0 ∨ h.1.length ≤ k) → ad k = ad0 k)
def aEnd (M : MI) (pc : Nat) (v : Option Int) : Prop := match v with
  | some z => decode M.2.1 pc = .ok (.ireturn, 1) ∧ (M.2.2.2 = some .int ∨ (M.2.2.2 = some .boolean ∧ (z = 0 ∨ z = 1)))
  | none => decode M.2.1 pc = .ok (.return_, 1) ∧ M.2.2.2 = none
def aFi (M : MI) (E : AE) (l : Launch) (p : Program) (e : Env) (R : Room) (s : State) (m : MethodId) (args : Array Value) (below : List Frame) (meth : Method) (c : Code) (A : Nat → Prop) (dC : Nat → ClassId) (dI : Nat → Nat → Nat) (dA : Nat → ClassId) (ad0 : Nat → Nat) (n0 m0 : Nat) (QQ : State → Prop) (Q : Option Int → HP → Prop) : Prop :=
  ∀ (v : Option Int) (h' : HP) (H' : Heap) (locs' : List Loc) (cells' slots' : Nat) (ad' : Nat → Nat) (ls' : Array Slot) (pc' : Nat) (L' : List (Option AV)), Q v h' → aDy M E s H' locs' cells' slots' A dC dI dA ad' ad0 ls' n0 m0 L' h' → h'.1.length = E.2.2.2.1 → slS h'.1 = E.2.2.2.2 → aEnd M pc' v → W p l e R s m args below meth c H' locs' cells' slots' QQ (F0 m pc' ls' (v.toList.map (fun z => .int (Int32.ofInt z))))
def AW (M : MI) (E : AE) (pc : Nat) (L : List (Option AV)) (S : List AV) (h : HP) (Q : Option Int → HP → Prop) : Prop :=
  ∀ (l : Launch) (p : Program) (e : Env) (R : Room) (s : State) (m : MethodId) (args : Array Value) (below : List Frame) (meth : Method) (c : Code) (H : Heap) (locs : List Loc) (cells slots : Nat) (A : Nat → Prop) (dC : Nat → ClassId) (dI : Nat → Nat → Nat) (dA : Nat → ClassId) (ad ad0 : Nat → Nat) (ls : Array Slot) (n0 m0 : Nat) (QQ : State → Prop),
    aSt M E p R s m args meth c A dC dI dA n0 m0 → aFi M E l p e R s m args below meth c A dC dI dA ad0 n0 m0 QQ Q → aDy M E s H locs cells slots A dC dI dA ad ad0 ls n0 m0 L h → W p l e R s m args below meth c H locs cells slots QQ (F0 m pc ls (S.map (cv ad)))
theorem AW.mono {M : MI} {E : AE} {pc : Nat} {L : List (Option AV)} {S : List AV} {h : HP} {Q Q' : Option Int → HP → Prop} (k : AW M E pc L S h Q) (hq : ∀ v h', Q v h' → Q' v h') : AW M E pc L S h Q' := by
  intro l p e R s m args below meth c H locs cells slots A dC dI dA ad ad0 ls n0 m0 QQ hs hf hy
  exact k l p e R s m args below meth c H locs cells slots A dC dI dA ad ad0 ls n0 m0 QQ hs (fun v h' H' locs' cells' slots' ad' ls' pc' L' q => hf v h' H' locs' cells' slots' ad' ls' pc' L' (hq v h' q)) hy
theorem AW.loc {M : MI} {E : AE} {pc : Nat} {L L' : List (Option AV)} {S : List AV} {h : HP} {Q : Option Int → HP → Prop} (k : AW M E pc L' S h Q) (hL : ∀ (i : Nat) (v : AV), L'[i]? = some (some v) → L[i]? = some (some v)) : AW M E pc L S h Q := by
  intro l p e R s m args below meth c H locs cells slots A dC dI dA ad ad0 ls n0 m0 QQ hs hf hy
  obtain ⟨y1, y2, y3, y4, y5, y6, y7, y8⟩ := hy
  exact k l p e R s m args below meth c H locs cells slots A dC dI dA ad ad0 ls n0 m0 QQ hs hf ⟨y1, y2, y3, y4, y5, ⟨y6.1, y6.2.1, fun i v hv => y6.2.2 i v (hL i v hv)⟩, y7, y8⟩
section MACH
variable {M : MI} {E : AE} {pc : Nat} {L : List (Option AV)} {S : List AV} {h : HP} {Q : Option Int → HP → Prop}
theorem aw_const {n : Int} (hd : decode M.2.1 pc = .ok (.iconst n, 1))
    (k : AW M E (pc + 1) L (.inl n :: S) h Q) : AW M E pc L S h Q := by
  intro l p e R s m args below meth c H locs cells slots A dC dI dA ad ad0 ls n0 m0 QQ hs hf hy
  exact lv_iconst hs.1 hs.2.1 hd rfl (k l p e R s m args below meth c H locs cells slots A dC dI dA ad ad0 ls n0 m0 QQ hs hf hy)
theorem aw_bipush {n : Int} (hd : decode M.2.1 pc = .ok (.bipush n, 2)) (hn : (Int8.ofInt n).toInt32 = Int32.ofInt n)
    (k : AW M E (pc + 2) L (.inl n :: S) h Q) : AW M E pc L S h Q := by
  intro l p e R s m args below meth c H locs cells slots A dC dI dA ad ad0 ls n0 m0 QQ hs hf hy
  exact lv_bipush hs.1 hs.2.1 hd hn (k l p e R s m args below meth c H locs cells slots A dC dI dA ad ad0 ls n0 m0 QQ hs hf hy)
theorem aw_sipush {n : Int} (hd : decode M.2.1 pc = .ok (.sipush n, 3)) (hn : (Int16.ofInt n).toInt32 = Int32.ofInt n)
    (k : AW M E (pc + 3) L (.inl n :: S) h Q) : AW M E pc L S h Q := by
  intro l p e R s m args below meth c H locs cells slots A dC dI dA ad ad0 ls n0 m0 QQ hs hf hy
  exact lv_sipush hs.1 hs.2.1 hd hn (k l p e R s m args below meth c H locs cells slots A dC dI dA ad ad0 ls n0 m0 QQ hs hf hy)
theorem aw_ild_n {i : Nat} {j : Fin 4} {x : Int} (hd : decode M.2.1 pc = .ok (.iload_n j, 1)) (hi : (j : Nat) = i) (hL : L[i]? = some (some (.inl x)))
    (k : AW M E (pc + 1) L (.inl x :: S) h Q) : AW M E pc L S h Q := by
  intro l p e R s m args below meth c H locs cells slots A dC dI dA ad ad0 ls n0 m0 QQ hs hf hy
  exact lv_iload_n hs.1 hs.2.1 hd hi (hy.2.2.2.2.2.1.2.2 _ _ hL) (k l p e R s m args below meth c H locs cells slots A dC dI dA ad ad0 ls n0 m0 QQ hs hf hy)
theorem aw_ild {i : Nat} {x : Int} (hd : decode M.2.1 pc = .ok (.iload i, 2)) (hL : L[i]? = some (some (.inl x)))
    (k : AW M E (pc + 2) L (.inl x :: S) h Q) : AW M E pc L S h Q := by
  intro l p e R s m args below meth c H locs cells slots A dC dI dA ad ad0 ls n0 m0 QQ hs hf hy
  exact lv_iload hs.1 hs.2.1 hd (hy.2.2.2.2.2.1.2.2 _ _ hL) (k l p e R s m args below meth c H locs cells slots A dC dI dA ad ad0 ls n0 m0 QQ hs hf hy)
theorem aw_ist_n {i : Nat} {j : Fin 4} {L' : List (Option AV)} {x : Int} (hd : decode M.2.1 pc = .ok (.istore_n j, 1)) (hi : (j : Nat) = i) (hn : i < M.2.2.1) (hL : L.set i (some (.inl x)) = L')
    (k : AW M E (pc + 1) L' S h Q) : AW M E pc L (.inl x :: S) h Q := by
  intro l p e R s m args below meth c H locs cells slots A dC dI dA ad ad0 ls n0 m0 QQ hs hf hy
  subst hL
  exact lv_istore_n hs.1 hs.2.1 hd hi (lvL.has hy.2.2.2.2.2.1) hn rfl (fun ls' h' => k l p e R s m args below meth c H locs cells slots A dC dI dA ad ad0 ls' n0 m0 QQ hs hf ⟨hy.1, hy.2.1, hy.2.2.1, hy.2.2.2.1, hy.2.2.2.2.1, lvL.store h', hy.2.2.2.2.2.2.1, hy.2.2.2.2.2.2.2⟩)
theorem aw_ist {i : Nat} {L' : List (Option AV)} {x : Int} (hd : decode M.2.1 pc = .ok (.istore i, 2)) (hn : i < M.2.2.1) (hL : L.set i (some (.inl x)) = L')
    (k : AW M E (pc + 2) L' S h Q) : AW M E pc L (.inl x :: S) h Q := by
  intro l p e R s m args below meth c H locs cells slots A dC dI dA ad ad0 ls n0 m0 QQ hs hf hy
  subst hL
  exact lv_istore hs.1 hs.2.1 hd (lvL.has hy.2.2.2.2.2.1) hn rfl (fun ls' h' => k l p e R s m args below meth c H locs cells slots A dC dI dA ad ad0 ls' n0 m0 QQ hs hf ⟨hy.1, hy.2.1, hy.2.2.1, hy.2.2.2.1, hy.2.2.2.2.1, lvL.store h', hy.2.2.2.2.2.2.1, hy.2.2.2.2.2.2.2⟩)
theorem aw_ald_n {i : Nat} {j : Fin 4} {x : Nat} (hd : decode M.2.1 pc = .ok (.aload_n j, 1)) (hi : (j : Nat) = i) (hL : L[i]? = some (some (.inr x)))
    (k : AW M E (pc + 1) L (.inr x :: S) h Q) : AW M E pc L S h Q := by
  intro l p e R s m args below meth c H locs cells slots A dC dI dA ad ad0 ls n0 m0 QQ hs hf hy
  exact lv_aload_n hs.1 hs.2.1 hd hi (hy.2.2.2.2.2.1.2.2 _ _ hL) (k l p e R s m args below meth c H locs cells slots A dC dI dA ad ad0 ls n0 m0 QQ hs hf hy)
theorem aw_ald {i : Nat} {x : Nat} (hd : decode M.2.1 pc = .ok (.aload i, 2)) (hL : L[i]? = some (some (.inr x)))
    (k : AW M E (pc + 2) L (.inr x :: S) h Q) : AW M E pc L S h Q := by
  intro l p e R s m args below meth c H locs cells slots A dC dI dA ad ad0 ls n0 m0 QQ hs hf hy
  exact lv_aload hs.1 hs.2.1 hd (hy.2.2.2.2.2.1.2.2 _ _ hL) (k l p e R s m args below meth c H locs cells slots A dC dI dA ad ad0 ls n0 m0 QQ hs hf hy)
theorem aw_ast_n {i : Nat} {j : Fin 4} {L' : List (Option AV)} {x : Nat} (hd : decode M.2.1 pc = .ok (.astore_n j, 1)) (hi : (j : Nat) = i) (hn : i < M.2.2.1) (hL : L.set i (some (.inr x)) = L')
    (k : AW M E (pc + 1) L' S h Q) : AW M E pc L (.inr x :: S) h Q := by
  intro l p e R s m args below meth c H locs cells slots A dC dI dA ad ad0 ls n0 m0 QQ hs hf hy
  subst hL
  exact lv_astore_n hs.1 hs.2.1 hd hi (lvL.has hy.2.2.2.2.2.1) hn rfl (fun ls' h' => k l p e R s m args below meth c H locs cells slots A dC dI dA ad ad0 ls' n0 m0 QQ hs hf ⟨hy.1, hy.2.1, hy.2.2.1, hy.2.2.2.1, hy.2.2.2.2.1, lvL.store h', hy.2.2.2.2.2.2.1, hy.2.2.2.2.2.2.2⟩)
theorem aw_ast {i : Nat} {L' : List (Option AV)} {x : Nat} (hd : decode M.2.1 pc = .ok (.astore i, 2)) (hn : i < M.2.2.1) (hL : L.set i (some (.inr x)) = L')
    (k : AW M E (pc + 2) L' S h Q) : AW M E pc L (.inr x :: S) h Q := by
  intro l p e R s m args below meth c H locs cells slots A dC dI dA ad ad0 ls n0 m0 QQ hs hf hy
  subst hL
  exact lv_astore hs.1 hs.2.1 hd (lvL.has hy.2.2.2.2.2.1) hn rfl (fun ls' h' => k l p e R s m args below meth c H locs cells slots A dC dI dA ad ad0 ls' n0 m0 QQ hs hf ⟨hy.1, hy.2.1, hy.2.2.1, hy.2.2.2.1, hy.2.2.2.2.1, lvL.store h', hy.2.2.2.2.2.2.1, hy.2.2.2.2.2.2.2⟩)
theorem aw_iinc {i : Nat} {n x : Int} {L' : List (Option AV)} (hd : decode M.2.1 pc = .ok (.iinc i n, 3)) (hn : i < M.2.2.1) (hx : L[i]? = some (some (.inl x))) (hL : L.set i (some (.inl (x + n))) = L')
    (k : AW M E (pc + 3) L' S h Q) : AW M E pc L S h Q := by
  intro l p e R s m args below meth c H locs cells slots A dC dI dA ad ad0 ls n0 m0 QQ hs hf hy
  subst hL
  obtain ⟨q, hq⟩ := List.getElem?_of_mem (aPr_mem.mpr ⟨_, hx, rfl⟩ : ((i, cv ad (.inl x)) : Nat × Value) ∈ aPr ad L)
  exact lv_iinc (v := Int32.ofInt (x + n)) hs.1 hs.2.1 hd (lvL.has hy.2.2.2.2.2.1) hq (ofI_add x n).symm hn rfl (fun ls' h' => k l p e R s m args below meth c H locs cells slots A dC dI dA ad ad0 ls' n0 m0 QQ hs hf ⟨hy.1, hy.2.1, hy.2.2.1, hy.2.2.2.1, hy.2.2.2.2.1, lvL.store h', hy.2.2.2.2.2.2.1, hy.2.2.2.2.2.2.2⟩)
theorem aw_iadd {x y : Int} (hd : decode M.2.1 pc = .ok (.iadd, 1))
    (k : AW M E (pc + 1) L (.inl (x + y) :: S) h Q) : AW M E pc L (.inl y :: .inl x :: S) h Q := by
  intro l p e R s m args below meth c H locs cells slots A dC dI dA ad ad0 ls n0 m0 QQ hs hf hy
  refine lv_iadd hs.1 hs.2.1 hd ?_
  rw [← ofI_add x y]
  exact k l p e R s m args below meth c H locs cells slots A dC dI dA ad ad0 ls n0 m0 QQ hs hf hy
theorem aw_isub {x y : Int} (hd : decode M.2.1 pc = .ok (.isub, 1))
    (k : AW M E (pc + 1) L (.inl (x - y) :: S) h Q) : AW M E pc L (.inl y :: .inl x :: S) h Q := by
  intro l p e R s m args below meth c H locs cells slots A dC dI dA ad ad0 ls n0 m0 QQ hs hf hy
  refine lv_isub hs.1 hs.2.1 hd ?_
  rw [← ofI_sub x y]
  exact k l p e R s m args below meth c H locs cells slots A dC dI dA ad ad0 ls n0 m0 QQ hs hf hy
theorem aw_imul {x y : Int} (hd : decode M.2.1 pc = .ok (.imul, 1))
    (k : AW M E (pc + 1) L (.inl (x * y) :: S) h Q) : AW M E pc L (.inl y :: .inl x :: S) h Q := by
  intro l p e R s m args below meth c H locs cells slots A dC dI dA ad ad0 ls n0 m0 QQ hs hf hy
  refine lv_imul hs.1 hs.2.1 hd ?_
  rw [← ofI_mul x y]
  exact k l p e R s m args below meth c H locs cells slots A dC dI dA ad ad0 ls n0 m0 QQ hs hf hy
def iAnd (x y : Int) : Int := (Int32.ofInt x &&& Int32.ofInt y).toInt
def iOr (x y : Int) : Int := (Int32.ofInt x ||| Int32.ofInt y).toInt
def iXor (x y : Int) : Int := (Int32.ofInt x ^^^ Int32.ofInt y).toInt
def iShl (x y : Int) : Int := (Int32.ofInt x <<< (Int32.ofInt y &&& 31)).toInt
def iShr (x y : Int) : Int := (Int32.ofInt x >>> (Int32.ofInt y &&& 31)).toInt
def iRem (x y : Int) : Int := (Int32.ofInt x - Int32.ofInt x / Int32.ofInt y * Int32.ofInt y).toInt
theorem aw_iand {x y : Int} (hd : decode M.2.1 pc = .ok (.iand, 1))
    (k : AW M E (pc + 1) L (.inl (iAnd x y) :: S) h Q) : AW M E pc L (.inl y :: .inl x :: S) h Q := by
  intro l p e R s m args below meth c H locs cells slots A dC dI dA ad ad0 ls n0 m0 QQ hs hf hy
  refine lv_iand hs.1 hs.2.1 hd ?_
  have hk := k l p e R s m args below meth c H locs cells slots A dC dI dA ad ad0 ls n0 m0 QQ hs hf hy
  simp only [List.map_cons, cv, iAnd, Int32.ofInt_toInt] at hk
  exact hk
theorem aw_ior {x y : Int} (hd : decode M.2.1 pc = .ok (.ior, 1))
    (k : AW M E (pc + 1) L (.inl (iOr x y) :: S) h Q) : AW M E pc L (.inl y :: .inl x :: S) h Q := by
  intro l p e R s m args below meth c H locs cells slots A dC dI dA ad ad0 ls n0 m0 QQ hs hf hy
  refine lv_ior hs.1 hs.2.1 hd ?_
  have hk := k l p e R s m args below meth c H locs cells slots A dC dI dA ad ad0 ls n0 m0 QQ hs hf hy
  simp only [List.map_cons, cv, iOr, Int32.ofInt_toInt] at hk
  exact hk
theorem aw_ixor {x y : Int} (hd : decode M.2.1 pc = .ok (.ixor, 1))
    (k : AW M E (pc + 1) L (.inl (iXor x y) :: S) h Q) : AW M E pc L (.inl y :: .inl x :: S) h Q := by
  intro l p e R s m args below meth c H locs cells slots A dC dI dA ad ad0 ls n0 m0 QQ hs hf hy
  refine lv_ixor hs.1 hs.2.1 hd ?_
  have hk := k l p e R s m args below meth c H locs cells slots A dC dI dA ad ad0 ls n0 m0 QQ hs hf hy
  simp only [List.map_cons, cv, iXor, Int32.ofInt_toInt] at hk
  exact hk
theorem aw_ishl {x y : Int} (hd : decode M.2.1 pc = .ok (.ishl, 1))
    (k : AW M E (pc + 1) L (.inl (iShl x y) :: S) h Q) : AW M E pc L (.inl y :: .inl x :: S) h Q := by
  intro l p e R s m args below meth c H locs cells slots A dC dI dA ad ad0 ls n0 m0 QQ hs hf hy
  refine lv_ishl hs.1 hs.2.1 hd ?_
  have hk := k l p e R s m args below meth c H locs cells slots A dC dI dA ad ad0 ls n0 m0 QQ hs hf hy
  simp only [List.map_cons, cv, iShl, Int32.ofInt_toInt] at hk
  exact hk
theorem aw_ishr {x y : Int} (hd : decode M.2.1 pc = .ok (.ishr, 1))
    (k : AW M E (pc + 1) L (.inl (iShr x y) :: S) h Q) : AW M E pc L (.inl y :: .inl x :: S) h Q := by
  intro l p e R s m args below meth c H locs cells slots A dC dI dA ad ad0 ls n0 m0 QQ hs hf hy
  refine lv_ishr hs.1 hs.2.1 hd ?_
  have hk := k l p e R s m args below meth c H locs cells slots A dC dI dA ad ad0 ls n0 m0 QQ hs hf hy
  simp only [List.map_cons, cv, iShr, Int32.ofInt_toInt] at hk
  exact hk
theorem aw_irem {x y : Int} (hd : decode M.2.1 pc = .ok (.irem, 1)) (hr : rng y) (h0 : y ≠ 0)
    (k : AW M E (pc + 1) L (.inl (iRem x y) :: S) h Q) : AW M E pc L (.inl y :: .inl x :: S) h Q := by
  intro l p e R s m args below meth c H locs cells slots A dC dI dA ad ad0 ls n0 m0 QQ hs hf hy
  refine lv_irem hs.1 hs.2.1 hd (fun z => h0 ((ofI_eq hr (⟨by omega, by omega⟩ : rng 0)).mp z)) ?_
  have hk := k l p e R s m args below meth c H locs cells slots A dC dI dA ad ad0 ls n0 m0 QQ hs hf hy
  simp only [List.map_cons, cv, iRem, Int32.ofInt_toInt] at hk
  exact hk
theorem aw_ineg {x : Int} (hd : decode M.2.1 pc = .ok (.ineg, 1))
    (k : AW M E (pc + 1) L (.inl (-x) :: S) h Q) : AW M E pc L (.inl x :: S) h Q := by
  intro l p e R s m args below meth c H locs cells slots A dC dI dA ad ad0 ls n0 m0 QQ hs hf hy
  refine lv_ineg hs.1 hs.2.1 hd ?_
  rw [← ofI_neg x]
  exact k l p e R s m args below meth c H locs cells slots A dC dI dA ad ad0 ls n0 m0 QQ hs hf hy
theorem ofI_char {x : Int} (h0 : 0 ≤ x) (h1 : x < 65536) : ((Int32.ofInt x).toUInt32 % 65536).toInt32 = Int32.ofInt x := by
  obtain ⟨n, rfl⟩ := Int.eq_ofNat_of_zero_le h0
  have hn : n < 65536 := by omega
  have e : Int32.ofInt (n : Int) = nI n := rfl
  rw [e, pk_char, pk_tn (by omega), Nat.mod_eq_of_lt hn]
theorem aw_i2c {x : Int} (hd : decode M.2.1 pc = .ok (.i2c, 1)) (h0 : 0 ≤ x) (h1 : x < 65536)
    (k : AW M E (pc + 1) L (.inl x :: S) h Q) : AW M E pc L (.inl x :: S) h Q := by
  intro l p e R s m args below meth c H locs cells slots A dC dI dA ad ad0 ls n0 m0 QQ hs hf hy
  exact lv_i2c hs.1 hs.2.1 hd (ofI_char h0 h1) (k l p e R s m args below meth c H locs cells slots A dC dI dA ad ad0 ls n0 m0 QQ hs hf hy)
theorem aw_dup {v : AV} (hd : decode M.2.1 pc = .ok (.dup, 1))
    (k : AW M E (pc + 1) L (v :: v :: S) h Q) : AW M E pc L (v :: S) h Q := by
  intro l p e R s m args below meth c H locs cells slots A dC dI dA ad ad0 ls n0 m0 QQ hs hf hy
  exact lv_dup hs.1 hs.2.1 hd (cv_cat ad v) (k l p e R s m args below meth c H locs cells slots A dC dI dA ad ad0 ls n0 m0 QQ hs hf hy)
theorem aw_dup2 {u v : AV} (hd : decode M.2.1 pc = .ok (.dup2, 1))
    (k : AW M E (pc + 1) L (v :: u :: v :: u :: S) h Q) : AW M E pc L (v :: u :: S) h Q := by
  intro l p e R s m args below meth c H locs cells slots A dC dI dA ad ad0 ls n0 m0 QQ hs hf hy
  exact lv_dup2_11 hs.1 hs.2.1 hd (cv_cat ad v) (cv_cat ad u) (k l p e R s m args below meth c H locs cells slots A dC dI dA ad ad0 ls n0 m0 QQ hs hf hy)
theorem aw_goto {off : Int} {tgt : Nat} (hd : decode M.2.1 pc = .ok (.goto off, 3)) (ht : (pc : Int) + off = (tgt : Int))
    (k : AW M E tgt L S h Q) : AW M E pc L S h Q := by
  intro l p e R s m args below meth c H locs cells slots A dC dI dA ad ad0 ls n0 m0 QQ hs hf hy
  exact lv_goto hs.1 hs.2.1 hd ht (k l p e R s m args below meth c H locs cells slots A dC dI dA ad ad0 ls n0 m0 QQ hs hf hy)
theorem aw_icmp_lt {x y off : Int} {tgt : Nat} (hd : decode M.2.1 pc = .ok (.if_icmp .lt off, 3)) (ht : (pc : Int) + off = (tgt : Int)) (hx : rng x) (hy0 : rng y)
    (kt : x < y → AW M E tgt L S h Q) (kf : y ≤ x → AW M E (pc + 3) L S h Q) : AW M E pc L (.inl y :: .inl x :: S) h Q := by
  intro l p e R s m args below meth c H locs cells slots A dC dI dA ad ad0 ls n0 m0 QQ hs hf hy
  exact lv_icmp_lt hs.1 hs.2.1 hd ht (fun q => kt ((ofI_lt hx hy0).mp q) l p e R s m args below meth c H locs cells slots A dC dI dA ad ad0 ls n0 m0 QQ hs hf hy) (fun q => kf (by have q2 := mt (ofI_lt hx hy0).mpr q; omega) l p e R s m args below meth c H locs cells slots A dC dI dA ad ad0 ls n0 m0 QQ hs hf hy)
theorem aw_if_lt {x off : Int} {tgt : Nat} (hd : decode M.2.1 pc = .ok (.ifCond .lt off, 3)) (ht : (pc : Int) + off = (tgt : Int)) (hx : rng x)
    (kt : x < 0 → AW M E tgt L S h Q) (kf : 0 ≤ x → AW M E (pc + 3) L S h Q) : AW M E pc L (.inl x :: S) h Q := by
  intro l p e R s m args below meth c H locs cells slots A dC dI dA ad ad0 ls n0 m0 QQ hs hf hy
  exact lv_if_lt hs.1 hs.2.1 hd ht (fun q => kt ((ofI_lt hx (⟨by omega, by omega⟩ : rng 0)).mp q) l p e R s m args below meth c H locs cells slots A dC dI dA ad ad0 ls n0 m0 QQ hs hf hy) (fun q => kf (by have q2 := mt (ofI_lt hx (⟨by omega, by omega⟩ : rng 0)).mpr q; omega) l p e R s m args below meth c H locs cells slots A dC dI dA ad ad0 ls n0 m0 QQ hs hf hy)
theorem aw_icmp_ge {x y off : Int} {tgt : Nat} (hd : decode M.2.1 pc = .ok (.if_icmp .ge off, 3)) (ht : (pc : Int) + off = (tgt : Int)) (hx : rng x) (hy0 : rng y)
    (kt : y ≤ x → AW M E tgt L S h Q) (kf : x < y → AW M E (pc + 3) L S h Q) : AW M E pc L (.inl y :: .inl x :: S) h Q := by
  intro l p e R s m args below meth c H locs cells slots A dC dI dA ad ad0 ls n0 m0 QQ hs hf hy
  exact lv_icmp_ge hs.1 hs.2.1 hd ht (fun q => kt ((ofI_le hy0 hx).mp q) l p e R s m args below meth c H locs cells slots A dC dI dA ad ad0 ls n0 m0 QQ hs hf hy) (fun q => kf (by have q2 := mt (ofI_le hy0 hx).mpr q; omega) l p e R s m args below meth c H locs cells slots A dC dI dA ad ad0 ls n0 m0 QQ hs hf hy)
theorem aw_if_ge {x off : Int} {tgt : Nat} (hd : decode M.2.1 pc = .ok (.ifCond .ge off, 3)) (ht : (pc : Int) + off = (tgt : Int)) (hx : rng x)
    (kt : 0 ≤ x → AW M E tgt L S h Q) (kf : x < 0 → AW M E (pc + 3) L S h Q) : AW M E pc L (.inl x :: S) h Q := by
  intro l p e R s m args below meth c H locs cells slots A dC dI dA ad ad0 ls n0 m0 QQ hs hf hy
  exact lv_if_ge hs.1 hs.2.1 hd ht (fun q => kt ((ofI_le (⟨by omega, by omega⟩ : rng 0) hx).mp q) l p e R s m args below meth c H locs cells slots A dC dI dA ad ad0 ls n0 m0 QQ hs hf hy) (fun q => kf (by have q2 := mt (ofI_le (⟨by omega, by omega⟩ : rng 0) hx).mpr q; omega) l p e R s m args below meth c H locs cells slots A dC dI dA ad ad0 ls n0 m0 QQ hs hf hy)
theorem aw_icmp_gt {x y off : Int} {tgt : Nat} (hd : decode M.2.1 pc = .ok (.if_icmp .gt off, 3)) (ht : (pc : Int) + off = (tgt : Int)) (hx : rng x) (hy0 : rng y)
    (kt : y < x → AW M E tgt L S h Q) (kf : x ≤ y → AW M E (pc + 3) L S h Q) : AW M E pc L (.inl y :: .inl x :: S) h Q := by
  intro l p e R s m args below meth c H locs cells slots A dC dI dA ad ad0 ls n0 m0 QQ hs hf hy
  exact lv_icmp_gt hs.1 hs.2.1 hd ht (fun q => kt ((ofI_lt hy0 hx).mp q) l p e R s m args below meth c H locs cells slots A dC dI dA ad ad0 ls n0 m0 QQ hs hf hy) (fun q => kf (by have q2 := mt (ofI_lt hy0 hx).mpr q; omega) l p e R s m args below meth c H locs cells slots A dC dI dA ad ad0 ls n0 m0 QQ hs hf hy)
theorem aw_if_gt {x off : Int} {tgt : Nat} (hd : decode M.2.1 pc = .ok (.ifCond .gt off, 3)) (ht : (pc : Int) + off = (tgt : Int)) (hx : rng x)
    (kt : 0 < x → AW M E tgt L S h Q) (kf : x ≤ 0 → AW M E (pc + 3) L S h Q) : AW M E pc L (.inl x :: S) h Q := by
  intro l p e R s m args below meth c H locs cells slots A dC dI dA ad ad0 ls n0 m0 QQ hs hf hy
  exact lv_if_gt hs.1 hs.2.1 hd ht (fun q => kt ((ofI_lt (⟨by omega, by omega⟩ : rng 0) hx).mp q) l p e R s m args below meth c H locs cells slots A dC dI dA ad ad0 ls n0 m0 QQ hs hf hy) (fun q => kf (by have q2 := mt (ofI_lt (⟨by omega, by omega⟩ : rng 0) hx).mpr q; omega) l p e R s m args below meth c H locs cells slots A dC dI dA ad ad0 ls n0 m0 QQ hs hf hy)
theorem aw_icmp_le {x y off : Int} {tgt : Nat} (hd : decode M.2.1 pc = .ok (.if_icmp .le off, 3)) (ht : (pc : Int) + off = (tgt : Int)) (hx : rng x) (hy0 : rng y)
    (kt : x ≤ y → AW M E tgt L S h Q) (kf : y < x → AW M E (pc + 3) L S h Q) : AW M E pc L (.inl y :: .inl x :: S) h Q := by
  intro l p e R s m args below meth c H locs cells slots A dC dI dA ad ad0 ls n0 m0 QQ hs hf hy
  exact lv_icmp_le hs.1 hs.2.1 hd ht (fun q => kt ((ofI_le hx hy0).mp q) l p e R s m args below meth c H locs cells slots A dC dI dA ad ad0 ls n0 m0 QQ hs hf hy) (fun q => kf (by have q2 := mt (ofI_le hx hy0).mpr q; omega) l p e R s m args below meth c H locs cells slots A dC dI dA ad ad0 ls n0 m0 QQ hs hf hy)
theorem aw_if_le {x off : Int} {tgt : Nat} (hd : decode M.2.1 pc = .ok (.ifCond .le off, 3)) (ht : (pc : Int) + off = (tgt : Int)) (hx : rng x)
    (kt : x ≤ 0 → AW M E tgt L S h Q) (kf : 0 < x → AW M E (pc + 3) L S h Q) : AW M E pc L (.inl x :: S) h Q := by
  intro l p e R s m args below meth c H locs cells slots A dC dI dA ad ad0 ls n0 m0 QQ hs hf hy
  exact lv_if_le hs.1 hs.2.1 hd ht (fun q => kt ((ofI_le hx (⟨by omega, by omega⟩ : rng 0)).mp q) l p e R s m args below meth c H locs cells slots A dC dI dA ad ad0 ls n0 m0 QQ hs hf hy) (fun q => kf (by have q2 := mt (ofI_le hx (⟨by omega, by omega⟩ : rng 0)).mpr q; omega) l p e R s m args below meth c H locs cells slots A dC dI dA ad ad0 ls n0 m0 QQ hs hf hy)
theorem aw_icmp_eq {x y off : Int} {tgt : Nat} (hd : decode M.2.1 pc = .ok (.if_icmp .eq off, 3)) (ht : (pc : Int) + off = (tgt : Int)) (hr : x = y ∨ (rng x ∧ rng y))
    (kt : x = y → AW M E tgt L S h Q) (kf : ¬ x = y → AW M E (pc + 3) L S h Q) : AW M E pc L (.inl y :: .inl x :: S) h Q := by
  intro l p e R s m args below meth c H locs cells slots A dC dI dA ad ad0 ls n0 m0 QQ hs hf hy
  refine lv_icmp_eq hs.1 hs.2.1 hd ht (fun q => ?_) (fun q => ?_)
  · exact kt (hr.elim id (fun r => (ofI_eq r.1 r.2).mp q)) l p e R s m args below meth c H locs cells slots A dC dI dA ad ad0 ls n0 m0 QQ hs hf hy
  · exact kf (fun z => q (by rw [z])) l p e R s m args below meth c H locs cells slots A dC dI dA ad ad0 ls n0 m0 QQ hs hf hy
theorem aw_icmp_ne {x y off : Int} {tgt : Nat} (hd : decode M.2.1 pc = .ok (.if_icmp .ne off, 3)) (ht : (pc : Int) + off = (tgt : Int)) (hr : x = y ∨ (rng x ∧ rng y))
    (kt : ¬ x = y → AW M E tgt L S h Q) (kf : x = y → AW M E (pc + 3) L S h Q) : AW M E pc L (.inl y :: .inl x :: S) h Q := by
  intro l p e R s m args below meth c H locs cells slots A dC dI dA ad ad0 ls n0 m0 QQ hs hf hy
  refine lv_icmp_ne hs.1 hs.2.1 hd ht (fun q => ?_) (fun q => ?_)
  · exact kt (fun z => q (by rw [z])) l p e R s m args below meth c H locs cells slots A dC dI dA ad ad0 ls n0 m0 QQ hs hf hy
  · exact kf (hr.elim id (fun r => (ofI_eq r.1 r.2).mp q)) l p e R s m args below meth c H locs cells slots A dC dI dA ad ad0 ls n0 m0 QQ hs hf hy
theorem aw_if_eq {x off : Int} {tgt : Nat} (hd : decode M.2.1 pc = .ok (.ifCond .eq off, 3)) (ht : (pc : Int) + off = (tgt : Int)) (hr : rng x)
    (kt : x = 0 → AW M E tgt L S h Q) (kf : ¬ x = 0 → AW M E (pc + 3) L S h Q) : AW M E pc L (.inl x :: S) h Q := by
  intro l p e R s m args below meth c H locs cells slots A dC dI dA ad ad0 ls n0 m0 QQ hs hf hy
  refine lv_if_eq hs.1 hs.2.1 hd ht (fun q => ?_) (fun q => ?_)
  · exact kt ((ofI_eq hr (⟨by omega, by omega⟩ : rng 0)).mp q) l p e R s m args below meth c H locs cells slots A dC dI dA ad ad0 ls n0 m0 QQ hs hf hy
  · exact kf (fun z => q (by rw [z]; rfl)) l p e R s m args below meth c H locs cells slots A dC dI dA ad ad0 ls n0 m0 QQ hs hf hy
theorem aw_if_ne {x off : Int} {tgt : Nat} (hd : decode M.2.1 pc = .ok (.ifCond .ne off, 3)) (ht : (pc : Int) + off = (tgt : Int)) (hr : rng x)
    (kt : ¬ x = 0 → AW M E tgt L S h Q) (kf : x = 0 → AW M E (pc + 3) L S h Q) : AW M E pc L (.inl x :: S) h Q := by
  intro l p e R s m args below meth c H locs cells slots A dC dI dA ad ad0 ls n0 m0 QQ hs hf hy
  refine lv_if_ne hs.1 hs.2.1 hd ht (fun q => ?_) (fun q => ?_)
  · exact kt (fun z => q (by rw [z]; rfl)) l p e R s m args below meth c H locs cells slots A dC dI dA ad ad0 ls n0 m0 QQ hs hf hy
  · exact kf ((ofI_eq hr (⟨by omega, by omega⟩ : rng 0)).mp q) l p e R s m args below meth c H locs cells slots A dC dI dA ad ad0 ls n0 m0 QQ hs hf hy
theorem aw_tswIn {dflt lo hi : Int} {offs : Array Int} {len : Nat} {x off : Int} {tgt : Nat} (hd : decode M.2.1 pc = .ok (.tableswitch dflt lo hi offs, len)) (hr : rng x) (h1 : lo ≤ x) (h2 : x ≤ hi) (ho : offs[(x - lo).toNat]? = some off) (ht : (pc : Int) + off = (tgt : Int))
    (k : AW M E tgt L S h Q) : AW M E pc L (.inl x :: S) h Q := by
  intro l p e R s m args below meth c H locs cells slots A dC dI dA ad ad0 ls n0 m0 QQ hs hf hy
  exact lv_tableIn hs.1 hs.2.1 hd (by rw [ofI_toInt hr]; omega) (by rw [ofI_toInt hr]; omega) (by rw [ofI_toInt hr]; exact ho) ht (k l p e R s m args below meth c H locs cells slots A dC dI dA ad ad0 ls n0 m0 QQ hs hf hy)
theorem aw_tswOut {dflt lo hi : Int} {offs : Array Int} {len : Nat} {x : Int} {tgt : Nat} (hd : decode M.2.1 pc = .ok (.tableswitch dflt lo hi offs, len)) (hr : rng x) (h1 : x < lo ∨ hi < x) (ht : (pc : Int) + dflt = (tgt : Int))
    (k : AW M E tgt L S h Q) : AW M E pc L (.inl x :: S) h Q := by
  intro l p e R s m args below meth c H locs cells slots A dC dI dA ad ad0 ls n0 m0 QQ hs hf hy
  exact lv_tableOut hs.1 hs.2.1 hd (by rw [ofI_toInt hr]; exact h1) ht (k l p e R s m args below meth c H locs cells slots A dC dI dA ad ad0 ls n0 m0 QQ hs hf hy)
theorem aw_lsw {dflt : Int} {ps : Array (Int × Int)} {len : Nat} {x off : Int} {tgt : Nat} (hd : decode M.2.1 pc = .ok (.lookupswitch dflt ps, len)) (hr : rng x) (hp : (ps.toList.zip (ps.toList.drop 1)).all (fun (a, next) => a.1 < next.1) = true) (ho : Op.lookupswitch.offset ps.toList dflt x = off) (ht : (pc : Int) + off = (tgt : Int))
    (k : AW M E tgt L S h Q) : AW M E pc L (.inl x :: S) h Q := by
  intro l p e R s m args below meth c H locs cells slots A dC dI dA ad ad0 ls n0 m0 QQ hs hf hy
  exact lv_lookup hs.1 hs.2.1 hd hp (by rw [ofI_toInt hr]; exact ho) ht (k l p e R s m args below meth c H locs cells slots A dC dI dA ad ad0 ls n0 m0 QQ hs hf hy)
end MACH
end
section
section HEAP
variable {M : MI} {E : AE} {pc : Nat} {L : List (Option AV)} {S : List AV} {h : HP} {Q : Option Int → HP → Prop}
def aCl (ci : Nat) (C : String) (T : u_T) (N : Nat) (ty : Nat → FieldType) : Prop := vwCl[ci]? = some (C, T, N) ∧ (∀ w ∈ u_ws C T N, w ∈ GW) ∧ (∀ k, k < N → parseFieldDescriptor (T k).2.2.1 = some (ty k)) ∧ (∀ a, a < N → ∀ b, b < N → a ≠ b → (T a).2.1 ≠ (T b).2.1)
def aFl (own : String) (idx ci j : Nat) : Prop := ∃ (C : String) (T : u_T) (N : Nat) (ty : Nat → FieldType), aCl ci C T N ty ∧ j < N ∧ (T j).1 = C ∧ (Cond.fieldLink own idx C (T j).2.1 (T j).2.2.1 ∈ GW ∨ ∃ host, Cond.fieldLinkNest own idx C (T j).2.1 (T j).2.2.1 host ∈ NWL)
def aFn (own : String) (idx ci j : Nat) (b : Bool) : Prop := ∃ (C : String) (T : u_T) (N : Nat) (ty : Nat → FieldType), aCl ci C T N ty ∧ j < N ∧ (T j).1 = C ∧ (Cond.fieldLink own idx C (T j).2.1 (T j).2.2.1 ∈ GW ∨ ∃ host, Cond.fieldLinkNest own idx C (T j).2.1 (T j).2.2.1 host ∈ NWL) ∧ (T j).2.2.2 = false ∧ ty j = (if b then .boolean else .int)
def aFf (own : String) (idx ci j : Nat) : Prop := ∃ (C : String) (T : u_T) (N : Nat) (ty : Nat → FieldType), aCl ci C T N ty ∧ j < N ∧ (T j).1 = C ∧ own = C ∧ Cond.fieldLink own idx C (T j).2.1 (T j).2.2.1 ∈ GW ∧ (T j).2.2.2 = true ∧ (∀ a : Nat, narrow (ty j) (.ref a) = .ref a ∧ fits (ty j) (.ref a) = true)
theorem aw_getV {idx q ci j : Nat} {fs : List ShF} {f : ShF} (hd : decode M.2.1 pc = .ok (.getfield idx, 3)) (hw : aFl M.1.cls idx ci j) (hc : h.1[q]? = some (.inl (ci, fs))) (hj : fs[j]? = some f)
    {l : Launch} {p : Program} {e : Env} {R : Room} {s : State} {m : MethodId} {args : Array Value} {below : List Frame} {meth : Method} {c : Code} {H : Heap} {locs : List Loc} {cells slots : Nat} {A : Nat → Prop} {dC : Nat → ClassId} {dI : Nat → Nat → Nat} {dA : Nat → ClassId} {ad ad0 : Nat → Nat} {ls : Array Slot} {n0 m0 : Nat} {QQ : State → Prop} {rest : List Value}
    (hs : aSt M E p R s m args meth c A dC dI dA n0 m0) (hy : aDy M E s H locs cells slots A dC dI dA ad ad0 ls n0 m0 L h)
    (kk : W p l e R s m args below meth c H locs cells slots QQ (F0 m (pc + 3) ls (cfl ad h.2 q j f :: rest))) : W p l e R s m args below meth c H locs cells slots QQ (F0 m pc ls (.ref (ad q) :: rest)) := by
  obtain ⟨s1, s2, s3, s4, s5, s6, s7, s8, s9, s10, s11, s12, s13, s14, s15, s16⟩ := id hs
  obtain ⟨y1, y2, y3, y4, y5, y6, y7, y8⟩ := id hy
  obtain ⟨C, T, N, ty, k1, k2, k3, k4⟩ := hw
  have he := con_get (dA := dA) (ad := ad) hc
  simp only [ce] at he
  have hv : (fs.mapIdx (cfl ad h.2 q))[j]? = some (cfl ad h.2 q j f) := by rw [List.getElem?_mapIdx, hj]; rfl
  rcases k4 with k4 | ⟨host, k4⟩
  · exact va_get (Ts := GW) s1 s2 s6 k1.2.1 s5 s11 y1 q he k1.1 j k2 (s6 _ k4) (fun x hx => by rw [k3] at hx; exact hx) hv hd kk
  · exact va_getN (Ts := GW) (host := host) s1 s2 s6 k1.2.1 s5 s11 y1 q he k1.1 j k2 (va_Nw.use rfl (s9 _ k4)) (fun x hx => by rw [k3] at hx; exact hx) hv hd kk
theorem aw_getI {idx q ci j : Nat} {jz : Int} {fs : List ShF} (hd : decode M.2.1 pc = .ok (.getfield idx, 3)) (hw : aFl M.1.cls idx ci j) (hc : h.1[q]? = some (.inl (ci, fs))) (hj : fs[j]? = some none) (hz : (j : Int) = jz)
    (k : AW M E (pc + 3) L (.inl (h.2 q jz) :: S) h Q) : AW M E pc L (.inr q :: S) h Q := by
  intro l p e R s m args below meth c H locs cells slots A dC dI dA ad ad0 ls n0 m0 QQ hs hf hy
  subst hz
  exact aw_getV hd hw hc hj hs hy (k l p e R s m args below meth c H locs cells slots A dC dI dA ad ad0 ls n0 m0 QQ hs hf hy)
theorem aw_getR {idx q ci j r : Nat} {fs : List ShF} (hd : decode M.2.1 pc = .ok (.getfield idx, 3)) (hw : aFl M.1.cls idx ci j) (hc : h.1[q]? = some (.inl (ci, fs))) (hj : fs[j]? = some (some (some r)))
    (k : AW M E (pc + 3) L (.inr r :: S) h Q) : AW M E pc L (.inr q :: S) h Q := by
  intro l p e R s m args below meth c H locs cells slots A dC dI dA ad ad0 ls n0 m0 QQ hs hf hy
  exact aw_getV hd hw hc hj hs hy (k l p e R s m args below meth c H locs cells slots A dC dI dA ad ad0 ls n0 m0 QQ hs hf hy)
theorem nar_b {v : Int} (b : Bool) (hb : b = true → v = 0 ∨ v = 1) : narrow (if b then .boolean else .int) (.int (Int32.ofInt v)) = .int (Int32.ofInt v) ∧ fits (if b then .boolean else .int) (.int (Int32.ofInt v)) = true := by
  cases b with
  | false => exact ⟨rfl, rfl⟩
  | true =>
    rcases hb rfl with rfl | rfl
    · exact ⟨by decide +kernel, by decide +kernel⟩
    · exact ⟨by decide +kernel, by decide +kernel⟩
theorem aw_putI {idx q ci j : Nat} {jz v : Int} {b : Bool} {fs : List ShF} (hd : decode M.2.1 pc = .ok (.putfield idx, 3)) (hw : aFn M.1.cls idx ci j b) (hc : h.1[q]? = some (.inl (ci, fs))) (hj : fs[j]? = some none) (hz : (j : Int) = jz) (hb : b = true → v = 0 ∨ v = 1)
    (k : AW M E (pc + 3) L S (h.1, am_up h.2 q jz v) Q) : AW M E pc L (.inl v :: .inr q :: S) h Q := by
  intro l p e R s m args below meth c H locs cells slots A dC dI dA ad ad0 ls n0 m0 QQ hs hf hy
  obtain ⟨s1, s2, s3, s4, s5, s6, s7, s8, s9, s10, s11, s12, s13, s14, s15, s16⟩ := id hs
  obtain ⟨y1, y2, y3, y4, y5, y6, y7, y8⟩ := id hy
  subst hz
  obtain ⟨C, T, N, ty, k1, k2, k3, k4, k5, k6⟩ := hw
  have he := con_get (dA := dA) (ad := ad) hc
  simp only [ce] at he
  obtain ⟨nb1, nb2⟩ := nar_b b hb
  rw [← k6] at nb1 nb2
  have hl : j < (fs.mapIdx (cfl ad h.2 q)).length := by simpa using (List.getElem?_eq_some_iff.mp hj).1
  have ecn : con dA ad (h.1, am_up h.2 q (j : Int) v) = (con dA ad h).set q (ad q, .inr (ci, (fs.mapIdx (cfl ad h.2 q)).set j (.int (Int32.ofInt v)))) := by
    rw [con_setI hc, ce_fI hj]
  have kk : ∀ (H1 : Heap) (locs1 : List Loc), va_P (dC, dI) vwCl ((con dA ad h).set q (ad q, .inr (ci, (fs.mapIdx (cfl ad h.2 q)).set j (.int (Int32.ofInt v))))) H1 → va_D A ((con dA ad h).set q (ad q, .inr (ci, (fs.mapIdx (cfl ad h.2 q)).set j (.int (Int32.ofInt v))))) → va_S A s.heap H1 locs1 → W p l e R s m args below meth c H1 locs1 cells slots QQ (F0 m (pc + 3) ls (S.map (cv ad))) := by
    intro H1 locs1 g1 g2 g3
    rw [← ecn] at g1 g2
    exact k l p e R s m args below meth c H1 locs1 cells slots A dC dI dA ad ad0 ls n0 m0 QQ hs hf ⟨g1, g2, g3, y4, y5, y6, y7, y8⟩
  rcases k4 with k4 | ⟨host, k4⟩
  · exact va_put (Ts := GW) s1 s2 s6 k1.2.1 ty k1.2.2.1 k1.2.2.2 s5 s11 y1 y2 y3 q he k1.1 j k2 (s6 _ k4) (fun x hx => by rw [k3] at hx; exact hx) k5 (k1.2.2.1 j k2) nb1 nb2 hl hd kk
  · exact va_putN (Ts := GW) (host := host) s1 s2 s6 k1.2.1 ty k1.2.2.1 k1.2.2.2 s5 s11 y1 y2 y3 q he k1.1 j k2 (va_Nw.use rfl (s9 _ k4)) (fun x hx => by rw [k3] at hx; exact hx) k5 (k1.2.2.1 j k2) nb1 nb2 hl hd kk
theorem aw_putR {idx q ci j r : Nat} {fs : List ShF} {sh' : List ShC} (hd : decode M.2.1 pc = .ok (.putfield idx, 3)) (hin : M.1.name = "<init>") (hw : aFf M.1.cls idx ci j) (hc : h.1[q]? = some (.inl (ci, fs))) (hj : j < fs.length) (hsh : h.1.set q (.inl (ci, fs.set j (some (some r)))) = sh')
    (k : AW M E (pc + 3) L S (sh', h.2) Q) : AW M E pc L (.inr r :: .inr q :: S) h Q := by
  intro l p e R s m args below meth c H locs cells slots A dC dI dA ad ad0 ls n0 m0 QQ hs hf hy
  obtain ⟨s1, s2, s3, s4, s5, s6, s7, s8, s9, s10, s11, s12, s13, s14, s15, s16⟩ := id hs
  obtain ⟨y1, y2, y3, y4, y5, y6, y7, y8⟩ := id hy
  obtain ⟨C, T, N, ty, k1, k2, k3, k3b, k4, k5, k6⟩ := hw
  have he := con_get (dA := dA) (ad := ad) hc
  simp only [ce] at he
  have hq : q < h.1.length := (List.getElem?_eq_some_iff.mp hc).1
  have hl : j < (fs.mapIdx (cfl ad h.2 q)).length := by simpa using hj
  have ecn : con dA ad (sh', h.2) = (con dA ad h).set q (ad q, .inr (ci, (fs.mapIdx (cfl ad h.2 q)).set j (.ref (ad r)))) := by
    rw [con_set (sh := h.1) (m := h.2) hq hsh.symm (fun i c _ => rfl)]
    simp only [ce]
    congr 4
    apply List.ext_getElem?
    intro i
    by_cases hi : i = j
    · subst hi
      rw [List.getElem?_set_self hl, List.getElem?_mapIdx, List.getElem?_set_self hj]
      rfl
    · rw [List.getElem?_set_ne (Ne.symm hi), List.getElem?_mapIdx, List.getElem?_mapIdx, List.getElem?_set_ne (Ne.symm hi)]
  have hlen : sh'.length = h.1.length := by rw [← hsh]; simp
  have hsl : slS sh' = slS h.1 := by
    rw [← hsh]
    unfold slS
    rw [List.map_set]
    have : h.1.map slC = (h.1.map slC).set q (slC (.inl (ci, fs.set j (some (some r))))) := by
      refine (List.ext_getElem? fun i => ?_)
      by_cases hi : i = q
      · subst hi
        rw [List.getElem?_set_self (by simpa using hq), List.getElem?_map, hc]
        simp [slC]
      · rw [List.getElem?_set_ne (Ne.symm hi)]
    rw [← this]
  refine va_putF (v := Value.ref (ad r)) (Ts := GW) s1 s2 s6 k1.2.1 ty k1.2.2.1 k1.2.2.2 s5 s11 y1 y2 y3 q he k1.1 j k2 (s6 _ k4) (fun x hx => by rw [k3] at hx; exact hx) k5 (s8.trans hin) (k3.trans k3b.symm) (k1.2.2.1 j k2) (k6 (ad r)).1 (k6 (ad r)).2 hl hd (fun H1 locs1 g1 g2 g3 => ?_)
  rw [← ecn] at g1 g2
  exact k l p e R s m args below meth c H1 locs1 cells slots A dC dI dA ad ad0 ls n0 m0 QQ hs hf ⟨g1, g2, g3, by show cells + n0 = sh'.length; rw [hlen]; exact y4, by show slots + m0 = slS sh'; rw [hsl]; exact y5, y6, y7, fun z hz => y8 z (by have hz2 : z < n0 ∨ sh'.length ≤ z := hz; rw [hlen] at hz2; exact hz2)⟩
theorem aw_iaload {q n : Nat} {i : Int} (hd : decode M.2.1 pc = .ok (.iaload, 1)) (hc : h.1[q]? = some (.inr (.inl (0, n)))) (h0 : 0 ≤ i) (h1 : i < n) (hn : n < 2147483648)
    (k : AW M E (pc + 1) L (.inl (h.2 q i) :: S) h Q) : AW M E pc L (.inl i :: .inr q :: S) h Q := by
  intro l p e R s m args below meth c H locs cells slots A dC dI dA ad ad0 ls n0 m0 QQ hs hf hy
  obtain ⟨s1, s2, s3, s4, s5, s6, s7, s8, s9, s10, s11, s12, s13, s14, s15, s16⟩ := id hs
  obtain ⟨y1, y2, y3, y4, y5, y6, y7, y8⟩ := id hy
  have he := con_get (dA := dA) (ad := ad) hc
  simp only [ce] at he
  refine va_iald s1 s2 s11 y1 q 0 he rfl (ofI_in h0 h1 hn) hd ?_
  rw [ofI_cl ⟨by omega, by omega⟩, Int.toNat_of_nonneg h0]
  exact k l p e R s m args below meth c H locs cells slots A dC dI dA ad ad0 ls n0 m0 QQ hs hf hy
theorem aw_baload {q n : Nat} {i : Int} (hd : decode M.2.1 pc = .ok (.baload, 1)) (hc : h.1[q]? = some (.inr (.inl (1, n)))) (h0 : 0 ≤ i) (h1 : i < n) (hn : n < 2147483648)
    (k : AW M E (pc + 1) L (.inl (h.2 q i) :: S) h Q) : AW M E pc L (.inl i :: .inr q :: S) h Q := by
  intro l p e R s m args below meth c H locs cells slots A dC dI dA ad ad0 ls n0 m0 QQ hs hf hy
  obtain ⟨s1, s2, s3, s4, s5, s6, s7, s8, s9, s10, s11, s12, s13, s14, s15, s16⟩ := id hs
  obtain ⟨y1, y2, y3, y4, y5, y6, y7, y8⟩ := id hy
  have he := con_get (dA := dA) (ad := ad) hc
  simp only [ce] at he
  refine va_zald s1 s2 s11 y1 q 1 he rfl (ofI_in h0 h1 hn) hd ?_
  rw [ofI_cl ⟨by omega, by omega⟩, Int.toNat_of_nonneg h0]
  exact k l p e R s m args below meth c H locs cells slots A dC dI dA ad ad0 ls n0 m0 QQ hs hf hy
theorem aw_caload {q n : Nat} {i : Int} (hd : decode M.2.1 pc = .ok (.caload, 1)) (hc : h.1[q]? = some (.inr (.inl (2, n)))) (h0 : 0 ≤ i) (h1 : i < n) (hn : n < 2147483648)
    (k : AW M E (pc + 1) L (.inl (h.2 q i) :: S) h Q) : AW M E pc L (.inl i :: .inr q :: S) h Q := by
  intro l p e R s m args below meth c H locs cells slots A dC dI dA ad ad0 ls n0 m0 QQ hs hf hy
  obtain ⟨s1, s2, s3, s4, s5, s6, s7, s8, s9, s10, s11, s12, s13, s14, s15, s16⟩ := id hs
  obtain ⟨y1, y2, y3, y4, y5, y6, y7, y8⟩ := id hy
  have he := con_get (dA := dA) (ad := ad) hc
  simp only [ce] at he
  refine va_cald s1 s2 s11 y1 q 2 he rfl (ofI_in h0 h1 hn) hd ?_
  rw [ofI_cl ⟨by omega, by omega⟩, Int.toNat_of_nonneg h0]
  exact k l p e R s m args below meth c H locs cells slots A dC dI dA ad ad0 ls n0 m0 QQ hs hf hy
theorem aw_aaload {q r : Nat} {i : Int} {rs : List (Option Nat)} (hd : decode M.2.1 pc = .ok (.aaload, 1)) (hc : h.1[q]? = some (.inr (.inr rs))) (h0 : 0 ≤ i) (hr : rs[i.toNat]? = some (some r)) (hn : rs.length < 2147483648)
    (k : AW M E (pc + 1) L (.inr r :: S) h Q) : AW M E pc L (.inl i :: .inr q :: S) h Q := by
  intro l p e R s m args below meth c H locs cells slots A dC dI dA ad ad0 ls n0 m0 QQ hs hf hy
  obtain ⟨s1, s2, s3, s4, s5, s6, s7, s8, s9, s10, s11, s12, s13, s14, s15, s16⟩ := id hs
  obtain ⟨y1, y2, y3, y4, y5, y6, y7, y8⟩ := id hy
  have he := con_get (dA := dA) (ad := ad) hc
  simp only [ce] at he
  have hl : i.toNat < rs.length := (List.getElem?_eq_some_iff.mp hr).1
  refine va_aldq (C := RX0) s1 s2 s11 y1 q 3 he rfl (ofI_in h0 (by omega) hn) hd ?_
  rw [ofI_cl ⟨by omega, by omega⟩, List.getD_eq_getElem?_getD, hr]
  exact k l p e R s m args below meth c H locs cells slots A dC dI dA ad ad0 ls n0 m0 QQ hs hf hy
theorem aw_iastore {q n : Nat} {i v : Int} (hd : decode M.2.1 pc = .ok (.iastore, 1)) (hc : h.1[q]? = some (.inr (.inl (0, n)))) (h0 : 0 ≤ i) (h1 : i < n) (hn : n < 2147483648) 
    (k : AW M E (pc + 1) L S (h.1, am_up h.2 q i v) Q) : AW M E pc L (.inl v :: .inl i :: .inr q :: S) h Q := by
  intro l p e R s m args below meth c H locs cells slots A dC dI dA ad ad0 ls n0 m0 QQ hs hf hy
  obtain ⟨s1, s2, s3, s4, s5, s6, s7, s8, s9, s10, s11, s12, s13, s14, s15, s16⟩ := id hs
  obtain ⟨y1, y2, y3, y4, y5, y6, y7, y8⟩ := id hy
  have he := con_get (dA := dA) (ad := ad) hc
  simp only [ce] at he
  have ecn : con dA ad (h.1, am_up h.2 q i v) = (con dA ad h).set q (ad q, .inl (dA 0, n, .inl (upd (fun j => Int32.ofInt (h.2 q (j : Int))) i.toNat (Int32.ofInt v)))) := by
    rw [con_setI hc, ce_aI h0]
  refine va_iast s1 s2 s11 y1 y2 y3 q 0 he rfl (ofI_in h0 h1 hn) hd (fun H1 locs1 g1 g2 g3 => ?_)
  rw [ofI_cl ⟨by omega, by omega⟩] at g1 g2
  rw [← ecn] at g1 g2
  exact k l p e R s m args below meth c H1 locs1 cells slots A dC dI dA ad ad0 ls n0 m0 QQ hs hf ⟨g1, g2, g3, y4, y5, y6, y7, y8⟩
theorem aw_bastore {q n : Nat} {i v : Int} (hd : decode M.2.1 pc = .ok (.bastore, 1)) (hc : h.1[q]? = some (.inr (.inl (1, n)))) (h0 : 0 ≤ i) (h1 : i < n) (hn : n < 2147483648) (hv : v = 0 ∨ v = 1)
    (k : AW M E (pc + 1) L S (h.1, am_up h.2 q i v) Q) : AW M E pc L (.inl v :: .inl i :: .inr q :: S) h Q := by
  intro l p e R s m args below meth c H locs cells slots A dC dI dA ad ad0 ls n0 m0 QQ hs hf hy
  obtain ⟨s1, s2, s3, s4, s5, s6, s7, s8, s9, s10, s11, s12, s13, s14, s15, s16⟩ := id hs
  obtain ⟨y1, y2, y3, y4, y5, y6, y7, y8⟩ := id hy
  have he := con_get (dA := dA) (ad := ad) hc
  simp only [ce] at he
  have ecn : con dA ad (h.1, am_up h.2 q i v) = (con dA ad h).set q (ad q, .inl (dA 1, n, .inl (upd (fun j => Int32.ofInt (h.2 q (j : Int))) i.toNat (Int32.ofInt v)))) := by
    rw [con_setI hc, ce_aI h0]
  have en : vp_nar .boolean (Int32.ofInt v) = Int32.ofInt v := (by rcases hv with rfl | rfl <;> decide +kernel)
  refine va_zast s1 s2 s11 y1 y2 y3 q 1 he rfl (ofI_in h0 h1 hn) hd (fun H1 locs1 g1 g2 g3 => ?_)
  rw [ofI_cl ⟨by omega, by omega⟩, en] at g1 g2
  rw [← ecn] at g1 g2
  exact k l p e R s m args below meth c H1 locs1 cells slots A dC dI dA ad ad0 ls n0 m0 QQ hs hf ⟨g1, g2, g3, y4, y5, y6, y7, y8⟩
theorem nar_c {x : Int} (h0 : 0 ≤ x) (h1 : x < 65536) : (Int32.ofInt x).toUInt32.toUInt16.toUInt32.toInt32 = Int32.ofInt x := by
  obtain ⟨n, rfl⟩ := Int.eq_ofNat_of_zero_le h0
  have hn : n < 65536 := by omega
  have e := (pk_charN hn).1
  have e2 : vp_nar .char (nI n) = nI n := by unfold vp_nar; rw [e]
  rw [vp_nar_char] at e2
  exact e2
theorem aw_castore {q n : Nat} {i v : Int} (hd : decode M.2.1 pc = .ok (.castore, 1)) (hc : h.1[q]? = some (.inr (.inl (2, n)))) (h0 : 0 ≤ i) (h1 : i < n) (hn : n < 2147483648) (hv0 : 0 ≤ v) (hv1 : v < 65536)
    (k : AW M E (pc + 1) L S (h.1, am_up h.2 q i v) Q) : AW M E pc L (.inl v :: .inl i :: .inr q :: S) h Q := by
  intro l p e R s m args below meth c H locs cells slots A dC dI dA ad ad0 ls n0 m0 QQ hs hf hy
  obtain ⟨s1, s2, s3, s4, s5, s6, s7, s8, s9, s10, s11, s12, s13, s14, s15, s16⟩ := id hs
  obtain ⟨y1, y2, y3, y4, y5, y6, y7, y8⟩ := id hy
  have he := con_get (dA := dA) (ad := ad) hc
  simp only [ce] at he
  have ecn : con dA ad (h.1, am_up h.2 q i v) = (con dA ad h).set q (ad q, .inl (dA 2, n, .inl (upd (fun j => Int32.ofInt (h.2 q (j : Int))) i.toNat (Int32.ofInt v)))) := by
    rw [con_setI hc, ce_aI h0]
  have en : vp_nar .char (Int32.ofInt v) = Int32.ofInt v := (by rw [vp_nar_char]; exact nar_c hv0 hv1)
  refine va_cast s1 s2 s11 y1 y2 y3 q 2 he rfl (ofI_in h0 h1 hn) hd (fun H1 locs1 g1 g2 g3 => ?_)
  rw [ofI_cl ⟨by omega, by omega⟩, en] at g1 g2
  rw [← ecn] at g1 g2
  exact k l p e R s m args below meth c H1 locs1 cells slots A dC dI dA ad ad0 ls n0 m0 QQ hs hf ⟨g1, g2, g3, y4, y5, y6, y7, y8⟩
theorem aw_aastore {q r qc : Nat} {i : Int} {rs : List (Option Nat)} {fs : List ShF} {sh' : List ShC} (hd : decode M.2.1 pc = .ok (.aastore, 1)) (hc : h.1[q]? = some (.inr (.inr rs))) (h0 : 0 ≤ i) (h1 : i < rs.length) (hn : rs.length < 2147483648) (hr : h.1[r]? = some (.inl (qc, fs))) (hq : vwCl[qc]? = some (RX0, TX0, 5)) (hsh : h.1.set q (.inr (.inr (rs.set i.toNat (some r)))) = sh')
    (k : AW M E (pc + 1) L S (sh', h.2) Q) : AW M E pc L (.inr r :: .inl i :: .inr q :: S) h Q := by
  intro l p e R s m args below meth c H locs cells slots A dC dI dA ad ad0 ls n0 m0 QQ hs hf hy
  obtain ⟨s1, s2, s3, s4, s5, s6, s7, s8, s9, s10, s11, s12, s13, s14, s15, s16⟩ := id hs
  obtain ⟨y1, y2, y3, y4, y5, y6, y7, y8⟩ := id hy
  have he := con_get (dA := dA) (ad := ad) hc
  simp only [ce] at he
  have he2 := con_get (dA := dA) (ad := ad) hr
  simp only [ce] at he2
  have hql : q < h.1.length := (List.getElem?_eq_some_iff.mp hc).1
  have hil : i.toNat < rs.length := by omega
  have ecn : con dA ad (sh', h.2) = (con dA ad h).set q (ad q, .inl (dA 3, rs.length, .inr (.inr (.inr (.inr (va_up (fun j => (rs.getD j none).map ad) i.toNat (some (ad r)))))))) := by
    rw [con_set (sh := h.1) (m := h.2) hql hsh.symm (fun i c _ => rfl)]
    simp only [ce, List.length_set]
    congr 9
    funext j
    by_cases hj : j = i.toNat
    · subst hj
      simp [va_up, hil]
    · simp [va_up, hj, List.getElem?_set_ne (Ne.symm hj)]
  have hlen : sh'.length = h.1.length := by rw [← hsh]; simp
  have hsl : slS sh' = slS h.1 := by
    rw [← hsh]
    unfold slS
    rw [List.map_set]
    have : h.1.map slC = (h.1.map slC).set q (slC (.inr (.inr (rs.set i.toNat (some r))))) := by
      refine (List.ext_getElem? fun i => ?_)
      by_cases hi : i = q
      · subst hi
        rw [List.getElem?_set_self (by simpa using hql), List.getElem?_map, hc]
        simp [slC]
      · rw [List.getElem?_set_ne (Ne.symm hi)]
    rw [← this]
  refine va_astq s1 s2 s11 y1 y2 y3 q 3 r qc he rfl he2 hq (ofI_in h0 (by omega) hn) hd (fun H1 locs1 g1 g2 g3 => ?_)
  rw [ofI_cl ⟨by omega, by omega⟩] at g1 g2
  rw [← ecn] at g1 g2
  exact k l p e R s m args below meth c H1 locs1 cells slots A dC dI dA ad ad0 ls n0 m0 QQ hs hf ⟨g1, g2, g3, by show cells + n0 = sh'.length; rw [hlen]; exact y4, by show slots + m0 = slS sh'; rw [hsl]; exact y5, y6, y7, fun z hz => y8 z (by have hz2 : z < n0 ∨ sh'.length ≤ z := hz; rw [hlen] at hz2; exact hz2)⟩
theorem aw_alen {q t n : Nat} (hd : decode M.2.1 pc = .ok (.arraylength, 1)) (hc : h.1[q]? = some (.inr (.inl (t, n)))) (ht : t < 3)
    (k : AW M E (pc + 1) L (.inl (n : Int) :: S) h Q) : AW M E pc L (.inr q :: S) h Q := by
  intro l p e R s m args below meth c H locs cells slots A dC dI dA ad ad0 ls n0 m0 QQ hs hf hy
  obtain ⟨s1, s2, s3, s4, s5, s6, s7, s8, s9, s10, s11, s12, s13, s14, s15, s16⟩ := id hs
  obtain ⟨y1, y2, y3, y4, y5, y6, y7, y8⟩ := id hy
  have he := con_get (dA := dA) (ad := ad) hc
  simp only [ce] at he
  have hk := k l p e R s m args below meth c H locs cells slots A dC dI dA ad ad0 ls n0 m0 QQ hs hf hy
  rcases (by omega : t = 0 ∨ t = 1 ∨ t = 2) with rfl | rfl | rfl
  · exact va_alen (ty := .int) s1 s2 s11 y1 q 0 he rfl rfl hd hk
  · exact va_alen (ty := .boolean) s1 s2 s11 y1 q 1 he rfl rfl hd hk
  · exact va_alen (ty := .char) s1 s2 s11 y1 q 2 he rfl rfl hd hk
theorem aw_sld {i : Int} (hd : decode M.2.1 pc = .ok (.iaload, 1)) (h0 : 0 ≤ i) (h1 : i < E.1.1) (hn : E.1.1 < 2147483648)
    (k : AW M E (pc + 1) L (.inl (E.1.2 i.toNat).toInt :: S) h Q) : AW M E pc L (.inl i :: .inr 1000 :: S) h Q := by
  intro l p e R s m args below meth c H locs cells slots A dC dI dA ad ad0 ls n0 m0 QQ hs hf hy
  obtain ⟨s1, s2, s3, s4, s5, s6, s7, s8, s9, s10, s11, s12, s13, s14, s15, s16⟩ := id hs
  obtain ⟨y1, y2, y3, y4, y5, y6, y7, y8⟩ := id hy
  refine va_sld s1 s2 y7.1.1 y7.1.2.1 y7.1.2.2 y3 (ofI_in h0 h1 hn) hd ?_
  have hk := k l p e R s m args below meth c H locs cells slots A dC dI dA ad ad0 ls n0 m0 QQ hs hf hy
  simp only [List.map_cons, cv, Int32.ofInt_toInt] at hk
  rw [ofI_cl ⟨by omega, by omega⟩]
  exact hk
theorem aw_slen (hd : decode M.2.1 pc = .ok (.arraylength, 1))
    (k : AW M E (pc + 1) L (.inl (E.1.1 : Int) :: S) h Q) : AW M E pc L (.inr 1000 :: S) h Q := by
  intro l p e R s m args below meth c H locs cells slots A dC dI dA ad ad0 ls n0 m0 QQ hs hf hy
  obtain ⟨s1, s2, s3, s4, s5, s6, s7, s8, s9, s10, s11, s12, s13, s14, s15, s16⟩ := id hs
  obtain ⟨y1, y2, y3, y4, y5, y6, y7, y8⟩ := id hy
  exact va_slen s1 s2 y7.1.1 y7.1.2.1 y7.1.2.2 y3 hd (k l p e R s m args below meth c H locs cells slots A dC dI dA ad ad0 ls n0 m0 QQ hs hf hy)
theorem aw_sld1001 {i : Int} (hd : decode M.2.1 pc = .ok (.iaload, 1)) (h0 : 0 ≤ i) (h1 : i < 3)
    (k : AW M E (pc + 1) L (.inl (sLeast i.toNat).toInt :: S) h Q) : AW M E pc L (.inl i :: .inr 1001 :: S) h Q := by
  intro l p e R s m args below meth c H locs cells slots A dC dI dA ad ad0 ls n0 m0 QQ hs hf hy
  obtain ⟨s1, s2, s3, s4, s5, s6, s7, s8, s9, s10, s11, s12, s13, s14, s15, s16⟩ := id hs
  obtain ⟨y1, y2, y3, y4, y5, y6, y7, y8⟩ := id hy
  refine va_sld s1 s2 y7.2.1.1 y7.2.1.2.1 y7.2.1.2.2 y3 (ofI_in h0 h1 (by omega)) hd ?_
  have hk := k l p e R s m args below meth c H locs cells slots A dC dI dA ad ad0 ls n0 m0 QQ hs hf hy
  simp only [List.map_cons, cv, Int32.ofInt_toInt] at hk
  rw [ofI_cl ⟨by omega, by omega⟩]
  exact hk
theorem aw_gets1001 {idx : Nat} (hd : decode M.2.1 pc = .ok (.getstatic idx, 3)) (hw : Cond.fieldLink M.1.cls idx RX8 "LEAST_SETTING" "[I" ∈ GW)
    (k : AW M E (pc + 3) L (.inr 1001 :: S) h Q) : AW M E pc L S h Q := by
  intro l p e R s m args below meth c H locs cells slots A dC dI dA ad ad0 ls n0 m0 QQ hs hf hy
  obtain ⟨s1, s2, s3, s4, s5, s6, s7, s8, s9, s10, s11, s12, s13, s14, s15, s16⟩ := id hs
  obtain ⟨y1, y2, y3, y4, y5, y6, y7, y8⟩ := id hy
  exact va_gets s1 s2 y7.2.2.2.1 y3 s5 (s6 _ hw) (fun x hx => hx) hd (k l p e R s m args below meth c H locs cells slots A dC dI dA ad ad0 ls n0 m0 QQ hs hf hy)
theorem aw_sld1002 {i : Int} (hd : decode M.2.1 pc = .ok (.iaload, 1)) (h0 : 0 ≤ i) (h1 : i < 3)
    (k : AW M E (pc + 1) L (.inl (sGreat i.toNat).toInt :: S) h Q) : AW M E pc L (.inl i :: .inr 1002 :: S) h Q := by
  intro l p e R s m args below meth c H locs cells slots A dC dI dA ad ad0 ls n0 m0 QQ hs hf hy
  obtain ⟨s1, s2, s3, s4, s5, s6, s7, s8, s9, s10, s11, s12, s13, s14, s15, s16⟩ := id hs
  obtain ⟨y1, y2, y3, y4, y5, y6, y7, y8⟩ := id hy
  refine va_sld s1 s2 y7.2.2.1.1 y7.2.2.1.2.1 y7.2.2.1.2.2 y3 (ofI_in h0 h1 (by omega)) hd ?_
  have hk := k l p e R s m args below meth c H locs cells slots A dC dI dA ad ad0 ls n0 m0 QQ hs hf hy
  simp only [List.map_cons, cv, Int32.ofInt_toInt] at hk
  rw [ofI_cl ⟨by omega, by omega⟩]
  exact hk
theorem aw_gets1002 {idx : Nat} (hd : decode M.2.1 pc = .ok (.getstatic idx, 3)) (hw : Cond.fieldLink M.1.cls idx RX8 "GREATEST_SETTING" "[I" ∈ GW)
    (k : AW M E (pc + 3) L (.inr 1002 :: S) h Q) : AW M E pc L S h Q := by
  intro l p e R s m args below meth c H locs cells slots A dC dI dA ad ad0 ls n0 m0 QQ hs hf hy
  obtain ⟨s1, s2, s3, s4, s5, s6, s7, s8, s9, s10, s11, s12, s13, s14, s15, s16⟩ := id hs
  obtain ⟨y1, y2, y3, y4, y5, y6, y7, y8⟩ := id hy
  exact va_gets s1 s2 y7.2.2.2.2 y3 s5 (s6 _ hw) (fun x hx => hx) hd (k l p e R s m args below meth c H locs cells slots A dC dI dA ad ad0 ls n0 m0 QQ hs hf hy)
def am_new (m : AM) (n : Nat) : AM := fun k j => if k = n then 0 else m k j
def rfS : List AV → List Nat
  | [] => []
  | .inl _ :: S => rfS S
  | .inr k :: S => k :: rfS S
def rfL : List (Option AV) → List Nat
  | [] => []
  | some (.inr k) :: S => k :: rfL S
  | _ :: S => rfL S
def rfF : List ShF → List Nat
  | [] => []
  | some (some k) :: S => k :: rfF S
  | _ :: S => rfF S
def rfO : List (Option Nat) → List Nat
  | [] => []
  | some k :: S => k :: rfO S
  | none :: S => rfO S
def rfC : ShC → List Nat
  | .inl (_, fs) => rfF fs
  | .inr (.inl _) => []
  | .inr (.inr rs) => rfO rs
def rfH : List ShC → List Nat
  | [] => []
  | c :: sh => rfC c ++ rfH sh
theorem rfS_mem {S : List AV} {k : Nat} (hk : .inr k ∈ S) : k ∈ rfS S := by
  induction S with
  | nil => cases hk
  | cons v S ih =>
    rcases List.mem_cons.mp hk with e | hk2
    · subst e; exact List.mem_cons_self
    · cases v with
      | inl x => exact ih hk2
      | inr z => exact List.mem_cons_of_mem _ (ih hk2)
theorem rfL_mem {S : List (Option AV)} {k : Nat} (hk : some (.inr k) ∈ S) : k ∈ rfL S := by
  induction S with
  | nil => cases hk
  | cons v S ih =>
    rcases List.mem_cons.mp hk with e | hk2
    · subst e; exact List.mem_cons_self
    · rcases v with _ | x | z
      · exact ih hk2
      · exact ih hk2
      · exact List.mem_cons_of_mem _ (ih hk2)
theorem rfF_mem {S : List ShF} {k : Nat} (hk : some (some k) ∈ S) : k ∈ rfF S := by
  induction S with
  | nil => cases hk
  | cons v S ih =>
    rcases List.mem_cons.mp hk with e | hk2
    · subst e; exact List.mem_cons_self
    · rcases v with _ | _ | z
      · exact ih hk2
      · exact ih hk2
      · exact List.mem_cons_of_mem _ (ih hk2)
theorem rfO_mem {S : List (Option Nat)} {k : Nat} (hk : some k ∈ S) : k ∈ rfO S := by
  induction S with
  | nil => cases hk
  | cons v S ih =>
    rcases List.mem_cons.mp hk with e | hk2
    · subst e; exact List.mem_cons_self
    · cases v with
      | none => exact ih hk2
      | some z => exact List.mem_cons_of_mem _ (ih hk2)
theorem rfH_mem {sh : List ShC} {c : ShC} {k : Nat} (hc : c ∈ sh) (hk : k ∈ rfC c) : k ∈ rfH sh := by
  induction sh with
  | nil => cases hc
  | cons v sh ih =>
    rcases List.mem_cons.mp hc with e | hc2
    · subst e; exact List.mem_append_left _ hk
    · exact List.mem_append_right _ (ih hc2)
theorem ce_ad {dA : Nat → ClassId} {ad ad' : Nat → Nat} {m m' : AM} {k : Nat} {c : ShC} (ha : ∀ r ∈ rfC c, ad' r = ad r) (hm : ∀ j : Int, m' k j = m k j) : ce dA ad' m' k c = ce dA ad m k c := by
  rcases c with ⟨ci, fs⟩ | ⟨t, n⟩ | rs
  · simp only [ce]
    congr 2
    refine (List.ext_getElem? fun i => ?_)
    rw [List.getElem?_mapIdx, List.getElem?_mapIdx]
    cases hf : fs[i]? with
    | none => rfl
    | some f =>
      rcases f with _ | _ | r
      · simp [cfl, hm]
      · rfl
      · simp only [Option.map_some, cfl]
        rw [ha r (rfF_mem (List.mem_of_getElem? hf))]
  · simp only [ce, hm]
  · simp only [ce]
    congr 7
    funext j
    cases hj : rs[j]? with
    | none => simp [List.getD_eq_getElem?_getD, hj]
    | some o =>
      cases o with
      | none => simp [List.getD_eq_getElem?_getD, hj]
      | some r =>
        simp only [List.getD_eq_getElem?_getD, hj, Option.getD_some, Option.map_some]
        rw [ha r (rfO_mem (List.mem_of_getElem? hj))]
theorem con_push {dA : Nat → ClassId} {ad : Nat → Nat} {h : HP} {q : Nat} {c : ShC} {x : va_E} (hfr : (rfH (h.1 ++ [c])).all (fun r => r != h.1.length) = true) (hx : ce dA (fun k => if k = h.1.length then q else ad k) (am_new h.2 h.1.length) h.1.length c = x) : con dA (fun k => if k = h.1.length then q else ad k) (h.1 ++ [c], am_new h.2 h.1.length) = con dA ad h ++ [(q, x)] := by
  refine (List.ext_getElem? fun i => ?_)
  rcases Nat.lt_trichotomy i h.1.length with hi | hi | hi
  · rw [List.getElem?_append_left (by rw [con_len]; exact hi)]
    simp only [con, List.getElem?_mapIdx]
    rw [List.getElem?_append_left hi]
    have hg : h.1[i]? = some h.1[i] := List.getElem?_eq_getElem hi
    rw [hg]
    simp only [Option.map_some]
    have hne : ¬ i = h.1.length := by omega
    rw [if_neg hne]
    congr 2
    refine ce_ad (fun r hr => ?_) (fun j => ?_)
    · have h1 := List.all_eq_true.mp hfr r (rfH_mem (List.mem_append_left _ (List.mem_of_getElem? hg)) hr)
      have h2 : r ≠ h.1.length := by simpa using h1
      exact if_neg h2
    · exact if_neg hne
  · subst hi
    rw [List.getElem?_append_right (by rw [con_len]; exact Nat.le_refl _), con_len, Nat.sub_self]
    simp only [con, List.getElem?_mapIdx]
    rw [List.getElem?_append_right (Nat.le_refl _), Nat.sub_self]
    simp only [List.getElem?_cons_zero, Option.map_some, if_true]
    rw [hx]
  · have e1 : (con dA (fun k => if k = h.1.length then q else ad k) (h.1 ++ [c], am_new h.2 h.1.length)).length ≤ i := by rw [con_len]; simp; omega
    have e2 : (con dA ad h ++ [(q, x)]).length ≤ i := by rw [List.length_append, con_len]; simp; omega
    rw [List.getElem?_eq_none e1, List.getElem?_eq_none e2]
def aFresh (n : Nat) (sh : List ShC) (L : List (Option AV)) (S : List AV) : Bool := (rfH sh).all (fun r => r != n) && (rfL L).all (fun r => r != n) && (rfS S).all (fun r => r != n)
theorem slS_push (sh : List ShC) (c : ShC) : slS (sh ++ [c]) = slS sh + slC c := by simp [slS]
theorem aRO_congr {X : AX} {ad ad' : Nat → Nat} {A : Nat → Prop} {U : State} (h0 : ad' 1000 = ad 1000) (h1 : ad' 1001 = ad 1001) (h2 : ad' 1002 = ad 1002) (hR : aRO X ad A U) : aRO X ad' A U := by
  unfold aRO
  rw [h0, h1, h2]
  exact hR
/-- a cell is made: the words behind it -/
theorem aDy_push {s : State} {H H1 : Heap} {locs : List Loc} {cells slots : Nat} {A : Nat → Prop} {dC : Nat → ClassId} {dI : Nat → Nat → Nat} {dA : Nat → ClassId} {ad ad0 : Nat → Nat} {ls : Array Slot} {n0 m0 q : Nat} {c : ShC} {x : va_E} {sl : Nat}
    (hy : aDy M E s H locs cells slots A dC dI dA ad ad0 ls n0 m0 L h) (hn : n0 ≤ h.1.length) (hlt : h.1.length < 1000) (hfr : aFresh h.1.length (h.1 ++ [c]) L S = true) (hx : ce dA (fun k => if k = h.1.length then q else ad k) (am_new h.2 h.1.length) h.1.length c = x) (hsl : slC c = sl)
    (g1 : va_P (dC, dI) vwCl (con dA ad h ++ [(q, x)]) H1) (g2 : va_D A (con dA ad h ++ [(q, x)])) (g3 : va_S A s.heap H1 locs) :
    aDy M E s H1 locs (cells + 1) (slots + sl) A dC dI dA (fun k => if k = h.1.length then q else ad k) ad0 ls n0 m0 L (h.1 ++ [c], am_new h.2 h.1.length) ∧ S.map (cv (fun k => if k = h.1.length then q else ad k)) = S.map (cv ad) := by
  obtain ⟨y1, y2, y3, y4, y5, y6, y7, y8⟩ := hy
  simp only [aFresh, Bool.and_eq_true] at hfr
  obtain ⟨⟨f1, f2⟩, f3⟩ := hfr
  rw [← con_push f1 hx] at g1 g2
  refine ⟨⟨g1, g2, g3, ?_, ?_, ?_, ?_, ?_⟩, ?_⟩
  · simp only [List.length_append, List.length_cons, List.length_nil]; omega
  · show _ = slS (h.1 ++ [c])
    rw [slS_push]; omega
  · refine y6.agree (fun i k hk => ?_)
    have h1 := List.all_eq_true.mp f2 k (rfL_mem (List.mem_of_getElem? hk))
    have h2 : k ≠ h.1.length := by simpa using h1
    exact if_neg h2
  · exact aRO_congr (if_neg (by omega)) (if_neg (by omega)) (if_neg (by omega)) y7
  · intro k hk
    have hk2 : k < n0 ∨ h.1.length + 1 ≤ k := by simpa using hk
    have hne : ¬ k = h.1.length := by omega
    exact (if_neg hne).trans (y8 k (by omega))
  · refine List.map_congr_left (fun v hv => ?_)
    cases v with
    | inl z => rfl
    | inr k =>
      have h1 := List.all_eq_true.mp f3 k (rfS_mem hv)
      have h2 : k ≠ h.1.length := by simpa using h1
      simp only [cv]
      rw [if_neg h2]
theorem aw_new {idx ci N : Nat} {C : String} {T : u_T} {ty : Nat → FieldType} {fs : List ShF} (hd : decode M.2.1 pc = .ok (.new idx, 3)) (hk : aCl ci C T N ty) (hl : Cond.classLink M.1.cls idx C ∈ GW) (hi : Cond.instantiable C N ∈ GW) (hini : Cond.initialized C ∈ GW)
    (hN : fs.length = N) (hfs : ∀ j, j < N → defaultValue (ty j) = vp_V (fs.map (fun f => match f with | none => .int 0 | some _ => .null)) j) (hnn : ∀ f ∈ fs, f = none ∨ f = some none) (hlt : h.1.length < 1000) (hfr : aFresh h.1.length (h.1 ++ [.inl (ci, fs)]) L S = true) (hc1 : h.1.length + 1 ≤ E.2.2.2.1) (hc2 : slS h.1 + N ≤ E.2.2.2.2)
    (k : AW M E (pc + 3) L (.inr h.1.length :: S) (h.1 ++ [.inl (ci, fs)], am_new h.2 h.1.length) Q) : AW M E pc L S h Q := by
  intro l p e R s m args below meth c H locs cells slots A dC dI dA ad ad0 ls n0 m0 QQ hs hf hy
  obtain ⟨s1, s2, s3, s4, s5, s6, s7, s8, s9, s10, s11, s12, s13, s14, s15, s16⟩ := id hs
  obtain ⟨y1, y2, y3, y4, y5, y6, y7, y8⟩ := id hy
  refine va_new (Ts := GW) s1 s2 s6 hk.2.1 ty hk.2.2.1 s5 (s6 _ hl) (s6 _ hi) (s6 _ hini) s11 y1 y2 y3 s12 hk.1 hfs (by omega) (by omega) hd (fun q H1 g1 g2 g3 => ?_)
  have hx : ce dA (fun k => if k = h.1.length then q else ad k) (am_new h.2 h.1.length) h.1.length (.inl (ci, fs)) = .inr (ci, fs.map (fun f => match f with | none => .int 0 | some _ => .null)) := by
    simp only [ce]
    congr 2
    refine (List.ext_getElem? fun i => ?_)
    rw [List.getElem?_mapIdx, List.getElem?_map]
    cases hf : fs[i]? with
    | none => rfl
    | some f =>
      rcases hnn f (List.mem_of_getElem? hf) with rfl | rfl
      · simp [cfl, am_new]
      · rfl
  obtain ⟨d1, d2⟩ := aDy_push (S := S) (q := q) hy (by omega) hlt hfr hx (sl := N) (by simp [slC, hN]) g1 g2 g3
  have hkk := k l p e R s m args below meth c H1 locs (cells + 1) (slots + N) A dC dI dA (fun k => if k = h.1.length then q else ad k) ad0 ls n0 m0 QQ hs hf d1
  rw [List.map_cons, d2] at hkk
  simp only [cv, if_true] at hkk
  exact hkk
theorem aw_newarr {atype : ArrayType} {t : Nat} {n : Int} {N : Nat} {ty : FieldType} (hd : decode M.2.1 pc = .ok (.newarray atype, 2)) (hl : Cond.arrayClass ty ∈ GW) (ht : (atype = .int ∧ t = 0 ∧ ty = .int) ∨ (atype = .boolean ∧ t = 1 ∧ ty = .boolean) ∨ (atype = .char ∧ t = 2 ∧ ty = .char)) (hN : n = (N : Int)) (hs5 : N ≤ 100000) (hlt : h.1.length < 1000) (hfr : aFresh h.1.length (h.1 ++ [.inr (.inl (t, N))]) L S = true) (hc1 : h.1.length + 1 ≤ E.2.2.2.1) (hc2 : slS h.1 + N ≤ E.2.2.2.2)
    (k : AW M E (pc + 2) L (.inr h.1.length :: S) (h.1 ++ [.inr (.inl (t, N))], am_new h.2 h.1.length) Q) : AW M E pc L (.inl n :: S) h Q := by
  intro l p e R s m args below meth c H locs cells slots A dC dI dA ad ad0 ls n0 m0 QQ hs hf hy
  obtain ⟨s1, s2, s3, s4, s5, s6, s7, s8, s9, s10, s11, s12, s13, s14, s15, s16⟩ := id hs
  obtain ⟨y1, y2, y3, y4, y5, y6, y7, y8⟩ := id hy
  subst hN
  have hr : rng (N : Int) := ⟨by omega, by omega⟩
  have hneg : ¬ Int32.ofInt (N : Int) < 0 := fun z => by
    have := (ofI_lt hr (⟨by omega, by omega⟩ : rng 0)).mp z
    omega
  have hcl : (Int32.ofInt (N : Int)).toNatClampNeg = N := by rw [ofI_cl hr]; simp
  have fin : ∀ (t0 : Nat) (q : Nat) (cA : ClassId) (H1 : Heap) (_ : t0 < 3) (_ : cA = dA t0) (k : AW M E (pc + 2) L (.inr h.1.length :: S) (h.1 ++ [.inr (.inl (t0, N))], am_new h.2 h.1.length) Q) (_ : aFresh h.1.length (h.1 ++ [.inr (.inl (t0, N))]) L S = true) (g1 : va_P (dC, dI) vwCl (con dA ad h ++ [(q, .inl (cA, N, .inl (fun _ => 0)))]) H1) (g2 : va_D A (con dA ad h ++ [(q, .inl (cA, N, .inl (fun _ => 0)))])) (g3 : va_S A s.heap H1 locs), W p l e R s m args below meth c H1 locs (cells + 1) (slots + N) QQ (F0 m (pc + 2) ls (.ref q :: S.map (cv ad))) := by
    intro t0 q cA H1 ht0 hcA k hfr g1 g2 g3
    subst hcA
    have hx : ce dA (fun k => if k = h.1.length then q else ad k) (am_new h.2 h.1.length) h.1.length (.inr (.inl (t0, N))) = .inl (dA t0, N, .inl (fun _ => 0)) := by
      simp only [ce, am_new, if_true]
      rfl
    obtain ⟨d1, d2⟩ := aDy_push (S := S) (q := q) hy (by omega) hlt hfr hx (sl := N) rfl g1 g2 g3
    have hkk := k l p e R s m args below meth c H1 locs (cells + 1) (slots + N) A dC dI dA (fun k => if k = h.1.length then q else ad k) ad0 ls n0 m0 QQ hs hf d1
    rw [List.map_cons, d2] at hkk
    simp only [cv, if_true] at hkk
    exact hkk
  have hnm : ∀ (tt : Nat) (cA : ClassId) (ty0 : FieldType), va_K (dC, dI) vwCl (tysA dA ++ [(cA, ty0)]) s → (tysA dA)[tt]? = some (dA tt, ty0) → (∀ C, ty0 ≠ .object C) → cA = dA tt := by
    intro tt cA ty0 hK2 htt hno
    have a1 := (hK2.2 4 (cA, ty0) rfl).2
    have a2 := (s11.2 tt _ htt).2
    unfold va_RA at a1 a2
    cases ty0 with
    | object C => exact absurd rfl (hno C)
    | _ => exact Option.some.inj (a1.symm.trans a2)
  rcases ht with ⟨rfl, rfl, rfl⟩ | ⟨rfl, rfl, rfl⟩ | ⟨rfl, rfl, rfl⟩
  · exact va_newa (atype := .int) (ty := .int) (N' := N) (a0 := (N, .inl (fun _ => 0))) s1 s2 (s6 _ hl) rfl s11 y1 y2 y3 s12 (fun cA => by rw [vp_cell_i]; rfl) hneg hcl (by show N * 4 ≤ _; omega) (by omega) (by omega) hd (fun q cA H1 g0 g1 g2 g3 => fin 0 q cA H1 (by omega) (hnm 0 cA _ g0 rfl (fun C z => by cases z)) k hfr g1 g2 g3)
  · exact va_newa (atype := .boolean) (ty := .boolean) (N' := N) (a0 := (N, .inl (fun _ => 0))) s1 s2 (s6 _ hl) rfl s11 y1 y2 y3 s12 (fun cA => by rw [vp_cell_i]; rfl) hneg hcl (by show N * 1 ≤ _; omega) (by omega) (by omega) hd (fun q cA H1 g0 g1 g2 g3 => fin 1 q cA H1 (by omega) (hnm 1 cA _ g0 rfl (fun C z => by cases z)) k hfr g1 g2 g3)
  · exact va_newa (atype := .char) (ty := .char) (N' := N) (a0 := (N, .inl (fun _ => 0))) s1 s2 (s6 _ hl) rfl s11 y1 y2 y3 s12 (fun cA => by rw [vp_cell_i]; rfl) hneg hcl (by show N * 2 ≤ _; omega) (by omega) (by omega) hd (fun q cA H1 g0 g1 g2 g3 => fin 2 q cA H1 (by omega) (hnm 2 cA _ g0 rfl (fun C z => by cases z)) k hfr g1 g2 g3)
theorem aw_anew {idx : Nat} {n : Int} {N : Nat} (hd : decode M.2.1 pc = .ok (.anewarray idx, 3)) (hl : Cond.classLink M.1.cls idx RX0 ∈ GW) (hN : n = (N : Int)) (hs5 : N ≤ 100000) (hlt : h.1.length < 1000) (hfr : aFresh h.1.length (h.1 ++ [.inr (.inr (List.replicate N none))]) L S = true) (hc1 : h.1.length + 1 ≤ E.2.2.2.1) (hc2 : slS h.1 + N ≤ E.2.2.2.2)
    (k : AW M E (pc + 3) L (.inr h.1.length :: S) (h.1 ++ [.inr (.inr (List.replicate N none))], am_new h.2 h.1.length) Q) : AW M E pc L (.inl n :: S) h Q := by
  intro l p e R s m args below meth c H locs cells slots A dC dI dA ad ad0 ls n0 m0 QQ hs hf hy
  obtain ⟨s1, s2, s3, s4, s5, s6, s7, s8, s9, s10, s11, s12, s13, s14, s15, s16⟩ := id hs
  obtain ⟨y1, y2, y3, y4, y5, y6, y7, y8⟩ := id hy
  subst hN
  have hr : rng (N : Int) := ⟨by omega, by omega⟩
  have hneg : ¬ Int32.ofInt (N : Int) < 0 := fun z => by
    have := (ofI_lt hr (⟨by omega, by omega⟩ : rng 0)).mp z
    omega
  have hcl : (Int32.ofInt (N : Int)).toNatClampNeg = N := by rw [ofI_cl hr]; simp
  refine va_newq (C := RX0) (N' := N) s1 s2 s5 (s6 _ hl) s10 s11 y1 y2 y3 s12 hneg hcl (by omega) (by omega) (by omega) hd (fun q cA H1 g0 g1 g2 g3 => ?_)
  have hcA : cA = dA 3 := by
    obtain ⟨kA, comp, a1, a2, a3, a4⟩ := (g0.2 4 (cA, .object RX0) rfl).2
    obtain ⟨kB, comp2, b1, b2, b3, b4⟩ := (s11.2 3 (dA 3, .object RX0) rfl).2
    exact Option.some.inj (a4.symm.trans b4)
  subst hcA
  have hx : ce dA (fun k => if k = h.1.length then q else ad k) (am_new h.2 h.1.length) h.1.length (.inr (.inr (List.replicate N none))) = .inl (dA 3, N, .inr (.inr (.inr (.inr (fun _ => none))))) := by
    simp only [ce, List.length_replicate]
    congr 7
    funext j
    rw [List.getD_eq_getElem?_getD, List.getElem?_replicate]
    split <;> rfl
  obtain ⟨d1, d2⟩ := aDy_push (S := S) (q := q) hy (by omega) hlt hfr hx (sl := N) (by simp [slC]) g1 g2 g3
  have hkk := k l p e R s m args below meth c H1 locs (cells + 1) (slots + N) A dC dI dA (fun k => if k = h.1.length then q else ad k) ad0 ls n0 m0 QQ hs hf d1
  rw [List.map_cons, d2] at hkk
  simp only [cv, if_true] at hkk
  exact hkk
end HEAP
end
section
def wsM (M : MI) : List Cond := Cond.code M.1 M.2.1 M.2.2.1 M.2.2.2 :: GW
def aPre (X : AX) (dC : Nat → ClassId) (dI : Nat → Nat → Nat) (dA : Nat → ClassId) (ad : Nat → Nat) (h : HP) (sz : Nat) (U : State) : Prop := U.heap.size = sz ∧ va_P (dC, dI) vwCl (con dA ad h) U.heap ∧ va_K (dC, dI) vwCl (tysA dA) U ∧ va_D (fun _ => True) (con dA ad h) ∧ (∀ w ∈ NWL, va_Nw w U) ∧ va_AO RX0 U ∧ aRO X ad (va_A (con dA ad h) sz) U
def aQ (dC : Nat → ClassId) (dI : Nat → Nat → Nat) (dA : Nat → ClassId) (ad : Nat → Nat) (h : HP) (sz mc ms : Nat) (Q : Option Int → HP → Prop) : Array Value → State → Outcome → State → Prop := fun _ st oc t => (∃ (v : Option Int) (h' : HP) (ad' : Nat → Nat), oc = .returned (v.map (fun z => .int (Int32.ofInt z))) ∧ Q v h' ∧ h'.1.length = h.1.length + mc ∧ slS h'.1 = slS h.1 + ms ∧ (∀ k : Nat, (k < h.1.length ∨ h'.1.length ≤ k) → ad' k = ad k) ∧ va_P (dC, dI) vwCl (con dA ad' h') t.heap ∧ va_D (va_A (con dA ad h) sz) (con dA ad' h')) ∧ va_F (va_A (con dA ad h) sz) st t
/-- what a method does: from h with these values to one of Q -/
def AC (X : AX) (M : MI) (d r mc ms : Nat) (av : List AV) (h : HP) (Q : Option Int → HP → Prop) : Prop :=
  ∀ (l : Launch) (dC : Nat → ClassId) (dI : Nat → Nat → Nat) (dA : Nat → ClassId) (ad : Nat → Nat) (sz : Nat), Met l M.1 (wsM M) ({ frames := d, cells := mc, slots := ms, locals := r } : Room) (va_Pc (av.map (cv ad)) (aPre X dC dI dA ad h sz)) (aQ dC dI dA ad h sz mc ms Q) mc ms (va_A (con dA ad h) sz)
theorem lg_slV (ad : Nat → Nat) (av : List AV) : lg_sl (av.map (cv ad)) = av.map (fun v => Slot.val (cv ad v)) := by
  unfold lg_sl
  induction av with
  | nil => rfl
  | cons v av ih =>
    rw [List.map_cons, List.flatMap_cons, ih, if_neg (by rw [cv_cat]; decide)]
    rfl
theorem lvL_entry (ad : Nat → Nat) (av : List AV) (n : Nat) (hn : av.length ≤ n) : lvL ad ((lg_sl (av.map (cv ad)) ++ List.replicate (n - (lg_sl (av.map (cv ad))).length) Slot.unset).toArray) n (av.map some ++ List.replicate (n - av.length) none) := by
  have hle : (lg_sl (av.map (cv ad))).length = av.length := by rw [lg_slV]; simp
  have h0 := lv_entry (av.map (cv ad)) (n := n) (by rw [hle]; exact hn)
  refine ⟨h0.1, h0.2.1, fun i v hv => ?_⟩
  rcases Nat.lt_or_ge i av.length with hi | hi
  · rw [List.getElem?_append_left (by simpa using hi), List.getElem?_map] at hv
    rw [List.getElem?_toArray, List.getElem?_append_left (by rw [hle]; exact hi), lg_slV, List.getElem?_map]
    cases hav : av[i]? with
    | none => rw [hav] at hv; cases hv
    | some u =>
      rw [hav] at hv
      simp only [Option.map_some, Option.some.injEq] at hv
      subst hv
      rfl
  · rw [List.getElem?_append_right (by simpa using hi)] at hv
    have := List.eq_of_mem_replicate (List.mem_of_getElem? hv)
    cases this
theorem ac_of {X : AX} {M : MI} {d r mc ms : Nat} {av : List AV} {h : HP} {Q : Option Int → HP → Prop} (hp : plainName M.1.cls = true) (hlen : av.length ≤ M.2.2.1)
    (k : AW M (X, d, r, h.1.length + mc, slS h.1 + ms) 0 (av.map some ++ List.replicate (M.2.2.1 - av.length) none) [] h Q) : AC X M d r mc ms av h Q := by
  intro l dC dI dA ad sz
  refine Met.ofW (cc := M.2.1) (maxL := M.2.2.1) (ret := M.2.2.2) hp rfl ?_
  intro p e s m args below meth c s₁ B hml hv
  obtain ⟨rfl, hsz, hP, hK, hD0, hN, hO, hR⟩ := hv
  subst hsz
  have hts := atoms_spec (ws := wsM M) B.pre
  have hown : s.vm.findClass M.1.cls = some m.cls := findClass_of_methodNamed B.named
  have hin : meth.name = M.1.name := (name_of_methodNamed B.named B.method).1
  have hD := hD0.self (sz := s.heap.size)
  have hS : va_S (va_A (con dA ad h) s.heap.size) s.heap s.heap [] := va_S.rf
  have hl := lvL_entry ad av M.2.2.1 hlen
  rw [lg_entry_eq]
  refine k l p e _ s m _ below meth c s.heap [] 0 0 (va_A (con dA ad h) s.heap.size) dC dI dA ad ad _ h.1.length (slS h.1) _ ⟨B.exec, B.bytes, B.returns, hml, hown, fun w hw => hts w (List.mem_cons_of_mem _ hw), B.notSynchronized, hin, hN, hO, hK, fun q hq => Or.inr hq, Nat.le_refl _, Nat.le_refl _, by show h.1.length + mc = mc + h.1.length; omega, by show slS h.1 + ms = ms + slS h.1; omega⟩ ?_ ⟨hP, hD, hS, by omega, by omega, hl, hR, fun k _ => rfl⟩
  intro v h' H' locs' cells' slots' ad' ls' pc' L' q y hc1 hc2 he
  obtain ⟨y1, y2, y3, y4, y5, y6, y7, y8⟩ := y
  simp only at hc1 hc2
  have e1 : cells' = mc := by omega
  have e2 : slots' = ms := by omega
  subst e1
  subst e2
  cases v with
  | none =>
    exact W.vret B.exec B.bytes (B.returns.trans he.2) (fun t ht hW => ⟨⟨none, h', ad', rfl, q, hc1, hc2, y8, by rw [ht]; exact y1, y2⟩, y3.F ht⟩) y3.2.2 he.1 B.notSynchronized
  | some z =>
    rcases he.2 with e3 | ⟨e3, e4⟩
    · exact W.zret B.exec B.bytes (B.returns.trans e3) rfl (fun t ht hW => ⟨⟨some z, h', ad', rfl, q, hc1, hc2, y8, by rw [ht]; exact y1, y2⟩, y3.F ht⟩) y3.2.2 he.1 B.notSynchronized
    · exact W.zret B.exec B.bytes (B.returns.trans e3) (nar_b true (fun _ => e4)).1 (fun t ht hW => ⟨⟨some z, h', ad', rfl, q, hc1, hc2, y8, by rw [ht]; exact y1, y2⟩, y3.F ht⟩) y3.2.2 he.1 B.notSynchronized
theorem AC.mono {X : AX} {M : MI} {d r mc ms : Nat} {av : List AV} {h : HP} {Q Q' : Option Int → HP → Prop} (k : AC X M d r mc ms av h Q) (hq : ∀ v h', Q v h' → Q' v h') : AC X M d r mc ms av h Q' := by
  intro l dC dI dA ad sz p e ha hc hk s m args below hf happ hP hK
  obtain ⟨n, o, h1, h2, h3, ⟨⟨v, h', ad', b1, b2, b3⟩, h5⟩, h6⟩ := k l dC dI dA ad sz p e ha hc hk s m args below hf happ hP hK
  exact ⟨n, o, h1, h2, h3, ⟨⟨v, h', ad', b1, hq _ _ b2, b3⟩, h5⟩, h6⟩
theorem gw_good {w : Cond} (h : w ∈ GW) : (w.onTables && w.keeps) = true ∨ ∃ ty, w = .arrayClass ty := good_of_word (List.mem_filter.mp h).2
theorem gw_ws {M : MI} (hc : Cond.code M.1 M.2.1 M.2.2.1 M.2.2.2 ∈ GW) : GoodIn GW (wsM M) := by
  intro w hw
  rcases List.mem_cons.mp hw with rfl | hw
  · exact ⟨hc, gw_good hc⟩
  · exact ⟨hw, gw_good hw⟩
theorem gw_wsV {own : String} {idx : Nat} {M : MI} (b1 : Cond.methodLink own idx M.1 ∈ GW) (b2 : Cond.instanceMethod M.1 ∈ GW) (b3 : Cond.selects M.1.cls M.1 M.1 ∈ GW) (b4 : Cond.initialized M.1.cls ∈ GW) (hc : Cond.code M.1 M.2.1 M.2.2.1 M.2.2.2 ∈ GW) : GoodIn GW (wsV own idx M.1.cls M.1 (wsM M)) := by
  intro w hw
  rcases List.mem_append.mp hw with hw | hw
  · have hw2 : w ∈ GW := by
      simp only [List.mem_cons, List.not_mem_nil, or_false] at hw
      rcases hw with rfl | rfl | rfl | rfl
      · exact b1
      · exact b2
      · exact b3
      · exact b4
    exact ⟨hw2, gw_good hw2⟩
  · exact gw_ws hc w hw
theorem gw_wsS {own : String} {idx : Nat} {M : MI} (b1 : Cond.methodLink own idx M.1 ∈ GW) (b2 : Cond.static M.1 ∈ GW) (b4 : Cond.initialized own ∈ GW) (hc : Cond.code M.1 M.2.1 M.2.2.1 M.2.2.2 ∈ GW) : GoodIn GW (wsS own idx M.1 (wsM M)) := by
  intro w hw
  rcases List.mem_append.mp hw with hw | hw
  · have hw2 : w ∈ GW := by
      simp only [List.mem_cons, List.not_mem_nil, or_false] at hw
      rcases hw with rfl | rfl | rfl
      · exact b1
      · exact b2
      · exact b4
    exact ⟨hw2, gw_good hw2⟩
  · exact gw_ws hc w hw
theorem nw_warm {w : Cond} {s U : State} (hw : w ∈ NWL) (hW : s.WarmedH U.vm) (h : va_Nw w s) : va_Nw w U := by
  have hn : am_nest w = true := (List.mem_filter.mp hw).2
  cases w <;> first | exact va_Nw.warmF hW h | exact va_Nw.warmM hW h | (simp [am_nest] at hn; done)
theorem nw_tab {w : Cond} (hw : w ∈ NWL) : w.onTables = true := by
  have hn : am_nest w = true := (List.mem_filter.mp hw).2
  cases w <;> first | rfl | (simp [am_nest] at hn; done)
theorem aRO_call {X : AX} {ad : Nat → Nat} {A A1 : Nat → Prop} {s U : State} {H : Heap} {locs : List Loc} (hR : aRO X ad A s) (hS : va_S A s.heap H locs) (hU : U.heap = H) (hvm : s.vm.Alike U.vm) (hAB : ∀ q, A1 q → A q) : aRO X ad A1 U := by
  obtain ⟨⟨a1, a2, a3⟩, ⟨b1, b2, b3⟩, ⟨c1, c2, c3⟩, d1, d2⟩ := hR
  subst hU
  refine ⟨⟨(a1.kept (hS.2.1 _ a2 a3)).moved hvm, Nat.lt_of_lt_of_le a2 hS.1, fun z => a3 (hAB _ z)⟩, ⟨(b1.kept (hS.2.1 _ b2 b3)).moved hvm, Nat.lt_of_lt_of_le b2 hS.1, fun z => b3 (hAB _ z)⟩, ⟨(c1.kept (hS.2.1 _ c2 c3)).moved hvm, Nat.lt_of_lt_of_le c2 hS.1, fun z => c3 (hAB _ z)⟩, ?_, ?_⟩
  · exact va_Z.moved hvm (va_Z.narrow (va_Z.kept d1 (fun a h1 h2 => hS.2.1 a h1 h2)) hAB)
  · exact va_Z.moved hvm (va_Z.narrow (va_Z.kept d2 (fun a h1 h2 => hS.2.1 a h1 h2)) hAB)
theorem aPre_blind {X : AX} {dC : Nat → ClassId} {dI : Nat → Nat → Nat} {dA : Nat → ClassId} {ad : Nat → Nat} {h : HP} {sz : Nat} {av : List Value} : FrameBlind (va_Pc av (aPre X dC dI dA ad h sz)) := by
  intro a U g mk hp
  obtain ⟨e, p1, p2, p3, p4, p5, p6, p7⟩ := hp
  refine ⟨e, p1, p2, va_K.moved (u := U) (U := U.calling g mk a) (Vm.Alike.refl U.vm) p3, p4, fun w hw => va_Nw.same (nw_tab hw) (u := U) (U := U.calling g mk a) rfl (p5 w hw), va_AO.moved (u := U) (U := U.calling g mk a) (Vm.Alike.refl U.vm) p6, ?_⟩
  exact aRO_call (s := U) (U := U.calling g mk a) (locs := []) p7 va_S.rf rfl (Vm.Alike.refl U.vm) (fun q z => z)
section CALL
variable {M : MI} {E : AE} {pc : Nat} {L : List (Option AV)} {S : List AV} {h : HP} {Q : Option Int → HP → Prop}
theorem a_free {s : State} {H : Heap} {locs : List Loc} {A : Nat → Prop} {ws : va_W} (y2 : va_D A ws) (y3 : va_S A s.heap H locs) (hA : ∀ q, s.heap.size ≤ q → A q) : ∀ q, va_A ws H.size q → A q := by
  intro q hq
  rcases hq with ⟨k, e, hk⟩ | hq
  · exact y2.2 k (q, e) hk
  · exact hA q (Nat.le_trans y3.1 hq)
theorem aPre_at {p : Program} {R : Room} {s : State} {m : MethodId} {args : Array Value} {meth : Method} {c : Code} {H : Heap} {locs : List Loc} {cells slots : Nat} {A : Nat → Prop} {dC : Nat → ClassId} {dI : Nat → Nat → Nat} {dA : Nat → ClassId} {ad ad0 : Nat → Nat} {ls : Array Slot} {n0 m0 : Nat} {U : State}
    (hs : aSt M E p R s m args meth c A dC dI dA n0 m0) (hy : aDy M E s H locs cells slots A dC dI dA ad ad0 ls n0 m0 L h) (hU : U.heap = H) (hW : s.WarmedH U.vm) : aPre E.1 dC dI dA ad h H.size U := by
  obtain ⟨s1, s2, s3, s4, s5, s6, s7, s8, s9, s10, s11, s12, s13, s14, s15, s16⟩ := id hs
  obtain ⟨y1, y2, y3, y4, y5, y6, y7, y8⟩ := id hy
  refine ⟨by rw [hU], by rw [hU]; exact y1, va_K.moved hW.alike s11, y2.weaken (fun _ _ _ _ => trivial), fun w hw => nw_warm hw hW (s9 w hw), va_AO.moved hW.alike s10, ?_⟩
  exact aRO_call y7 y3 hU hW.alike (a_free y2 y3 s12)
def aKeep (lo hi : Nat) (L : List (Option AV)) (S : List AV) : Bool := (rfL L).all (fun k => decide (k < lo) || decide (hi ≤ k)) && (rfS S).all (fun k => decide (k < lo) || decide (hi ≤ k))
theorem aKeep0 (n : Nat) (L : List (Option AV)) (S : List AV) : aKeep n (n + 0) L S = true := by
  have e : ∀ k : Nat, (decide (k < n) || decide (n + 0 ≤ k)) = true := fun k => by
    rcases Nat.lt_or_ge k n with z | z
    · simp [z]
    · simp [z]
  simp only [aKeep, Bool.and_eq_true]
  exact ⟨List.all_eq_true.mpr (fun k _ => e k), List.all_eq_true.mpr (fun k _ => e k)⟩
theorem aw_back {l : Launch} {p : Program} {e : Env} {R : Room} {s : State} {m : MethodId} {args : Array Value} {below : List Frame} {meth : Method} {c : Code} {H : Heap} {locs : List Loc} {cells slots : Nat} {A : Nat → Prop} {dC : Nat → ClassId} {dI : Nat → Nat → Nat} {dA : Nat → ClassId} {ad ad0 : Nat → Nat} {ls : Array Slot} {n0 m0 mc ms : Nat} {QQ : State → Prop} {Q' : Option Int → HP → Prop} {st0 : List Value} {a : Array Value}
    (hs : aSt M E p R s m args meth c A dC dI dA n0 m0) (hf : aFi M E l p e R s m args below meth c A dC dI dA ad0 n0 m0 QQ Q) (hy : aDy M E s H locs cells slots A dC dI dA ad ad0 ls n0 m0 L h)
    (hsml : h.1.length + mc ≤ 1000) (hr : va_Run p l e R s m args below meth c H locs cells slots mc ms (F0 m pc ls st0) (S.map (cv ad)) (aQ dC dI dA ad h H.size mc ms Q' a) (va_A (con dA ad h) H.size)) (ok : aKeep h.1.length (h.1.length + mc) L S = true)
    (kk : ∀ v h', Q' v h' → h'.1.length = h.1.length + mc → slS h'.1 = slS h.1 + ms → AW M E (pc + 3) L (v.toList.map .inl ++ S) h' Q) : W p l e R s m args below meth c H locs cells slots QQ (F0 m pc ls st0) := by
  obtain ⟨s1, s2, s3, s4, s5, s6, s7, s8, s9, s10, s11, s12, s13, s14, s15, s16⟩ := id hs
  obtain ⟨y1, y2, y3, y4, y5, y6, y7, y8⟩ := id hy
  intro T hT X
  obtain ⟨v, st₀, t, T', L1, h0, X', hL, e1, e2, ⟨⟨v', h', ad', hv, hq, hl1, hl2, had, hP, hD⟩, hz, hk⟩, st⟩ := hr T hT X
  have hv2 : v = v'.map (fun z => .int (Int32.ofInt z)) := by injection hv
  subst hv2
  rw [h0] at hz hk
  have hfr := a_free y2 y3 s12
  simp only [aKeep, Bool.and_eq_true] at ok
  have okk : ∀ k : Nat, (decide (k < h.1.length) || decide (h.1.length + mc ≤ k)) = true → ad' k = ad k := fun k hk2 => had k (by
    rw [hl1]
    simpa using hk2)
  have hS2 : va_S A s.heap T'.heap (locs ++ L1) := ⟨Nat.le_trans y3.1 (by rw [e1]; exact hz), fun q h1 h2 => by rw [e1, hk q (Nat.lt_of_lt_of_le h1 y3.1) (fun z => h2 (hfr q z))]; exact y3.2.1 q h1 h2, fun q hq => by
      rcases List.mem_append.mp hq with h | h
      · exact y3.2.2 q h
      · exact hfr _ (hL q h)⟩
  have hdy : aDy M E s T'.heap (locs ++ L1) (cells + mc) (slots + ms) A dC dI dA ad' ad0 ls n0 m0 L h' := by
    refine ⟨by rw [e1]; exact hP, hD.weaken (fun k q _ z => hfr q.1 z), hS2, by omega, by omega, y6.agree (fun i k hik => okk k (List.all_eq_true.mp ok.1 k (rfL_mem (List.mem_of_getElem? hik)))), ?_, fun k hk2 => ?_⟩
    · exact aRO_congr (had 1000 (Or.inr (by omega))) (had 1001 (Or.inr (by omega))) (had 1002 (Or.inr (by omega))) y7
    · rw [had k (by omega)]
      exact y8 k (by omega)
  have hst : (v'.map (fun z => Value.int (Int32.ofInt z))).toList ++ S.map (cv ad) = ((v'.toList.map Sum.inl ++ S : List AV)).map (cv ad') := by
    rw [List.map_append]
    congr 1
    · cases v' <;> rfl
    · refine List.map_congr_left (fun x hx => ?_)
      cases x with
      | inl z => rfl
      | inr k => simp only [cv]; rw [okk k (List.all_eq_true.mp ok.2 k (rfS_mem hx))]
  obtain ⟨t2, a1, b1⟩ := kk v' h' hq hl1 hl2 l p e R s m args below meth c T'.heap (locs ++ L1) (cells + mc) (slots + ms) A dC dI dA ad' ad0 ls n0 m0 QQ hs hf hdy T' rfl X'
  refine ⟨t2, st t2 ?_, b1⟩
  rw [← hst] at a1
  exact a1
def aPl (y : MethodName) (n : Nat) : Prop := y.cls ≠ "java/lang/invoke/MethodHandle" ∧ y.cls ≠ "java/lang/invoke/VarHandle" ∧ (parseMethodDescriptor y.desc).map (fun d => d.parameters.length) = some n
def aMw (M' : MI) (n : Nat) : Prop := Cond.initialized M'.1.cls ∈ GW ∧ Cond.code M'.1 M'.2.1 M'.2.2.1 M'.2.2.2 ∈ GW ∧ aPl M'.1 n
def aMV (own : String) (idx : Nat) (M' : MI) (ci n : Nat) : Prop := (Cond.methodLink own idx M'.1 ∈ GW ∨ ∃ host, Cond.methodLinkNest own idx M'.1 host ∈ NWL) ∧ Cond.instanceMethod M'.1 ∈ GW ∧ Cond.selects M'.1.cls M'.1 M'.1 ∈ GW ∧ aMw M' n ∧ ∃ (T : u_T) (N : Nat), vwCl[ci]? = some (M'.1.cls, T, N)
def aMS (own : String) (idx : Nat) (M' : MI) (n : Nat) : Prop := ((Cond.methodLink own idx M'.1 ∈ GW ∧ M'.1.cls = own) ∨ ∃ host, Cond.methodLinkNest own idx M'.1 host ∈ NWL) ∧ Cond.static M'.1 ∈ GW ∧ aMw M' n
def aMI (own : String) (idx : Nat) (M' : MI) (n : Nat) : Prop := (Cond.methodLink own idx M'.1 ∈ GW ∨ ∃ host, Cond.methodLinkNest own idx M'.1 host ∈ NWL) ∧ Cond.instanceMethod M'.1 ∈ GW ∧ M'.1.name = "<init>" ∧ M'.2.2.2 = none ∧ aMw M' n
theorem sum_cat (ad : Nat → Nat) (S : List AV) : ((S.map (cv ad)).map fun v => v.category).sum = S.length := by
  induction S with
  | nil => rfl
  | cons v S ih => simp only [List.map_cons, List.sum_cons, List.length_cons, cv_cat] at *; omega
theorem aw_invV {idx ci n q mc ms : Nat} {M' : MI} {av rest : List AV} {fs : List ShF} {Q' : Option Int → HP → Prop} (hd : decode M.2.1 pc = .ok (.invokevirtual idx, 3)) (hb : aMV M.1.cls idx M' ci n) (hc : h.1[q]? = some (.inl (ci, fs))) (hS : S = av.reverse ++ .inr q :: rest) (hn : av.length = n) (hrest : rest.length ≤ 8)
    (hM : AC E.1 M' (E.2.1 - 1) (E.2.2.1 - (19 + M'.2.2.1)) mc ms (.inr q :: av) h Q') (hd1 : 1 ≤ E.2.1) (hr1 : 19 + M'.2.2.1 ≤ E.2.2.1) (hsml : h.1.length + mc ≤ 1000) (ok : aKeep h.1.length (h.1.length + mc) L rest = true) (hc1 : h.1.length + mc ≤ E.2.2.2.1) (hc2 : slS h.1 + ms ≤ E.2.2.2.2)
    (kk : ∀ v h', Q' v h' → h'.1.length = h.1.length + mc → slS h'.1 = slS h.1 + ms → AW M E (pc + 3) L (v.toList.map .inl ++ rest) h' Q) : AW M E pc L S h Q := by
  intro l p e R s m args below meth c H locs cells slots A dC dI dA ad ad0 ls n0 m0 QQ hs hf hy
  obtain ⟨s1, s2, s3, s4, s5, s6, s7, s8, s9, s10, s11, s12, s13, s14, s15, s16⟩ := id hs
  obtain ⟨y1, y2, y3, y4, y5, y6, y7, y8⟩ := id hy
  obtain ⟨b1, b2, b3, ⟨b4, b5, b6⟩, T, N, b7⟩ := hb
  subst hS
  have he := con_get (dA := dA) (ad := ad) hc
  simp only [ce] at he
  have hpre : PreV s H M'.1.cls (ad q) (va_Pc (((.inr q :: av) : List AV).map (cv ad)) (aPre E.1 dC dI dA ad h H.size)) (av.map (cv ad)) := ⟨aPre_blind, va_recv s11 y1 b7 he, fun U hU hW => ⟨rfl, aPre_at hs hy hU hW⟩⟩
  have hroom : (E.2.1 - 1) + 1 ≤ R.frames ∧ 8 + (M'.2.2.1 + 11) + (E.2.2.1 - (19 + M'.2.2.1)) ≤ R.locals := ⟨by omega, by omega⟩
  have hW8 : ((rest.map (cv ad)).map fun v => v.category).sum ≤ 8 := by rw [sum_cat]; exact hrest
  have hst : (((av.reverse ++ .inr q :: rest) : List AV).map (cv ad)) = (av.map (cv ad)).reverse ++ .ref (ad q) :: rest.map (cv ad) := by simp [cv]
  refine aw_back hs hf hy (Q' := Q') (mc := mc) (ms := ms) (a := (Value.ref (ad q) :: av.map (cv ad)).toArray) (S := rest) hsml ?_ ok kk
  rcases b1 with b1 | ⟨host, b1⟩
  · exact va_runV (As := av.map (cv ad)) (rest := rest.map (cv ad)) ⟨s1, s2, s4, s5, s6⟩ (hM l dC dI dA ad H.size) (cwV n s6 (gw_wsV b1 b2 b3 b4 b5) rfl rfl rfl ⟨rfl, b6⟩ hroom) hpre rfl (by simpa using hn) y6.1 hst (lv_room hW8) hd ⟨by omega, by omega⟩
  · exact va_runVN (host := host) (As := av.map (cv ad)) (rest := rest.map (cv ad)) ⟨s1, s2, s4, s5, s6⟩ (hM l dC dI dA ad H.size) ⟨va_cnB n s6 (gw_ws b5) rfl rfl rfl (s9 _ b1) (s6 _ b4) b6 hroom, s6 _ b2, s6 _ b3⟩ hpre rfl (by simpa using hn) y6.1 hst (lv_room hW8) hd ⟨by omega, by omega⟩
theorem aw_invS {idx n mc ms : Nat} {M' : MI} {av rest : List AV} {Q' : Option Int → HP → Prop} (hd : decode M.2.1 pc = .ok (.invokestatic idx, 3)) (hb : aMS M.1.cls idx M' n) (hS : S = av.reverse ++ rest) (hn : av.length = n) (hrest : rest.length ≤ 8)
    (hM : AC E.1 M' (E.2.1 - 1) (E.2.2.1 - (19 + M'.2.2.1)) mc ms av h Q') (hd1 : 1 ≤ E.2.1) (hr1 : 19 + M'.2.2.1 ≤ E.2.2.1) (hsml : h.1.length + mc ≤ 1000) (ok : aKeep h.1.length (h.1.length + mc) L rest = true) (hc1 : h.1.length + mc ≤ E.2.2.2.1) (hc2 : slS h.1 + ms ≤ E.2.2.2.2)
    (kk : ∀ v h', Q' v h' → h'.1.length = h.1.length + mc → slS h'.1 = slS h.1 + ms → AW M E (pc + 3) L (v.toList.map .inl ++ rest) h' Q) : AW M E pc L S h Q := by
  intro l p e R s m args below meth c H locs cells slots A dC dI dA ad ad0 ls n0 m0 QQ hs hf hy
  obtain ⟨s1, s2, s3, s4, s5, s6, s7, s8, s9, s10, s11, s12, s13, s14, s15, s16⟩ := id hs
  obtain ⟨y1, y2, y3, y4, y5, y6, y7, y8⟩ := id hy
  obtain ⟨b1, b2, b4, b5, b6⟩ := hb
  subst hS
  have hpre : PreS s H (va_Pc (av.map (cv ad)) (aPre E.1 dC dI dA ad h H.size)) (av.map (cv ad)) := ⟨aPre_blind, fun U hU hW => ⟨rfl, aPre_at hs hy hU hW⟩⟩
  have hroom : (E.2.1 - 1) + 1 ≤ R.frames ∧ 8 + (M'.2.2.1 + 11) + (E.2.2.1 - (19 + M'.2.2.1)) ≤ R.locals := ⟨by omega, by omega⟩
  have hW8 : ((rest.map (cv ad)).map fun v => v.category).sum ≤ 8 := by rw [sum_cat]; exact hrest
  have hst : (((av.reverse ++ rest) : List AV).map (cv ad)) = (av.map (cv ad)).reverse ++ rest.map (cv ad) := by simp
  refine aw_back hs hf hy (Q' := Q') (mc := mc) (ms := ms) (a := (av.map (cv ad)).toArray) (S := rest) hsml ?_ ok kk
  rcases b1 with ⟨b1, b0⟩ | ⟨host, b1⟩
  · exact va_runS (As := av.map (cv ad)) (rest := rest.map (cv ad)) ⟨s1, s2, s4, s5, s6⟩ (hM l dC dI dA ad H.size) (cwS n s6 (gw_wsS b1 b2 (b0 ▸ b4) b5) rfl rfl rfl ⟨b0, b6⟩ hroom) hpre rfl (by simpa using hn) y6.1 hst (lv_room hW8) hd ⟨by omega, by omega⟩
  · exact va_runSN (host := host) (As := av.map (cv ad)) (rest := rest.map (cv ad)) ⟨s1, s2, s4, s5, s6⟩ (hM l dC dI dA ad H.size) ⟨va_cnB n s6 (gw_ws b5) rfl rfl rfl (s9 _ b1) (s6 _ b4) b6 hroom, s6 _ b2, trivial⟩ hpre rfl (by simpa using hn) y6.1 hst (lv_room hW8) hd ⟨by omega, by omega⟩
theorem aw_invI {idx n q mc ms : Nat} {M' : MI} {av rest : List AV} {Q' : Option Int → HP → Prop} (hd : decode M.2.1 pc = .ok (.invokespecial idx, 3)) (hb : aMI M.1.cls idx M' n) (hS : S = av.reverse ++ .inr q :: rest) (hn : av.length = n) (hrest : rest.length ≤ 8)
    (hM : AC E.1 M' (E.2.1 - 1) (E.2.2.1 - (19 + M'.2.2.1)) mc ms (.inr q :: av) h Q') (hd1 : 1 ≤ E.2.1) (hr1 : 19 + M'.2.2.1 ≤ E.2.2.1) (hsml : h.1.length + mc ≤ 1000) (ok : aKeep h.1.length (h.1.length + mc) L rest = true) (hc1 : h.1.length + mc ≤ E.2.2.2.1) (hc2 : slS h.1 + ms ≤ E.2.2.2.2)
    (kk : ∀ v h', Q' v h' → h'.1.length = h.1.length + mc → slS h'.1 = slS h.1 + ms → AW M E (pc + 3) L (v.toList.map .inl ++ rest) h' Q) : AW M E pc L S h Q := by
  intro l p e R s m args below meth c H locs cells slots A dC dI dA ad ad0 ls n0 m0 QQ hs hf hy
  obtain ⟨s1, s2, s3, s4, s5, s6, s7, s8, s9, s10, s11, s12, s13, s14, s15, s16⟩ := id hs
  obtain ⟨y1, y2, y3, y4, y5, y6, y7, y8⟩ := id hy
  obtain ⟨b1, b2, b3, b0, b4, b5, b6⟩ := hb
  subst hS
  have hpre : PreS s H (va_Pc (((.inr q :: av) : List AV).map (cv ad)) (aPre E.1 dC dI dA ad h H.size)) (.ref (ad q) :: av.map (cv ad)) := ⟨aPre_blind, fun U hU hW => ⟨rfl, aPre_at hs hy hU hW⟩⟩
  have hroom : (E.2.1 - 1) + 1 ≤ R.frames ∧ 8 + (M'.2.2.1 + 11) + (E.2.2.1 - (19 + M'.2.2.1)) ≤ R.locals := ⟨by omega, by omega⟩
  have hW8 : ((rest.map (cv ad)).map fun v => v.category).sum ≤ 8 := by rw [sum_cat]; exact hrest
  have hst : (((av.reverse ++ .inr q :: rest) : List AV).map (cv ad)) = (av.map (cv ad)).reverse ++ .ref (ad q) :: rest.map (cv ad) := by simp [cv]
  have hwM : wsM M' = Cond.code M'.1 M'.2.1 M'.2.2.1 none :: GW := by unfold wsM; rw [b0]
  refine aw_back hs hf hy (Q' := Q') (mc := mc) (ms := ms) (a := (Value.ref (ad q) :: av.map (cv ad)).toArray) (S := rest) hsml ?_ ok kk
  rcases b1 with b1 | ⟨host, b1⟩
  · exact va_runI (As := av.map (cv ad)) (rest := rest.map (cv ad)) ⟨s1, s2, s4, s5, s6⟩ (hM l dC dI dA ad H.size) (cwI n s6 (gw_ws b5) hwM rfl rfl (s6 _ b4) (s6 _ b1) (s6 _ b2) b3 b6 hroom) hpre rfl (by simpa using hn) y6.1 hst (lv_room hW8) hd ⟨by omega, by omega⟩
  · exact va_runIN (host := host) (As := av.map (cv ad)) (rest := rest.map (cv ad)) ⟨s1, s2, s4, s5, s6⟩ (hM l dC dI dA ad H.size) ⟨va_cnB n s6 (gw_ws b5) hwM rfl rfl (s9 _ b1) (s6 _ b4) b6 hroom, b3, s6 _ b2⟩ hpre rfl (by simpa using hn) y6.1 hst (lv_room hW8) hd ⟨by omega, by omega⟩
theorem aw_ireturn {x : Int} (hd : decode M.2.1 pc = .ok (.ireturn, 1)) (ht : M.2.2.2 = some .int ∨ (M.2.2.2 = some .boolean ∧ (x = 0 ∨ x = 1))) (h1 : h.1.length = E.2.2.2.1) (h2 : slS h.1 = E.2.2.2.2) (hq : Q (some x) h) : AW M E pc L [.inl x] h Q := by
  intro l p e R s m args below meth c H locs cells slots A dC dI dA ad ad0 ls n0 m0 QQ hs hf hy
  exact hf (some x) h H locs cells slots ad ls pc L hq hy h1 h2 ⟨hd, ht⟩
theorem aw_return (hd : decode M.2.1 pc = .ok (.return_, 1)) (ht : M.2.2.2 = none) (h1 : h.1.length = E.2.2.2.1) (h2 : slS h.1 = E.2.2.2.2) (hq : Q none h) : AW M E pc L [] h Q := by
  intro l p e R s m args below meth c H locs cells slots A dC dI dA ad ad0 ls n0 m0 QQ hs hf hy
  exact hf none h H locs cells slots ad ls pc L hq hy h1 h2 ⟨hd, ht⟩
theorem aw_objInit {idx q : Nat} (hd : decode M.2.1 pc = .ok (.invokespecial idx, 3)) (hl : Cond.methodLink M.1.cls idx objectInit ∈ GW) (hi : Cond.instanceMethod objectInit ∈ GW) (hco : Cond.code objectInit ⟨#[0xb1]⟩ 1 none ∈ GW) (hd1 : 1 ≤ E.2.1) (hr1 : S.length + 12 ≤ E.2.2.1)
    (k : AW M E (pc + 3) L S h Q) : AW M E pc L (.inr q :: S) h Q := by
  intro l p e R s m args below meth c H locs cells slots A dC dI dA ad ad0 ls n0 m0 QQ hs hf hy
  obtain ⟨s1, s2, s3, s4, s5, s6, s7, s8, s9, s10, s11, s12, s13, s14, s15, s16⟩ := id hs
  obtain ⟨y1, y2, y3, y4, y5, y6, y7, y8⟩ := id hy
  exact W.objInit s1 s2 s5 (s6 _ hl) (s6 _ hi) (s6 _ hco) rfl (by rw [s4]; exact y6.1) rfl hd (by omega) (by show 2 * 0 + _ + 12 ≤ _; rw [sum_cat]; omega) (k l p e R s m args below meth c H locs cells slots A dC dI dA ad ad0 ls n0 m0 QQ hs hf hy)
theorem aw_mmax {idx : Nat} {x y : Int} (hd : decode M.2.1 pc = .ok (.invokestatic idx, 3)) (hl : Cond.methodLink M.1.cls idx Lib.Math.max.name ∈ GW) (hw : Cond.static Lib.Math.max.name ∈ GW ∧ Cond.initialized "java/lang/Math" ∈ GW ∧ Cond.code Lib.Math.max.name Lib.Math.max.code 2 (some .int) ∈ GW) (hd1 : 1 ≤ E.2.1) (hr1 : S.length + 13 ≤ E.2.2.1) (hx : rng x) (hy0 : rng y) (hc1 : h.1.length ≤ E.2.2.2.1) (hc2 : slS h.1 ≤ E.2.2.2.2)
    (k : AW M E (pc + 3) L (.inl (max x y) :: S) h Q) : AW M E pc L (.inl y :: .inl x :: S) h Q := by
  intro l p e R s m args below meth c H locs cells slots A dC dI dA ad ad0 ls n0 m0 QQ hs hf hy
  obtain ⟨s1, s2, s3, s4, s5, s6, s7, s8, s9, s10, s11, s12, s13, s14, s15, s16⟩ := id hs
  obtain ⟨y1, y2, y3, y4, y5, y6, y7, y8⟩ := id hy
  refine va_mmax s1 s2 (by rw [s4]; exact y6.1.symm) s5 (s6 _ hl) (s6 _ hw.1) (s6 _ hw.2.1) (s6 _ hw.2.2) (by omega) (by rw [sum_cat]; omega) (by omega) (by omega) hd ?_
  have e0 : (if Int32.ofInt x < Int32.ofInt y then Int32.ofInt y else Int32.ofInt x) = Int32.ofInt (max x y) := by
    by_cases q : x < y
    · rw [if_pos ((ofI_lt hx hy0).mpr q), Int.max_eq_right (by omega)]
    · rw [if_neg (fun z => q ((ofI_lt hx hy0).mp z)), Int.max_eq_left (by omega)]
  rw [e0]
  exact k l p e R s m args below meth c H locs cells slots A dC dI dA ad ad0 ls n0 m0 QQ hs hf hy
theorem aw_mmin {idx : Nat} {x y : Int} (hd : decode M.2.1 pc = .ok (.invokestatic idx, 3)) (hl : Cond.methodLink M.1.cls idx Lib.Math.min.name ∈ GW) (hw : Cond.static Lib.Math.min.name ∈ GW ∧ Cond.initialized "java/lang/Math" ∈ GW ∧ Cond.code Lib.Math.min.name Lib.Math.min.code 2 (some .int) ∈ GW) (hd1 : 1 ≤ E.2.1) (hr1 : S.length + 13 ≤ E.2.2.1) (hx : rng x) (hy0 : rng y) (hc1 : h.1.length ≤ E.2.2.2.1) (hc2 : slS h.1 ≤ E.2.2.2.2)
    (k : AW M E (pc + 3) L (.inl (min x y) :: S) h Q) : AW M E pc L (.inl y :: .inl x :: S) h Q := by
  intro l p e R s m args below meth c H locs cells slots A dC dI dA ad ad0 ls n0 m0 QQ hs hf hy
  obtain ⟨s1, s2, s3, s4, s5, s6, s7, s8, s9, s10, s11, s12, s13, s14, s15, s16⟩ := id hs
  obtain ⟨y1, y2, y3, y4, y5, y6, y7, y8⟩ := id hy
  refine va_mmin s1 s2 (by rw [s4]; exact y6.1.symm) s5 (s6 _ hl) (s6 _ hw.1) (s6 _ hw.2.1) (s6 _ hw.2.2) (by omega) (by rw [sum_cat]; omega) (by omega) (by omega) hd ?_
  have e0 : (if Int32.ofInt y < Int32.ofInt x then Int32.ofInt y else Int32.ofInt x) = Int32.ofInt (min x y) := by
    by_cases q : y < x
    · rw [if_pos ((ofI_lt hy0 hx).mpr q), Int.min_eq_right (by omega)]
    · rw [if_neg (fun z => q ((ofI_lt hy0 hx).mp z)), Int.min_eq_left (by omega)]
  rw [e0]
  exact k l p e R s m args below meth c H locs cells slots A dC dI dA ad ad0 ls n0 m0 QQ hs hf hy
theorem aw_mabs {idx : Nat} {x : Int} (hd : decode M.2.1 pc = .ok (.invokestatic idx, 3)) (hl : Cond.methodLink M.1.cls idx Lib.Math.abs.name ∈ GW) (hw : Cond.static Lib.Math.abs.name ∈ GW ∧ Cond.initialized "java/lang/Math" ∈ GW ∧ Cond.code Lib.Math.abs.name Lib.Math.abs.code 1 (some .int) ∈ GW) (hd1 : 1 ≤ E.2.1) (hr1 : S.length + 13 ≤ E.2.2.1) (hx : rng x) (hc1 : h.1.length ≤ E.2.2.2.1) (hc2 : slS h.1 ≤ E.2.2.2.2)
    (k : AW M E (pc + 3) L (.inl (if 0 ≤ x then x else -x) :: S) h Q) : AW M E pc L (.inl x :: S) h Q := by
  intro l p e R s m args below meth c H locs cells slots A dC dI dA ad ad0 ls n0 m0 QQ hs hf hy
  obtain ⟨s1, s2, s3, s4, s5, s6, s7, s8, s9, s10, s11, s12, s13, s14, s15, s16⟩ := id hs
  obtain ⟨y1, y2, y3, y4, y5, y6, y7, y8⟩ := id hy
  refine va_mabs s1 s2 (by rw [s4]; exact y6.1.symm) s5 (s6 _ hl) (s6 _ hw.1) (s6 _ hw.2.1) (s6 _ hw.2.2) (by omega) (by rw [sum_cat]; omega) (by omega) (by omega) hd ?_
  have h0 : rng 0 := ⟨by omega, by omega⟩
  have le0 : (0 : Int32) ≤ Int32.ofInt x ↔ 0 ≤ x := ofI_le h0 hx
  have e0 : (if 0 ≤ Int32.ofInt x then Int32.ofInt x else 0 - Int32.ofInt x) = Int32.ofInt (if 0 ≤ x then x else -x) := by
    by_cases q : 0 ≤ x
    · rw [if_pos (le0.mpr q), if_pos q]
    · rw [if_neg (fun z => q (le0.mp z)), if_neg q, ofI_neg, Int32.zero_sub]
  rw [e0]
  exact k l p e R s m args below meth c H locs cells slots A dC dI dA ad ad0 ls n0 m0 QQ hs hf hy
def am_cpy (m : AM) (q0 q1 : Nat) (sp dp n : Int) : AM := fun k j => if k = q1 ∧ dp ≤ j ∧ j < dp + n then m q0 (sp + (j - dp)) else m k j
theorem aw_copy {idx q0 q1 n0' n1' : Nat} {sp dp n : Int} (hd : decode M.2.1 pc = .ok (.invokestatic idx, 3)) (hl : Cond.methodLink M.1.cls idx arraycopyName ∈ GW) (hw : Cond.native arraycopyName ∈ GW ∧ Cond.static arraycopyName ∈ GW ∧ Cond.initialized "java/lang/System" ∈ GW) (hd1 : 1 ≤ E.2.1) (hr1 : S.length + (nativeFrameWords "java/lang/System" "arraycopy" 5 + 11) ≤ E.2.2.1)
    (hc0 : h.1[q0]? = some (.inr (.inl (0, n0')))) (hc1 : h.1[q1]? = some (.inr (.inl (0, n1')))) (h1 : 0 ≤ sp) (h2 : 0 ≤ dp) (h3 : 0 ≤ n) (h4 : sp + n ≤ n0') (h5 : dp + n ≤ n1') (hs0 : n0' < 2147483648) (hs1 : n1' < 2147483648)
    (k : AW M E (pc + 3) L S (h.1, am_cpy h.2 q0 q1 sp dp n) Q) : AW M E pc L (.inl n :: .inl dp :: .inr q1 :: .inl sp :: .inr q0 :: S) h Q := by
  intro l p e R s m args below meth c H locs cells slots A dC dI dA ad ad0 ls n0 m0 QQ hs hf hy
  obtain ⟨s1, s2, s3, s4, s5, s6, s7, s8, s9, s10, s11, s12, s13, s14, s15, s16⟩ := id hs
  obtain ⟨y1, y2, y3, y4, y5, y6, y7, y8⟩ := id hy
  have he0 := con_get (dA := dA) (ad := ad) hc0
  simp only [ce] at he0
  have he1 := con_get (dA := dA) (ad := ad) hc1
  simp only [ce] at he1
  have r1 : rng sp := ⟨by omega, by omega⟩
  have r2 : rng dp := ⟨by omega, by omega⟩
  have r3 : rng n := ⟨by omega, by omega⟩
  have z0 : rng 0 := ⟨by omega, by omega⟩
  have hq1 : q1 < h.1.length := (List.getElem?_eq_some_iff.mp hc1).1
  have ecn : con dA ad (h.1, am_cpy h.2 q0 q1 sp dp n) = (con dA ad h).set q1 (ad q1, .inl (dA 0, n1', .inl (va_cpy (fun j => Int32.ofInt (h.2 q0 (j : Int))) (fun j => Int32.ofInt (h.2 q1 (j : Int))) sp.toNat dp.toNat n.toNat))) := by
    have hset : h.1 = h.1.set q1 (.inr (.inl (0, n1'))) := by
      obtain ⟨a, b⟩ := List.getElem?_eq_some_iff.mp hc1
      rw [← b]
      exact (List.set_getElem_self a).symm
    rw [con_set (sh := h.1) (sh' := h.1) (m := h.2) (m' := am_cpy h.2 q0 q1 sp dp n) hq1 hset (fun i c hi => ce_ad (fun _ _ => rfl) (fun j => if_neg (fun z => hi z.1)))]
    simp only [ce]
    congr 4
    congr 2
    funext j
    by_cases hj : dp.toNat ≤ j ∧ j < dp.toNat + n.toNat
    · have c1 : dp ≤ (j : Int) ∧ (j : Int) < dp + n := by omega
      have c2 : am_cpy h.2 q0 q1 sp dp n q1 (j : Int) = h.2 q0 (sp + ((j : Int) - dp)) := if_pos ⟨rfl, c1⟩
      have c3 : va_cpy (fun j => Int32.ofInt (h.2 q0 (j : Int))) (fun j => Int32.ofInt (h.2 q1 (j : Int))) sp.toNat dp.toNat n.toNat j = Int32.ofInt (h.2 q0 ((sp.toNat + (j - dp.toNat) : Nat) : Int)) := if_pos hj
      rw [c2, c3, show ((sp.toNat + (j - dp.toNat) : Nat) : Int) = sp + ((j : Int) - dp) by omega]
    · have c1 : ¬ (dp ≤ (j : Int) ∧ (j : Int) < dp + n) := by omega
      have c2 : am_cpy h.2 q0 q1 sp dp n q1 (j : Int) = h.2 q1 (j : Int) := if_neg (fun z => c1 z.2)
      have c3 : va_cpy (fun j => Int32.ofInt (h.2 q0 (j : Int))) (fun j => Int32.ofInt (h.2 q1 (j : Int))) sp.toNat dp.toNat n.toNat j = Int32.ofInt (h.2 q1 (j : Int)) := if_neg hj
      rw [c2, c3]
  have ng : ∀ {x : Int}, rng x → 0 ≤ x → ¬ Int32.ofInt x < 0 := fun hx h0 z => by
    have := (ofI_lt hx z0).mp z
    omega
  refine va_copyi s1 s2 (by rw [s4]; exact y6.1.symm) s5 (s6 _ hl) (s6 _ hw.1) (s6 _ hw.2.1) (s6 _ hw.2.2) s11 y1 y2 y3 q0 q1 0 0 he0 he1 rfl rfl rfl (ng r1 h1) (ng r2 h2) (ng r3 h3) (by rw [ofI_cl r1, ofI_cl r3]; omega) (by rw [ofI_cl r2, ofI_cl r3]; omega) (fun i hi => rfl) (by omega) (by rw [sum_cat]; omega) hd (fun H1 locs1 g1 g2 g3 => ?_)
  rw [ofI_cl r1, ofI_cl r2, ofI_cl r3] at g1 g2
  rw [← ecn] at g1 g2
  exact k l p e R s m args below meth c H1 locs1 cells slots A dC dI dA ad ad0 ls n0 m0 QQ hs hf ⟨g1, g2, g3, y4, y5, y6, y7, y8⟩
end CALL
end
section
def SH : List ShC := [
  .inl (8, [some (some 1), some (some 17), some (some 83), some (some 85), some (some 91), some (some 98), none]),
  .inl (0, [some (some 2), some (some 6), some (some 12), some (some 15), some (some 16)]),
  .inl (3, [some (some 3), some (some 4), some (some 5), none]),
  .inr (.inl (0, 12)),
  .inr (.inl (0, 12)),
  .inr (.inl (0, 12)),
  .inl (5, [some (some 7), some (some 8), some (some 9), some (some 10), some (some 11)]),
  .inr (.inl (0, 7)),
  .inr (.inl (0, 21)),
  .inr (.inl (0, 21)),
  .inr (.inl (0, 21)),
  .inr (.inl (0, 6)),
  .inl (7, [some (some 13), some (some 14)]),
  .inr (.inl (0, 6)),
  .inr (.inl (0, 18)),
  .inr (.inl (0, 3)),
  .inr (.inl (0, 9)),
  .inl (2, [some (some 18), none, none]),
  .inr (.inr [some 19, some 35, some 51, some 67]),
  .inl (0, [some (some 20), some (some 24), some (some 30), some (some 33), some (some 34)]),
  .inl (3, [some (some 21), some (some 22), some (some 23), none]),
  .inr (.inl (0, 12)),
  .inr (.inl (0, 12)),
  .inr (.inl (0, 12)),
  .inl (5, [some (some 25), some (some 26), some (some 27), some (some 28), some (some 29)]),
  .inr (.inl (0, 7)),
  .inr (.inl (0, 21)),
  .inr (.inl (0, 21)),
  .inr (.inl (0, 21)),
  .inr (.inl (0, 6)),
  .inl (7, [some (some 31), some (some 32)]),
  .inr (.inl (0, 6)),
  .inr (.inl (0, 18)),
  .inr (.inl (0, 3)),
  .inr (.inl (0, 9)),
  .inl (0, [some (some 36), some (some 40), some (some 46), some (some 49), some (some 50)]),
  .inl (3, [some (some 37), some (some 38), some (some 39), none]),
  .inr (.inl (0, 12)),
  .inr (.inl (0, 12)),
  .inr (.inl (0, 12)),
  .inl (5, [some (some 41), some (some 42), some (some 43), some (some 44), some (some 45)]),
  .inr (.inl (0, 7)),
  .inr (.inl (0, 21)),
  .inr (.inl (0, 21)),
  .inr (.inl (0, 21)),
  .inr (.inl (0, 6)),
  .inl (7, [some (some 47), some (some 48)]),
  .inr (.inl (0, 6)),
  .inr (.inl (0, 18)),
  .inr (.inl (0, 3)),
  .inr (.inl (0, 9)),
  .inl (0, [some (some 52), some (some 56), some (some 62), some (some 65), some (some 66)]),
  .inl (3, [some (some 53), some (some 54), some (some 55), none]),
  .inr (.inl (0, 12)),
  .inr (.inl (0, 12)),
  .inr (.inl (0, 12)),
  .inl (5, [some (some 57), some (some 58), some (some 59), some (some 60), some (some 61)]),
  .inr (.inl (0, 7)),
  .inr (.inl (0, 21)),
  .inr (.inl (0, 21)),
  .inr (.inl (0, 21)),
  .inr (.inl (0, 6)),
  .inl (7, [some (some 63), some (some 64)]),
  .inr (.inl (0, 6)),
  .inr (.inl (0, 18)),
  .inr (.inl (0, 3)),
  .inr (.inl (0, 9)),
  .inl (0, [some (some 68), some (some 72), some (some 78), some (some 81), some (some 82)]),
  .inl (3, [some (some 69), some (some 70), some (some 71), none]),
  .inr (.inl (0, 12)),
  .inr (.inl (0, 12)),
  .inr (.inl (0, 12)),
  .inl (5, [some (some 73), some (some 74), some (some 75), some (some 76), some (some 77)]),
  .inr (.inl (0, 7)),
  .inr (.inl (0, 21)),
  .inr (.inl (0, 21)),
  .inr (.inl (0, 21)),
  .inr (.inl (0, 6)),
  .inl (7, [some (some 79), some (some 80)]),
  .inr (.inl (0, 6)),
  .inr (.inl (0, 18)),
  .inr (.inl (0, 3)),
  .inr (.inl (0, 9)),
  .inl (1, [some (some 84), none, none, none, none, none]),
  .inr (.inl (1, 21)),
  .inl (5, [some (some 86), some (some 87), some (some 88), some (some 89), some (some 90)]),
  .inr (.inl (0, 7)),
  .inr (.inl (0, 21)),
  .inr (.inl (0, 21)),
  .inr (.inl (0, 21)),
  .inr (.inl (0, 6)),
  .inl (4, [some (some 92), some (some 93), some (some 94), some (some 95), some (some 96), some (some 97), none, none]),
  .inr (.inl (0, 4096)),
  .inr (.inl (0, 64)),
  .inr (.inl (0, 64)),
  .inr (.inl (0, 64)),
  .inr (.inl (0, 18)),
  .inr (.inl (0, 18)),
  .inl (6, [some (some 99), none, none, none]),
  .inr (.inl (2, 80)),
  .inl (9, [some (some 101), some (some 102), some (some 103), none, some (some 104), none, some (some 105), some (some 106), none, none, none, none]),
  .inr (.inl (0, 150)),
  .inr (.inl (0, 600)),
  .inr (.inl (0, 150)),
  .inr (.inl (0, 80)),
  .inr (.inl (0, 5)),
  .inr (.inl (0, 4096))]
theorem sh_0 : SH[0]? = some (.inl (8, [some (some 1), some (some 17), some (some 83), some (some 85), some (some 91), some (some 98), none])) := rfl
theorem sh_1 : SH[1]? = some (.inl (0, [some (some 2), some (some 6), some (some 12), some (some 15), some (some 16)])) := rfl
theorem sh_2 : SH[2]? = some (.inl (3, [some (some 3), some (some 4), some (some 5), none])) := rfl
theorem sh_3 : SH[3]? = some (.inr (.inl (0, 12))) := rfl
theorem sh_4 : SH[4]? = some (.inr (.inl (0, 12))) := rfl
theorem sh_5 : SH[5]? = some (.inr (.inl (0, 12))) := rfl
theorem sh_6 : SH[6]? = some (.inl (5, [some (some 7), some (some 8), some (some 9), some (some 10), some (some 11)])) := rfl
theorem sh_7 : SH[7]? = some (.inr (.inl (0, 7))) := rfl
theorem sh_8 : SH[8]? = some (.inr (.inl (0, 21))) := rfl
theorem sh_9 : SH[9]? = some (.inr (.inl (0, 21))) := rfl
theorem sh_10 : SH[10]? = some (.inr (.inl (0, 21))) := rfl
theorem sh_11 : SH[11]? = some (.inr (.inl (0, 6))) := rfl
theorem sh_12 : SH[12]? = some (.inl (7, [some (some 13), some (some 14)])) := rfl
theorem sh_13 : SH[13]? = some (.inr (.inl (0, 6))) := rfl
theorem sh_14 : SH[14]? = some (.inr (.inl (0, 18))) := rfl
theorem sh_15 : SH[15]? = some (.inr (.inl (0, 3))) := rfl
theorem sh_16 : SH[16]? = some (.inr (.inl (0, 9))) := rfl
theorem sh_17 : SH[17]? = some (.inl (2, [some (some 18), none, none])) := rfl
theorem sh_18 : SH[18]? = some (.inr (.inr [some 19, some 35, some 51, some 67])) := rfl
theorem sh_19 : SH[19]? = some (.inl (0, [some (some 20), some (some 24), some (some 30), some (some 33), some (some 34)])) := rfl
theorem sh_20 : SH[20]? = some (.inl (3, [some (some 21), some (some 22), some (some 23), none])) := rfl
theorem sh_21 : SH[21]? = some (.inr (.inl (0, 12))) := rfl
theorem sh_22 : SH[22]? = some (.inr (.inl (0, 12))) := rfl
theorem sh_23 : SH[23]? = some (.inr (.inl (0, 12))) := rfl
theorem sh_24 : SH[24]? = some (.inl (5, [some (some 25), some (some 26), some (some 27), some (some 28), some (some 29)])) := rfl
theorem sh_25 : SH[25]? = some (.inr (.inl (0, 7))) := rfl
theorem sh_26 : SH[26]? = some (.inr (.inl (0, 21))) := rfl
theorem sh_27 : SH[27]? = some (.inr (.inl (0, 21))) := rfl
theorem sh_28 : SH[28]? = some (.inr (.inl (0, 21))) := rfl
theorem sh_29 : SH[29]? = some (.inr (.inl (0, 6))) := rfl
theorem sh_30 : SH[30]? = some (.inl (7, [some (some 31), some (some 32)])) := rfl
theorem sh_31 : SH[31]? = some (.inr (.inl (0, 6))) := rfl
theorem sh_32 : SH[32]? = some (.inr (.inl (0, 18))) := rfl
theorem sh_33 : SH[33]? = some (.inr (.inl (0, 3))) := rfl
theorem sh_34 : SH[34]? = some (.inr (.inl (0, 9))) := rfl
theorem sh_35 : SH[35]? = some (.inl (0, [some (some 36), some (some 40), some (some 46), some (some 49), some (some 50)])) := rfl
theorem sh_36 : SH[36]? = some (.inl (3, [some (some 37), some (some 38), some (some 39), none])) := rfl
theorem sh_37 : SH[37]? = some (.inr (.inl (0, 12))) := rfl
theorem sh_38 : SH[38]? = some (.inr (.inl (0, 12))) := rfl
theorem sh_39 : SH[39]? = some (.inr (.inl (0, 12))) := rfl
theorem sh_40 : SH[40]? = some (.inl (5, [some (some 41), some (some 42), some (some 43), some (some 44), some (some 45)])) := rfl
theorem sh_41 : SH[41]? = some (.inr (.inl (0, 7))) := rfl
theorem sh_42 : SH[42]? = some (.inr (.inl (0, 21))) := rfl
theorem sh_43 : SH[43]? = some (.inr (.inl (0, 21))) := rfl
theorem sh_44 : SH[44]? = some (.inr (.inl (0, 21))) := rfl
theorem sh_45 : SH[45]? = some (.inr (.inl (0, 6))) := rfl
theorem sh_46 : SH[46]? = some (.inl (7, [some (some 47), some (some 48)])) := rfl
theorem sh_47 : SH[47]? = some (.inr (.inl (0, 6))) := rfl
theorem sh_48 : SH[48]? = some (.inr (.inl (0, 18))) := rfl
theorem sh_49 : SH[49]? = some (.inr (.inl (0, 3))) := rfl
theorem sh_50 : SH[50]? = some (.inr (.inl (0, 9))) := rfl
theorem sh_51 : SH[51]? = some (.inl (0, [some (some 52), some (some 56), some (some 62), some (some 65), some (some 66)])) := rfl
theorem sh_52 : SH[52]? = some (.inl (3, [some (some 53), some (some 54), some (some 55), none])) := rfl
theorem sh_53 : SH[53]? = some (.inr (.inl (0, 12))) := rfl
theorem sh_54 : SH[54]? = some (.inr (.inl (0, 12))) := rfl
theorem sh_55 : SH[55]? = some (.inr (.inl (0, 12))) := rfl
theorem sh_56 : SH[56]? = some (.inl (5, [some (some 57), some (some 58), some (some 59), some (some 60), some (some 61)])) := rfl
theorem sh_57 : SH[57]? = some (.inr (.inl (0, 7))) := rfl
theorem sh_58 : SH[58]? = some (.inr (.inl (0, 21))) := rfl
theorem sh_59 : SH[59]? = some (.inr (.inl (0, 21))) := rfl
theorem sh_60 : SH[60]? = some (.inr (.inl (0, 21))) := rfl
theorem sh_61 : SH[61]? = some (.inr (.inl (0, 6))) := rfl
theorem sh_62 : SH[62]? = some (.inl (7, [some (some 63), some (some 64)])) := rfl
theorem sh_63 : SH[63]? = some (.inr (.inl (0, 6))) := rfl
theorem sh_64 : SH[64]? = some (.inr (.inl (0, 18))) := rfl
theorem sh_65 : SH[65]? = some (.inr (.inl (0, 3))) := rfl
theorem sh_66 : SH[66]? = some (.inr (.inl (0, 9))) := rfl
theorem sh_67 : SH[67]? = some (.inl (0, [some (some 68), some (some 72), some (some 78), some (some 81), some (some 82)])) := rfl
theorem sh_68 : SH[68]? = some (.inl (3, [some (some 69), some (some 70), some (some 71), none])) := rfl
theorem sh_69 : SH[69]? = some (.inr (.inl (0, 12))) := rfl
theorem sh_70 : SH[70]? = some (.inr (.inl (0, 12))) := rfl
theorem sh_71 : SH[71]? = some (.inr (.inl (0, 12))) := rfl
theorem sh_72 : SH[72]? = some (.inl (5, [some (some 73), some (some 74), some (some 75), some (some 76), some (some 77)])) := rfl
theorem sh_73 : SH[73]? = some (.inr (.inl (0, 7))) := rfl
theorem sh_74 : SH[74]? = some (.inr (.inl (0, 21))) := rfl
theorem sh_75 : SH[75]? = some (.inr (.inl (0, 21))) := rfl
theorem sh_76 : SH[76]? = some (.inr (.inl (0, 21))) := rfl
theorem sh_77 : SH[77]? = some (.inr (.inl (0, 6))) := rfl
theorem sh_78 : SH[78]? = some (.inl (7, [some (some 79), some (some 80)])) := rfl
theorem sh_79 : SH[79]? = some (.inr (.inl (0, 6))) := rfl
theorem sh_80 : SH[80]? = some (.inr (.inl (0, 18))) := rfl
theorem sh_81 : SH[81]? = some (.inr (.inl (0, 3))) := rfl
theorem sh_82 : SH[82]? = some (.inr (.inl (0, 9))) := rfl
theorem sh_83 : SH[83]? = some (.inl (1, [some (some 84), none, none, none, none, none])) := rfl
theorem sh_84 : SH[84]? = some (.inr (.inl (1, 21))) := rfl
theorem sh_85 : SH[85]? = some (.inl (5, [some (some 86), some (some 87), some (some 88), some (some 89), some (some 90)])) := rfl
theorem sh_86 : SH[86]? = some (.inr (.inl (0, 7))) := rfl
theorem sh_87 : SH[87]? = some (.inr (.inl (0, 21))) := rfl
theorem sh_88 : SH[88]? = some (.inr (.inl (0, 21))) := rfl
theorem sh_89 : SH[89]? = some (.inr (.inl (0, 21))) := rfl
theorem sh_90 : SH[90]? = some (.inr (.inl (0, 6))) := rfl
theorem sh_91 : SH[91]? = some (.inl (4, [some (some 92), some (some 93), some (some 94), some (some 95), some (some 96), some (some 97), none, none])) := rfl
theorem sh_92 : SH[92]? = some (.inr (.inl (0, 4096))) := rfl
theorem sh_93 : SH[93]? = some (.inr (.inl (0, 64))) := rfl
theorem sh_94 : SH[94]? = some (.inr (.inl (0, 64))) := rfl
theorem sh_95 : SH[95]? = some (.inr (.inl (0, 64))) := rfl
theorem sh_96 : SH[96]? = some (.inr (.inl (0, 18))) := rfl
theorem sh_97 : SH[97]? = some (.inr (.inl (0, 18))) := rfl
theorem sh_98 : SH[98]? = some (.inl (6, [some (some 99), none, none, none])) := rfl
theorem sh_99 : SH[99]? = some (.inr (.inl (2, 80))) := rfl
theorem sh_100 : SH[100]? = some (.inl (9, [some (some 101), some (some 102), some (some 103), none, some (some 104), none, some (some 105), some (some 106), none, none, none, none])) := rfl
theorem sh_101 : SH[101]? = some (.inr (.inl (0, 150))) := rfl
theorem sh_102 : SH[102]? = some (.inr (.inl (0, 600))) := rfl
theorem sh_103 : SH[103]? = some (.inr (.inl (0, 150))) := rfl
theorem sh_104 : SH[104]? = some (.inr (.inl (0, 80))) := rfl
theorem sh_105 : SH[105]? = some (.inr (.inl (0, 5))) := rfl
theorem sh_106 : SH[106]? = some (.inr (.inl (0, 4096))) := rfl
theorem SH_len : SH.length = 107 := rfl
theorem SH_sl : slS SH = 10451 := rfl
def rk (K d r : Nat) : Prop := K ≤ d ∧ 36 * K ≤ r
def AP (K : Nat) (M : MI) (pc : Nat) (L : List (Option AV)) (S : List AV) (m : AM) (Q : Option Int → AM → Prop) : Prop := ∀ (X : AX) (d r : Nat), rk K d r → AW M (X, d, r, 107, 10451) pc L S (SH, m) (fun v h => h.1 = SH ∧ Q v h.2)
def CS (K : Nat) (M : MI) (av : List AV) (m : AM) (Q : Option Int → AM → Prop) : Prop := ∀ (X : AX) (d r : Nat), rk K d r → AC X M d r 0 0 av (SH, m) (fun v h => h.1 = SH ∧ Q v h.2)
theorem cs_of {K : Nat} {M : MI} {av : List AV} {m : AM} {Q : Option Int → AM → Prop} {L0 : List (Option AV)} (hp : plainName M.1.cls = true) (hlen : av.length ≤ M.2.2.1) (hL : av.map some ++ List.replicate (M.2.2.1 - av.length) none = L0) (k : AP K M 0 L0 [] m Q) : CS K M av m Q := by
  intro X d r hk
  refine ac_of hp hlen ?_
  rw [hL]
  exact k X d r hk
theorem CS.mono {K K' : Nat} {M : MI} {av : List AV} {m : AM} {Q Q' : Option Int → AM → Prop} (k : CS K M av m Q) (hK : K ≤ K') (hq : ∀ v m', Q v m' → Q' v m') : CS K' M av m Q' := fun X d r hk => AC.mono (k X d r ⟨Nat.le_trans hK hk.1, Nat.le_trans (Nat.mul_le_mul_left 36 hK) hk.2⟩) (fun v h' q => ⟨q.1, hq v h'.2 q.2⟩)
section AP
variable {K : Nat} {M : MI} {pc : Nat} {L : List (Option AV)} {S : List AV} {m : AM} {Q : Option Int → AM → Prop}
theorem nfw : nativeFrameWords "java/lang/System" "arraycopy" 5 = 7 := by decide +kernel
theorem rk1 {K d r : Nat} (hk : rk K d r) (hK : 1 ≤ K) : 1 ≤ d ∧ 36 ≤ r := by
  obtain ⟨h1, h2⟩ := hk
  exact ⟨by omega, by omega⟩
theorem AP.mono {Q' : Option Int → AM → Prop} (k : AP K M pc L S m Q) (hq : ∀ v m', Q v m' → Q' v m') : AP K M pc L S m Q' := fun X d r hk => (k X d r hk).mono (fun v h' q => ⟨q.1, hq v h'.2 q.2⟩)
theorem AP.loc {L' : List (Option AV)} (k : AP K M pc L' S m Q) (hL : ∀ (i : Nat) (v : AV), L'[i]? = some (some v) → L[i]? = some (some v)) : AP K M pc L S m Q := fun X d r hk => (k X d r hk).loc hL

theorem ap_const {n : Int} (hd : decode M.2.1 pc = .ok (.iconst n, 1))
    (k : AP K M (pc + 1) L (.inl n :: S) m Q) : AP K M pc L S m Q := fun X d r hk => aw_const hd (k X d r hk)
theorem ap_bipush {n : Int} (hd : decode M.2.1 pc = .ok (.bipush n, 2)) (hn : (Int8.ofInt n).toInt32 = Int32.ofInt n)
    (k : AP K M (pc + 2) L (.inl n :: S) m Q) : AP K M pc L S m Q := fun X d r hk => aw_bipush hd hn (k X d r hk)
theorem ap_sipush {n : Int} (hd : decode M.2.1 pc = .ok (.sipush n, 3)) (hn : (Int16.ofInt n).toInt32 = Int32.ofInt n)
    (k : AP K M (pc + 3) L (.inl n :: S) m Q) : AP K M pc L S m Q := fun X d r hk => aw_sipush hd hn (k X d r hk)
theorem ap_ild_0 {R : List (Option AV)} {x : Int} (hd : decode M.2.1 pc = .ok (.iload_n 0, 1))
    (k : AP K M (pc + 1) (some (.inl x) :: R) (.inl x :: S) m Q) : AP K M pc (some (.inl x) :: R) S m Q := fun X d r hk => aw_ild_n hd rfl rfl (k X d r hk)
theorem ap_ist_0 {R : List (Option AV)} {o : Option AV} {x : Int} (hd : decode M.2.1 pc = .ok (.istore_n 0, 1)) (hn : 0 < M.2.2.1)
    (k : AP K M (pc + 1) (some (.inl x) :: R) S m Q) : AP K M pc (o :: R) (.inl x :: S) m Q := fun X d r hk => aw_ist_n hd rfl hn rfl (k X d r hk)
theorem ap_ald_0 {R : List (Option AV)} {x : Nat} (hd : decode M.2.1 pc = .ok (.aload_n 0, 1))
    (k : AP K M (pc + 1) (some (.inr x) :: R) (.inr x :: S) m Q) : AP K M pc (some (.inr x) :: R) S m Q := fun X d r hk => aw_ald_n hd rfl rfl (k X d r hk)
theorem ap_ast_0 {R : List (Option AV)} {o : Option AV} {x : Nat} (hd : decode M.2.1 pc = .ok (.astore_n 0, 1)) (hn : 0 < M.2.2.1)
    (k : AP K M (pc + 1) (some (.inr x) :: R) S m Q) : AP K M pc (o :: R) (.inr x :: S) m Q := fun X d r hk => aw_ast_n hd rfl hn rfl (k X d r hk)
theorem ap_iinc_0 {R : List (Option AV)} {n x : Int} (hd : decode M.2.1 pc = .ok (.iinc 0 n, 3)) (hn : 0 < M.2.2.1)
    (k : AP K M (pc + 3) (some (.inl (x + n)) :: R) S m Q) : AP K M pc (some (.inl x) :: R) S m Q := fun X d r hk => aw_iinc hd hn rfl rfl (k X d r hk)
theorem ap_ild_1 {a0 : Option AV} {R : List (Option AV)} {x : Int} (hd : decode M.2.1 pc = .ok (.iload_n 1, 1))
    (k : AP K M (pc + 1) (a0 :: some (.inl x) :: R) (.inl x :: S) m Q) : AP K M pc (a0 :: some (.inl x) :: R) S m Q := fun X d r hk => aw_ild_n hd rfl rfl (k X d r hk)
theorem ap_ist_1 {a0 : Option AV} {R : List (Option AV)} {o : Option AV} {x : Int} (hd : decode M.2.1 pc = .ok (.istore_n 1, 1)) (hn : 1 < M.2.2.1)
    (k : AP K M (pc + 1) (a0 :: some (.inl x) :: R) S m Q) : AP K M pc (a0 :: o :: R) (.inl x :: S) m Q := fun X d r hk => aw_ist_n hd rfl hn rfl (k X d r hk)
theorem ap_ald_1 {a0 : Option AV} {R : List (Option AV)} {x : Nat} (hd : decode M.2.1 pc = .ok (.aload_n 1, 1))
    (k : AP K M (pc + 1) (a0 :: some (.inr x) :: R) (.inr x :: S) m Q) : AP K M pc (a0 :: some (.inr x) :: R) S m Q := fun X d r hk => aw_ald_n hd rfl rfl (k X d r hk)
theorem ap_ast_1 {a0 : Option AV} {R : List (Option AV)} {o : Option AV} {x : Nat} (hd : decode M.2.1 pc = .ok (.astore_n 1, 1)) (hn : 1 < M.2.2.1)
    (k : AP K M (pc + 1) (a0 :: some (.inr x) :: R) S m Q) : AP K M pc (a0 :: o :: R) (.inr x :: S) m Q := fun X d r hk => aw_ast_n hd rfl hn rfl (k X d r hk)
theorem ap_iinc_1 {a0 : Option AV} {R : List (Option AV)} {n x : Int} (hd : decode M.2.1 pc = .ok (.iinc 1 n, 3)) (hn : 1 < M.2.2.1)
    (k : AP K M (pc + 3) (a0 :: some (.inl (x + n)) :: R) S m Q) : AP K M pc (a0 :: some (.inl x) :: R) S m Q := fun X d r hk => aw_iinc hd hn rfl rfl (k X d r hk)
theorem ap_ild_2 {a0 a1 : Option AV} {R : List (Option AV)} {x : Int} (hd : decode M.2.1 pc = .ok (.iload_n 2, 1))
    (k : AP K M (pc + 1) (a0 :: a1 :: some (.inl x) :: R) (.inl x :: S) m Q) : AP K M pc (a0 :: a1 :: some (.inl x) :: R) S m Q := fun X d r hk => aw_ild_n hd rfl rfl (k X d r hk)
theorem ap_ist_2 {a0 a1 : Option AV} {R : List (Option AV)} {o : Option AV} {x : Int} (hd : decode M.2.1 pc = .ok (.istore_n 2, 1)) (hn : 2 < M.2.2.1)
    (k : AP K M (pc + 1) (a0 :: a1 :: some (.inl x) :: R) S m Q) : AP K M pc (a0 :: a1 :: o :: R) (.inl x :: S) m Q := fun X d r hk => aw_ist_n hd rfl hn rfl (k X d r hk)
theorem ap_ald_2 {a0 a1 : Option AV} {R : List (Option AV)} {x : Nat} (hd : decode M.2.1 pc = .ok (.aload_n 2, 1))
    (k : AP K M (pc + 1) (a0 :: a1 :: some (.inr x) :: R) (.inr x :: S) m Q) : AP K M pc (a0 :: a1 :: some (.inr x) :: R) S m Q := fun X d r hk => aw_ald_n hd rfl rfl (k X d r hk)
theorem ap_ast_2 {a0 a1 : Option AV} {R : List (Option AV)} {o : Option AV} {x : Nat} (hd : decode M.2.1 pc = .ok (.astore_n 2, 1)) (hn : 2 < M.2.2.1)
    (k : AP K M (pc + 1) (a0 :: a1 :: some (.inr x) :: R) S m Q) : AP K M pc (a0 :: a1 :: o :: R) (.inr x :: S) m Q := fun X d r hk => aw_ast_n hd rfl hn rfl (k X d r hk)
theorem ap_iinc_2 {a0 a1 : Option AV} {R : List (Option AV)} {n x : Int} (hd : decode M.2.1 pc = .ok (.iinc 2 n, 3)) (hn : 2 < M.2.2.1)
    (k : AP K M (pc + 3) (a0 :: a1 :: some (.inl (x + n)) :: R) S m Q) : AP K M pc (a0 :: a1 :: some (.inl x) :: R) S m Q := fun X d r hk => aw_iinc hd hn rfl rfl (k X d r hk)
theorem ap_ild_3 {a0 a1 a2 : Option AV} {R : List (Option AV)} {x : Int} (hd : decode M.2.1 pc = .ok (.iload_n 3, 1))
    (k : AP K M (pc + 1) (a0 :: a1 :: a2 :: some (.inl x) :: R) (.inl x :: S) m Q) : AP K M pc (a0 :: a1 :: a2 :: some (.inl x) :: R) S m Q := fun X d r hk => aw_ild_n hd rfl rfl (k X d r hk)
theorem ap_ist_3 {a0 a1 a2 : Option AV} {R : List (Option AV)} {o : Option AV} {x : Int} (hd : decode M.2.1 pc = .ok (.istore_n 3, 1)) (hn : 3 < M.2.2.1)
    (k : AP K M (pc + 1) (a0 :: a1 :: a2 :: some (.inl x) :: R) S m Q) : AP K M pc (a0 :: a1 :: a2 :: o :: R) (.inl x :: S) m Q := fun X d r hk => aw_ist_n hd rfl hn rfl (k X d r hk)
theorem ap_ald_3 {a0 a1 a2 : Option AV} {R : List (Option AV)} {x : Nat} (hd : decode M.2.1 pc = .ok (.aload_n 3, 1))
    (k : AP K M (pc + 1) (a0 :: a1 :: a2 :: some (.inr x) :: R) (.inr x :: S) m Q) : AP K M pc (a0 :: a1 :: a2 :: some (.inr x) :: R) S m Q := fun X d r hk => aw_ald_n hd rfl rfl (k X d r hk)
theorem ap_ast_3 {a0 a1 a2 : Option AV} {R : List (Option AV)} {o : Option AV} {x : Nat} (hd : decode M.2.1 pc = .ok (.astore_n 3, 1)) (hn : 3 < M.2.2.1)
    (k : AP K M (pc + 1) (a0 :: a1 :: a2 :: some (.inr x) :: R) S m Q) : AP K M pc (a0 :: a1 :: a2 :: o :: R) (.inr x :: S) m Q := fun X d r hk => aw_ast_n hd rfl hn rfl (k X d r hk)
theorem ap_iinc_3 {a0 a1 a2 : Option AV} {R : List (Option AV)} {n x : Int} (hd : decode M.2.1 pc = .ok (.iinc 3 n, 3)) (hn : 3 < M.2.2.1)
    (k : AP K M (pc + 3) (a0 :: a1 :: a2 :: some (.inl (x + n)) :: R) S m Q) : AP K M pc (a0 :: a1 :: a2 :: some (.inl x) :: R) S m Q := fun X d r hk => aw_iinc hd hn rfl rfl (k X d r hk)
theorem ap_ild_4 {a0 a1 a2 a3 : Option AV} {R : List (Option AV)} {x : Int} (hd : decode M.2.1 pc = .ok (.iload 4, 2))
    (k : AP K M (pc + 2) (a0 :: a1 :: a2 :: a3 :: some (.inl x) :: R) (.inl x :: S) m Q) : AP K M pc (a0 :: a1 :: a2 :: a3 :: some (.inl x) :: R) S m Q := fun X d r hk => aw_ild hd rfl (k X d r hk)
theorem ap_ist_4 {a0 a1 a2 a3 : Option AV} {R : List (Option AV)} {o : Option AV} {x : Int} (hd : decode M.2.1 pc = .ok (.istore 4, 2)) (hn : 4 < M.2.2.1)
    (k : AP K M (pc + 2) (a0 :: a1 :: a2 :: a3 :: some (.inl x) :: R) S m Q) : AP K M pc (a0 :: a1 :: a2 :: a3 :: o :: R) (.inl x :: S) m Q := fun X d r hk => aw_ist hd hn rfl (k X d r hk)
theorem ap_ald_4 {a0 a1 a2 a3 : Option AV} {R : List (Option AV)} {x : Nat} (hd : decode M.2.1 pc = .ok (.aload 4, 2))
    (k : AP K M (pc + 2) (a0 :: a1 :: a2 :: a3 :: some (.inr x) :: R) (.inr x :: S) m Q) : AP K M pc (a0 :: a1 :: a2 :: a3 :: some (.inr x) :: R) S m Q := fun X d r hk => aw_ald hd rfl (k X d r hk)
theorem ap_ast_4 {a0 a1 a2 a3 : Option AV} {R : List (Option AV)} {o : Option AV} {x : Nat} (hd : decode M.2.1 pc = .ok (.astore 4, 2)) (hn : 4 < M.2.2.1)
    (k : AP K M (pc + 2) (a0 :: a1 :: a2 :: a3 :: some (.inr x) :: R) S m Q) : AP K M pc (a0 :: a1 :: a2 :: a3 :: o :: R) (.inr x :: S) m Q := fun X d r hk => aw_ast hd hn rfl (k X d r hk)
theorem ap_iinc_4 {a0 a1 a2 a3 : Option AV} {R : List (Option AV)} {n x : Int} (hd : decode M.2.1 pc = .ok (.iinc 4 n, 3)) (hn : 4 < M.2.2.1)
    (k : AP K M (pc + 3) (a0 :: a1 :: a2 :: a3 :: some (.inl (x + n)) :: R) S m Q) : AP K M pc (a0 :: a1 :: a2 :: a3 :: some (.inl x) :: R) S m Q := fun X d r hk => aw_iinc hd hn rfl rfl (k X d r hk)
theorem ap_ild_5 {a0 a1 a2 a3 a4 : Option AV} {R : List (Option AV)} {x : Int} (hd : decode M.2.1 pc = .ok (.iload 5, 2))
    (k : AP K M (pc + 2) (a0 :: a1 :: a2 :: a3 :: a4 :: some (.inl x) :: R) (.inl x :: S) m Q) : AP K M pc (a0 :: a1 :: a2 :: a3 :: a4 :: some (.inl x) :: R) S m Q := fun X d r hk => aw_ild hd rfl (k X d r hk)
theorem ap_ist_5 {a0 a1 a2 a3 a4 : Option AV} {R : List (Option AV)} {o : Option AV} {x : Int} (hd : decode M.2.1 pc = .ok (.istore 5, 2)) (hn : 5 < M.2.2.1)
    (k : AP K M (pc + 2) (a0 :: a1 :: a2 :: a3 :: a4 :: some (.inl x) :: R) S m Q) : AP K M pc (a0 :: a1 :: a2 :: a3 :: a4 :: o :: R) (.inl x :: S) m Q := fun X d r hk => aw_ist hd hn rfl (k X d r hk)
theorem ap_ald_5 {a0 a1 a2 a3 a4 : Option AV} {R : List (Option AV)} {x : Nat} (hd : decode M.2.1 pc = .ok (.aload 5, 2))
    (k : AP K M (pc + 2) (a0 :: a1 :: a2 :: a3 :: a4 :: some (.inr x) :: R) (.inr x :: S) m Q) : AP K M pc (a0 :: a1 :: a2 :: a3 :: a4 :: some (.inr x) :: R) S m Q := fun X d r hk => aw_ald hd rfl (k X d r hk)
theorem ap_ast_5 {a0 a1 a2 a3 a4 : Option AV} {R : List (Option AV)} {o : Option AV} {x : Nat} (hd : decode M.2.1 pc = .ok (.astore 5, 2)) (hn : 5 < M.2.2.1)
    (k : AP K M (pc + 2) (a0 :: a1 :: a2 :: a3 :: a4 :: some (.inr x) :: R) S m Q) : AP K M pc (a0 :: a1 :: a2 :: a3 :: a4 :: o :: R) (.inr x :: S) m Q := fun X d r hk => aw_ast hd hn rfl (k X d r hk)
theorem ap_iinc_5 {a0 a1 a2 a3 a4 : Option AV} {R : List (Option AV)} {n x : Int} (hd : decode M.2.1 pc = .ok (.iinc 5 n, 3)) (hn : 5 < M.2.2.1)
    (k : AP K M (pc + 3) (a0 :: a1 :: a2 :: a3 :: a4 :: some (.inl (x + n)) :: R) S m Q) : AP K M pc (a0 :: a1 :: a2 :: a3 :: a4 :: some (.inl x) :: R) S m Q := fun X d r hk => aw_iinc hd hn rfl rfl (k X d r hk)
theorem ap_ild_6 {a0 a1 a2 a3 a4 a5 : Option AV} {R : List (Option AV)} {x : Int} (hd : decode M.2.1 pc = .ok (.iload 6, 2))
    (k : AP K M (pc + 2) (a0 :: a1 :: a2 :: a3 :: a4 :: a5 :: some (.inl x) :: R) (.inl x :: S) m Q) : AP K M pc (a0 :: a1 :: a2 :: a3 :: a4 :: a5 :: some (.inl x) :: R) S m Q := fun X d r hk => aw_ild hd rfl (k X d r hk)
theorem ap_ist_6 {a0 a1 a2 a3 a4 a5 : Option AV} {R : List (Option AV)} {o : Option AV} {x : Int} (hd : decode M.2.1 pc = .ok (.istore 6, 2)) (hn : 6 < M.2.2.1)
    (k : AP K M (pc + 2) (a0 :: a1 :: a2 :: a3 :: a4 :: a5 :: some (.inl x) :: R) S m Q) : AP K M pc (a0 :: a1 :: a2 :: a3 :: a4 :: a5 :: o :: R) (.inl x :: S) m Q := fun X d r hk => aw_ist hd hn rfl (k X d r hk)
theorem ap_ald_6 {a0 a1 a2 a3 a4 a5 : Option AV} {R : List (Option AV)} {x : Nat} (hd : decode M.2.1 pc = .ok (.aload 6, 2))
    (k : AP K M (pc + 2) (a0 :: a1 :: a2 :: a3 :: a4 :: a5 :: some (.inr x) :: R) (.inr x :: S) m Q) : AP K M pc (a0 :: a1 :: a2 :: a3 :: a4 :: a5 :: some (.inr x) :: R) S m Q := fun X d r hk => aw_ald hd rfl (k X d r hk)
theorem ap_ast_6 {a0 a1 a2 a3 a4 a5 : Option AV} {R : List (Option AV)} {o : Option AV} {x : Nat} (hd : decode M.2.1 pc = .ok (.astore 6, 2)) (hn : 6 < M.2.2.1)
    (k : AP K M (pc + 2) (a0 :: a1 :: a2 :: a3 :: a4 :: a5 :: some (.inr x) :: R) S m Q) : AP K M pc (a0 :: a1 :: a2 :: a3 :: a4 :: a5 :: o :: R) (.inr x :: S) m Q := fun X d r hk => aw_ast hd hn rfl (k X d r hk)
theorem ap_iinc_6 {a0 a1 a2 a3 a4 a5 : Option AV} {R : List (Option AV)} {n x : Int} (hd : decode M.2.1 pc = .ok (.iinc 6 n, 3)) (hn : 6 < M.2.2.1)
    (k : AP K M (pc + 3) (a0 :: a1 :: a2 :: a3 :: a4 :: a5 :: some (.inl (x + n)) :: R) S m Q) : AP K M pc (a0 :: a1 :: a2 :: a3 :: a4 :: a5 :: some (.inl x) :: R) S m Q := fun X d r hk => aw_iinc hd hn rfl rfl (k X d r hk)
theorem ap_ild_7 {a0 a1 a2 a3 a4 a5 a6 : Option AV} {R : List (Option AV)} {x : Int} (hd : decode M.2.1 pc = .ok (.iload 7, 2))
    (k : AP K M (pc + 2) (a0 :: a1 :: a2 :: a3 :: a4 :: a5 :: a6 :: some (.inl x) :: R) (.inl x :: S) m Q) : AP K M pc (a0 :: a1 :: a2 :: a3 :: a4 :: a5 :: a6 :: some (.inl x) :: R) S m Q := fun X d r hk => aw_ild hd rfl (k X d r hk)
theorem ap_ist_7 {a0 a1 a2 a3 a4 a5 a6 : Option AV} {R : List (Option AV)} {o : Option AV} {x : Int} (hd : decode M.2.1 pc = .ok (.istore 7, 2)) (hn : 7 < M.2.2.1)
    (k : AP K M (pc + 2) (a0 :: a1 :: a2 :: a3 :: a4 :: a5 :: a6 :: some (.inl x) :: R) S m Q) : AP K M pc (a0 :: a1 :: a2 :: a3 :: a4 :: a5 :: a6 :: o :: R) (.inl x :: S) m Q := fun X d r hk => aw_ist hd hn rfl (k X d r hk)
theorem ap_ald_7 {a0 a1 a2 a3 a4 a5 a6 : Option AV} {R : List (Option AV)} {x : Nat} (hd : decode M.2.1 pc = .ok (.aload 7, 2))
    (k : AP K M (pc + 2) (a0 :: a1 :: a2 :: a3 :: a4 :: a5 :: a6 :: some (.inr x) :: R) (.inr x :: S) m Q) : AP K M pc (a0 :: a1 :: a2 :: a3 :: a4 :: a5 :: a6 :: some (.inr x) :: R) S m Q := fun X d r hk => aw_ald hd rfl (k X d r hk)
theorem ap_ast_7 {a0 a1 a2 a3 a4 a5 a6 : Option AV} {R : List (Option AV)} {o : Option AV} {x : Nat} (hd : decode M.2.1 pc = .ok (.astore 7, 2)) (hn : 7 < M.2.2.1)
    (k : AP K M (pc + 2) (a0 :: a1 :: a2 :: a3 :: a4 :: a5 :: a6 :: some (.inr x) :: R) S m Q) : AP K M pc (a0 :: a1 :: a2 :: a3 :: a4 :: a5 :: a6 :: o :: R) (.inr x :: S) m Q := fun X d r hk => aw_ast hd hn rfl (k X d r hk)
theorem ap_iinc_7 {a0 a1 a2 a3 a4 a5 a6 : Option AV} {R : List (Option AV)} {n x : Int} (hd : decode M.2.1 pc = .ok (.iinc 7 n, 3)) (hn : 7 < M.2.2.1)
    (k : AP K M (pc + 3) (a0 :: a1 :: a2 :: a3 :: a4 :: a5 :: a6 :: some (.inl (x + n)) :: R) S m Q) : AP K M pc (a0 :: a1 :: a2 :: a3 :: a4 :: a5 :: a6 :: some (.inl x) :: R) S m Q := fun X d r hk => aw_iinc hd hn rfl rfl (k X d r hk)
theorem ap_ild_8 {a0 a1 a2 a3 a4 a5 a6 a7 : Option AV} {R : List (Option AV)} {x : Int} (hd : decode M.2.1 pc = .ok (.iload 8, 2))
    (k : AP K M (pc + 2) (a0 :: a1 :: a2 :: a3 :: a4 :: a5 :: a6 :: a7 :: some (.inl x) :: R) (.inl x :: S) m Q) : AP K M pc (a0 :: a1 :: a2 :: a3 :: a4 :: a5 :: a6 :: a7 :: some (.inl x) :: R) S m Q := fun X d r hk => aw_ild hd rfl (k X d r hk)
theorem ap_ist_8 {a0 a1 a2 a3 a4 a5 a6 a7 : Option AV} {R : List (Option AV)} {o : Option AV} {x : Int} (hd : decode M.2.1 pc = .ok (.istore 8, 2)) (hn : 8 < M.2.2.1)
    (k : AP K M (pc + 2) (a0 :: a1 :: a2 :: a3 :: a4 :: a5 :: a6 :: a7 :: some (.inl x) :: R) S m Q) : AP K M pc (a0 :: a1 :: a2 :: a3 :: a4 :: a5 :: a6 :: a7 :: o :: R) (.inl x :: S) m Q := fun X d r hk => aw_ist hd hn rfl (k X d r hk)
theorem ap_ald_8 {a0 a1 a2 a3 a4 a5 a6 a7 : Option AV} {R : List (Option AV)} {x : Nat} (hd : decode M.2.1 pc = .ok (.aload 8, 2))
    (k : AP K M (pc + 2) (a0 :: a1 :: a2 :: a3 :: a4 :: a5 :: a6 :: a7 :: some (.inr x) :: R) (.inr x :: S) m Q) : AP K M pc (a0 :: a1 :: a2 :: a3 :: a4 :: a5 :: a6 :: a7 :: some (.inr x) :: R) S m Q := fun X d r hk => aw_ald hd rfl (k X d r hk)
theorem ap_ast_8 {a0 a1 a2 a3 a4 a5 a6 a7 : Option AV} {R : List (Option AV)} {o : Option AV} {x : Nat} (hd : decode M.2.1 pc = .ok (.astore 8, 2)) (hn : 8 < M.2.2.1)
    (k : AP K M (pc + 2) (a0 :: a1 :: a2 :: a3 :: a4 :: a5 :: a6 :: a7 :: some (.inr x) :: R) S m Q) : AP K M pc (a0 :: a1 :: a2 :: a3 :: a4 :: a5 :: a6 :: a7 :: o :: R) (.inr x :: S) m Q := fun X d r hk => aw_ast hd hn rfl (k X d r hk)
theorem ap_iinc_8 {a0 a1 a2 a3 a4 a5 a6 a7 : Option AV} {R : List (Option AV)} {n x : Int} (hd : decode M.2.1 pc = .ok (.iinc 8 n, 3)) (hn : 8 < M.2.2.1)
    (k : AP K M (pc + 3) (a0 :: a1 :: a2 :: a3 :: a4 :: a5 :: a6 :: a7 :: some (.inl (x + n)) :: R) S m Q) : AP K M pc (a0 :: a1 :: a2 :: a3 :: a4 :: a5 :: a6 :: a7 :: some (.inl x) :: R) S m Q := fun X d r hk => aw_iinc hd hn rfl rfl (k X d r hk)
theorem ap_ild_9 {a0 a1 a2 a3 a4 a5 a6 a7 a8 : Option AV} {R : List (Option AV)} {x : Int} (hd : decode M.2.1 pc = .ok (.iload 9, 2))
    (k : AP K M (pc + 2) (a0 :: a1 :: a2 :: a3 :: a4 :: a5 :: a6 :: a7 :: a8 :: some (.inl x) :: R) (.inl x :: S) m Q) : AP K M pc (a0 :: a1 :: a2 :: a3 :: a4 :: a5 :: a6 :: a7 :: a8 :: some (.inl x) :: R) S m Q := fun X d r hk => aw_ild hd rfl (k X d r hk)
theorem ap_ist_9 {a0 a1 a2 a3 a4 a5 a6 a7 a8 : Option AV} {R : List (Option AV)} {o : Option AV} {x : Int} (hd : decode M.2.1 pc = .ok (.istore 9, 2)) (hn : 9 < M.2.2.1)
    (k : AP K M (pc + 2) (a0 :: a1 :: a2 :: a3 :: a4 :: a5 :: a6 :: a7 :: a8 :: some (.inl x) :: R) S m Q) : AP K M pc (a0 :: a1 :: a2 :: a3 :: a4 :: a5 :: a6 :: a7 :: a8 :: o :: R) (.inl x :: S) m Q := fun X d r hk => aw_ist hd hn rfl (k X d r hk)
theorem ap_ald_9 {a0 a1 a2 a3 a4 a5 a6 a7 a8 : Option AV} {R : List (Option AV)} {x : Nat} (hd : decode M.2.1 pc = .ok (.aload 9, 2))
    (k : AP K M (pc + 2) (a0 :: a1 :: a2 :: a3 :: a4 :: a5 :: a6 :: a7 :: a8 :: some (.inr x) :: R) (.inr x :: S) m Q) : AP K M pc (a0 :: a1 :: a2 :: a3 :: a4 :: a5 :: a6 :: a7 :: a8 :: some (.inr x) :: R) S m Q := fun X d r hk => aw_ald hd rfl (k X d r hk)
theorem ap_ast_9 {a0 a1 a2 a3 a4 a5 a6 a7 a8 : Option AV} {R : List (Option AV)} {o : Option AV} {x : Nat} (hd : decode M.2.1 pc = .ok (.astore 9, 2)) (hn : 9 < M.2.2.1)
    (k : AP K M (pc + 2) (a0 :: a1 :: a2 :: a3 :: a4 :: a5 :: a6 :: a7 :: a8 :: some (.inr x) :: R) S m Q) : AP K M pc (a0 :: a1 :: a2 :: a3 :: a4 :: a5 :: a6 :: a7 :: a8 :: o :: R) (.inr x :: S) m Q := fun X d r hk => aw_ast hd hn rfl (k X d r hk)
theorem ap_iinc_9 {a0 a1 a2 a3 a4 a5 a6 a7 a8 : Option AV} {R : List (Option AV)} {n x : Int} (hd : decode M.2.1 pc = .ok (.iinc 9 n, 3)) (hn : 9 < M.2.2.1)
    (k : AP K M (pc + 3) (a0 :: a1 :: a2 :: a3 :: a4 :: a5 :: a6 :: a7 :: a8 :: some (.inl (x + n)) :: R) S m Q) : AP K M pc (a0 :: a1 :: a2 :: a3 :: a4 :: a5 :: a6 :: a7 :: a8 :: some (.inl x) :: R) S m Q := fun X d r hk => aw_iinc hd hn rfl rfl (k X d r hk)
theorem ap_ild_10 {a0 a1 a2 a3 a4 a5 a6 a7 a8 a9 : Option AV} {R : List (Option AV)} {x : Int} (hd : decode M.2.1 pc = .ok (.iload 10, 2))
    (k : AP K M (pc + 2) (a0 :: a1 :: a2 :: a3 :: a4 :: a5 :: a6 :: a7 :: a8 :: a9 :: some (.inl x) :: R) (.inl x :: S) m Q) : AP K M pc (a0 :: a1 :: a2 :: a3 :: a4 :: a5 :: a6 :: a7 :: a8 :: a9 :: some (.inl x) :: R) S m Q := fun X d r hk => aw_ild hd rfl (k X d r hk)
theorem ap_ist_10 {a0 a1 a2 a3 a4 a5 a6 a7 a8 a9 : Option AV} {R : List (Option AV)} {o : Option AV} {x : Int} (hd : decode M.2.1 pc = .ok (.istore 10, 2)) (hn : 10 < M.2.2.1)
    (k : AP K M (pc + 2) (a0 :: a1 :: a2 :: a3 :: a4 :: a5 :: a6 :: a7 :: a8 :: a9 :: some (.inl x) :: R) S m Q) : AP K M pc (a0 :: a1 :: a2 :: a3 :: a4 :: a5 :: a6 :: a7 :: a8 :: a9 :: o :: R) (.inl x :: S) m Q := fun X d r hk => aw_ist hd hn rfl (k X d r hk)
theorem ap_ald_10 {a0 a1 a2 a3 a4 a5 a6 a7 a8 a9 : Option AV} {R : List (Option AV)} {x : Nat} (hd : decode M.2.1 pc = .ok (.aload 10, 2))
    (k : AP K M (pc + 2) (a0 :: a1 :: a2 :: a3 :: a4 :: a5 :: a6 :: a7 :: a8 :: a9 :: some (.inr x) :: R) (.inr x :: S) m Q) : AP K M pc (a0 :: a1 :: a2 :: a3 :: a4 :: a5 :: a6 :: a7 :: a8 :: a9 :: some (.inr x) :: R) S m Q := fun X d r hk => aw_ald hd rfl (k X d r hk)
theorem ap_ast_10 {a0 a1 a2 a3 a4 a5 a6 a7 a8 a9 : Option AV} {R : List (Option AV)} {o : Option AV} {x : Nat} (hd : decode M.2.1 pc = .ok (.astore 10, 2)) (hn : 10 < M.2.2.1)
    (k : AP K M (pc + 2) (a0 :: a1 :: a2 :: a3 :: a4 :: a5 :: a6 :: a7 :: a8 :: a9 :: some (.inr x) :: R) S m Q) : AP K M pc (a0 :: a1 :: a2 :: a3 :: a4 :: a5 :: a6 :: a7 :: a8 :: a9 :: o :: R) (.inr x :: S) m Q := fun X d r hk => aw_ast hd hn rfl (k X d r hk)
theorem ap_iinc_10 {a0 a1 a2 a3 a4 a5 a6 a7 a8 a9 : Option AV} {R : List (Option AV)} {n x : Int} (hd : decode M.2.1 pc = .ok (.iinc 10 n, 3)) (hn : 10 < M.2.2.1)
    (k : AP K M (pc + 3) (a0 :: a1 :: a2 :: a3 :: a4 :: a5 :: a6 :: a7 :: a8 :: a9 :: some (.inl (x + n)) :: R) S m Q) : AP K M pc (a0 :: a1 :: a2 :: a3 :: a4 :: a5 :: a6 :: a7 :: a8 :: a9 :: some (.inl x) :: R) S m Q := fun X d r hk => aw_iinc hd hn rfl rfl (k X d r hk)
theorem ap_ild_11 {a0 a1 a2 a3 a4 a5 a6 a7 a8 a9 a10 : Option AV} {R : List (Option AV)} {x : Int} (hd : decode M.2.1 pc = .ok (.iload 11, 2))
    (k : AP K M (pc + 2) (a0 :: a1 :: a2 :: a3 :: a4 :: a5 :: a6 :: a7 :: a8 :: a9 :: a10 :: some (.inl x) :: R) (.inl x :: S) m Q) : AP K M pc (a0 :: a1 :: a2 :: a3 :: a4 :: a5 :: a6 :: a7 :: a8 :: a9 :: a10 :: some (.inl x) :: R) S m Q := fun X d r hk => aw_ild hd rfl (k X d r hk)
theorem ap_ist_11 {a0 a1 a2 a3 a4 a5 a6 a7 a8 a9 a10 : Option AV} {R : List (Option AV)} {o : Option AV} {x : Int} (hd : decode M.2.1 pc = .ok (.istore 11, 2)) (hn : 11 < M.2.2.1)
    (k : AP K M (pc + 2) (a0 :: a1 :: a2 :: a3 :: a4 :: a5 :: a6 :: a7 :: a8 :: a9 :: a10 :: some (.inl x) :: R) S m Q) : AP K M pc (a0 :: a1 :: a2 :: a3 :: a4 :: a5 :: a6 :: a7 :: a8 :: a9 :: a10 :: o :: R) (.inl x :: S) m Q := fun X d r hk => aw_ist hd hn rfl (k X d r hk)
theorem ap_ald_11 {a0 a1 a2 a3 a4 a5 a6 a7 a8 a9 a10 : Option AV} {R : List (Option AV)} {x : Nat} (hd : decode M.2.1 pc = .ok (.aload 11, 2))
    (k : AP K M (pc + 2) (a0 :: a1 :: a2 :: a3 :: a4 :: a5 :: a6 :: a7 :: a8 :: a9 :: a10 :: some (.inr x) :: R) (.inr x :: S) m Q) : AP K M pc (a0 :: a1 :: a2 :: a3 :: a4 :: a5 :: a6 :: a7 :: a8 :: a9 :: a10 :: some (.inr x) :: R) S m Q := fun X d r hk => aw_ald hd rfl (k X d r hk)
theorem ap_ast_11 {a0 a1 a2 a3 a4 a5 a6 a7 a8 a9 a10 : Option AV} {R : List (Option AV)} {o : Option AV} {x : Nat} (hd : decode M.2.1 pc = .ok (.astore 11, 2)) (hn : 11 < M.2.2.1)
    (k : AP K M (pc + 2) (a0 :: a1 :: a2 :: a3 :: a4 :: a5 :: a6 :: a7 :: a8 :: a9 :: a10 :: some (.inr x) :: R) S m Q) : AP K M pc (a0 :: a1 :: a2 :: a3 :: a4 :: a5 :: a6 :: a7 :: a8 :: a9 :: a10 :: o :: R) (.inr x :: S) m Q := fun X d r hk => aw_ast hd hn rfl (k X d r hk)
theorem ap_iinc_11 {a0 a1 a2 a3 a4 a5 a6 a7 a8 a9 a10 : Option AV} {R : List (Option AV)} {n x : Int} (hd : decode M.2.1 pc = .ok (.iinc 11 n, 3)) (hn : 11 < M.2.2.1)
    (k : AP K M (pc + 3) (a0 :: a1 :: a2 :: a3 :: a4 :: a5 :: a6 :: a7 :: a8 :: a9 :: a10 :: some (.inl (x + n)) :: R) S m Q) : AP K M pc (a0 :: a1 :: a2 :: a3 :: a4 :: a5 :: a6 :: a7 :: a8 :: a9 :: a10 :: some (.inl x) :: R) S m Q := fun X d r hk => aw_iinc hd hn rfl rfl (k X d r hk)
theorem ap_ild_12 {a0 a1 a2 a3 a4 a5 a6 a7 a8 a9 a10 a11 : Option AV} {R : List (Option AV)} {x : Int} (hd : decode M.2.1 pc = .ok (.iload 12, 2))
    (k : AP K M (pc + 2) (a0 :: a1 :: a2 :: a3 :: a4 :: a5 :: a6 :: a7 :: a8 :: a9 :: a10 :: a11 :: some (.inl x) :: R) (.inl x :: S) m Q) : AP K M pc (a0 :: a1 :: a2 :: a3 :: a4 :: a5 :: a6 :: a7 :: a8 :: a9 :: a10 :: a11 :: some (.inl x) :: R) S m Q := fun X d r hk => aw_ild hd rfl (k X d r hk)
theorem ap_ist_12 {a0 a1 a2 a3 a4 a5 a6 a7 a8 a9 a10 a11 : Option AV} {R : List (Option AV)} {o : Option AV} {x : Int} (hd : decode M.2.1 pc = .ok (.istore 12, 2)) (hn : 12 < M.2.2.1)
    (k : AP K M (pc + 2) (a0 :: a1 :: a2 :: a3 :: a4 :: a5 :: a6 :: a7 :: a8 :: a9 :: a10 :: a11 :: some (.inl x) :: R) S m Q) : AP K M pc (a0 :: a1 :: a2 :: a3 :: a4 :: a5 :: a6 :: a7 :: a8 :: a9 :: a10 :: a11 :: o :: R) (.inl x :: S) m Q := fun X d r hk => aw_ist hd hn rfl (k X d r hk)
theorem ap_ald_12 {a0 a1 a2 a3 a4 a5 a6 a7 a8 a9 a10 a11 : Option AV} {R : List (Option AV)} {x : Nat} (hd : decode M.2.1 pc = .ok (.aload 12, 2))
    (k : AP K M (pc + 2) (a0 :: a1 :: a2 :: a3 :: a4 :: a5 :: a6 :: a7 :: a8 :: a9 :: a10 :: a11 :: some (.inr x) :: R) (.inr x :: S) m Q) : AP K M pc (a0 :: a1 :: a2 :: a3 :: a4 :: a5 :: a6 :: a7 :: a8 :: a9 :: a10 :: a11 :: some (.inr x) :: R) S m Q := fun X d r hk => aw_ald hd rfl (k X d r hk)
theorem ap_ast_12 {a0 a1 a2 a3 a4 a5 a6 a7 a8 a9 a10 a11 : Option AV} {R : List (Option AV)} {o : Option AV} {x : Nat} (hd : decode M.2.1 pc = .ok (.astore 12, 2)) (hn : 12 < M.2.2.1)
    (k : AP K M (pc + 2) (a0 :: a1 :: a2 :: a3 :: a4 :: a5 :: a6 :: a7 :: a8 :: a9 :: a10 :: a11 :: some (.inr x) :: R) S m Q) : AP K M pc (a0 :: a1 :: a2 :: a3 :: a4 :: a5 :: a6 :: a7 :: a8 :: a9 :: a10 :: a11 :: o :: R) (.inr x :: S) m Q := fun X d r hk => aw_ast hd hn rfl (k X d r hk)
theorem ap_iinc_12 {a0 a1 a2 a3 a4 a5 a6 a7 a8 a9 a10 a11 : Option AV} {R : List (Option AV)} {n x : Int} (hd : decode M.2.1 pc = .ok (.iinc 12 n, 3)) (hn : 12 < M.2.2.1)
    (k : AP K M (pc + 3) (a0 :: a1 :: a2 :: a3 :: a4 :: a5 :: a6 :: a7 :: a8 :: a9 :: a10 :: a11 :: some (.inl (x + n)) :: R) S m Q) : AP K M pc (a0 :: a1 :: a2 :: a3 :: a4 :: a5 :: a6 :: a7 :: a8 :: a9 :: a10 :: a11 :: some (.inl x) :: R) S m Q := fun X d r hk => aw_iinc hd hn rfl rfl (k X d r hk)
theorem ap_iadd {x y : Int} (hd : decode M.2.1 pc = .ok (.iadd, 1))
    (k : AP K M (pc + 1) L (.inl (x + y) :: S) m Q) : AP K M pc L (.inl y :: .inl x :: S) m Q := fun X d r hk => aw_iadd hd (k X d r hk)
theorem ap_isub {x y : Int} (hd : decode M.2.1 pc = .ok (.isub, 1))
    (k : AP K M (pc + 1) L (.inl (x - y) :: S) m Q) : AP K M pc L (.inl y :: .inl x :: S) m Q := fun X d r hk => aw_isub hd (k X d r hk)
theorem ap_imul {x y : Int} (hd : decode M.2.1 pc = .ok (.imul, 1))
    (k : AP K M (pc + 1) L (.inl (x * y) :: S) m Q) : AP K M pc L (.inl y :: .inl x :: S) m Q := fun X d r hk => aw_imul hd (k X d r hk)
theorem ap_iand {x y : Int} (hd : decode M.2.1 pc = .ok (.iand, 1))
    (k : AP K M (pc + 1) L (.inl (iAnd x y) :: S) m Q) : AP K M pc L (.inl y :: .inl x :: S) m Q := fun X d r hk => aw_iand hd (k X d r hk)
theorem ap_ior {x y : Int} (hd : decode M.2.1 pc = .ok (.ior, 1))
    (k : AP K M (pc + 1) L (.inl (iOr x y) :: S) m Q) : AP K M pc L (.inl y :: .inl x :: S) m Q := fun X d r hk => aw_ior hd (k X d r hk)
theorem ap_ixor {x y : Int} (hd : decode M.2.1 pc = .ok (.ixor, 1))
    (k : AP K M (pc + 1) L (.inl (iXor x y) :: S) m Q) : AP K M pc L (.inl y :: .inl x :: S) m Q := fun X d r hk => aw_ixor hd (k X d r hk)
theorem ap_ishl {x y : Int} (hd : decode M.2.1 pc = .ok (.ishl, 1))
    (k : AP K M (pc + 1) L (.inl (iShl x y) :: S) m Q) : AP K M pc L (.inl y :: .inl x :: S) m Q := fun X d r hk => aw_ishl hd (k X d r hk)
theorem ap_ishr {x y : Int} (hd : decode M.2.1 pc = .ok (.ishr, 1))
    (k : AP K M (pc + 1) L (.inl (iShr x y) :: S) m Q) : AP K M pc L (.inl y :: .inl x :: S) m Q := fun X d r hk => aw_ishr hd (k X d r hk)
theorem ap_irem {x y : Int} (hd : decode M.2.1 pc = .ok (.irem, 1)) (hr : rng y) (h0 : y ≠ 0)
    (k : AP K M (pc + 1) L (.inl (iRem x y) :: S) m Q) : AP K M pc L (.inl y :: .inl x :: S) m Q := fun X d r hk => aw_irem hd hr h0 (k X d r hk)
theorem ap_ineg {x : Int} (hd : decode M.2.1 pc = .ok (.ineg, 1))
    (k : AP K M (pc + 1) L (.inl (-x) :: S) m Q) : AP K M pc L (.inl x :: S) m Q := fun X d r hk => aw_ineg hd (k X d r hk)
theorem ap_i2c {x : Int} (hd : decode M.2.1 pc = .ok (.i2c, 1)) (h0 : 0 ≤ x) (h1 : x < 65536)
    (k : AP K M (pc + 1) L (.inl x :: S) m Q) : AP K M pc L (.inl x :: S) m Q := fun X d r hk => aw_i2c hd h0 h1 (k X d r hk)
theorem ap_dup {v : AV} (hd : decode M.2.1 pc = .ok (.dup, 1))
    (k : AP K M (pc + 1) L (v :: v :: S) m Q) : AP K M pc L (v :: S) m Q := fun X d r hk => aw_dup hd (k X d r hk)
theorem ap_dup2 {u v : AV} (hd : decode M.2.1 pc = .ok (.dup2, 1))
    (k : AP K M (pc + 1) L (v :: u :: v :: u :: S) m Q) : AP K M pc L (v :: u :: S) m Q := fun X d r hk => aw_dup2 hd (k X d r hk)
theorem ap_goto {off : Int} (tgt : Nat) (hd : decode M.2.1 pc = .ok (.goto off, 3)) (ht : (pc : Int) + off = (tgt : Int))
    (k : AP K M tgt L S m Q) : AP K M pc L S m Q := fun X d r hk => aw_goto hd ht (k X d r hk)
theorem ap_icmp_lt {x y off : Int} (tgt : Nat) (hd : decode M.2.1 pc = .ok (.if_icmp .lt off, 3)) (ht : (pc : Int) + off = (tgt : Int)) (hx : rng x) (hy0 : rng y)
    (kt : x < y → AP K M tgt L S m Q) (kf : y ≤ x → AP K M (pc + 3) L S m Q) : AP K M pc L (.inl y :: .inl x :: S) m Q := fun X d r hk => aw_icmp_lt hd ht hx hy0 (fun q => kt q X d r hk) (fun q => kf q X d r hk)
theorem ap_if_lt {x off : Int} (tgt : Nat) (hd : decode M.2.1 pc = .ok (.ifCond .lt off, 3)) (ht : (pc : Int) + off = (tgt : Int)) (hx : rng x)
    (kt : x < 0 → AP K M tgt L S m Q) (kf : 0 ≤ x → AP K M (pc + 3) L S m Q) : AP K M pc L (.inl x :: S) m Q := fun X d r hk => aw_if_lt hd ht hx (fun q => kt q X d r hk) (fun q => kf q X d r hk)
theorem ap_icmp_ge {x y off : Int} (tgt : Nat) (hd : decode M.2.1 pc = .ok (.if_icmp .ge off, 3)) (ht : (pc : Int) + off = (tgt : Int)) (hx : rng x) (hy0 : rng y)
    (kt : y ≤ x → AP K M tgt L S m Q) (kf : x < y → AP K M (pc + 3) L S m Q) : AP K M pc L (.inl y :: .inl x :: S) m Q := fun X d r hk => aw_icmp_ge hd ht hx hy0 (fun q => kt q X d r hk) (fun q => kf q X d r hk)
theorem ap_if_ge {x off : Int} (tgt : Nat) (hd : decode M.2.1 pc = .ok (.ifCond .ge off, 3)) (ht : (pc : Int) + off = (tgt : Int)) (hx : rng x)
    (kt : 0 ≤ x → AP K M tgt L S m Q) (kf : x < 0 → AP K M (pc + 3) L S m Q) : AP K M pc L (.inl x :: S) m Q := fun X d r hk => aw_if_ge hd ht hx (fun q => kt q X d r hk) (fun q => kf q X d r hk)
theorem ap_icmp_gt {x y off : Int} (tgt : Nat) (hd : decode M.2.1 pc = .ok (.if_icmp .gt off, 3)) (ht : (pc : Int) + off = (tgt : Int)) (hx : rng x) (hy0 : rng y)
    (kt : y < x → AP K M tgt L S m Q) (kf : x ≤ y → AP K M (pc + 3) L S m Q) : AP K M pc L (.inl y :: .inl x :: S) m Q := fun X d r hk => aw_icmp_gt hd ht hx hy0 (fun q => kt q X d r hk) (fun q => kf q X d r hk)
theorem ap_if_gt {x off : Int} (tgt : Nat) (hd : decode M.2.1 pc = .ok (.ifCond .gt off, 3)) (ht : (pc : Int) + off = (tgt : Int)) (hx : rng x)
    (kt : 0 < x → AP K M tgt L S m Q) (kf : x ≤ 0 → AP K M (pc + 3) L S m Q) : AP K M pc L (.inl x :: S) m Q := fun X d r hk => aw_if_gt hd ht hx (fun q => kt q X d r hk) (fun q => kf q X d r hk)
theorem ap_icmp_le {x y off : Int} (tgt : Nat) (hd : decode M.2.1 pc = .ok (.if_icmp .le off, 3)) (ht : (pc : Int) + off = (tgt : Int)) (hx : rng x) (hy0 : rng y)
    (kt : x ≤ y → AP K M tgt L S m Q) (kf : y < x → AP K M (pc + 3) L S m Q) : AP K M pc L (.inl y :: .inl x :: S) m Q := fun X d r hk => aw_icmp_le hd ht hx hy0 (fun q => kt q X d r hk) (fun q => kf q X d r hk)
theorem ap_if_le {x off : Int} (tgt : Nat) (hd : decode M.2.1 pc = .ok (.ifCond .le off, 3)) (ht : (pc : Int) + off = (tgt : Int)) (hx : rng x)
    (kt : x ≤ 0 → AP K M tgt L S m Q) (kf : 0 < x → AP K M (pc + 3) L S m Q) : AP K M pc L (.inl x :: S) m Q := fun X d r hk => aw_if_le hd ht hx (fun q => kt q X d r hk) (fun q => kf q X d r hk)
theorem ap_icmp_eq {x y off : Int} (tgt : Nat) (hd : decode M.2.1 pc = .ok (.if_icmp .eq off, 3)) (ht : (pc : Int) + off = (tgt : Int)) (hr : x = y ∨ (rng x ∧ rng y))
    (kt : x = y → AP K M tgt L S m Q) (kf : ¬ x = y → AP K M (pc + 3) L S m Q) : AP K M pc L (.inl y :: .inl x :: S) m Q := fun X d r hk => aw_icmp_eq hd ht hr (fun q => kt q X d r hk) (fun q => kf q X d r hk)
theorem ap_if_eq {x off : Int} (tgt : Nat) (hd : decode M.2.1 pc = .ok (.ifCond .eq off, 3)) (ht : (pc : Int) + off = (tgt : Int)) (hx : rng x)
    (kt : x = 0 → AP K M tgt L S m Q) (kf : ¬ x = 0 → AP K M (pc + 3) L S m Q) : AP K M pc L (.inl x :: S) m Q := fun X d r hk => aw_if_eq hd ht hx (fun q => kt q X d r hk) (fun q => kf q X d r hk)
theorem ap_icmp_ne {x y off : Int} (tgt : Nat) (hd : decode M.2.1 pc = .ok (.if_icmp .ne off, 3)) (ht : (pc : Int) + off = (tgt : Int)) (hr : x = y ∨ (rng x ∧ rng y))
    (kt : ¬ x = y → AP K M tgt L S m Q) (kf : x = y → AP K M (pc + 3) L S m Q) : AP K M pc L (.inl y :: .inl x :: S) m Q := fun X d r hk => aw_icmp_ne hd ht hr (fun q => kt q X d r hk) (fun q => kf q X d r hk)
theorem ap_if_ne {x off : Int} (tgt : Nat) (hd : decode M.2.1 pc = .ok (.ifCond .ne off, 3)) (ht : (pc : Int) + off = (tgt : Int)) (hx : rng x)
    (kt : ¬ x = 0 → AP K M tgt L S m Q) (kf : x = 0 → AP K M (pc + 3) L S m Q) : AP K M pc L (.inl x :: S) m Q := fun X d r hk => aw_if_ne hd ht hx (fun q => kt q X d r hk) (fun q => kf q X d r hk)
theorem ap_tswIn {dflt lo hi : Int} {offs : Array Int} {len : Nat} {x off : Int} (tgt : Nat) (hd : decode M.2.1 pc = .ok (.tableswitch dflt lo hi offs, len)) (hr : rng x) (h1 : lo ≤ x) (h2 : x ≤ hi) (ho : offs[(x - lo).toNat]? = some off) (ht : (pc : Int) + off = (tgt : Int))
    (k : AP K M tgt L S m Q) : AP K M pc L (.inl x :: S) m Q := fun X d r hk => aw_tswIn hd hr h1 h2 ho ht (k X d r hk)
theorem ap_tswOut {dflt lo hi : Int} {offs : Array Int} {len : Nat} {x : Int} (tgt : Nat) (hd : decode M.2.1 pc = .ok (.tableswitch dflt lo hi offs, len)) (hr : rng x) (h1 : x < lo ∨ hi < x) (ht : (pc : Int) + dflt = (tgt : Int))
    (k : AP K M tgt L S m Q) : AP K M pc L (.inl x :: S) m Q := fun X d r hk => aw_tswOut hd hr h1 ht (k X d r hk)
theorem ap_lsw {dflt : Int} {ps : Array (Int × Int)} {len : Nat} {x off : Int} (tgt : Nat) (hd : decode M.2.1 pc = .ok (.lookupswitch dflt ps, len)) (hr : rng x) (hp : (ps.toList.zip (ps.toList.drop 1)).all (fun (a, next) => a.1 < next.1) = true) (ho : Op.lookupswitch.offset ps.toList dflt x = off) (ht : (pc : Int) + off = (tgt : Int))
    (k : AP K M tgt L S m Q) : AP K M pc L (.inl x :: S) m Q := fun X d r hk => aw_lsw hd hr hp ho ht (k X d r hk)
theorem ap_getI {idx q ci j : Nat} {jz : Int} {fs : List ShF} (hd : decode M.2.1 pc = .ok (.getfield idx, 3)) (hw : aFl M.1.cls idx ci j) (hc : SH[q]? = some (.inl (ci, fs))) (hj : fs[j]? = some none) (hz : (j : Int) = jz)
    (k : AP K M (pc + 3) L (.inl (m q jz) :: S) m Q) : AP K M pc L (.inr q :: S) m Q := fun X d r hk => aw_getI hd hw hc hj hz (k X d r hk)
theorem ap_getR {idx q ci j r : Nat} {fs : List ShF} (hd : decode M.2.1 pc = .ok (.getfield idx, 3)) (hw : aFl M.1.cls idx ci j) (hc : SH[q]? = some (.inl (ci, fs))) (hj : fs[j]? = some (some (some r)))
    (k : AP K M (pc + 3) L (.inr r :: S) m Q) : AP K M pc L (.inr q :: S) m Q := fun X d r hk => aw_getR hd hw hc hj (k X d r hk)
theorem ap_putI {idx q ci j : Nat} {jz v : Int} {b : Bool} {fs : List ShF} (hd : decode M.2.1 pc = .ok (.putfield idx, 3)) (hw : aFn M.1.cls idx ci j b) (hc : SH[q]? = some (.inl (ci, fs))) (hj : fs[j]? = some none) (hz : (j : Int) = jz) (hb : b = true → v = 0 ∨ v = 1)
    (k : AP K M (pc + 3) L S (am_up m q jz v) Q) : AP K M pc L (.inl v :: .inr q :: S) m Q := fun X d r hk => aw_putI hd hw hc hj hz hb (k X d r hk)
theorem ap_iaload {q n : Nat} {i : Int} (hd : decode M.2.1 pc = .ok (.iaload, 1)) (hc : SH[q]? = some (.inr (.inl (0, n)))) (h0 : 0 ≤ i) (h1 : i < n) (hn : n < 2147483648)
    (k : AP K M (pc + 1) L (.inl (m q i) :: S) m Q) : AP K M pc L (.inl i :: .inr q :: S) m Q := fun X d r hk => aw_iaload hd hc h0 h1 hn (k X d r hk)
theorem ap_baload {q n : Nat} {i : Int} (hd : decode M.2.1 pc = .ok (.baload, 1)) (hc : SH[q]? = some (.inr (.inl (1, n)))) (h0 : 0 ≤ i) (h1 : i < n) (hn : n < 2147483648)
    (k : AP K M (pc + 1) L (.inl (m q i) :: S) m Q) : AP K M pc L (.inl i :: .inr q :: S) m Q := fun X d r hk => aw_baload hd hc h0 h1 hn (k X d r hk)
theorem ap_caload {q n : Nat} {i : Int} (hd : decode M.2.1 pc = .ok (.caload, 1)) (hc : SH[q]? = some (.inr (.inl (2, n)))) (h0 : 0 ≤ i) (h1 : i < n) (hn : n < 2147483648)
    (k : AP K M (pc + 1) L (.inl (m q i) :: S) m Q) : AP K M pc L (.inl i :: .inr q :: S) m Q := fun X d r hk => aw_caload hd hc h0 h1 hn (k X d r hk)
theorem ap_iastore {q n : Nat} {i v : Int} (hd : decode M.2.1 pc = .ok (.iastore, 1)) (hc : SH[q]? = some (.inr (.inl (0, n)))) (h0 : 0 ≤ i) (h1 : i < n) (hn : n < 2147483648) 
    (k : AP K M (pc + 1) L S (am_up m q i v) Q) : AP K M pc L (.inl v :: .inl i :: .inr q :: S) m Q := fun X d r hk => aw_iastore hd hc h0 h1 hn  (k X d r hk)
theorem ap_bastore {q n : Nat} {i v : Int} (hd : decode M.2.1 pc = .ok (.bastore, 1)) (hc : SH[q]? = some (.inr (.inl (1, n)))) (h0 : 0 ≤ i) (h1 : i < n) (hn : n < 2147483648) (hv : v = 0 ∨ v = 1)
    (k : AP K M (pc + 1) L S (am_up m q i v) Q) : AP K M pc L (.inl v :: .inl i :: .inr q :: S) m Q := fun X d r hk => aw_bastore hd hc h0 h1 hn hv (k X d r hk)
theorem ap_castore {q n : Nat} {i v : Int} (hd : decode M.2.1 pc = .ok (.castore, 1)) (hc : SH[q]? = some (.inr (.inl (2, n)))) (h0 : 0 ≤ i) (h1 : i < n) (hn : n < 2147483648) (hv0 : 0 ≤ v) (hv1 : v < 65536)
    (k : AP K M (pc + 1) L S (am_up m q i v) Q) : AP K M pc L (.inl v :: .inl i :: .inr q :: S) m Q := fun X d r hk => aw_castore hd hc h0 h1 hn hv0 hv1 (k X d r hk)
theorem ap_aaload {q r : Nat} {i : Int} {rs : List (Option Nat)} (hd : decode M.2.1 pc = .ok (.aaload, 1)) (hc : SH[q]? = some (.inr (.inr rs))) (h0 : 0 ≤ i) (hr : rs[i.toNat]? = some (some r)) (hn : rs.length < 2147483648)
    (k : AP K M (pc + 1) L (.inr r :: S) m Q) : AP K M pc L (.inl i :: .inr q :: S) m Q := fun X d r hk => aw_aaload hd hc h0 hr hn (k X d r hk)
theorem ap_alen {q t n : Nat} (hd : decode M.2.1 pc = .ok (.arraylength, 1)) (hc : SH[q]? = some (.inr (.inl (t, n)))) (ht : t < 3)
    (k : AP K M (pc + 1) L (.inl (n : Int) :: S) m Q) : AP K M pc L (.inr q :: S) m Q := fun X d r hk => aw_alen hd hc ht (k X d r hk)
theorem ap_sld1001 {i : Int} (hd : decode M.2.1 pc = .ok (.iaload, 1)) (h0 : 0 ≤ i) (h1 : i < 3)
    (k : AP K M (pc + 1) L (.inl (sLeast i.toNat).toInt :: S) m Q) : AP K M pc L (.inl i :: .inr 1001 :: S) m Q := fun X d r hk => aw_sld1001 hd h0 h1 (k X d r hk)
theorem ap_gets1001 {idx : Nat} (hd : decode M.2.1 pc = .ok (.getstatic idx, 3)) (hw : Cond.fieldLink M.1.cls idx RX8 "LEAST_SETTING" "[I" ∈ GW)
    (k : AP K M (pc + 3) L (.inr 1001 :: S) m Q) : AP K M pc L S m Q := fun X d r hk => aw_gets1001 hd hw (k X d r hk)
theorem ap_sld1002 {i : Int} (hd : decode M.2.1 pc = .ok (.iaload, 1)) (h0 : 0 ≤ i) (h1 : i < 3)
    (k : AP K M (pc + 1) L (.inl (sGreat i.toNat).toInt :: S) m Q) : AP K M pc L (.inl i :: .inr 1002 :: S) m Q := fun X d r hk => aw_sld1002 hd h0 h1 (k X d r hk)
theorem ap_gets1002 {idx : Nat} (hd : decode M.2.1 pc = .ok (.getstatic idx, 3)) (hw : Cond.fieldLink M.1.cls idx RX8 "GREATEST_SETTING" "[I" ∈ GW)
    (k : AP K M (pc + 3) L (.inr 1002 :: S) m Q) : AP K M pc L S m Q := fun X d r hk => aw_gets1002 hd hw (k X d r hk)
theorem ap_ireturn {x : Int} (hd : decode M.2.1 pc = .ok (.ireturn, 1)) (ht : M.2.2.2 = some .int) (hq : Q (some x) m) : AP K M pc L [.inl x] m Q := fun X d r hk => aw_ireturn hd (Or.inl ht) SH_len SH_sl ⟨rfl, hq⟩
theorem ap_zreturn {x : Int} (hd : decode M.2.1 pc = .ok (.ireturn, 1)) (ht : M.2.2.2 = some .boolean) (hx : x = 0 ∨ x = 1) (hq : Q (some x) m) : AP K M pc L [.inl x] m Q := fun X d r hk => aw_ireturn hd (Or.inr ⟨ht, hx⟩) SH_len SH_sl ⟨rfl, hq⟩
theorem ap_return (hd : decode M.2.1 pc = .ok (.return_, 1)) (ht : M.2.2.2 = none) (hq : Q none m) : AP K M pc L [] m Q := fun X d r hk => aw_return hd ht SH_len SH_sl ⟨rfl, hq⟩
theorem ap_mmax {idx : Nat} {x y : Int} (hd : decode M.2.1 pc = .ok (.invokestatic idx, 3)) (hl : Cond.methodLink M.1.cls idx Lib.Math.max.name ∈ GW) (hw : Cond.static Lib.Math.max.name ∈ GW ∧ Cond.initialized "java/lang/Math" ∈ GW ∧ Cond.code Lib.Math.max.name Lib.Math.max.code 2 (some .int) ∈ GW) (hK : 1 ≤ K) (hS : S.length ≤ 20) (hx : rng x) (hy0 : rng y)
    (k : AP K M (pc + 3) L (.inl (max x y) :: S) m Q) : AP K M pc L (.inl y :: .inl x :: S) m Q := fun X d r hk => aw_mmax hd hl hw (rk1 hk hK).1 (Nat.le_trans (Nat.add_le_add_right hS 13) (Nat.le_trans (by decide) (rk1 hk hK).2)) hx hy0 (by rw [SH_len]; exact Nat.le_refl _) (by rw [SH_sl]; exact Nat.le_refl _) (k X d r hk)
theorem ap_mmin {idx : Nat} {x y : Int} (hd : decode M.2.1 pc = .ok (.invokestatic idx, 3)) (hl : Cond.methodLink M.1.cls idx Lib.Math.min.name ∈ GW) (hw : Cond.static Lib.Math.min.name ∈ GW ∧ Cond.initialized "java/lang/Math" ∈ GW ∧ Cond.code Lib.Math.min.name Lib.Math.min.code 2 (some .int) ∈ GW) (hK : 1 ≤ K) (hS : S.length ≤ 20) (hx : rng x) (hy0 : rng y)
    (k : AP K M (pc + 3) L (.inl (min x y) :: S) m Q) : AP K M pc L (.inl y :: .inl x :: S) m Q := fun X d r hk => aw_mmin hd hl hw (rk1 hk hK).1 (Nat.le_trans (Nat.add_le_add_right hS 13) (Nat.le_trans (by decide) (rk1 hk hK).2)) hx hy0 (by rw [SH_len]; exact Nat.le_refl _) (by rw [SH_sl]; exact Nat.le_refl _) (k X d r hk)
theorem ap_mabs {idx : Nat} {x : Int} (hd : decode M.2.1 pc = .ok (.invokestatic idx, 3)) (hl : Cond.methodLink M.1.cls idx Lib.Math.abs.name ∈ GW) (hw : Cond.static Lib.Math.abs.name ∈ GW ∧ Cond.initialized "java/lang/Math" ∈ GW ∧ Cond.code Lib.Math.abs.name Lib.Math.abs.code 1 (some .int) ∈ GW) (hK : 1 ≤ K) (hS : S.length ≤ 20) (hx : rng x)
    (k : AP K M (pc + 3) L (.inl (if 0 ≤ x then x else -x) :: S) m Q) : AP K M pc L (.inl x :: S) m Q := fun X d r hk => aw_mabs hd hl hw (rk1 hk hK).1 (Nat.le_trans (Nat.add_le_add_right hS 13) (Nat.le_trans (by decide) (rk1 hk hK).2)) hx (by rw [SH_len]; exact Nat.le_refl _) (by rw [SH_sl]; exact Nat.le_refl _) (k X d r hk)
theorem ap_copy {idx q0 q1 n0' n1' : Nat} {sp dp n : Int} (hd : decode M.2.1 pc = .ok (.invokestatic idx, 3)) (hl : Cond.methodLink M.1.cls idx arraycopyName ∈ GW) (hw : Cond.native arraycopyName ∈ GW ∧ Cond.static arraycopyName ∈ GW ∧ Cond.initialized "java/lang/System" ∈ GW) (hK : 1 ≤ K) (hS : S.length ≤ 18)
    (hc0 : SH[q0]? = some (.inr (.inl (0, n0')))) (hc1 : SH[q1]? = some (.inr (.inl (0, n1')))) (h1 : 0 ≤ sp) (h2 : 0 ≤ dp) (h3 : 0 ≤ n) (h4 : sp + n ≤ n0') (h5 : dp + n ≤ n1') (hs0 : n0' < 2147483648) (hs1 : n1' < 2147483648)
    (k : AP K M (pc + 3) L S (am_cpy m q0 q1 sp dp n) Q) : AP K M pc L (.inl n :: .inl dp :: .inr q1 :: .inl sp :: .inr q0 :: S) m Q := fun X d r hk => aw_copy hd hl hw (rk1 hk hK).1 (by rw [nfw]; exact Nat.le_trans (Nat.add_le_add_right hS 18) (rk1 hk hK).2) hc0 hc1 h1 h2 h3 h4 h5 hs0 hs1 (k X d r hk)
theorem rk_call {K K' d r ml : Nat} (hk : rk K d r) (hK : K' + 1 ≤ K) (hm : ml ≤ 17) : rk K' (d - 1) (r - (19 + ml)) ∧ 1 ≤ d ∧ 19 + ml ≤ r := by
  obtain ⟨h1, h2⟩ := hk
  exact ⟨⟨by omega, by omega⟩, by omega, by omega⟩
theorem ap_invV {idx ci n q K' : Nat} {M' : MI} {av rest : List AV} {fs : List ShF} {Q' : Option Int → AM → Prop} (hd : decode M.2.1 pc = .ok (.invokevirtual idx, 3)) (hb : aMV M.1.cls idx M' ci n) (hc : SH[q]? = some (.inl (ci, fs))) (hM : CS K' M' (.inr q :: av) m Q') (hS : S = av.reverse ++ .inr q :: rest) (hn : av.length = n) (hrest : rest.length ≤ 8) (hK : K' + 1 ≤ K) (hml : M'.2.2.1 ≤ 17)
    (kk : ∀ v m', Q' v m' → AP K M (pc + 3) L (v.toList.map .inl ++ rest) m' Q) : AP K M pc L S m Q := fun X d r hk => by
  obtain ⟨r1, r2, r3⟩ := rk_call hk hK hml
  refine aw_invV hd hb hc hS hn hrest (hM X _ _ r1) r2 r3 (by rw [SH_len]; decide) (aKeep0 _ _ _) (Nat.le_of_eq SH_len) (Nat.le_of_eq SH_sl) (fun v h' hq _ _ => ?_)
  obtain ⟨sh', m'⟩ := h'
  obtain ⟨e, hq⟩ := hq
  simp only at e hq
  subst e
  exact kk v m' hq X d r hk
theorem ap_invS {idx n K' : Nat} {M' : MI} {av rest : List AV} {Q' : Option Int → AM → Prop} (hd : decode M.2.1 pc = .ok (.invokestatic idx, 3)) (hb : aMS M.1.cls idx M' n) (hM : CS K' M' av m Q') (hS : S = av.reverse ++ rest) (hn : av.length = n) (hrest : rest.length ≤ 8) (hK : K' + 1 ≤ K) (hml : M'.2.2.1 ≤ 17)
    (kk : ∀ v m', Q' v m' → AP K M (pc + 3) L (v.toList.map .inl ++ rest) m' Q) : AP K M pc L S m Q := fun X d r hk => by
  obtain ⟨r1, r2, r3⟩ := rk_call hk hK hml
  refine aw_invS hd hb hS hn hrest (hM X _ _ r1) r2 r3 (by rw [SH_len]; decide) (aKeep0 _ _ _) (Nat.le_of_eq SH_len) (Nat.le_of_eq SH_sl) (fun v h' hq _ _ => ?_)
  obtain ⟨sh', m'⟩ := h'
  obtain ⟨e, hq⟩ := hq
  simp only at e hq
  subst e
  exact kk v m' hq X d r hk
end AP
end
section
set_option maxRecDepth 100000 in
theorem gwm (i : Nat) {w : Cond} (h : lw_tbl[i]? = some w) (hg : goodWord w = true) : w ∈ GW := List.mem_filter.mpr ⟨List.mem_of_getElem? h, hg⟩
theorem nwm (i : Nat) {w : Cond} (h : lw_tbl[i]? = some w) (hg : am_nest w = true) : w ∈ NWL := List.mem_filter.mpr ⟨List.mem_of_getElem? h, hg⟩
set_option maxRecDepth 100000 in
theorem inG0 : ∀ w ∈ wsX00, w ∈ GW := by
  intro w hw
  obtain ⟨k, hk, rfl⟩ := List.mem_map.mp hw
  have hk2 := List.mem_range.mp hk
  match k, hk2 with
  | 0, _ => exact (gwm 186 (by rfl) rfl)
  | 1, _ => exact (gwm 188 (by rfl) rfl)
  | 2, _ => exact (gwm 190 (by rfl) rfl)
  | 3, _ => exact (gwm 192 (by rfl) rfl)
  | 4, _ => exact (gwm 194 (by rfl) rfl)
  | k + 5, h => exact absurd h (by omega)
theorem kX0 : aCl 0 RX0 TX0 5 tyX0 := ⟨rfl, inG0, tyX0_ok, nmX0⟩
set_option maxRecDepth 100000 in
theorem inG1 : ∀ w ∈ wsX10, w ∈ GW := by
  intro w hw
  obtain ⟨k, hk, rfl⟩ := List.mem_map.mp hw
  have hk2 := List.mem_range.mp hk
  match k, hk2 with
  | 0, _ => exact (gwm 234 (by rfl) rfl)
  | 1, _ => exact (gwm 236 (by rfl) rfl)
  | 2, _ => exact (gwm 238 (by rfl) rfl)
  | 3, _ => exact (gwm 240 (by rfl) rfl)
  | 4, _ => exact (gwm 242 (by rfl) rfl)
  | 5, _ => exact (gwm 244 (by rfl) rfl)
  | k + 6, h => exact absurd h (by omega)
theorem kX1 : aCl 1 RX1 TX1 6 tyX1 := ⟨rfl, inG1, tyX1_ok, nmX1⟩
set_option maxRecDepth 100000 in
theorem inG2 : ∀ w ∈ wsX20, w ∈ GW := by
  intro w hw
  obtain ⟨k, hk, rfl⟩ := List.mem_map.mp hw
  have hk2 := List.mem_range.mp hk
  match k, hk2 with
  | 0, _ => exact (gwm 210 (by rfl) rfl)
  | 1, _ => exact (gwm 212 (by rfl) rfl)
  | 2, _ => exact (gwm 214 (by rfl) rfl)
  | k + 3, h => exact absurd h (by omega)
theorem kX2 : aCl 2 RX2 TX2 3 tyX2 := ⟨rfl, inG2, tyX2_ok, nmX2⟩
set_option maxRecDepth 100000 in
theorem inG3 : ∀ w ∈ wsX30, w ∈ GW := by
  intro w hw
  obtain ⟨k, hk, rfl⟩ := List.mem_map.mp hw
  have hk2 := List.mem_range.mp hk
  match k, hk2 with
  | 0, _ => exact (gwm 114 (by rfl) rfl)
  | 1, _ => exact (gwm 116 (by rfl) rfl)
  | 2, _ => exact (gwm 118 (by rfl) rfl)
  | 3, _ => exact (gwm 120 (by rfl) rfl)
  | k + 4, h => exact absurd h (by omega)
theorem kX3 : aCl 3 RX3 TX3 4 tyX3 := ⟨rfl, inG3, tyX3_ok, nmX3⟩
set_option maxRecDepth 100000 in
theorem inG4 : ∀ w ∈ wsX40, w ∈ GW := by
  intro w hw
  obtain ⟨k, hk, rfl⟩ := List.mem_map.mp hw
  have hk2 := List.mem_range.mp hk
  match k, hk2 with
  | 0, _ => exact (gwm 268 (by rfl) rfl)
  | 1, _ => exact (gwm 270 (by rfl) rfl)
  | 2, _ => exact (gwm 272 (by rfl) rfl)
  | 3, _ => exact (gwm 274 (by rfl) rfl)
  | 4, _ => exact (gwm 276 (by rfl) rfl)
  | 5, _ => exact (gwm 278 (by rfl) rfl)
  | 6, _ => exact (gwm 280 (by rfl) rfl)
  | 7, _ => exact (gwm 282 (by rfl) rfl)
  | k + 8, h => exact absurd h (by omega)
theorem kX4 : aCl 4 RX4 TX4 8 tyX4 := ⟨rfl, inG4, tyX4_ok, nmX4⟩
set_option maxRecDepth 100000 in
theorem inG5 : ∀ w ∈ wsX50, w ∈ GW := by
  intro w hw
  obtain ⟨k, hk, rfl⟩ := List.mem_map.mp hw
  have hk2 := List.mem_range.mp hk
  match k, hk2 with
  | 0, _ => exact (gwm 145 (by rfl) rfl)
  | 1, _ => exact (gwm 147 (by rfl) rfl)
  | 2, _ => exact (gwm 149 (by rfl) rfl)
  | 3, _ => exact (gwm 151 (by rfl) rfl)
  | 4, _ => exact (gwm 153 (by rfl) rfl)
  | k + 5, h => exact absurd h (by omega)
theorem kX5 : aCl 5 RX5 TX5 5 tyX5 := ⟨rfl, inG5, tyX5_ok, nmX5⟩
set_option maxRecDepth 100000 in
theorem inG6 : ∀ w ∈ wsX60, w ∈ GW := by
  intro w hw
  obtain ⟨k, hk, rfl⟩ := List.mem_map.mp hw
  have hk2 := List.mem_range.mp hk
  match k, hk2 with
  | 0, _ => exact (gwm 298 (by rfl) rfl)
  | 1, _ => exact (gwm 300 (by rfl) rfl)
  | 2, _ => exact (gwm 302 (by rfl) rfl)
  | 3, _ => exact (gwm 304 (by rfl) rfl)
  | k + 4, h => exact absurd h (by omega)
theorem kX6 : aCl 6 RX6 TX6 4 tyX6 := ⟨rfl, inG6, tyX6_ok, nmX6⟩
set_option maxRecDepth 100000 in
theorem inG7 : ∀ w ∈ wsX70, w ∈ GW := by
  intro w hw
  obtain ⟨k, hk, rfl⟩ := List.mem_map.mp hw
  have hk2 := List.mem_range.mp hk
  match k, hk2 with
  | 0, _ => exact (gwm 169 (by rfl) rfl)
  | 1, _ => exact (gwm 171 (by rfl) rfl)
  | k + 2, h => exact absurd h (by omega)
theorem kX7 : aCl 7 RX7 TX7 2 tyX7 := ⟨rfl, inG7, tyX7_ok, nmX7⟩
set_option maxRecDepth 100000 in
theorem inG8 : ∀ w ∈ wsX80, w ∈ GW := by
  intro w hw
  obtain ⟨k, hk, rfl⟩ := List.mem_map.mp hw
  have hk2 := List.mem_range.mp hk
  match k, hk2 with
  | 0, _ => exact (gwm 315 (by rfl) rfl)
  | 1, _ => exact (gwm 317 (by rfl) rfl)
  | 2, _ => exact (gwm 319 (by rfl) rfl)
  | 3, _ => exact (gwm 321 (by rfl) rfl)
  | 4, _ => exact (gwm 323 (by rfl) rfl)
  | 5, _ => exact (gwm 325 (by rfl) rfl)
  | 6, _ => exact (gwm 327 (by rfl) rfl)
  | k + 7, h => exact absurd h (by omega)
theorem kX8 : aCl 8 RX8 TX8 7 tyX8 := ⟨rfl, inG8, tyX8_ok, nmX8⟩
set_option maxRecDepth 100000 in
theorem inG9 : ∀ w ∈ wsX90, w ∈ GW := by
  intro w hw
  obtain ⟨k, hk, rfl⟩ := List.mem_map.mp hw
  have hk2 := List.mem_range.mp hk
  match k, hk2 with
  | 0, _ => exact (gwm 675 (by rfl) rfl)
  | 1, _ => exact (gwm 677 (by rfl) rfl)
  | 2, _ => exact (gwm 679 (by rfl) rfl)
  | 3, _ => exact (gwm 681 (by rfl) rfl)
  | 4, _ => exact (gwm 683 (by rfl) rfl)
  | 5, _ => exact (gwm 685 (by rfl) rfl)
  | 6, _ => exact (gwm 687 (by rfl) rfl)
  | 7, _ => exact (gwm 689 (by rfl) rfl)
  | 8, _ => exact (gwm 691 (by rfl) rfl)
  | 9, _ => exact (gwm 693 (by rfl) rfl)
  | 10, _ => exact (gwm 695 (by rfl) rfl)
  | 11, _ => exact (gwm 697 (by rfl) rfl)
  | k + 12, h => exact absurd h (by omega)
theorem kX9 : aCl 9 RX9 TX9 12 tyX9 := ⟨rfl, inG9, tyX9_ok, nmX9⟩
abbrev mX8_init : MI := (yX8_init, cX8_init, 1, none)
abbrev mX8_bestHeat : MI := (yX8_bestHeat, cX8_bestHeat, 5, (some .int))
abbrev mX8_bringPlanUpToDate : MI := (yX8_bringPlanUpToDate, cX8_bringPlanUpToDate, 1, none)
abbrev mX8_clean : MI := (yX8_clean, cX8_clean, 2, (some .int))
abbrev mX8_clearText : MI := (yX8_clearText, cX8_clearText, 2, (some .int))
abbrev mX8_color : MI := (yX8_color, cX8_color, 4, (some .int))
abbrev mX8_colorInfo : MI := (yX8_colorInfo, cX8_colorInfo, 3, (some .int))
abbrev mX8_copyRow : MI := (yX8_copyRow, cX8_copyRow, 2, none)
abbrev mX8_count : MI := (yX8_count, cX8_count, 2, (some .int))
abbrev mX8_counter : MI := (yX8_counter, cX8_counter, 5, (some .int))
abbrev mX8_fault : MI := (yX8_fault, cX8_fault, 2, (some .int))
abbrev mX8_field : MI := (yX8_field, cX8_field, 3, (some .int))
abbrev mX8_fire : MI := (yX8_fire, cX8_fire, 3, (some .int))
abbrev mX8_ifFired : MI := (yX8_ifFired, cX8_ifFired, 3, (some .int))
abbrev mX8_isColor : MI := (yX8_isColor, cX8_isColor, 2, (some .boolean))
abbrev mX8_isField : MI := (yX8_isField, cX8_isField, 1, (some .boolean))
abbrev mX8_isFrontField : MI := (yX8_isFrontField, cX8_isFrontField, 1, (some .boolean))
abbrev mX8_layer : MI := (yX8_layer, cX8_layer, 5, (some .int))
abbrev mX8_leastFirings : MI := (yX8_leastFirings, cX8_leastFirings, 1, (some .int))
abbrev mX8_placeOf : MI := (yX8_placeOf, cX8_placeOf, 2, (some .int))
abbrev mX8_planned : MI := (yX8_planned, cX8_planned, 3, (some .int))
abbrev mX8_put : MI := (yX8_put, cX8_put, 3, (some .int))
abbrev mX8_read : MI := (yX8_read, cX8_read, 1, (some .int))
abbrev mX8_set : MI := (yX8_set, cX8_set, 4, (some .int))
abbrev mX8_takeOff : MI := (yX8_takeOff, cX8_takeOff, 2, (some .int))
abbrev mX8_tryHeat : MI := (yX8_tryHeat, cX8_tryHeat, 2, none)
abbrev mX8_type : MI := (yX8_type, cX8_type, 2, (some .int))
abbrev mX8_undo : MI := (yX8_undo, cX8_undo, 1, (some .int))
abbrev mX8_wish : MI := (yX8_wish, cX8_wish, 3, (some .int))
abbrev mX8_wished : MI := (yX8_wished, cX8_wished, 3, (some .int))
abbrev mX8_within : MI := (yX8_within, cX8_within, 3, (some .boolean))
abbrev mX0_init : MI := (yX0_init, cX0_init, 1, none)
abbrev mX0_copyFrom : MI := (yX0_copyFrom, cX0_copyFrom, 2, none)
abbrev mX1_init : MI := (yX1_init, cX1_init, 1, none)
abbrev mX1_coolField : MI := (yX1_coolField, cX1_coolField, 4, none)
abbrev mX1_happen : MI := (yX1_happen, cX1_happen, 8, none)
abbrev mX1_heatLayer : MI := (yX1_heatLayer, cX1_heatLayer, 8, none)
abbrev mX1_mendField : MI := (yX1_mendField, cX1_mendField, 4, none)
abbrev mX1_soften : MI := (yX1_soften, cX1_soften, 4, none)
abbrev mX2_init : MI := (yX2_init, cX2_init, 1, none)
abbrev mX2_keep : MI := (yX2_keep, cX2_keep, 2, none)
abbrev mX2_restore : MI := (yX2_restore, cX2_restore, 2, none)
abbrev mX3_init : MI := (yX3_init, cX3_init, 1, none)
abbrev mX3_append : MI := (yX3_append, cX3_append, 4, (some .int))
abbrev mX3_copyFrom : MI := (yX3_copyFrom, cX3_copyFrom, 2, none)
abbrev mX3_pullOf : MI := (yX3_pullOf, cX3_pullOf, 2, (some .int))
abbrev mX4_init : MI := (yX4_init, cX4_init, 3, none)
abbrev mX4_bestSet : MI := (yX4_bestSet, cX4_bestSet, 10, (some .int))
abbrev mX4_burningOfPut : MI := (yX4_burningOfPut, cX4_burningOfPut, 7, (some .int))
abbrev mX4_isStage : MI := (yX4_isStage, cX4_isStage, 3, (some .boolean))
abbrev mX4_lastStage : MI := (yX4_lastStage, cX4_lastStage, 3, (some .int))
abbrev mX4_layersAt : MI := (yX4_layersAt, cX4_layersAt, 2, (some .int))
abbrev mX4_lookAtNext : MI := (yX4_lookAtNext, cX4_lookAtNext, 8, (some .int))
abbrev mX4_search : MI := (yX4_search, cX4_search, 6, none)
abbrev mX5_init : MI := (yX5_init, cX5_init, 1, none)
abbrev mX5_append : MI := (yX5_append, cX5_append, 5, (some .int))
abbrev mX5_copyFrom : MI := (yX5_copyFrom, cX5_copyFrom, 2, none)
abbrev mX5_crackedFields : MI := (yX5_crackedFields, cX5_crackedFields, 3, (some .int))
abbrev mX5_greatestStrainWith : MI := (yX5_greatestStrainWith, cX5_greatestStrainWith, 6, (some .int))
abbrev mX5_hasHold : MI := (yX5_hasHold, cX5_hasHold, 3, (some .boolean))
abbrev mX5_heatThatMelts : MI := (yX5_heatThatMelts, cX5_heatThatMelts, 5, (some .int))
abbrev mX5_heatThatSpares : MI := (yX5_heatThatSpares, cX5_heatThatSpares, 7, (some .int))
abbrev mX5_holdsOn : MI := (yX5_holdsOn, cX5_holdsOn, 2, (some .boolean))
abbrev mX5_layers : MI := (yX5_layers, cX5_layers, 3, (some .int))
abbrev mX5_layersOfColor : MI := (yX5_layersOfColor, cX5_layersOfColor, 2, (some .int))
abbrev mX5_layersOfState : MI := (yX5_layersOfState, cX5_layersOfState, 2, (some .int))
abbrev mX5_layersWith : MI := (yX5_layersWith, cX5_layersWith, 6, (some .int))
abbrev mX5_makeBare : MI := (yX5_makeBare, cX5_makeBare, 2, none)
abbrev mX5_outermostIsRaw : MI := (yX5_outermostIsRaw, cX5_outermostIsRaw, 2, (some .boolean))
abbrev mX5_pullOf : MI := (yX5_pullOf, cX5_pullOf, 6, (some .int))
abbrev mX5_removeOutermost : MI := (yX5_removeOutermost, cX5_removeOutermost, 2, (some .int))
abbrev mX5_strainOf : MI := (yX5_strainOf, cX5_strainOf, 3, (some .int))
abbrev mX6_init : MI := (yX6_init, cX6_init, 1, none)
abbrev mX6_append : MI := (yX6_append, cX6_append, 2, (some .int))
abbrev mX6_giveTo : MI := (yX6_giveTo, cX6_giveTo, 6, (some .int))
abbrev mX6_hasFault : MI := (yX6_hasFault, cX6_hasFault, 1, (some .boolean))
abbrev mX6_isFieldDigit : MI := (yX6_isFieldDigit, cX6_isFieldDigit, 1, (some .boolean))
abbrev mX6_isLetter : MI := (yX6_isLetter, cX6_isLetter, 1, (some .boolean))
abbrev mX6_lookForFault : MI := (yX6_lookForFault, cX6_lookForFault, 5, none)
abbrev mX6_reasonOf : MI := (yX6_reasonOf, cX6_reasonOf, 3, (some .int))
abbrev mX7_init : MI := (yX7_init, cX7_init, 1, none)
abbrev mX7_append : MI := (yX7_append, cX7_append, 3, none)
abbrev mX7_colorsTogether : MI := (yX7_colorsTogether, cX7_colorsTogether, 3, (some .int))
abbrev mX7_copyFrom : MI := (yX7_copyFrom, cX7_copyFrom, 2, none)
abbrev mX7_timesOfColor : MI := (yX7_timesOfColor, cX7_timesOfColor, 5, (some .int))
abbrev mX9_init : MI := (yX9_init, cX9_init, 1, none)
abbrev mX9_allLayers : MI := (yX9_allLayers, cX9_allLayers, 5, (some .int))
abbrev mX9_becomes : MI := (yX9_becomes, cX9_becomes, 7, (some .boolean))
abbrev mX9_behind : MI := (yX9_behind, cX9_behind, 9, (some .int))
abbrev mX9_bestHeat : MI := (yX9_bestHeat, cX9_bestHeat, 5, (some .int))
abbrev mX9_burning : MI := (yX9_burning, cX9_burning, 2, (some .int))
abbrev mX9_cap : MI := (yX9_cap, cX9_cap, 6, (some .int))
abbrev mX9_clean : MI := (yX9_clean, cX9_clean, 3, (some .int))
abbrev mX9_clearText : MI := (yX9_clearText, cX9_clearText, 2, (some .int))
abbrev mX9_color : MI := (yX9_color, cX9_color, 5, (some .int))
abbrev mX9_colorInfo : MI := (yX9_colorInfo, cX9_colorInfo, 3, (some .int))
abbrev mX9_count : MI := (yX9_count, cX9_count, 2, (some .int))
abbrev mX9_counter : MI := (yX9_counter, cX9_counter, 7, (some .int))
abbrev mX9_crackedOnes : MI := (yX9_crackedOnes, cX9_crackedOnes, 3, (some .int))
abbrev mX9_digit : MI := (yX9_digit, cX9_digit, 2, (some .int))
abbrev mX9_fault : MI := (yX9_fault, cX9_fault, 2, (some .int))
abbrev mX9_field : MI := (yX9_field, cX9_field, 3, (some .int))
abbrev mX9_fieldAt : MI := (yX9_fieldAt, cX9_fieldAt, 1, (some .int))
abbrev mX9_fire : MI := (yX9_fire, cX9_fire, 4, (some .int))
abbrev mX9_fires : MI := (yX9_fires, cX9_fires, 7, none)
abbrev mX9_greatestMelting : MI := (yX9_greatestMelting, cX9_greatestMelting, 5, (some .int))
abbrev mX9_ifFired : MI := (yX9_ifFired, cX9_ifFired, 3, (some .int))
abbrev mX9_in : MI := (yX9_in, cX9_in, 3, (some .boolean))
abbrev mX9_inWishes : MI := (yX9_inWishes, cX9_inWishes, 5, (some .int))
abbrev mX9_isColor : MI := (yX9_isColor, cX9_isColor, 2, (some .boolean))
abbrev mX9_isField : MI := (yX9_isField, cX9_isField, 1, (some .boolean))
abbrev mX9_isFront : MI := (yX9_isFront, cX9_isFront, 1, (some .boolean))
abbrev mX9_isHeat : MI := (yX9_isHeat, cX9_isHeat, 1, (some .boolean))
abbrev mX9_isSetting : MI := (yX9_isSetting, cX9_isSetting, 2, (some .boolean))
abbrev mX9_isWithin : MI := (yX9_isWithin, cX9_isWithin, 4, (some .boolean))
abbrev mX9_layer : MI := (yX9_layer, cX9_layer, 4, (some .int))
abbrev mX9_layerAt : MI := (yX9_layerAt, cX9_layerAt, 2, (some .int))
abbrev mX9_layers : MI := (yX9_layers, cX9_layers, 2, (some .int))
abbrev mX9_layersWith : MI := (yX9_layersWith, cX9_layersWith, 6, (some .int))
abbrev mX9_leastBurning : MI := (yX9_leastBurning, cX9_leastBurning, 5, (some .int))
abbrev mX9_leastFirings : MI := (yX9_leastFirings, cX9_leastFirings, 1, (some .int))
abbrev mX9_melting : MI := (yX9_melting, cX9_melting, 2, (some .int))
abbrev mX9_of : MI := (yX9_of, cX9_of, 4, (some .int))
abbrev mX9_onPlate : MI := (yX9_onPlate, cX9_onPlate, 5, (some .int))
abbrev mX9_planned : MI := (yX9_planned, cX9_planned, 8, (some .int))
abbrev mX9_plans : MI := (yX9_plans, cX9_plans, 7, none)
abbrev mX9_pull : MI := (yX9_pull, cX9_pull, 4, (some .int))
abbrev mX9_pullOf : MI := (yX9_pullOf, cX9_pullOf, 2, (some .int))
abbrev mX9_put : MI := (yX9_put, cX9_put, 4, (some .int))
abbrev mX9_read : MI := (yX9_read, cX9_read, 2, (some .int))
abbrev mX9_reads : MI := (yX9_reads, cX9_reads, 8, (some .boolean))
abbrev mX9_records : MI := (yX9_records, cX9_records, 2, none)
abbrev mX9_set : MI := (yX9_set, cX9_set, 4, (some .int))
abbrev mX9_strain : MI := (yX9_strain, cX9_strain, 4, (some .int))
abbrev mX9_takeOff : MI := (yX9_takeOff, cX9_takeOff, 3, (some .int))
abbrev mX9_tries : MI := (yX9_tries, cX9_tries, 4, none)
abbrev mX9_type : MI := (yX9_type, cX9_type, 2, (some .int))
abbrev mX9_undo : MI := (yX9_undo, cX9_undo, 2, (some .int))
abbrev mX9_wish : MI := (yX9_wish, cX9_wish, 4, (some .int))
abbrev mX9_wished : MI := (yX9_wished, cX9_wished, 3, (some .int))
abbrev mX9_wishedOnes : MI := (yX9_wishedOnes, cX9_wishedOnes, 3, (some .int))
abbrev mL_law : MI := (yL_law, cL_law, 4, some .boolean)
set_option maxRecDepth 100000 in
theorem fl_RX8_10 : aFl RX8 10 8 0 := ⟨RX8, TX8, 7, tyX8, kX8, by decide, rfl, Or.inl (gwm 308 (by rfl) rfl)⟩
set_option maxRecDepth 100000 in
theorem ff_RX8_10 : aFf RX8 10 8 0 := ⟨RX8, TX8, 7, tyX8, kX8, by decide, rfl, rfl, (gwm 308 (by rfl) rfl), rfl, fun a => ⟨rfl, rfl⟩⟩
set_option maxRecDepth 100000 in
theorem fl_RX8_19 : aFl RX8 19 8 1 := ⟨RX8, TX8, 7, tyX8, kX8, by decide, rfl, Or.inl (gwm 309 (by rfl) rfl)⟩
set_option maxRecDepth 100000 in
theorem ff_RX8_19 : aFf RX8 19 8 1 := ⟨RX8, TX8, 7, tyX8, kX8, by decide, rfl, rfl, (gwm 309 (by rfl) rfl), rfl, fun a => ⟨rfl, rfl⟩⟩
set_option maxRecDepth 100000 in
theorem fl_RX8_26 : aFl RX8 26 8 2 := ⟨RX8, TX8, 7, tyX8, kX8, by decide, rfl, Or.inl (gwm 310 (by rfl) rfl)⟩
set_option maxRecDepth 100000 in
theorem ff_RX8_26 : aFf RX8 26 8 2 := ⟨RX8, TX8, 7, tyX8, kX8, by decide, rfl, rfl, (gwm 310 (by rfl) rfl), rfl, fun a => ⟨rfl, rfl⟩⟩
set_option maxRecDepth 100000 in
theorem fl_RX8_33 : aFl RX8 33 8 3 := ⟨RX8, TX8, 7, tyX8, kX8, by decide, rfl, Or.inl (gwm 311 (by rfl) rfl)⟩
set_option maxRecDepth 100000 in
theorem ff_RX8_33 : aFf RX8 33 8 3 := ⟨RX8, TX8, 7, tyX8, kX8, by decide, rfl, rfl, (gwm 311 (by rfl) rfl), rfl, fun a => ⟨rfl, rfl⟩⟩
set_option maxRecDepth 100000 in
theorem fl_RX8_40 : aFl RX8 40 8 4 := ⟨RX8, TX8, 7, tyX8, kX8, by decide, rfl, Or.inl (gwm 312 (by rfl) rfl)⟩
set_option maxRecDepth 100000 in
theorem ff_RX8_40 : aFf RX8 40 8 4 := ⟨RX8, TX8, 7, tyX8, kX8, by decide, rfl, rfl, (gwm 312 (by rfl) rfl), rfl, fun a => ⟨rfl, rfl⟩⟩
set_option maxRecDepth 100000 in
theorem fl_RX8_47 : aFl RX8 47 8 5 := ⟨RX8, TX8, 7, tyX8, kX8, by decide, rfl, Or.inl (gwm 313 (by rfl) rfl)⟩
set_option maxRecDepth 100000 in
theorem ff_RX8_47 : aFf RX8 47 8 5 := ⟨RX8, TX8, 7, tyX8, kX8, by decide, rfl, rfl, (gwm 313 (by rfl) rfl), rfl, fun a => ⟨rfl, rfl⟩⟩
set_option maxRecDepth 100000 in
theorem fl_RX8_51 : aFl RX8 51 8 6 := ⟨RX8, TX8, 7, tyX8, kX8, by decide, rfl, Or.inl (gwm 314 (by rfl) rfl)⟩
set_option maxRecDepth 100000 in
theorem fn_RX8_51 : aFn RX8 51 8 6 true := ⟨RX8, TX8, 7, tyX8, kX8, by decide, rfl, Or.inl (gwm 314 (by rfl) rfl), rfl, rfl⟩
set_option maxRecDepth 100000 in
theorem fl_RX8_59 : aFl RX8 59 0 0 := ⟨RX0, TX0, 5, tyX0, kX0, by decide, rfl, Or.inr ⟨_, (nwm 175 (by rfl) rfl)⟩⟩
set_option maxRecDepth 100000 in
theorem fl_RX8_63 : aFl RX8 63 3 3 := ⟨RX3, TX3, 4, tyX3, kX3, by decide, rfl, Or.inr ⟨_, (nwm 113 (by rfl) rfl)⟩⟩
set_option maxRecDepth 100000 in
theorem fn_RX8_63 : aFn RX8 63 3 3 false := ⟨RX3, TX3, 4, tyX3, kX3, by decide, rfl, Or.inr ⟨_, (nwm 113 (by rfl) rfl)⟩, rfl, rfl⟩
set_option maxRecDepth 100000 in
theorem fl_RX8_81 : aFl RX8 81 3 0 := ⟨RX3, TX3, 4, tyX3, kX3, by decide, rfl, Or.inr ⟨_, (nwm 102 (by rfl) rfl)⟩⟩
set_option maxRecDepth 100000 in
theorem fl_RX8_85 : aFl RX8 85 3 1 := ⟨RX3, TX3, 4, tyX3, kX3, by decide, rfl, Or.inr ⟨_, (nwm 107 (by rfl) rfl)⟩⟩
set_option maxRecDepth 100000 in
theorem fl_RX8_88 : aFl RX8 88 3 2 := ⟨RX3, TX3, 4, tyX3, kX3, by decide, rfl, Or.inr ⟨_, (nwm 111 (by rfl) rfl)⟩⟩
set_option maxRecDepth 100000 in
theorem fl_RX8_95 : aFl RX8 95 0 1 := ⟨RX0, TX0, 5, tyX0, kX0, by decide, rfl, Or.inr ⟨_, (nwm 178 (by rfl) rfl)⟩⟩
set_option maxRecDepth 100000 in
theorem fl_RX8_101 : aFl RX8 101 0 2 := ⟨RX0, TX0, 5, tyX0, kX0, by decide, rfl, Or.inr ⟨_, (nwm 180 (by rfl) rfl)⟩⟩
set_option maxRecDepth 100000 in
theorem fl_RX8_116 : aFl RX8 116 5 0 := ⟨RX5, TX5, 5, tyX5, kX5, by decide, rfl, Or.inr ⟨_, (nwm 132 (by rfl) rfl)⟩⟩
set_option maxRecDepth 100000 in
theorem fl_RX8_119 : aFl RX8 119 0 4 := ⟨RX0, TX0, 5, tyX0, kX0, by decide, rfl, Or.inr ⟨_, (nwm 185 (by rfl) rfl)⟩⟩
set_option maxRecDepth 100000 in
theorem fl_RX8_138 : aFl RX8 138 5 1 := ⟨RX5, TX5, 5, tyX5, kX5, by decide, rfl, Or.inr ⟨_, (nwm 135 (by rfl) rfl)⟩⟩
set_option maxRecDepth 100000 in
theorem fl_RX8_141 : aFl RX8 141 5 2 := ⟨RX5, TX5, 5, tyX5, kX5, by decide, rfl, Or.inr ⟨_, (nwm 138 (by rfl) rfl)⟩⟩
set_option maxRecDepth 100000 in
theorem fl_RX8_144 : aFl RX8 144 5 3 := ⟨RX5, TX5, 5, tyX5, kX5, by decide, rfl, Or.inr ⟨_, (nwm 141 (by rfl) rfl)⟩⟩
set_option maxRecDepth 100000 in
theorem fl_RX8_153 : aFl RX8 153 5 4 := ⟨RX5, TX5, 5, tyX5, kX5, by decide, rfl, Or.inr ⟨_, (nwm 144 (by rfl) rfl)⟩⟩
set_option maxRecDepth 100000 in
theorem fl_RX8_168 : aFl RX8 168 0 3 := ⟨RX0, TX0, 5, tyX0, kX0, by decide, rfl, Or.inr ⟨_, (nwm 183 (by rfl) rfl)⟩⟩
set_option maxRecDepth 100000 in
theorem fl_RX8_180 : aFl RX8 180 2 2 := ⟨RX2, TX2, 3, tyX2, kX2, by decide, rfl, Or.inr ⟨_, (nwm 209 (by rfl) rfl)⟩⟩
set_option maxRecDepth 100000 in
theorem fn_RX8_180 : aFn RX8 180 2 2 false := ⟨RX2, TX2, 3, tyX2, kX2, by decide, rfl, Or.inr ⟨_, (nwm 209 (by rfl) rfl)⟩, rfl, rfl⟩
set_option maxRecDepth 100000 in
theorem fl_RX8_181 : aFl RX8 181 6 1 := ⟨RX6, TX6, 4, tyX6, kX6, by decide, rfl, Or.inr ⟨_, (nwm 293 (by rfl) rfl)⟩⟩
set_option maxRecDepth 100000 in
theorem fn_RX8_181 : aFn RX8 181 6 1 false := ⟨RX6, TX6, 4, tyX6, kX6, by decide, rfl, Or.inr ⟨_, (nwm 293 (by rfl) rfl)⟩, rfl, rfl⟩
set_option maxRecDepth 100000 in
theorem fl_RX8_188 : aFl RX8 188 1 1 := ⟨RX1, TX1, 6, tyX1, kX1, by decide, rfl, Or.inr ⟨_, (nwm 225 (by rfl) rfl)⟩⟩
set_option maxRecDepth 100000 in
theorem fn_RX8_188 : aFn RX8 188 1 1 false := ⟨RX1, TX1, 6, tyX1, kX1, by decide, rfl, Or.inr ⟨_, (nwm 225 (by rfl) rfl)⟩, rfl, rfl⟩
set_option maxRecDepth 100000 in
theorem fl_RX8_191 : aFl RX8 191 1 3 := ⟨RX1, TX1, 6, tyX1, kX1, by decide, rfl, Or.inr ⟨_, (nwm 229 (by rfl) rfl)⟩⟩
set_option maxRecDepth 100000 in
theorem fn_RX8_191 : aFn RX8 191 1 3 false := ⟨RX1, TX1, 6, tyX1, kX1, by decide, rfl, Or.inr ⟨_, (nwm 229 (by rfl) rfl)⟩, rfl, rfl⟩
set_option maxRecDepth 100000 in
theorem fl_RX8_194 : aFl RX8 194 1 2 := ⟨RX1, TX1, 6, tyX1, kX1, by decide, rfl, Or.inr ⟨_, (nwm 227 (by rfl) rfl)⟩⟩
set_option maxRecDepth 100000 in
theorem fn_RX8_194 : aFn RX8 194 1 2 false := ⟨RX1, TX1, 6, tyX1, kX1, by decide, rfl, Or.inr ⟨_, (nwm 227 (by rfl) rfl)⟩, rfl, rfl⟩
set_option maxRecDepth 100000 in
theorem fl_RX8_197 : aFl RX8 197 1 4 := ⟨RX1, TX1, 6, tyX1, kX1, by decide, rfl, Or.inr ⟨_, (nwm 231 (by rfl) rfl)⟩⟩
set_option maxRecDepth 100000 in
theorem fn_RX8_197 : aFn RX8 197 1 4 false := ⟨RX1, TX1, 6, tyX1, kX1, by decide, rfl, Or.inr ⟨_, (nwm 231 (by rfl) rfl)⟩, rfl, rfl⟩
set_option maxRecDepth 100000 in
theorem fl_RX8_199 : aFl RX8 199 1 5 := ⟨RX1, TX1, 6, tyX1, kX1, by decide, rfl, Or.inr ⟨_, (nwm 233 (by rfl) rfl)⟩⟩
set_option maxRecDepth 100000 in
theorem fn_RX8_199 : aFn RX8 199 1 5 false := ⟨RX1, TX1, 6, tyX1, kX1, by decide, rfl, Or.inr ⟨_, (nwm 233 (by rfl) rfl)⟩, rfl, rfl⟩
set_option maxRecDepth 100000 in
theorem fl_RX8_209 : aFl RX8 209 7 0 := ⟨RX7, TX7, 2, tyX7, kX7, by decide, rfl, Or.inr ⟨_, (nwm 165 (by rfl) rfl)⟩⟩
set_option maxRecDepth 100000 in
theorem fl_RX8_213 : aFl RX8 213 7 1 := ⟨RX7, TX7, 2, tyX7, kX7, by decide, rfl, Or.inr ⟨_, (nwm 168 (by rfl) rfl)⟩⟩
set_option maxRecDepth 100000 in
theorem fl_RX8_217 : aFl RX8 217 4 7 := ⟨RX4, TX4, 8, tyX4, kX4, by decide, rfl, Or.inr ⟨_, (nwm 267 (by rfl) rfl)⟩⟩
set_option maxRecDepth 100000 in
theorem fn_RX8_217 : aFn RX8 217 4 7 true := ⟨RX4, TX4, 8, tyX4, kX4, by decide, rfl, Or.inr ⟨_, (nwm 267 (by rfl) rfl)⟩, rfl, rfl⟩
set_option maxRecDepth 100000 in
theorem fl_RX8_220 : aFl RX8 220 4 6 := ⟨RX4, TX4, 8, tyX4, kX4, by decide, rfl, Or.inr ⟨_, (nwm 265 (by rfl) rfl)⟩⟩
set_option maxRecDepth 100000 in
theorem fn_RX8_220 : aFn RX8 220 4 6 false := ⟨RX4, TX4, 8, tyX4, kX4, by decide, rfl, Or.inr ⟨_, (nwm 265 (by rfl) rfl)⟩, rfl, rfl⟩
set_option maxRecDepth 100000 in
theorem fl_RX8_221 : aFl RX8 221 4 4 := ⟨RX4, TX4, 8, tyX4, kX4, by decide, rfl, Or.inr ⟨_, (nwm 261 (by rfl) rfl)⟩⟩
set_option maxRecDepth 100000 in
theorem fl_RX8_224 : aFl RX8 224 4 5 := ⟨RX4, TX4, 8, tyX4, kX4, by decide, rfl, Or.inr ⟨_, (nwm 263 (by rfl) rfl)⟩⟩
set_option maxRecDepth 100000 in
theorem fl_RX8_243 : aFl RX8 243 6 2 := ⟨RX6, TX6, 4, tyX6, kX6, by decide, rfl, Or.inr ⟨_, (nwm 295 (by rfl) rfl)⟩⟩
set_option maxRecDepth 100000 in
theorem fn_RX8_243 : aFn RX8 243 6 2 false := ⟨RX6, TX6, 4, tyX6, kX6, by decide, rfl, Or.inr ⟨_, (nwm 295 (by rfl) rfl)⟩, rfl, rfl⟩
set_option maxRecDepth 100000 in
theorem fl_RX8_246 : aFl RX8 246 6 3 := ⟨RX6, TX6, 4, tyX6, kX6, by decide, rfl, Or.inr ⟨_, (nwm 297 (by rfl) rfl)⟩⟩
set_option maxRecDepth 100000 in
theorem fn_RX8_246 : aFn RX8 246 6 3 false := ⟨RX6, TX6, 4, tyX6, kX6, by decide, rfl, Or.inr ⟨_, (nwm 297 (by rfl) rfl)⟩, rfl, rfl⟩
set_option maxRecDepth 100000 in
theorem fl_RX0_12 : aFl RX0 12 0 0 := ⟨RX0, TX0, 5, tyX0, kX0, by decide, rfl, Or.inl (gwm 174 (by rfl) rfl)⟩
set_option maxRecDepth 100000 in
theorem ff_RX0_12 : aFf RX0 12 0 0 := ⟨RX0, TX0, 5, tyX0, kX0, by decide, rfl, rfl, (gwm 174 (by rfl) rfl), rfl, fun a => ⟨rfl, rfl⟩⟩
set_option maxRecDepth 100000 in
theorem fl_RX0_21 : aFl RX0 21 0 1 := ⟨RX0, TX0, 5, tyX0, kX0, by decide, rfl, Or.inl (gwm 177 (by rfl) rfl)⟩
set_option maxRecDepth 100000 in
theorem ff_RX0_21 : aFf RX0 21 0 1 := ⟨RX0, TX0, 5, tyX0, kX0, by decide, rfl, rfl, (gwm 177 (by rfl) rfl), rfl, fun a => ⟨rfl, rfl⟩⟩
set_option maxRecDepth 100000 in
theorem fl_RX0_28 : aFl RX0 28 0 2 := ⟨RX0, TX0, 5, tyX0, kX0, by decide, rfl, Or.inl (gwm 179 (by rfl) rfl)⟩
set_option maxRecDepth 100000 in
theorem ff_RX0_28 : aFf RX0 28 0 2 := ⟨RX0, TX0, 5, tyX0, kX0, by decide, rfl, rfl, (gwm 179 (by rfl) rfl), rfl, fun a => ⟨rfl, rfl⟩⟩
set_option maxRecDepth 100000 in
theorem fl_RX0_32 : aFl RX0 32 0 3 := ⟨RX0, TX0, 5, tyX0, kX0, by decide, rfl, Or.inl (gwm 181 (by rfl) rfl)⟩
set_option maxRecDepth 100000 in
theorem ff_RX0_32 : aFf RX0 32 0 3 := ⟨RX0, TX0, 5, tyX0, kX0, by decide, rfl, rfl, (gwm 181 (by rfl) rfl), rfl, fun a => ⟨rfl, rfl⟩⟩
set_option maxRecDepth 100000 in
theorem fl_RX0_36 : aFl RX0 36 0 4 := ⟨RX0, TX0, 5, tyX0, kX0, by decide, rfl, Or.inl (gwm 184 (by rfl) rfl)⟩
set_option maxRecDepth 100000 in
theorem ff_RX0_36 : aFf RX0 36 0 4 := ⟨RX0, TX0, 5, tyX0, kX0, by decide, rfl, rfl, (gwm 184 (by rfl) rfl), rfl, fun a => ⟨rfl, rfl⟩⟩
set_option maxRecDepth 100000 in
theorem fl_RX1_9 : aFl RX1 9 1 0 := ⟨RX1, TX1, 6, tyX1, kX1, by decide, rfl, Or.inl (gwm 223 (by rfl) rfl)⟩
set_option maxRecDepth 100000 in
theorem ff_RX1_9 : aFf RX1 9 1 0 := ⟨RX1, TX1, 6, tyX1, kX1, by decide, rfl, rfl, (gwm 223 (by rfl) rfl), rfl, fun a => ⟨rfl, rfl⟩⟩
set_option maxRecDepth 100000 in
theorem fl_RX1_15 : aFl RX1 15 1 1 := ⟨RX1, TX1, 6, tyX1, kX1, by decide, rfl, Or.inl (gwm 224 (by rfl) rfl)⟩
set_option maxRecDepth 100000 in
theorem fn_RX1_15 : aFn RX1 15 1 1 false := ⟨RX1, TX1, 6, tyX1, kX1, by decide, rfl, Or.inl (gwm 224 (by rfl) rfl), rfl, rfl⟩
set_option maxRecDepth 100000 in
theorem fl_RX1_19 : aFl RX1 19 1 2 := ⟨RX1, TX1, 6, tyX1, kX1, by decide, rfl, Or.inl (gwm 226 (by rfl) rfl)⟩
set_option maxRecDepth 100000 in
theorem fn_RX1_19 : aFn RX1 19 1 2 false := ⟨RX1, TX1, 6, tyX1, kX1, by decide, rfl, Or.inl (gwm 226 (by rfl) rfl), rfl, rfl⟩
set_option maxRecDepth 100000 in
theorem fl_RX1_22 : aFl RX1 22 1 3 := ⟨RX1, TX1, 6, tyX1, kX1, by decide, rfl, Or.inl (gwm 228 (by rfl) rfl)⟩
set_option maxRecDepth 100000 in
theorem fn_RX1_22 : aFn RX1 22 1 3 false := ⟨RX1, TX1, 6, tyX1, kX1, by decide, rfl, Or.inl (gwm 228 (by rfl) rfl), rfl, rfl⟩
set_option maxRecDepth 100000 in
theorem fl_RX1_25 : aFl RX1 25 1 4 := ⟨RX1, TX1, 6, tyX1, kX1, by decide, rfl, Or.inl (gwm 230 (by rfl) rfl)⟩
set_option maxRecDepth 100000 in
theorem fn_RX1_25 : aFn RX1 25 1 4 false := ⟨RX1, TX1, 6, tyX1, kX1, by decide, rfl, Or.inl (gwm 230 (by rfl) rfl), rfl, rfl⟩
set_option maxRecDepth 100000 in
theorem fl_RX1_28 : aFl RX1 28 1 5 := ⟨RX1, TX1, 6, tyX1, kX1, by decide, rfl, Or.inl (gwm 232 (by rfl) rfl)⟩
set_option maxRecDepth 100000 in
theorem fn_RX1_28 : aFn RX1 28 1 5 false := ⟨RX1, TX1, 6, tyX1, kX1, by decide, rfl, Or.inl (gwm 232 (by rfl) rfl), rfl, rfl⟩
set_option maxRecDepth 100000 in
theorem fl_RX1_31 : aFl RX1 31 0 3 := ⟨RX0, TX0, 5, tyX0, kX0, by decide, rfl, Or.inr ⟨_, (nwm 182 (by rfl) rfl)⟩⟩
set_option maxRecDepth 100000 in
theorem fl_RX1_37 : aFl RX1 37 5 0 := ⟨RX5, TX5, 5, tyX5, kX5, by decide, rfl, Or.inr ⟨_, (nwm 131 (by rfl) rfl)⟩⟩
set_option maxRecDepth 100000 in
theorem fl_RX1_58 : aFl RX1 58 5 1 := ⟨RX5, TX5, 5, tyX5, kX5, by decide, rfl, Or.inr ⟨_, (nwm 134 (by rfl) rfl)⟩⟩
set_option maxRecDepth 100000 in
theorem fl_RX1_61 : aFl RX1 61 0 0 := ⟨RX0, TX0, 5, tyX0, kX0, by decide, rfl, Or.inr ⟨_, (nwm 176 (by rfl) rfl)⟩⟩
set_option maxRecDepth 100000 in
theorem fl_RX1_65 : aFl RX1 65 3 0 := ⟨RX3, TX3, 4, tyX3, kX3, by decide, rfl, Or.inr ⟨_, (nwm 101 (by rfl) rfl)⟩⟩
set_option maxRecDepth 100000 in
theorem fl_RX1_70 : aFl RX1 70 5 2 := ⟨RX5, TX5, 5, tyX5, kX5, by decide, rfl, Or.inr ⟨_, (nwm 137 (by rfl) rfl)⟩⟩
set_option maxRecDepth 100000 in
theorem fl_RX1_73 : aFl RX1 73 3 1 := ⟨RX3, TX3, 4, tyX3, kX3, by decide, rfl, Or.inr ⟨_, (nwm 106 (by rfl) rfl)⟩⟩
set_option maxRecDepth 100000 in
theorem fl_RX1_84 : aFl RX1 84 5 3 := ⟨RX5, TX5, 5, tyX5, kX5, by decide, rfl, Or.inr ⟨_, (nwm 140 (by rfl) rfl)⟩⟩
set_option maxRecDepth 100000 in
theorem fl_RX1_87 : aFl RX1 87 5 4 := ⟨RX5, TX5, 5, tyX5, kX5, by decide, rfl, Or.inr ⟨_, (nwm 143 (by rfl) rfl)⟩⟩
set_option maxRecDepth 100000 in
theorem fl_RX2_12 : aFl RX2 12 2 0 := ⟨RX2, TX2, 3, tyX2, kX2, by decide, rfl, Or.inl (gwm 206 (by rfl) rfl)⟩
set_option maxRecDepth 100000 in
theorem ff_RX2_12 : aFf RX2 12 2 0 := ⟨RX2, TX2, 3, tyX2, kX2, by decide, rfl, rfl, (gwm 206 (by rfl) rfl), rfl, fun a => ⟨rfl, rfl⟩⟩
set_option maxRecDepth 100000 in
theorem fl_RX2_18 : aFl RX2 18 2 1 := ⟨RX2, TX2, 3, tyX2, kX2, by decide, rfl, Or.inl (gwm 207 (by rfl) rfl)⟩
set_option maxRecDepth 100000 in
theorem fn_RX2_18 : aFn RX2 18 2 1 false := ⟨RX2, TX2, 3, tyX2, kX2, by decide, rfl, Or.inl (gwm 207 (by rfl) rfl), rfl, rfl⟩
set_option maxRecDepth 100000 in
theorem fl_RX2_22 : aFl RX2 22 2 2 := ⟨RX2, TX2, 3, tyX2, kX2, by decide, rfl, Or.inl (gwm 208 (by rfl) rfl)⟩
set_option maxRecDepth 100000 in
theorem fn_RX2_22 : aFn RX2 22 2 2 false := ⟨RX2, TX2, 3, tyX2, kX2, by decide, rfl, Or.inl (gwm 208 (by rfl) rfl), rfl, rfl⟩
set_option maxRecDepth 100000 in
theorem fl_RX3_9 : aFl RX3 9 3 0 := ⟨RX3, TX3, 4, tyX3, kX3, by decide, rfl, Or.inl (gwm 100 (by rfl) rfl)⟩
set_option maxRecDepth 100000 in
theorem ff_RX3_9 : aFf RX3 9 3 0 := ⟨RX3, TX3, 4, tyX3, kX3, by decide, rfl, rfl, (gwm 100 (by rfl) rfl), rfl, fun a => ⟨rfl, rfl⟩⟩
set_option maxRecDepth 100000 in
theorem fl_RX3_15 : aFl RX3 15 3 1 := ⟨RX3, TX3, 4, tyX3, kX3, by decide, rfl, Or.inl (gwm 105 (by rfl) rfl)⟩
set_option maxRecDepth 100000 in
theorem ff_RX3_15 : aFf RX3 15 3 1 := ⟨RX3, TX3, 4, tyX3, kX3, by decide, rfl, rfl, (gwm 105 (by rfl) rfl), rfl, fun a => ⟨rfl, rfl⟩⟩
set_option maxRecDepth 100000 in
theorem fl_RX3_18 : aFl RX3 18 3 2 := ⟨RX3, TX3, 4, tyX3, kX3, by decide, rfl, Or.inl (gwm 110 (by rfl) rfl)⟩
set_option maxRecDepth 100000 in
theorem ff_RX3_18 : aFf RX3 18 3 2 := ⟨RX3, TX3, 4, tyX3, kX3, by decide, rfl, rfl, (gwm 110 (by rfl) rfl), rfl, fun a => ⟨rfl, rfl⟩⟩
set_option maxRecDepth 100000 in
theorem fl_RX3_21 : aFl RX3 21 3 3 := ⟨RX3, TX3, 4, tyX3, kX3, by decide, rfl, Or.inl (gwm 112 (by rfl) rfl)⟩
set_option maxRecDepth 100000 in
theorem fn_RX3_21 : aFn RX3 21 3 3 false := ⟨RX3, TX3, 4, tyX3, kX3, by decide, rfl, Or.inl (gwm 112 (by rfl) rfl), rfl, rfl⟩
set_option maxRecDepth 100000 in
theorem fl_RX4_11 : aFl RX4 11 4 0 := ⟨RX4, TX4, 8, tyX4, kX4, by decide, rfl, Or.inl (gwm 256 (by rfl) rfl)⟩
set_option maxRecDepth 100000 in
theorem ff_RX4_11 : aFf RX4 11 4 0 := ⟨RX4, TX4, 8, tyX4, kX4, by decide, rfl, rfl, (gwm 256 (by rfl) rfl), rfl, fun a => ⟨rfl, rfl⟩⟩
set_option maxRecDepth 100000 in
theorem fl_RX4_15 : aFl RX4 15 4 1 := ⟨RX4, TX4, 8, tyX4, kX4, by decide, rfl, Or.inl (gwm 257 (by rfl) rfl)⟩
set_option maxRecDepth 100000 in
theorem ff_RX4_15 : aFf RX4 15 4 1 := ⟨RX4, TX4, 8, tyX4, kX4, by decide, rfl, rfl, (gwm 257 (by rfl) rfl), rfl, fun a => ⟨rfl, rfl⟩⟩
set_option maxRecDepth 100000 in
theorem fl_RX4_18 : aFl RX4 18 4 2 := ⟨RX4, TX4, 8, tyX4, kX4, by decide, rfl, Or.inl (gwm 258 (by rfl) rfl)⟩
set_option maxRecDepth 100000 in
theorem ff_RX4_18 : aFf RX4 18 4 2 := ⟨RX4, TX4, 8, tyX4, kX4, by decide, rfl, rfl, (gwm 258 (by rfl) rfl), rfl, fun a => ⟨rfl, rfl⟩⟩
set_option maxRecDepth 100000 in
theorem fl_RX4_21 : aFl RX4 21 4 3 := ⟨RX4, TX4, 8, tyX4, kX4, by decide, rfl, Or.inl (gwm 259 (by rfl) rfl)⟩
set_option maxRecDepth 100000 in
theorem ff_RX4_21 : aFf RX4 21 4 3 := ⟨RX4, TX4, 8, tyX4, kX4, by decide, rfl, rfl, (gwm 259 (by rfl) rfl), rfl, fun a => ⟨rfl, rfl⟩⟩
set_option maxRecDepth 100000 in
theorem fl_RX4_24 : aFl RX4 24 4 4 := ⟨RX4, TX4, 8, tyX4, kX4, by decide, rfl, Or.inl (gwm 260 (by rfl) rfl)⟩
set_option maxRecDepth 100000 in
theorem ff_RX4_24 : aFf RX4 24 4 4 := ⟨RX4, TX4, 8, tyX4, kX4, by decide, rfl, rfl, (gwm 260 (by rfl) rfl), rfl, fun a => ⟨rfl, rfl⟩⟩
set_option maxRecDepth 100000 in
theorem fl_RX4_27 : aFl RX4 27 4 5 := ⟨RX4, TX4, 8, tyX4, kX4, by decide, rfl, Or.inl (gwm 262 (by rfl) rfl)⟩
set_option maxRecDepth 100000 in
theorem ff_RX4_27 : aFf RX4 27 4 5 := ⟨RX4, TX4, 8, tyX4, kX4, by decide, rfl, rfl, (gwm 262 (by rfl) rfl), rfl, fun a => ⟨rfl, rfl⟩⟩
set_option maxRecDepth 100000 in
theorem fl_RX4_30 : aFl RX4 30 4 6 := ⟨RX4, TX4, 8, tyX4, kX4, by decide, rfl, Or.inl (gwm 264 (by rfl) rfl)⟩
set_option maxRecDepth 100000 in
theorem fn_RX4_30 : aFn RX4 30 4 6 false := ⟨RX4, TX4, 8, tyX4, kX4, by decide, rfl, Or.inl (gwm 264 (by rfl) rfl), rfl, rfl⟩
set_option maxRecDepth 100000 in
theorem fl_RX4_34 : aFl RX4 34 4 7 := ⟨RX4, TX4, 8, tyX4, kX4, by decide, rfl, Or.inl (gwm 266 (by rfl) rfl)⟩
set_option maxRecDepth 100000 in
theorem fn_RX4_34 : aFn RX4 34 4 7 true := ⟨RX4, TX4, 8, tyX4, kX4, by decide, rfl, Or.inl (gwm 266 (by rfl) rfl), rfl, rfl⟩
set_option maxRecDepth 100000 in
theorem fl_RX4_50 : aFl RX4 50 7 0 := ⟨RX7, TX7, 2, tyX7, kX7, by decide, rfl, Or.inr ⟨_, (nwm 163 (by rfl) rfl)⟩⟩
set_option maxRecDepth 100000 in
theorem fl_RX4_73 : aFl RX4 73 7 1 := ⟨RX7, TX7, 2, tyX7, kX7, by decide, rfl, Or.inr ⟨_, (nwm 167 (by rfl) rfl)⟩⟩
set_option maxRecDepth 100000 in
theorem fl_RX4_79 : aFl RX4 79 3 0 := ⟨RX3, TX3, 4, tyX3, kX3, by decide, rfl, Or.inr ⟨_, (nwm 103 (by rfl) rfl)⟩⟩
set_option maxRecDepth 100000 in
theorem fl_RX4_84 : aFl RX4 84 3 1 := ⟨RX3, TX3, 4, tyX3, kX3, by decide, rfl, Or.inr ⟨_, (nwm 108 (by rfl) rfl)⟩⟩
set_option maxRecDepth 100000 in
theorem fl_RX5_9 : aFl RX5 9 5 0 := ⟨RX5, TX5, 5, tyX5, kX5, by decide, rfl, Or.inl (gwm 130 (by rfl) rfl)⟩
set_option maxRecDepth 100000 in
theorem ff_RX5_9 : aFf RX5 9 5 0 := ⟨RX5, TX5, 5, tyX5, kX5, by decide, rfl, rfl, (gwm 130 (by rfl) rfl), rfl, fun a => ⟨rfl, rfl⟩⟩
set_option maxRecDepth 100000 in
theorem fl_RX5_15 : aFl RX5 15 5 1 := ⟨RX5, TX5, 5, tyX5, kX5, by decide, rfl, Or.inl (gwm 133 (by rfl) rfl)⟩
set_option maxRecDepth 100000 in
theorem ff_RX5_15 : aFf RX5 15 5 1 := ⟨RX5, TX5, 5, tyX5, kX5, by decide, rfl, rfl, (gwm 133 (by rfl) rfl), rfl, fun a => ⟨rfl, rfl⟩⟩
set_option maxRecDepth 100000 in
theorem fl_RX5_18 : aFl RX5 18 5 2 := ⟨RX5, TX5, 5, tyX5, kX5, by decide, rfl, Or.inl (gwm 136 (by rfl) rfl)⟩
set_option maxRecDepth 100000 in
theorem ff_RX5_18 : aFf RX5 18 5 2 := ⟨RX5, TX5, 5, tyX5, kX5, by decide, rfl, rfl, (gwm 136 (by rfl) rfl), rfl, fun a => ⟨rfl, rfl⟩⟩
set_option maxRecDepth 100000 in
theorem fl_RX5_21 : aFl RX5 21 5 3 := ⟨RX5, TX5, 5, tyX5, kX5, by decide, rfl, Or.inl (gwm 139 (by rfl) rfl)⟩
set_option maxRecDepth 100000 in
theorem ff_RX5_21 : aFf RX5 21 5 3 := ⟨RX5, TX5, 5, tyX5, kX5, by decide, rfl, rfl, (gwm 139 (by rfl) rfl), rfl, fun a => ⟨rfl, rfl⟩⟩
set_option maxRecDepth 100000 in
theorem fl_RX5_24 : aFl RX5 24 5 4 := ⟨RX5, TX5, 5, tyX5, kX5, by decide, rfl, Or.inl (gwm 142 (by rfl) rfl)⟩
set_option maxRecDepth 100000 in
theorem ff_RX5_24 : aFf RX5 24 5 4 := ⟨RX5, TX5, 5, tyX5, kX5, by decide, rfl, rfl, (gwm 142 (by rfl) rfl), rfl, fun a => ⟨rfl, rfl⟩⟩
set_option maxRecDepth 100000 in
theorem fl_RX5_56 : aFl RX5 56 3 0 := ⟨RX3, TX3, 4, tyX3, kX3, by decide, rfl, Or.inr ⟨_, (nwm 104 (by rfl) rfl)⟩⟩
set_option maxRecDepth 100000 in
theorem fl_RX5_59 : aFl RX5 59 3 1 := ⟨RX3, TX3, 4, tyX3, kX3, by decide, rfl, Or.inr ⟨_, (nwm 109 (by rfl) rfl)⟩⟩
set_option maxRecDepth 100000 in
theorem fl_RX6_9 : aFl RX6 9 6 0 := ⟨RX6, TX6, 4, tyX6, kX6, by decide, rfl, Or.inl (gwm 291 (by rfl) rfl)⟩
set_option maxRecDepth 100000 in
theorem ff_RX6_9 : aFf RX6 9 6 0 := ⟨RX6, TX6, 4, tyX6, kX6, by decide, rfl, rfl, (gwm 291 (by rfl) rfl), rfl, fun a => ⟨rfl, rfl⟩⟩
set_option maxRecDepth 100000 in
theorem fl_RX6_15 : aFl RX6 15 6 1 := ⟨RX6, TX6, 4, tyX6, kX6, by decide, rfl, Or.inl (gwm 292 (by rfl) rfl)⟩
set_option maxRecDepth 100000 in
theorem fn_RX6_15 : aFn RX6 15 6 1 false := ⟨RX6, TX6, 4, tyX6, kX6, by decide, rfl, Or.inl (gwm 292 (by rfl) rfl), rfl, rfl⟩
set_option maxRecDepth 100000 in
theorem fl_RX6_19 : aFl RX6 19 6 2 := ⟨RX6, TX6, 4, tyX6, kX6, by decide, rfl, Or.inl (gwm 294 (by rfl) rfl)⟩
set_option maxRecDepth 100000 in
theorem fn_RX6_19 : aFn RX6 19 6 2 false := ⟨RX6, TX6, 4, tyX6, kX6, by decide, rfl, Or.inl (gwm 294 (by rfl) rfl), rfl, rfl⟩
set_option maxRecDepth 100000 in
theorem fl_RX6_22 : aFl RX6 22 6 3 := ⟨RX6, TX6, 4, tyX6, kX6, by decide, rfl, Or.inl (gwm 296 (by rfl) rfl)⟩
set_option maxRecDepth 100000 in
theorem fn_RX6_22 : aFn RX6 22 6 3 false := ⟨RX6, TX6, 4, tyX6, kX6, by decide, rfl, Or.inl (gwm 296 (by rfl) rfl), rfl, rfl⟩
set_option maxRecDepth 100000 in
theorem fl_RX6_44 : aFl RX6 44 7 0 := ⟨RX7, TX7, 2, tyX7, kX7, by decide, rfl, Or.inr ⟨_, (nwm 164 (by rfl) rfl)⟩⟩
set_option maxRecDepth 100000 in
theorem fl_RX7_9 : aFl RX7 9 7 0 := ⟨RX7, TX7, 2, tyX7, kX7, by decide, rfl, Or.inl (gwm 162 (by rfl) rfl)⟩
set_option maxRecDepth 100000 in
theorem ff_RX7_9 : aFf RX7 9 7 0 := ⟨RX7, TX7, 2, tyX7, kX7, by decide, rfl, rfl, (gwm 162 (by rfl) rfl), rfl, fun a => ⟨rfl, rfl⟩⟩
set_option maxRecDepth 100000 in
theorem fl_RX7_15 : aFl RX7 15 7 1 := ⟨RX7, TX7, 2, tyX7, kX7, by decide, rfl, Or.inl (gwm 166 (by rfl) rfl)⟩
set_option maxRecDepth 100000 in
theorem ff_RX7_15 : aFf RX7 15 7 1 := ⟨RX7, TX7, 2, tyX7, kX7, by decide, rfl, rfl, (gwm 166 (by rfl) rfl), rfl, fun a => ⟨rfl, rfl⟩⟩
set_option maxRecDepth 100000 in
theorem fl_RX9_7 : aFl RX9 7 9 0 := ⟨RX9, TX9, 12, tyX9, kX9, by decide, rfl, Or.inl (gwm 663 (by rfl) rfl)⟩
set_option maxRecDepth 100000 in
theorem ff_RX9_7 : aFf RX9 7 9 0 := ⟨RX9, TX9, 12, tyX9, kX9, by decide, rfl, rfl, (gwm 663 (by rfl) rfl), rfl, fun a => ⟨rfl, rfl⟩⟩
set_option maxRecDepth 100000 in
theorem fl_RX9_13 : aFl RX9 13 9 1 := ⟨RX9, TX9, 12, tyX9, kX9, by decide, rfl, Or.inl (gwm 664 (by rfl) rfl)⟩
set_option maxRecDepth 100000 in
theorem ff_RX9_13 : aFf RX9 13 9 1 := ⟨RX9, TX9, 12, tyX9, kX9, by decide, rfl, rfl, (gwm 664 (by rfl) rfl), rfl, fun a => ⟨rfl, rfl⟩⟩
set_option maxRecDepth 100000 in
theorem fl_RX9_16 : aFl RX9 16 9 2 := ⟨RX9, TX9, 12, tyX9, kX9, by decide, rfl, Or.inl (gwm 665 (by rfl) rfl)⟩
set_option maxRecDepth 100000 in
theorem ff_RX9_16 : aFf RX9 16 9 2 := ⟨RX9, TX9, 12, tyX9, kX9, by decide, rfl, rfl, (gwm 665 (by rfl) rfl), rfl, fun a => ⟨rfl, rfl⟩⟩
set_option maxRecDepth 100000 in
theorem fl_RX9_19 : aFl RX9 19 9 4 := ⟨RX9, TX9, 12, tyX9, kX9, by decide, rfl, Or.inl (gwm 667 (by rfl) rfl)⟩
set_option maxRecDepth 100000 in
theorem ff_RX9_19 : aFf RX9 19 9 4 := ⟨RX9, TX9, 12, tyX9, kX9, by decide, rfl, rfl, (gwm 667 (by rfl) rfl), rfl, fun a => ⟨rfl, rfl⟩⟩
set_option maxRecDepth 100000 in
theorem fl_RX9_22 : aFl RX9 22 9 6 := ⟨RX9, TX9, 12, tyX9, kX9, by decide, rfl, Or.inl (gwm 669 (by rfl) rfl)⟩
set_option maxRecDepth 100000 in
theorem ff_RX9_22 : aFf RX9 22 9 6 := ⟨RX9, TX9, 12, tyX9, kX9, by decide, rfl, rfl, (gwm 669 (by rfl) rfl), rfl, fun a => ⟨rfl, rfl⟩⟩
set_option maxRecDepth 100000 in
theorem fl_RX9_25 : aFl RX9 25 9 7 := ⟨RX9, TX9, 12, tyX9, kX9, by decide, rfl, Or.inl (gwm 670 (by rfl) rfl)⟩
set_option maxRecDepth 100000 in
theorem ff_RX9_25 : aFf RX9 25 9 7 := ⟨RX9, TX9, 12, tyX9, kX9, by decide, rfl, rfl, (gwm 670 (by rfl) rfl), rfl, fun a => ⟨rfl, rfl⟩⟩
set_option maxRecDepth 100000 in
theorem fl_RX9_28 : aFl RX9 28 9 3 := ⟨RX9, TX9, 12, tyX9, kX9, by decide, rfl, Or.inl (gwm 666 (by rfl) rfl)⟩
set_option maxRecDepth 100000 in
theorem fn_RX9_28 : aFn RX9 28 9 3 false := ⟨RX9, TX9, 12, tyX9, kX9, by decide, rfl, Or.inl (gwm 666 (by rfl) rfl), rfl, rfl⟩
set_option maxRecDepth 100000 in
theorem fl_RX9_105 : aFl RX9 105 9 5 := ⟨RX9, TX9, 12, tyX9, kX9, by decide, rfl, Or.inl (gwm 668 (by rfl) rfl)⟩
set_option maxRecDepth 100000 in
theorem fn_RX9_105 : aFn RX9 105 9 5 false := ⟨RX9, TX9, 12, tyX9, kX9, by decide, rfl, Or.inl (gwm 668 (by rfl) rfl), rfl, rfl⟩
set_option maxRecDepth 100000 in
theorem fl_RX9_128 : aFl RX9 128 9 8 := ⟨RX9, TX9, 12, tyX9, kX9, by decide, rfl, Or.inl (gwm 671 (by rfl) rfl)⟩
set_option maxRecDepth 100000 in
theorem fn_RX9_128 : aFn RX9 128 9 8 false := ⟨RX9, TX9, 12, tyX9, kX9, by decide, rfl, Or.inl (gwm 671 (by rfl) rfl), rfl, rfl⟩
set_option maxRecDepth 100000 in
theorem fl_RX9_143 : aFl RX9 143 9 11 := ⟨RX9, TX9, 12, tyX9, kX9, by decide, rfl, Or.inl (gwm 674 (by rfl) rfl)⟩
set_option maxRecDepth 100000 in
theorem fn_RX9_143 : aFn RX9 143 9 11 false := ⟨RX9, TX9, 12, tyX9, kX9, by decide, rfl, Or.inl (gwm 674 (by rfl) rfl), rfl, rfl⟩
set_option maxRecDepth 100000 in
theorem fl_RX9_146 : aFl RX9 146 9 9 := ⟨RX9, TX9, 12, tyX9, kX9, by decide, rfl, Or.inl (gwm 672 (by rfl) rfl)⟩
set_option maxRecDepth 100000 in
theorem fn_RX9_146 : aFn RX9 146 9 9 false := ⟨RX9, TX9, 12, tyX9, kX9, by decide, rfl, Or.inl (gwm 672 (by rfl) rfl), rfl, rfl⟩
set_option maxRecDepth 100000 in
theorem fl_RX9_149 : aFl RX9 149 9 10 := ⟨RX9, TX9, 12, tyX9, kX9, by decide, rfl, Or.inl (gwm 673 (by rfl) rfl)⟩
set_option maxRecDepth 100000 in
theorem fn_RX9_149 : aFn RX9 149 9 10 false := ⟨RX9, TX9, 12, tyX9, kX9, by decide, rfl, Or.inl (gwm 673 (by rfl) rfl), rfl, rfl⟩
set_option maxRecDepth 100000 in
theorem ol_RX8_1 : Cond.methodLink RX8 1 objectInit ∈ GW := (gwm 85 (by rfl) rfl)
set_option maxRecDepth 100000 in
theorem mi_RX8_9 : aMI RX8 9 mX0_init 0 := ⟨Or.inr ⟨_, (nwm 90 (by rfl) rfl)⟩, (gwm 91 (by rfl) rfl), rfl, rfl, ⟨(gwm 69 (by rfl) rfl), (gwm 92 (by rfl) rfl), by decide +kernel, by decide +kernel, by decide +kernel⟩⟩
set_option maxRecDepth 100000 in
theorem mi_RX8_18 : aMI RX8 18 mX2_init 0 := ⟨Or.inr ⟨_, (nwm 199 (by rfl) rfl)⟩, (gwm 200 (by rfl) rfl), rfl, rfl, ⟨(gwm 73 (by rfl) rfl), (gwm 201 (by rfl) rfl), by decide +kernel, by decide +kernel, by decide +kernel⟩⟩
set_option maxRecDepth 100000 in
theorem mi_RX8_25 : aMI RX8 25 mX1_init 0 := ⟨Or.inr ⟨_, (nwm 219 (by rfl) rfl)⟩, (gwm 220 (by rfl) rfl), rfl, rfl, ⟨(gwm 74 (by rfl) rfl), (gwm 221 (by rfl) rfl), by decide +kernel, by decide +kernel, by decide +kernel⟩⟩
set_option maxRecDepth 100000 in
theorem mi_RX8_32 : aMI RX8 32 mX5_init 0 := ⟨Or.inr ⟨_, (nwm 249 (by rfl) rfl)⟩, (gwm 127 (by rfl) rfl), rfl, rfl, ⟨(gwm 71 (by rfl) rfl), (gwm 128 (by rfl) rfl), by decide +kernel, by decide +kernel, by decide +kernel⟩⟩
set_option maxRecDepth 100000 in
theorem mi_RX8_39 : aMI RX8 39 mX4_init 0 := ⟨Or.inr ⟨_, (nwm 252 (by rfl) rfl)⟩, (gwm 253 (by rfl) rfl), rfl, rfl, ⟨(gwm 75 (by rfl) rfl), (gwm 254 (by rfl) rfl), by decide +kernel, by decide +kernel, by decide +kernel⟩⟩
set_option maxRecDepth 100000 in
theorem mi_RX8_46 : aMI RX8 46 mX6_init 0 := ⟨Or.inr ⟨_, (nwm 287 (by rfl) rfl)⟩, (gwm 288 (by rfl) rfl), rfl, rfl, ⟨(gwm 76 (by rfl) rfl), (gwm 289 (by rfl) rfl), by decide +kernel, by decide +kernel, by decide +kernel⟩⟩
set_option maxRecDepth 100000 in
theorem ms_RX8_55 : aMS RX8 55 mX8_within 3 := ⟨Or.inl ⟨(gwm 334 (by rfl) rfl), rfl⟩, (gwm 335 (by rfl) rfl), ⟨(gwm 68 (by rfl) rfl), (gwm 336 (by rfl) rfl), by decide +kernel, by decide +kernel, by decide +kernel⟩⟩
set_option maxRecDepth 100000 in
theorem mv_RX8_69 : aMV RX8 69 mX2_keep 2 1 := ⟨Or.inr ⟨_, (nwm 337 (by rfl) rfl)⟩, (gwm 339 (by rfl) rfl), (gwm 0 (by rfl) rfl), ⟨(gwm 73 (by rfl) rfl), (gwm 340 (by rfl) rfl), by decide +kernel, by decide +kernel, by decide +kernel⟩, TX2, 3, rfl⟩
set_option maxRecDepth 100000 in
theorem mv_RX8_73 : aMV RX8 73 mX3_append 3 3 := ⟨Or.inr ⟨_, (nwm 370 (by rfl) rfl)⟩, (gwm 372 (by rfl) rfl), (gwm 5 (by rfl) rfl), ⟨(gwm 70 (by rfl) rfl), (gwm 373 (by rfl) rfl), by decide +kernel, by decide +kernel, by decide +kernel⟩, TX3, 4, rfl⟩
set_option maxRecDepth 100000 in
theorem mv_RX8_77 : aMV RX8 77 mX8_isColor 8 1 := ⟨Or.inl (gwm 378 (by rfl) rfl), (gwm 380 (by rfl) rfl), (gwm 6 (by rfl) rfl), ⟨(gwm 68 (by rfl) rfl), (gwm 381 (by rfl) rfl), by decide +kernel, by decide +kernel, by decide +kernel⟩, TX8, 7, rfl⟩
set_option maxRecDepth 100000 in
theorem mv_RX8_91 : aMV RX8 91 mX3_pullOf 3 1 := ⟨Or.inr ⟨_, (nwm 382 (by rfl) rfl)⟩, (gwm 384 (by rfl) rfl), (gwm 7 (by rfl) rfl), ⟨(gwm 70 (by rfl) rfl), (gwm 385 (by rfl) rfl), by decide +kernel, by decide +kernel, by decide +kernel⟩, TX3, 4, rfl⟩
set_option maxRecDepth 100000 in
theorem mv_RX8_98 : aMV RX8 98 mX5_layersOfColor 5 1 := ⟨Or.inr ⟨_, (nwm 386 (by rfl) rfl)⟩, (gwm 388 (by rfl) rfl), (gwm 8 (by rfl) rfl), ⟨(gwm 71 (by rfl) rfl), (gwm 389 (by rfl) rfl), by decide +kernel, by decide +kernel, by decide +kernel⟩, TX5, 5, rfl⟩
set_option maxRecDepth 100000 in
theorem mv_RX8_105 : aMV RX8 105 mX7_timesOfColor 7 1 := ⟨Or.inr ⟨_, (nwm 397 (by rfl) rfl)⟩, (gwm 399 (by rfl) rfl), (gwm 10 (by rfl) rfl), ⟨(gwm 72 (by rfl) rfl), (gwm 400 (by rfl) rfl), by decide +kernel, by decide +kernel, by decide +kernel⟩, TX7, 2, rfl⟩
set_option maxRecDepth 100000 in
theorem ms_RX8_110 : aMS RX8 110 mX8_isField 1 := ⟨Or.inl ⟨(gwm 406 (by rfl) rfl), rfl⟩, (gwm 407 (by rfl) rfl), ⟨(gwm 68 (by rfl) rfl), (gwm 408 (by rfl) rfl), by decide +kernel, by decide +kernel, by decide +kernel⟩⟩
set_option maxRecDepth 100000 in
theorem mv_RX8_113 : aMV RX8 113 mX5_outermostIsRaw 5 1 := ⟨Or.inr ⟨_, (nwm 409 (by rfl) rfl)⟩, (gwm 411 (by rfl) rfl), (gwm 11 (by rfl) rfl), ⟨(gwm 71 (by rfl) rfl), (gwm 412 (by rfl) rfl), by decide +kernel, by decide +kernel, by decide +kernel⟩, TX5, 5, rfl⟩
set_option maxRecDepth 100000 in
theorem mv_RX8_122 : aMV RX8 122 mX5_append 5 2 := ⟨Or.inr ⟨_, (nwm 413 (by rfl) rfl)⟩, (gwm 415 (by rfl) rfl), (gwm 12 (by rfl) rfl), ⟨(gwm 71 (by rfl) rfl), (gwm 416 (by rfl) rfl), by decide +kernel, by decide +kernel, by decide +kernel⟩, TX5, 5, rfl⟩
set_option maxRecDepth 100000 in
theorem mv_RX8_125 : aMV RX8 125 mX5_removeOutermost 5 1 := ⟨Or.inr ⟨_, (nwm 421 (by rfl) rfl)⟩, (gwm 423 (by rfl) rfl), (gwm 13 (by rfl) rfl), ⟨(gwm 71 (by rfl) rfl), (gwm 424 (by rfl) rfl), by decide +kernel, by decide +kernel, by decide +kernel⟩, TX5, 5, rfl⟩
set_option maxRecDepth 100000 in
theorem mv_RX8_128 : aMV RX8 128 mX5_layers 5 0 := ⟨Or.inr ⟨_, (nwm 429 (by rfl) rfl)⟩, (gwm 431 (by rfl) rfl), (gwm 14 (by rfl) rfl), ⟨(gwm 71 (by rfl) rfl), (gwm 432 (by rfl) rfl), by decide +kernel, by decide +kernel, by decide +kernel⟩, TX5, 5, rfl⟩
set_option maxRecDepth 100000 in
theorem mv_RX8_132 : aMV RX8 132 mX5_makeBare 5 0 := ⟨Or.inr ⟨_, (nwm 433 (by rfl) rfl)⟩, (gwm 435 (by rfl) rfl), (gwm 15 (by rfl) rfl), ⟨(gwm 71 (by rfl) rfl), (gwm 436 (by rfl) rfl), by decide +kernel, by decide +kernel, by decide +kernel⟩, TX5, 5, rfl⟩
set_option maxRecDepth 100000 in
theorem ms_RX8_135 : aMS RX8 135 mX8_placeOf 2 := ⟨Or.inl ⟨(gwm 441 (by rfl) rfl), rfl⟩, (gwm 395 (by rfl) rfl), ⟨(gwm 68 (by rfl) rfl), (gwm 396 (by rfl) rfl), by decide +kernel, by decide +kernel, by decide +kernel⟩⟩
set_option maxRecDepth 100000 in
theorem mv_RX8_147 : aMV RX8 147 mX5_pullOf 5 2 := ⟨Or.inr ⟨_, (nwm 446 (by rfl) rfl)⟩, (gwm 448 (by rfl) rfl), (gwm 16 (by rfl) rfl), ⟨(gwm 71 (by rfl) rfl), (gwm 449 (by rfl) rfl), by decide +kernel, by decide +kernel, by decide +kernel⟩, TX5, 5, rfl⟩
set_option maxRecDepth 100000 in
theorem mv_RX8_150 : aMV RX8 150 mX5_strainOf 5 2 := ⟨Or.inr ⟨_, (nwm 455 (by rfl) rfl)⟩, (gwm 457 (by rfl) rfl), (gwm 18 (by rfl) rfl), ⟨(gwm 71 (by rfl) rfl), (gwm 458 (by rfl) rfl), by decide +kernel, by decide +kernel, by decide +kernel⟩, TX5, 5, rfl⟩
set_option maxRecDepth 100000 in
theorem mv_RX8_156 : aMV RX8 156 mX5_heatThatMelts 5 2 := ⟨Or.inr ⟨_, (nwm 463 (by rfl) rfl)⟩, (gwm 465 (by rfl) rfl), (gwm 19 (by rfl) rfl), ⟨(gwm 71 (by rfl) rfl), (gwm 466 (by rfl) rfl), by decide +kernel, by decide +kernel, by decide +kernel⟩, TX5, 5, rfl⟩
set_option maxRecDepth 100000 in
theorem mv_RX8_159 : aMV RX8 159 mX5_heatThatSpares 5 2 := ⟨Or.inr ⟨_, (nwm 470 (by rfl) rfl)⟩, (gwm 472 (by rfl) rfl), (gwm 20 (by rfl) rfl), ⟨(gwm 71 (by rfl) rfl), (gwm 473 (by rfl) rfl), by decide +kernel, by decide +kernel, by decide +kernel⟩, TX5, 5, rfl⟩
set_option maxRecDepth 100000 in
theorem mv_RX8_171 : aMV RX8 171 mX5_layersOfState 5 1 := ⟨Or.inr ⟨_, (nwm 487 (by rfl) rfl)⟩, (gwm 489 (by rfl) rfl), (gwm 21 (by rfl) rfl), ⟨(gwm 71 (by rfl) rfl), (gwm 490 (by rfl) rfl), by decide +kernel, by decide +kernel, by decide +kernel⟩, TX5, 5, rfl⟩
set_option maxRecDepth 100000 in
theorem mv_RX8_174 : aMV RX8 174 mX5_crackedFields 5 0 := ⟨Or.inr ⟨_, (nwm 491 (by rfl) rfl)⟩, (gwm 493 (by rfl) rfl), (gwm 22 (by rfl) rfl), ⟨(gwm 71 (by rfl) rfl), (gwm 494 (by rfl) rfl), by decide +kernel, by decide +kernel, by decide +kernel⟩, TX5, 5, rfl⟩
set_option maxRecDepth 100000 in
theorem mv_RX8_177 : aMV RX8 177 mX7_colorsTogether 7 0 := ⟨Or.inr ⟨_, (nwm 495 (by rfl) rfl)⟩, (gwm 497 (by rfl) rfl), (gwm 23 (by rfl) rfl), ⟨(gwm 72 (by rfl) rfl), (gwm 498 (by rfl) rfl), by decide +kernel, by decide +kernel, by decide +kernel⟩, TX7, 2, rfl⟩
set_option maxRecDepth 100000 in
theorem mv_RX8_184 : aMV RX8 184 mX1_happen 1 4 := ⟨Or.inr ⟨_, (nwm 503 (by rfl) rfl)⟩, (gwm 505 (by rfl) rfl), (gwm 24 (by rfl) rfl), ⟨(gwm 74 (by rfl) rfl), (gwm 506 (by rfl) rfl), by decide +kernel, by decide +kernel, by decide +kernel⟩, TX1, 6, rfl⟩
set_option maxRecDepth 100000 in
theorem mv_RX8_202 : aMV RX8 202 mX8_tryHeat 8 1 := ⟨Or.inl (gwm 534 (by rfl) rfl), (gwm 536 (by rfl) rfl), (gwm 30 (by rfl) rfl), ⟨(gwm 68 (by rfl) rfl), (gwm 537 (by rfl) rfl), by decide +kernel, by decide +kernel, by decide +kernel⟩, TX8, 7, rfl⟩
set_option maxRecDepth 100000 in
theorem ms_RX8_206 : aMS RX8 206 mX8_isFrontField 1 := ⟨Or.inl ⟨(gwm 547 (by rfl) rfl), rfl⟩, (gwm 548 (by rfl) rfl), ⟨(gwm 68 (by rfl) rfl), (gwm 549 (by rfl) rfl), by decide +kernel, by decide +kernel, by decide +kernel⟩⟩
set_option maxRecDepth 100000 in
theorem mv_RX8_210 : aMV RX8 210 mX7_append 7 2 := ⟨Or.inr ⟨_, (nwm 550 (by rfl) rfl)⟩, (gwm 552 (by rfl) rfl), (gwm 31 (by rfl) rfl), ⟨(gwm 72 (by rfl) rfl), (gwm 553 (by rfl) rfl), by decide +kernel, by decide +kernel, by decide +kernel⟩, TX7, 2, rfl⟩
set_option maxRecDepth 100000 in
theorem mv_RX8_214 : aMV RX8 214 mX8_bringPlanUpToDate 8 0 := ⟨Or.inl (gwm 562 (by rfl) rfl), (gwm 564 (by rfl) rfl), (gwm 32 (by rfl) rfl), ⟨(gwm 68 (by rfl) rfl), (gwm 565 (by rfl) rfl), by decide +kernel, by decide +kernel, by decide +kernel⟩, TX8, 7, rfl⟩
set_option maxRecDepth 100000 in
theorem mv_RX8_227 : aMV RX8 227 mX5_greatestStrainWith 5 2 := ⟨Or.inr ⟨_, (nwm 601 (by rfl) rfl)⟩, (gwm 603 (by rfl) rfl), (gwm 36 (by rfl) rfl), ⟨(gwm 71 (by rfl) rfl), (gwm 604 (by rfl) rfl), by decide +kernel, by decide +kernel, by decide +kernel⟩, TX5, 5, rfl⟩
set_option maxRecDepth 100000 in
theorem mv_RX8_230 : aMV RX8 230 mX2_restore 2 1 := ⟨Or.inr ⟨_, (nwm 609 (by rfl) rfl)⟩, (gwm 611 (by rfl) rfl), (gwm 37 (by rfl) rfl), ⟨(gwm 73 (by rfl) rfl), (gwm 612 (by rfl) rfl), by decide +kernel, by decide +kernel, by decide +kernel⟩, TX2, 3, rfl⟩
set_option maxRecDepth 100000 in
theorem mv_RX8_233 : aMV RX8 233 mX6_append 6 1 := ⟨Or.inr ⟨_, (nwm 617 (by rfl) rfl)⟩, (gwm 619 (by rfl) rfl), (gwm 38 (by rfl) rfl), ⟨(gwm 76 (by rfl) rfl), (gwm 620 (by rfl) rfl), by decide +kernel, by decide +kernel, by decide +kernel⟩, TX6, 4, rfl⟩
set_option maxRecDepth 100000 in
theorem mv_RX8_236 : aMV RX8 236 mX6_lookForFault 6 1 := ⟨Or.inr ⟨_, (nwm 629 (by rfl) rfl)⟩, (gwm 631 (by rfl) rfl), (gwm 39 (by rfl) rfl), ⟨(gwm 76 (by rfl) rfl), (gwm 632 (by rfl) rfl), by decide +kernel, by decide +kernel, by decide +kernel⟩, TX6, 4, rfl⟩
set_option maxRecDepth 100000 in
theorem mv_RX8_239 : aMV RX8 239 mX6_hasFault 6 0 := ⟨Or.inr ⟨_, (nwm 647 (by rfl) rfl)⟩, (gwm 645 (by rfl) rfl), (gwm 40 (by rfl) rfl), ⟨(gwm 76 (by rfl) rfl), (gwm 646 (by rfl) rfl), by decide +kernel, by decide +kernel, by decide +kernel⟩, TX6, 4, rfl⟩
set_option maxRecDepth 100000 in
theorem mv_RX8_249 : aMV RX8 249 mX6_giveTo 6 1 := ⟨Or.inr ⟨_, (nwm 652 (by rfl) rfl)⟩, (gwm 654 (by rfl) rfl), (gwm 41 (by rfl) rfl), ⟨(gwm 76 (by rfl) rfl), (gwm 655 (by rfl) rfl), by decide +kernel, by decide +kernel, by decide +kernel⟩, TX6, 4, rfl⟩
set_option maxRecDepth 100000 in
theorem mv_RX8_253 : aMV RX8 253 mX5_copyFrom 5 1 := ⟨Or.inr ⟨_, (nwm 538 (by rfl) rfl)⟩, (gwm 360 (by rfl) rfl), (gwm 3 (by rfl) rfl), ⟨(gwm 71 (by rfl) rfl), (gwm 361 (by rfl) rfl), by decide +kernel, by decide +kernel, by decide +kernel⟩, TX5, 5, rfl⟩
set_option maxRecDepth 100000 in
theorem mv_RX8_257 : aMV RX8 257 mX4_search 4 2 := ⟨Or.inr ⟨_, (nwm 566 (by rfl) rfl)⟩, (gwm 568 (by rfl) rfl), (gwm 33 (by rfl) rfl), ⟨(gwm 75 (by rfl) rfl), (gwm 569 (by rfl) rfl), by decide +kernel, by decide +kernel, by decide +kernel⟩, TX4, 8, rfl⟩
set_option maxRecDepth 100000 in
theorem jl_RX8_261 : Cond.methodLink RX8 261 Lib.Math.min.name ∈ GW := (gwm 352 (by rfl) rfl)
set_option maxRecDepth 100000 in
theorem jl_RX8_266 : Cond.methodLink RX8 266 arraycopyName ∈ GW := (gwm 355 (by rfl) rfl)
set_option maxRecDepth 100000 in
theorem ol_RX0_3 : Cond.methodLink RX0 3 objectInit ∈ GW := (gwm 93 (by rfl) rfl)
set_option maxRecDepth 100000 in
theorem mi_RX0_11 : aMI RX0 11 mX3_init 0 := ⟨Or.inr ⟨_, (nwm 96 (by rfl) rfl)⟩, (gwm 97 (by rfl) rfl), rfl, rfl, ⟨(gwm 70 (by rfl) rfl), (gwm 98 (by rfl) rfl), by decide +kernel, by decide +kernel, by decide +kernel⟩⟩
set_option maxRecDepth 100000 in
theorem mi_RX0_20 : aMI RX0 20 mX5_init 0 := ⟨Or.inr ⟨_, (nwm 126 (by rfl) rfl)⟩, (gwm 127 (by rfl) rfl), rfl, rfl, ⟨(gwm 71 (by rfl) rfl), (gwm 128 (by rfl) rfl), by decide +kernel, by decide +kernel, by decide +kernel⟩⟩
set_option maxRecDepth 100000 in
theorem mi_RX0_27 : aMI RX0 27 mX7_init 0 := ⟨Or.inr ⟨_, (nwm 158 (by rfl) rfl)⟩, (gwm 159 (by rfl) rfl), rfl, rfl, ⟨(gwm 72 (by rfl) rfl), (gwm 160 (by rfl) rfl), by decide +kernel, by decide +kernel, by decide +kernel⟩⟩
set_option maxRecDepth 100000 in
theorem mv_RX0_39 : aMV RX0 39 mX3_copyFrom 3 1 := ⟨Or.inr ⟨_, (nwm 345 (by rfl) rfl)⟩, (gwm 347 (by rfl) rfl), (gwm 2 (by rfl) rfl), ⟨(gwm 70 (by rfl) rfl), (gwm 348 (by rfl) rfl), by decide +kernel, by decide +kernel, by decide +kernel⟩, TX3, 4, rfl⟩
set_option maxRecDepth 100000 in
theorem mv_RX0_43 : aMV RX0 43 mX5_copyFrom 5 1 := ⟨Or.inr ⟨_, (nwm 358 (by rfl) rfl)⟩, (gwm 360 (by rfl) rfl), (gwm 3 (by rfl) rfl), ⟨(gwm 71 (by rfl) rfl), (gwm 361 (by rfl) rfl), by decide +kernel, by decide +kernel, by decide +kernel⟩, TX5, 5, rfl⟩
set_option maxRecDepth 100000 in
theorem mv_RX0_46 : aMV RX0 46 mX7_copyFrom 7 1 := ⟨Or.inr ⟨_, (nwm 363 (by rfl) rfl)⟩, (gwm 365 (by rfl) rfl), (gwm 4 (by rfl) rfl), ⟨(gwm 72 (by rfl) rfl), (gwm 366 (by rfl) rfl), by decide +kernel, by decide +kernel, by decide +kernel⟩, TX7, 2, rfl⟩
set_option maxRecDepth 100000 in
theorem ms_RX0_49 : aMS RX0 49 mX8_copyRow 2 := ⟨Or.inr ⟨_, (nwm 368 (by rfl) rfl)⟩, (gwm 350 (by rfl) rfl), ⟨(gwm 68 (by rfl) rfl), (gwm 351 (by rfl) rfl), by decide +kernel, by decide +kernel, by decide +kernel⟩⟩
set_option maxRecDepth 100000 in
theorem ol_RX1_3 : Cond.methodLink RX1 3 objectInit ∈ GW := (gwm 222 (by rfl) rfl)
set_option maxRecDepth 100000 in
theorem ms_RX1_42 : aMS RX1 42 mX8_placeOf 2 := ⟨Or.inr ⟨_, (nwm 507 (by rfl) rfl)⟩, (gwm 395 (by rfl) rfl), ⟨(gwm 68 (by rfl) rfl), (gwm 396 (by rfl) rfl), by decide +kernel, by decide +kernel, by decide +kernel⟩⟩
set_option maxRecDepth 100000 in
theorem mv_RX1_46 : aMV RX1 46 mX1_heatLayer 1 5 := ⟨Or.inl (gwm 508 (by rfl) rfl), (gwm 510 (by rfl) rfl), (gwm 25 (by rfl) rfl), ⟨(gwm 74 (by rfl) rfl), (gwm 511 (by rfl) rfl), by decide +kernel, by decide +kernel, by decide +kernel⟩, TX1, 6, rfl⟩
set_option maxRecDepth 100000 in
theorem mv_RX1_50 : aMV RX1 50 mX1_mendField 1 2 := ⟨Or.inl (gwm 517 (by rfl) rfl), (gwm 519 (by rfl) rfl), (gwm 27 (by rfl) rfl), ⟨(gwm 74 (by rfl) rfl), (gwm 520 (by rfl) rfl), by decide +kernel, by decide +kernel, by decide +kernel⟩, TX1, 6, rfl⟩
set_option maxRecDepth 100000 in
theorem mv_RX1_54 : aMV RX1 54 mX1_coolField 1 3 := ⟨Or.inl (gwm 521 (by rfl) rfl), (gwm 523 (by rfl) rfl), (gwm 28 (by rfl) rfl), ⟨(gwm 74 (by rfl) rfl), (gwm 524 (by rfl) rfl), by decide +kernel, by decide +kernel, by decide +kernel⟩, TX1, 6, rfl⟩
set_option maxRecDepth 100000 in
theorem mv_RX1_76 : aMV RX1 76 mX5_holdsOn 5 1 := ⟨Or.inr ⟨_, (nwm 512 (by rfl) rfl)⟩, (gwm 452 (by rfl) rfl), (gwm 17 (by rfl) rfl), ⟨(gwm 71 (by rfl) rfl), (gwm 453 (by rfl) rfl), by decide +kernel, by decide +kernel, by decide +kernel⟩, TX5, 5, rfl⟩
set_option maxRecDepth 100000 in
theorem mv_RX1_80 : aMV RX1 80 mX1_soften 1 3 := ⟨Or.inl (gwm 513 (by rfl) rfl), (gwm 515 (by rfl) rfl), (gwm 26 (by rfl) rfl), ⟨(gwm 74 (by rfl) rfl), (gwm 516 (by rfl) rfl), by decide +kernel, by decide +kernel, by decide +kernel⟩, TX1, 6, rfl⟩
set_option maxRecDepth 100000 in
theorem mv_RX1_89 : aMV RX1 89 mX5_hasHold 5 1 := ⟨Or.inr ⟨_, (nwm 525 (by rfl) rfl)⟩, (gwm 527 (by rfl) rfl), (gwm 29 (by rfl) rfl), ⟨(gwm 71 (by rfl) rfl), (gwm 528 (by rfl) rfl), by decide +kernel, by decide +kernel, by decide +kernel⟩, TX5, 5, rfl⟩
set_option maxRecDepth 100000 in
theorem mv_RX1_92 : aMV RX1 92 mX5_strainOf 5 2 := ⟨Or.inr ⟨_, (nwm 529 (by rfl) rfl)⟩, (gwm 457 (by rfl) rfl), (gwm 18 (by rfl) rfl), ⟨(gwm 71 (by rfl) rfl), (gwm 458 (by rfl) rfl), by decide +kernel, by decide +kernel, by decide +kernel⟩, TX5, 5, rfl⟩
set_option maxRecDepth 100000 in
theorem ol_RX2_3 : Cond.methodLink RX2 3 objectInit ∈ GW := (gwm 202 (by rfl) rfl)
set_option maxRecDepth 100000 in
theorem mi_RX2_11 : aMI RX2 11 mX0_init 0 := ⟨Or.inr ⟨_, (nwm 205 (by rfl) rfl)⟩, (gwm 91 (by rfl) rfl), rfl, rfl, ⟨(gwm 69 (by rfl) rfl), (gwm 92 (by rfl) rfl), by decide +kernel, by decide +kernel, by decide +kernel⟩⟩
set_option maxRecDepth 100000 in
theorem mv_RX2_25 : aMV RX2 25 mX0_copyFrom 0 1 := ⟨Or.inr ⟨_, (nwm 341 (by rfl) rfl)⟩, (gwm 343 (by rfl) rfl), (gwm 1 (by rfl) rfl), ⟨(gwm 69 (by rfl) rfl), (gwm 344 (by rfl) rfl), by decide +kernel, by decide +kernel, by decide +kernel⟩, TX0, 5, rfl⟩
set_option maxRecDepth 100000 in
theorem jl_RX2_29 : Cond.methodLink RX2 29 Lib.Math.min.name ∈ GW := (gwm 369 (by rfl) rfl)
set_option maxRecDepth 100000 in
theorem ol_RX3_3 : Cond.methodLink RX3 3 objectInit ∈ GW := (gwm 99 (by rfl) rfl)
set_option maxRecDepth 100000 in
theorem ms_RX3_25 : aMS RX3 25 mX8_copyRow 2 := ⟨Or.inr ⟨_, (nwm 349 (by rfl) rfl)⟩, (gwm 350 (by rfl) rfl), ⟨(gwm 68 (by rfl) rfl), (gwm 351 (by rfl) rfl), by decide +kernel, by decide +kernel, by decide +kernel⟩⟩
set_option maxRecDepth 100000 in
theorem ol_RX4_5 : Cond.methodLink RX4 5 objectInit ∈ GW := (gwm 255 (by rfl) rfl)
set_option maxRecDepth 100000 in
theorem ms_RX4_38 : aMS RX4 38 mX4_lastStage 1 := ⟨Or.inl ⟨(gwm 570 (by rfl) rfl), rfl⟩, (gwm 571 (by rfl) rfl), ⟨(gwm 75 (by rfl) rfl), (gwm 572 (by rfl) rfl), by decide +kernel, by decide +kernel, by decide +kernel⟩⟩
set_option maxRecDepth 100000 in
theorem ms_RX4_42 : aMS RX4 42 mX4_isStage 2 := ⟨Or.inl ⟨(gwm 573 (by rfl) rfl), rfl⟩, (gwm 574 (by rfl) rfl), ⟨(gwm 75 (by rfl) rfl), (gwm 575 (by rfl) rfl), by decide +kernel, by decide +kernel, by decide +kernel⟩⟩
set_option maxRecDepth 100000 in
theorem mv_RX4_46 : aMV RX4 46 mX4_bestSet 4 3 := ⟨Or.inl (gwm 579 (by rfl) rfl), (gwm 581 (by rfl) rfl), (gwm 34 (by rfl) rfl), ⟨(gwm 75 (by rfl) rfl), (gwm 582 (by rfl) rfl), by decide +kernel, by decide +kernel, by decide +kernel⟩, TX4, 8, rfl⟩
set_option maxRecDepth 100000 in
theorem ms_RX4_55 : aMS RX4 55 mX4_layersAt 2 := ⟨Or.inl ⟨(gwm 576 (by rfl) rfl), rfl⟩, (gwm 577 (by rfl) rfl), ⟨(gwm 75 (by rfl) rfl), (gwm 578 (by rfl) rfl), by decide +kernel, by decide +kernel, by decide +kernel⟩⟩
set_option maxRecDepth 100000 in
theorem mv_RX4_59 : aMV RX4 59 mX4_lookAtNext 4 3 := ⟨Or.inl (gwm 583 (by rfl) rfl), (gwm 585 (by rfl) rfl), (gwm 35 (by rfl) rfl), ⟨(gwm 75 (by rfl) rfl), (gwm 586 (by rfl) rfl), by decide +kernel, by decide +kernel, by decide +kernel⟩, TX4, 8, rfl⟩
set_option maxRecDepth 100000 in
theorem ms_RX4_62 : aMS RX4 62 mX4_burningOfPut 3 := ⟨Or.inl ⟨(gwm 588 (by rfl) rfl), rfl⟩, (gwm 589 (by rfl) rfl), ⟨(gwm 75 (by rfl) rfl), (gwm 590 (by rfl) rfl), by decide +kernel, by decide +kernel, by decide +kernel⟩⟩
set_option maxRecDepth 100000 in
theorem jl_RX4_65 : Cond.methodLink RX4 65 Lib.Math.max.name ∈ GW := (gwm 592 (by rfl) rfl)
set_option maxRecDepth 100000 in
theorem jl_RX4_70 : Cond.methodLink RX4 70 Lib.Math.min.name ∈ GW := (gwm 591 (by rfl) rfl)
set_option maxRecDepth 100000 in
theorem ms_RX4_76 : aMS RX4 76 mX8_placeOf 2 := ⟨Or.inr ⟨_, (nwm 587 (by rfl) rfl)⟩, (gwm 395 (by rfl) rfl), ⟨(gwm 68 (by rfl) rfl), (gwm 396 (by rfl) rfl), by decide +kernel, by decide +kernel, by decide +kernel⟩⟩
set_option maxRecDepth 100000 in
theorem ol_RX5_3 : Cond.methodLink RX5 3 objectInit ∈ GW := (gwm 129 (by rfl) rfl)
set_option maxRecDepth 100000 in
theorem ms_RX5_27 : aMS RX5 27 mX8_placeOf 2 := ⟨Or.inr ⟨_, (nwm 394 (by rfl) rfl)⟩, (gwm 395 (by rfl) rfl), ⟨(gwm 68 (by rfl) rfl), (gwm 396 (by rfl) rfl), by decide +kernel, by decide +kernel, by decide +kernel⟩⟩
set_option maxRecDepth 100000 in
theorem mv_RX5_31 : aMV RX5 31 mX5_layersWith 5 2 := ⟨Or.inl (gwm 390 (by rfl) rfl), (gwm 392 (by rfl) rfl), (gwm 9 (by rfl) rfl), ⟨(gwm 71 (by rfl) rfl), (gwm 393 (by rfl) rfl), by decide +kernel, by decide +kernel, by decide +kernel⟩, TX5, 5, rfl⟩
set_option maxRecDepth 100000 in
theorem mv_RX5_35 : aMV RX5 35 mX5_holdsOn 5 1 := ⟨Or.inl (gwm 450 (by rfl) rfl), (gwm 452 (by rfl) rfl), (gwm 17 (by rfl) rfl), ⟨(gwm 71 (by rfl) rfl), (gwm 453 (by rfl) rfl), by decide +kernel, by decide +kernel, by decide +kernel⟩, TX5, 5, rfl⟩
set_option maxRecDepth 100000 in
theorem mv_RX5_39 : aMV RX5 39 mX3_pullOf 3 1 := ⟨Or.inr ⟨_, (nwm 454 (by rfl) rfl)⟩, (gwm 384 (by rfl) rfl), (gwm 7 (by rfl) rfl), ⟨(gwm 70 (by rfl) rfl), (gwm 385 (by rfl) rfl), by decide +kernel, by decide +kernel, by decide +kernel⟩, TX3, 4, rfl⟩
set_option maxRecDepth 100000 in
theorem mv_RX5_45 : aMV RX5 45 mX5_pullOf 5 2 := ⟨Or.inl (gwm 459 (by rfl) rfl), (gwm 448 (by rfl) rfl), (gwm 16 (by rfl) rfl), ⟨(gwm 71 (by rfl) rfl), (gwm 449 (by rfl) rfl), by decide +kernel, by decide +kernel, by decide +kernel⟩, TX5, 5, rfl⟩
set_option maxRecDepth 100000 in
theorem jl_RX5_48 : Cond.methodLink RX5 48 Lib.Math.abs.name ∈ GW := (gwm 460 (by rfl) rfl)
set_option maxRecDepth 100000 in
theorem jl_RX5_53 : Cond.methodLink RX5 53 Lib.Math.max.name ∈ GW := (gwm 467 (by rfl) rfl)
set_option maxRecDepth 100000 in
theorem jl_RX5_62 : Cond.methodLink RX5 62 Lib.Math.min.name ∈ GW := (gwm 474 (by rfl) rfl)
set_option maxRecDepth 100000 in
theorem ms_RX5_65 : aMS RX5 65 mX8_copyRow 2 := ⟨Or.inr ⟨_, (nwm 362 (by rfl) rfl)⟩, (gwm 350 (by rfl) rfl), ⟨(gwm 68 (by rfl) rfl), (gwm 351 (by rfl) rfl), by decide +kernel, by decide +kernel, by decide +kernel⟩⟩
set_option maxRecDepth 100000 in
theorem ol_RX6_3 : Cond.methodLink RX6 3 objectInit ∈ GW := (gwm 290 (by rfl) rfl)
set_option maxRecDepth 100000 in
theorem ms_RX6_25 : aMS RX6 25 mX6_reasonOf 3 := ⟨Or.inl ⟨(gwm 633 (by rfl) rfl), rfl⟩, (gwm 634 (by rfl) rfl), ⟨(gwm 76 (by rfl) rfl), (gwm 635 (by rfl) rfl), by decide +kernel, by decide +kernel, by decide +kernel⟩⟩
set_option maxRecDepth 100000 in
theorem mv_RX6_29 : aMV RX6 29 mX6_hasFault 6 0 := ⟨Or.inl (gwm 643 (by rfl) rfl), (gwm 645 (by rfl) rfl), (gwm 40 (by rfl) rfl), ⟨(gwm 76 (by rfl) rfl), (gwm 646 (by rfl) rfl), by decide +kernel, by decide +kernel, by decide +kernel⟩, TX6, 4, rfl⟩
set_option maxRecDepth 100000 in
theorem ms_RX6_33 : aMS RX6 33 mX6_isFieldDigit 1 := ⟨Or.inl ⟨(gwm 636 (by rfl) rfl), rfl⟩, (gwm 637 (by rfl) rfl), ⟨(gwm 76 (by rfl) rfl), (gwm 638 (by rfl) rfl), by decide +kernel, by decide +kernel, by decide +kernel⟩⟩
set_option maxRecDepth 100000 in
theorem ms_RX6_37 : aMS RX6 37 mX6_isLetter 1 := ⟨Or.inl ⟨(gwm 640 (by rfl) rfl), rfl⟩, (gwm 641 (by rfl) rfl), ⟨(gwm 76 (by rfl) rfl), (gwm 642 (by rfl) rfl), by decide +kernel, by decide +kernel, by decide +kernel⟩⟩
set_option maxRecDepth 100000 in
theorem ms_RX6_40 : aMS RX6 40 mX8_within 3 := ⟨Or.inr ⟨_, (nwm 639 (by rfl) rfl)⟩, (gwm 335 (by rfl) rfl), ⟨(gwm 68 (by rfl) rfl), (gwm 336 (by rfl) rfl), by decide +kernel, by decide +kernel, by decide +kernel⟩⟩
set_option maxRecDepth 100000 in
theorem mv_RX6_50 : aMV RX6 50 mX7_append 7 2 := ⟨Or.inr ⟨_, (nwm 656 (by rfl) rfl)⟩, (gwm 552 (by rfl) rfl), (gwm 31 (by rfl) rfl), ⟨(gwm 72 (by rfl) rfl), (gwm 553 (by rfl) rfl), by decide +kernel, by decide +kernel, by decide +kernel⟩, TX7, 2, rfl⟩
set_option maxRecDepth 100000 in
theorem ol_RX7_3 : Cond.methodLink RX7 3 objectInit ∈ GW := (gwm 161 (by rfl) rfl)
set_option maxRecDepth 100000 in
theorem ms_RX7_18 : aMS RX7 18 mX8_placeOf 2 := ⟨Or.inr ⟨_, (nwm 401 (by rfl) rfl)⟩, (gwm 395 (by rfl) rfl), ⟨(gwm 68 (by rfl) rfl), (gwm 396 (by rfl) rfl), by decide +kernel, by decide +kernel, by decide +kernel⟩⟩
set_option maxRecDepth 100000 in
theorem ms_RX7_22 : aMS RX7 22 mX8_copyRow 2 := ⟨Or.inr ⟨_, (nwm 367 (by rfl) rfl)⟩, (gwm 350 (by rfl) rfl), ⟨(gwm 68 (by rfl) rfl), (gwm 351 (by rfl) rfl), by decide +kernel, by decide +kernel, by decide +kernel⟩⟩
set_option maxRecDepth 100000 in
theorem mi_RL_9 : aMI RL 9 mX8_init 0 := ⟨Or.inl (gwm 82 (by rfl) rfl), (gwm 83 (by rfl) rfl), rfl, rfl, ⟨(gwm 68 (by rfl) rfl), (gwm 84 (by rfl) rfl), by decide +kernel, by decide +kernel, by decide +kernel⟩⟩
set_option maxRecDepth 100000 in
theorem mi_RL_12 : aMI RL 12 mX9_init 0 := ⟨Or.inl (gwm 659 (by rfl) rfl), (gwm 660 (by rfl) rfl), rfl, rfl, ⟨(gwm 77 (by rfl) rfl), (gwm 661 (by rfl) rfl), by decide +kernel, by decide +kernel, by decide +kernel⟩⟩
set_option maxRecDepth 100000 in
theorem mv_RL_13 : aMV RL 13 mX8_color 8 3 := ⟨Or.inl (gwm 330 (by rfl) rfl), (gwm 331 (by rfl) rfl), (gwm 332 (by rfl) rfl), ⟨(gwm 68 (by rfl) rfl), (gwm 333 (by rfl) rfl), by decide +kernel, by decide +kernel, by decide +kernel⟩, TX8, 7, rfl⟩
set_option maxRecDepth 100000 in
theorem mv_RL_17 : aMV RL 17 mX9_color 9 3 := ⟨Or.inl (gwm 704 (by rfl) rfl), (gwm 705 (by rfl) rfl), (gwm 706 (by rfl) rfl), ⟨(gwm 77 (by rfl) rfl), (gwm 707 (by rfl) rfl), by decide +kernel, by decide +kernel, by decide +kernel⟩, TX9, 12, rfl⟩
set_option maxRecDepth 100000 in
theorem mv_RL_18 : aMV RL 18 mX8_colorInfo 8 2 := ⟨Or.inl (gwm 374 (by rfl) rfl), (gwm 375 (by rfl) rfl), (gwm 376 (by rfl) rfl), ⟨(gwm 68 (by rfl) rfl), (gwm 377 (by rfl) rfl), by decide +kernel, by decide +kernel, by decide +kernel⟩, TX8, 7, rfl⟩
set_option maxRecDepth 100000 in
theorem mv_RL_22 : aMV RL 22 mX9_colorInfo 9 2 := ⟨Or.inl (gwm 715 (by rfl) rfl), (gwm 716 (by rfl) rfl), (gwm 717 (by rfl) rfl), ⟨(gwm 77 (by rfl) rfl), (gwm 718 (by rfl) rfl), by decide +kernel, by decide +kernel, by decide +kernel⟩, TX9, 12, rfl⟩
set_option maxRecDepth 100000 in
theorem mv_RL_23 : aMV RL 23 mX8_put 8 2 := ⟨Or.inl (gwm 402 (by rfl) rfl), (gwm 403 (by rfl) rfl), (gwm 404 (by rfl) rfl), ⟨(gwm 68 (by rfl) rfl), (gwm 405 (by rfl) rfl), by decide +kernel, by decide +kernel, by decide +kernel⟩, TX8, 7, rfl⟩
set_option maxRecDepth 100000 in
theorem mv_RL_26 : aMV RL 26 mX9_put 9 2 := ⟨Or.inl (gwm 749 (by rfl) rfl), (gwm 750 (by rfl) rfl), (gwm 751 (by rfl) rfl), ⟨(gwm 77 (by rfl) rfl), (gwm 752 (by rfl) rfl), by decide +kernel, by decide +kernel, by decide +kernel⟩, TX9, 12, rfl⟩
set_option maxRecDepth 100000 in
theorem mv_RL_27 : aMV RL 27 mX8_takeOff 8 1 := ⟨Or.inl (gwm 417 (by rfl) rfl), (gwm 418 (by rfl) rfl), (gwm 419 (by rfl) rfl), ⟨(gwm 68 (by rfl) rfl), (gwm 420 (by rfl) rfl), by decide +kernel, by decide +kernel, by decide +kernel⟩, TX8, 7, rfl⟩
set_option maxRecDepth 100000 in
theorem mv_RL_31 : aMV RL 31 mX9_takeOff 9 1 := ⟨Or.inl (gwm 760 (by rfl) rfl), (gwm 761 (by rfl) rfl), (gwm 762 (by rfl) rfl), ⟨(gwm 77 (by rfl) rfl), (gwm 763 (by rfl) rfl), by decide +kernel, by decide +kernel, by decide +kernel⟩, TX9, 12, rfl⟩
set_option maxRecDepth 100000 in
theorem mv_RL_32 : aMV RL 32 mX8_clean 8 0 := ⟨Or.inl (gwm 425 (by rfl) rfl), (gwm 426 (by rfl) rfl), (gwm 427 (by rfl) rfl), ⟨(gwm 68 (by rfl) rfl), (gwm 428 (by rfl) rfl), by decide +kernel, by decide +kernel, by decide +kernel⟩, TX8, 7, rfl⟩
set_option maxRecDepth 100000 in
theorem mv_RL_36 : aMV RL 36 mX9_clean 9 0 := ⟨Or.inl (gwm 764 (by rfl) rfl), (gwm 765 (by rfl) rfl), (gwm 766 (by rfl) rfl), ⟨(gwm 77 (by rfl) rfl), (gwm 767 (by rfl) rfl), by decide +kernel, by decide +kernel, by decide +kernel⟩, TX9, 12, rfl⟩
set_option maxRecDepth 100000 in
theorem mv_RL_37 : aMV RL 37 mX8_layer 8 3 := ⟨Or.inl (gwm 437 (by rfl) rfl), (gwm 438 (by rfl) rfl), (gwm 439 (by rfl) rfl), ⟨(gwm 68 (by rfl) rfl), (gwm 440 (by rfl) rfl), by decide +kernel, by decide +kernel, by decide +kernel⟩, TX8, 7, rfl⟩
set_option maxRecDepth 100000 in
theorem mv_RL_40 : aMV RL 40 mX9_layer 9 3 := ⟨Or.inl (gwm 772 (by rfl) rfl), (gwm 773 (by rfl) rfl), (gwm 774 (by rfl) rfl), ⟨(gwm 77 (by rfl) rfl), (gwm 775 (by rfl) rfl), by decide +kernel, by decide +kernel, by decide +kernel⟩, TX9, 12, rfl⟩
set_option maxRecDepth 100000 in
theorem mv_RL_41 : aMV RL 41 mX8_field 8 2 := ⟨Or.inl (gwm 442 (by rfl) rfl), (gwm 443 (by rfl) rfl), (gwm 444 (by rfl) rfl), ⟨(gwm 68 (by rfl) rfl), (gwm 445 (by rfl) rfl), by decide +kernel, by decide +kernel, by decide +kernel⟩, TX8, 7, rfl⟩
set_option maxRecDepth 100000 in
theorem mv_RL_44 : aMV RL 44 mX9_field 9 2 := ⟨Or.inl (gwm 776 (by rfl) rfl), (gwm 777 (by rfl) rfl), (gwm 778 (by rfl) rfl), ⟨(gwm 77 (by rfl) rfl), (gwm 779 (by rfl) rfl), by decide +kernel, by decide +kernel, by decide +kernel⟩, TX9, 12, rfl⟩
set_option maxRecDepth 100000 in
theorem mv_RL_45 : aMV RL 45 mX8_set 8 2 := ⟨Or.inl (gwm 475 (by rfl) rfl), (gwm 476 (by rfl) rfl), (gwm 477 (by rfl) rfl), ⟨(gwm 68 (by rfl) rfl), (gwm 478 (by rfl) rfl), by decide +kernel, by decide +kernel, by decide +kernel⟩, TX8, 7, rfl⟩
set_option maxRecDepth 100000 in
theorem mv_RL_48 : aMV RL 48 mX9_set 9 2 := ⟨Or.inl (gwm 804 (by rfl) rfl), (gwm 805 (by rfl) rfl), (gwm 806 (by rfl) rfl), ⟨(gwm 77 (by rfl) rfl), (gwm 807 (by rfl) rfl), by decide +kernel, by decide +kernel, by decide +kernel⟩, TX9, 12, rfl⟩
set_option maxRecDepth 100000 in
theorem mv_RL_49 : aMV RL 49 mX8_count 8 1 := ⟨Or.inl (gwm 483 (by rfl) rfl), (gwm 484 (by rfl) rfl), (gwm 485 (by rfl) rfl), ⟨(gwm 68 (by rfl) rfl), (gwm 486 (by rfl) rfl), by decide +kernel, by decide +kernel, by decide +kernel⟩, TX8, 7, rfl⟩
set_option maxRecDepth 100000 in
theorem mv_RL_52 : aMV RL 52 mX9_count 9 1 := ⟨Or.inl (gwm 811 (by rfl) rfl), (gwm 812 (by rfl) rfl), (gwm 813 (by rfl) rfl), ⟨(gwm 77 (by rfl) rfl), (gwm 814 (by rfl) rfl), by decide +kernel, by decide +kernel, by decide +kernel⟩, TX9, 12, rfl⟩
set_option maxRecDepth 100000 in
theorem mv_RL_53 : aMV RL 53 mX8_fire 8 2 := ⟨Or.inl (gwm 499 (by rfl) rfl), (gwm 500 (by rfl) rfl), (gwm 501 (by rfl) rfl), ⟨(gwm 68 (by rfl) rfl), (gwm 502 (by rfl) rfl), by decide +kernel, by decide +kernel, by decide +kernel⟩, TX8, 7, rfl⟩
set_option maxRecDepth 100000 in
theorem mv_RL_56 : aMV RL 56 mX9_fire 9 2 := ⟨Or.inl (gwm 823 (by rfl) rfl), (gwm 824 (by rfl) rfl), (gwm 825 (by rfl) rfl), ⟨(gwm 77 (by rfl) rfl), (gwm 826 (by rfl) rfl), by decide +kernel, by decide +kernel, by decide +kernel⟩, TX9, 12, rfl⟩
set_option maxRecDepth 100000 in
theorem mv_RL_57 : aMV RL 57 mX8_ifFired 8 2 := ⟨Or.inl (gwm 530 (by rfl) rfl), (gwm 531 (by rfl) rfl), (gwm 532 (by rfl) rfl), ⟨(gwm 68 (by rfl) rfl), (gwm 533 (by rfl) rfl), by decide +kernel, by decide +kernel, by decide +kernel⟩, TX8, 7, rfl⟩
set_option maxRecDepth 100000 in
theorem mv_RL_60 : aMV RL 60 mX9_ifFired 9 2 := ⟨Or.inl (gwm 838 (by rfl) rfl), (gwm 839 (by rfl) rfl), (gwm 840 (by rfl) rfl), ⟨(gwm 77 (by rfl) rfl), (gwm 841 (by rfl) rfl), by decide +kernel, by decide +kernel, by decide +kernel⟩, TX9, 12, rfl⟩
set_option maxRecDepth 100000 in
theorem mv_RL_61 : aMV RL 61 mX8_bestHeat 8 0 := ⟨Or.inl (gwm 539 (by rfl) rfl), (gwm 540 (by rfl) rfl), (gwm 541 (by rfl) rfl), ⟨(gwm 68 (by rfl) rfl), (gwm 542 (by rfl) rfl), by decide +kernel, by decide +kernel, by decide +kernel⟩, TX8, 7, rfl⟩
set_option maxRecDepth 100000 in
theorem mv_RL_64 : aMV RL 64 mX9_bestHeat 9 0 := ⟨Or.inl (gwm 846 (by rfl) rfl), (gwm 847 (by rfl) rfl), (gwm 848 (by rfl) rfl), ⟨(gwm 77 (by rfl) rfl), (gwm 849 (by rfl) rfl), by decide +kernel, by decide +kernel, by decide +kernel⟩, TX9, 12, rfl⟩
set_option maxRecDepth 100000 in
theorem mv_RL_65 : aMV RL 65 mX8_wish 8 2 := ⟨Or.inl (gwm 543 (by rfl) rfl), (gwm 544 (by rfl) rfl), (gwm 545 (by rfl) rfl), ⟨(gwm 68 (by rfl) rfl), (gwm 546 (by rfl) rfl), by decide +kernel, by decide +kernel, by decide +kernel⟩, TX8, 7, rfl⟩
set_option maxRecDepth 100000 in
theorem mv_RL_68 : aMV RL 68 mX9_wish 9 2 := ⟨Or.inl (gwm 850 (by rfl) rfl), (gwm 851 (by rfl) rfl), (gwm 852 (by rfl) rfl), ⟨(gwm 77 (by rfl) rfl), (gwm 853 (by rfl) rfl), by decide +kernel, by decide +kernel, by decide +kernel⟩, TX9, 12, rfl⟩
set_option maxRecDepth 100000 in
theorem mv_RL_69 : aMV RL 69 mX8_wished 8 2 := ⟨Or.inl (gwm 554 (by rfl) rfl), (gwm 555 (by rfl) rfl), (gwm 556 (by rfl) rfl), ⟨(gwm 68 (by rfl) rfl), (gwm 557 (by rfl) rfl), by decide +kernel, by decide +kernel, by decide +kernel⟩, TX8, 7, rfl⟩
set_option maxRecDepth 100000 in
theorem mv_RL_72 : aMV RL 72 mX9_wished 9 2 := ⟨Or.inl (gwm 857 (by rfl) rfl), (gwm 858 (by rfl) rfl), (gwm 859 (by rfl) rfl), ⟨(gwm 77 (by rfl) rfl), (gwm 860 (by rfl) rfl), by decide +kernel, by decide +kernel, by decide +kernel⟩, TX9, 12, rfl⟩
set_option maxRecDepth 100000 in
theorem mv_RL_73 : aMV RL 73 mX8_leastFirings 8 0 := ⟨Or.inl (gwm 558 (by rfl) rfl), (gwm 559 (by rfl) rfl), (gwm 560 (by rfl) rfl), ⟨(gwm 68 (by rfl) rfl), (gwm 561 (by rfl) rfl), by decide +kernel, by decide +kernel, by decide +kernel⟩, TX8, 7, rfl⟩
set_option maxRecDepth 100000 in
theorem mv_RL_76 : aMV RL 76 mX9_leastFirings 9 0 := ⟨Or.inl (gwm 861 (by rfl) rfl), (gwm 862 (by rfl) rfl), (gwm 863 (by rfl) rfl), ⟨(gwm 77 (by rfl) rfl), (gwm 864 (by rfl) rfl), by decide +kernel, by decide +kernel, by decide +kernel⟩, TX9, 12, rfl⟩
set_option maxRecDepth 100000 in
theorem mv_RL_77 : aMV RL 77 mX8_planned 8 2 := ⟨Or.inl (gwm 593 (by rfl) rfl), (gwm 594 (by rfl) rfl), (gwm 595 (by rfl) rfl), ⟨(gwm 68 (by rfl) rfl), (gwm 596 (by rfl) rfl), by decide +kernel, by decide +kernel, by decide +kernel⟩, TX8, 7, rfl⟩
set_option maxRecDepth 100000 in
theorem mv_RL_80 : aMV RL 80 mX9_planned 9 2 := ⟨Or.inl (gwm 884 (by rfl) rfl), (gwm 885 (by rfl) rfl), (gwm 886 (by rfl) rfl), ⟨(gwm 77 (by rfl) rfl), (gwm 887 (by rfl) rfl), by decide +kernel, by decide +kernel, by decide +kernel⟩, TX9, 12, rfl⟩
set_option maxRecDepth 100000 in
theorem mv_RL_81 : aMV RL 81 mX8_counter 8 0 := ⟨Or.inl (gwm 597 (by rfl) rfl), (gwm 598 (by rfl) rfl), (gwm 599 (by rfl) rfl), ⟨(gwm 68 (by rfl) rfl), (gwm 600 (by rfl) rfl), by decide +kernel, by decide +kernel, by decide +kernel⟩, TX8, 7, rfl⟩
set_option maxRecDepth 100000 in
theorem mv_RL_84 : aMV RL 84 mX9_counter 9 0 := ⟨Or.inl (gwm 888 (by rfl) rfl), (gwm 889 (by rfl) rfl), (gwm 890 (by rfl) rfl), ⟨(gwm 77 (by rfl) rfl), (gwm 891 (by rfl) rfl), by decide +kernel, by decide +kernel, by decide +kernel⟩, TX9, 12, rfl⟩
set_option maxRecDepth 100000 in
theorem mv_RL_85 : aMV RL 85 mX8_undo 8 0 := ⟨Or.inl (gwm 605 (by rfl) rfl), (gwm 606 (by rfl) rfl), (gwm 607 (by rfl) rfl), ⟨(gwm 68 (by rfl) rfl), (gwm 608 (by rfl) rfl), by decide +kernel, by decide +kernel, by decide +kernel⟩, TX8, 7, rfl⟩
set_option maxRecDepth 100000 in
theorem mv_RL_88 : aMV RL 88 mX9_undo 9 0 := ⟨Or.inl (gwm 700 (by rfl) rfl), (gwm 701 (by rfl) rfl), (gwm 702 (by rfl) rfl), ⟨(gwm 77 (by rfl) rfl), (gwm 703 (by rfl) rfl), by decide +kernel, by decide +kernel, by decide +kernel⟩, TX9, 12, rfl⟩
set_option maxRecDepth 100000 in
theorem mv_RL_89 : aMV RL 89 mX8_type 8 1 := ⟨Or.inl (gwm 613 (by rfl) rfl), (gwm 614 (by rfl) rfl), (gwm 615 (by rfl) rfl), ⟨(gwm 68 (by rfl) rfl), (gwm 616 (by rfl) rfl), by decide +kernel, by decide +kernel, by decide +kernel⟩, TX8, 7, rfl⟩
set_option maxRecDepth 100000 in
theorem mv_RL_92 : aMV RL 92 mX9_type 9 1 := ⟨Or.inl (gwm 892 (by rfl) rfl), (gwm 893 (by rfl) rfl), (gwm 894 (by rfl) rfl), ⟨(gwm 77 (by rfl) rfl), (gwm 895 (by rfl) rfl), by decide +kernel, by decide +kernel, by decide +kernel⟩, TX9, 12, rfl⟩
set_option maxRecDepth 100000 in
theorem mv_RL_93 : aMV RL 93 mX8_clearText 8 0 := ⟨Or.inl (gwm 621 (by rfl) rfl), (gwm 622 (by rfl) rfl), (gwm 623 (by rfl) rfl), ⟨(gwm 68 (by rfl) rfl), (gwm 624 (by rfl) rfl), by decide +kernel, by decide +kernel, by decide +kernel⟩, TX8, 7, rfl⟩
set_option maxRecDepth 100000 in
theorem mv_RL_96 : aMV RL 96 mX9_clearText 9 0 := ⟨Or.inl (gwm 896 (by rfl) rfl), (gwm 897 (by rfl) rfl), (gwm 898 (by rfl) rfl), ⟨(gwm 77 (by rfl) rfl), (gwm 899 (by rfl) rfl), by decide +kernel, by decide +kernel, by decide +kernel⟩, TX9, 12, rfl⟩
set_option maxRecDepth 100000 in
theorem mv_RL_97 : aMV RL 97 mX8_fault 8 1 := ⟨Or.inl (gwm 625 (by rfl) rfl), (gwm 626 (by rfl) rfl), (gwm 627 (by rfl) rfl), ⟨(gwm 68 (by rfl) rfl), (gwm 628 (by rfl) rfl), by decide +kernel, by decide +kernel, by decide +kernel⟩, TX8, 7, rfl⟩
set_option maxRecDepth 100000 in
theorem mv_RL_100 : aMV RL 100 mX9_fault 9 1 := ⟨Or.inl (gwm 900 (by rfl) rfl), (gwm 901 (by rfl) rfl), (gwm 902 (by rfl) rfl), ⟨(gwm 77 (by rfl) rfl), (gwm 903 (by rfl) rfl), by decide +kernel, by decide +kernel, by decide +kernel⟩, TX9, 12, rfl⟩
set_option maxRecDepth 100000 in
theorem mv_RL_101 : aMV RL 101 mX8_read 8 0 := ⟨Or.inl (gwm 648 (by rfl) rfl), (gwm 649 (by rfl) rfl), (gwm 650 (by rfl) rfl), ⟨(gwm 68 (by rfl) rfl), (gwm 651 (by rfl) rfl), by decide +kernel, by decide +kernel, by decide +kernel⟩, TX8, 7, rfl⟩
set_option maxRecDepth 100000 in
theorem mv_RL_104 : aMV RL 104 mX9_read 9 0 := ⟨Or.inl (gwm 908 (by rfl) rfl), (gwm 909 (by rfl) rfl), (gwm 910 (by rfl) rfl), ⟨(gwm 77 (by rfl) rfl), (gwm 911 (by rfl) rfl), by decide +kernel, by decide +kernel, by decide +kernel⟩, TX9, 12, rfl⟩
set_option maxRecDepth 100000 in
theorem ol_RX9_1 : Cond.methodLink RX9 1 objectInit ∈ GW := (gwm 662 (by rfl) rfl)
set_option maxRecDepth 100000 in
theorem ms_RX9_32 : aMS RX9 32 mX9_in 3 := ⟨Or.inl ⟨(gwm 708 (by rfl) rfl), rfl⟩, (gwm 709 (by rfl) rfl), ⟨(gwm 77 (by rfl) rfl), (gwm 710 (by rfl) rfl), by decide +kernel, by decide +kernel, by decide +kernel⟩⟩
set_option maxRecDepth 100000 in
theorem mv_RX9_36 : aMV RX9 36 mX9_records 9 0 := ⟨Or.inl (gwm 711 (by rfl) rfl), (gwm 713 (by rfl) rfl), (gwm 42 (by rfl) rfl), ⟨(gwm 77 (by rfl) rfl), (gwm 714 (by rfl) rfl), by decide +kernel, by decide +kernel, by decide +kernel⟩, TX9, 12, rfl⟩
set_option maxRecDepth 100000 in
theorem mv_RX9_39 : aMV RX9 39 mX9_layers 9 1 := ⟨Or.inl (gwm 731 (by rfl) rfl), (gwm 733 (by rfl) rfl), (gwm 46 (by rfl) rfl), ⟨(gwm 77 (by rfl) rfl), (gwm 734 (by rfl) rfl), by decide +kernel, by decide +kernel, by decide +kernel⟩, TX9, 12, rfl⟩
set_option maxRecDepth 100000 in
theorem mv_RX9_43 : aMV RX9 43 mX9_of 9 3 := ⟨Or.inl (gwm 738 (by rfl) rfl), (gwm 740 (by rfl) rfl), (gwm 47 (by rfl) rfl), ⟨(gwm 77 (by rfl) rfl), (gwm 741 (by rfl) rfl), by decide +kernel, by decide +kernel, by decide +kernel⟩, TX9, 12, rfl⟩
set_option maxRecDepth 100000 in
theorem mv_RX9_47 : aMV RX9 47 mX9_isColor 9 1 := ⟨Or.inl (gwm 719 (by rfl) rfl), (gwm 721 (by rfl) rfl), (gwm 43 (by rfl) rfl), ⟨(gwm 77 (by rfl) rfl), (gwm 722 (by rfl) rfl), by decide +kernel, by decide +kernel, by decide +kernel⟩, TX9, 12, rfl⟩
set_option maxRecDepth 100000 in
theorem mv_RX9_51 : aMV RX9 51 mX9_pullOf 9 1 := ⟨Or.inl (gwm 723 (by rfl) rfl), (gwm 725 (by rfl) rfl), (gwm 44 (by rfl) rfl), ⟨(gwm 77 (by rfl) rfl), (gwm 726 (by rfl) rfl), by decide +kernel, by decide +kernel, by decide +kernel⟩, TX9, 12, rfl⟩
set_option maxRecDepth 100000 in
theorem mv_RX9_54 : aMV RX9 54 mX9_onPlate 9 1 := ⟨Or.inl (gwm 727 (by rfl) rfl), (gwm 729 (by rfl) rfl), (gwm 45 (by rfl) rfl), ⟨(gwm 77 (by rfl) rfl), (gwm 730 (by rfl) rfl), by decide +kernel, by decide +kernel, by decide +kernel⟩, TX9, 12, rfl⟩
set_option maxRecDepth 100000 in
theorem mv_RX9_57 : aMV RX9 57 mX9_inWishes 9 1 := ⟨Or.inl (gwm 745 (by rfl) rfl), (gwm 747 (by rfl) rfl), (gwm 48 (by rfl) rfl), ⟨(gwm 77 (by rfl) rfl), (gwm 748 (by rfl) rfl), by decide +kernel, by decide +kernel, by decide +kernel⟩, TX9, 12, rfl⟩
set_option maxRecDepth 100000 in
theorem ms_RX9_60 : aMS RX9 60 mX9_fieldAt 1 := ⟨Or.inl ⟨(gwm 735 (by rfl) rfl), rfl⟩, (gwm 736 (by rfl) rfl), ⟨(gwm 77 (by rfl) rfl), (gwm 737 (by rfl) rfl), by decide +kernel, by decide +kernel, by decide +kernel⟩⟩
set_option maxRecDepth 100000 in
theorem ms_RX9_63 : aMS RX9 63 mX9_layerAt 2 := ⟨Or.inl ⟨(gwm 742 (by rfl) rfl), rfl⟩, (gwm 743 (by rfl) rfl), ⟨(gwm 77 (by rfl) rfl), (gwm 744 (by rfl) rfl), by decide +kernel, by decide +kernel, by decide +kernel⟩⟩
set_option maxRecDepth 100000 in
theorem ms_RX9_67 : aMS RX9 67 mX9_isField 1 := ⟨Or.inl ⟨(gwm 753 (by rfl) rfl), rfl⟩, (gwm 754 (by rfl) rfl), ⟨(gwm 77 (by rfl) rfl), (gwm 755 (by rfl) rfl), by decide +kernel, by decide +kernel, by decide +kernel⟩⟩
set_option maxRecDepth 100000 in
theorem mv_RX9_70 : aMV RX9 70 mX9_layersWith 9 3 := ⟨Or.inl (gwm 756 (by rfl) rfl), (gwm 758 (by rfl) rfl), (gwm 49 (by rfl) rfl), ⟨(gwm 77 (by rfl) rfl), (gwm 759 (by rfl) rfl), by decide +kernel, by decide +kernel, by decide +kernel⟩, TX9, 12, rfl⟩
set_option maxRecDepth 100000 in
theorem mv_RX9_73 : aMV RX9 73 mX9_allLayers 9 2 := ⟨Or.inl (gwm 768 (by rfl) rfl), (gwm 770 (by rfl) rfl), (gwm 50 (by rfl) rfl), ⟨(gwm 77 (by rfl) rfl), (gwm 771 (by rfl) rfl), by decide +kernel, by decide +kernel, by decide +kernel⟩, TX9, 12, rfl⟩
set_option maxRecDepth 100000 in
theorem mv_RX9_76 : aMV RX9 76 mX9_pull 9 1 := ⟨Or.inl (gwm 780 (by rfl) rfl), (gwm 782 (by rfl) rfl), (gwm 51 (by rfl) rfl), ⟨(gwm 77 (by rfl) rfl), (gwm 783 (by rfl) rfl), by decide +kernel, by decide +kernel, by decide +kernel⟩, TX9, 12, rfl⟩
set_option maxRecDepth 100000 in
theorem mv_RX9_79 : aMV RX9 79 mX9_melting 9 1 := ⟨Or.inl (gwm 792 (by rfl) rfl), (gwm 794 (by rfl) rfl), (gwm 54 (by rfl) rfl), ⟨(gwm 77 (by rfl) rfl), (gwm 795 (by rfl) rfl), by decide +kernel, by decide +kernel, by decide +kernel⟩, TX9, 12, rfl⟩
set_option maxRecDepth 100000 in
theorem mv_RX9_82 : aMV RX9 82 mX9_burning 9 1 := ⟨Or.inl (gwm 800 (by rfl) rfl), (gwm 802 (by rfl) rfl), (gwm 56 (by rfl) rfl), ⟨(gwm 77 (by rfl) rfl), (gwm 803 (by rfl) rfl), by decide +kernel, by decide +kernel, by decide +kernel⟩, TX9, 12, rfl⟩
set_option maxRecDepth 100000 in
theorem mv_RX9_85 : aMV RX9 85 mX9_strain 9 2 := ⟨Or.inl (gwm 784 (by rfl) rfl), (gwm 786 (by rfl) rfl), (gwm 52 (by rfl) rfl), ⟨(gwm 77 (by rfl) rfl), (gwm 787 (by rfl) rfl), by decide +kernel, by decide +kernel, by decide +kernel⟩, TX9, 12, rfl⟩
set_option maxRecDepth 100000 in
theorem mv_RX9_88 : aMV RX9 88 mX9_greatestMelting 9 1 := ⟨Or.inl (gwm 788 (by rfl) rfl), (gwm 790 (by rfl) rfl), (gwm 53 (by rfl) rfl), ⟨(gwm 77 (by rfl) rfl), (gwm 791 (by rfl) rfl), by decide +kernel, by decide +kernel, by decide +kernel⟩, TX9, 12, rfl⟩
set_option maxRecDepth 100000 in
theorem mv_RX9_91 : aMV RX9 91 mX9_leastBurning 9 1 := ⟨Or.inl (gwm 796 (by rfl) rfl), (gwm 798 (by rfl) rfl), (gwm 55 (by rfl) rfl), ⟨(gwm 77 (by rfl) rfl), (gwm 799 (by rfl) rfl), by decide +kernel, by decide +kernel, by decide +kernel⟩, TX9, 12, rfl⟩
set_option maxRecDepth 100000 in
theorem ms_RX9_94 : aMS RX9 94 mX9_isSetting 2 := ⟨Or.inl ⟨(gwm 808 (by rfl) rfl), rfl⟩, (gwm 809 (by rfl) rfl), ⟨(gwm 77 (by rfl) rfl), (gwm 810 (by rfl) rfl), by decide +kernel, by decide +kernel, by decide +kernel⟩⟩
set_option maxRecDepth 100000 in
theorem mv_RX9_98 : aMV RX9 98 mX9_crackedOnes 9 0 := ⟨Or.inl (gwm 815 (by rfl) rfl), (gwm 817 (by rfl) rfl), (gwm 57 (by rfl) rfl), ⟨(gwm 77 (by rfl) rfl), (gwm 818 (by rfl) rfl), by decide +kernel, by decide +kernel, by decide +kernel⟩, TX9, 12, rfl⟩
set_option maxRecDepth 100000 in
theorem mv_RX9_102 : aMV RX9 102 mX9_wishedOnes 9 0 := ⟨Or.inl (gwm 819 (by rfl) rfl), (gwm 821 (by rfl) rfl), (gwm 58 (by rfl) rfl), ⟨(gwm 77 (by rfl) rfl), (gwm 822 (by rfl) rfl), by decide +kernel, by decide +kernel, by decide +kernel⟩, TX9, 12, rfl⟩
set_option maxRecDepth 100000 in
theorem mv_RX9_108 : aMV RX9 108 mX9_becomes 9 3 := ⟨Or.inl (gwm 834 (by rfl) rfl), (gwm 836 (by rfl) rfl), (gwm 60 (by rfl) rfl), ⟨(gwm 77 (by rfl) rfl), (gwm 837 (by rfl) rfl), by decide +kernel, by decide +kernel, by decide +kernel⟩, TX9, 12, rfl⟩
set_option maxRecDepth 100000 in
theorem ms_RX9_111 : aMS RX9 111 mX9_isHeat 1 := ⟨Or.inl ⟨(gwm 827 (by rfl) rfl), rfl⟩, (gwm 828 (by rfl) rfl), ⟨(gwm 77 (by rfl) rfl), (gwm 829 (by rfl) rfl), by decide +kernel, by decide +kernel, by decide +kernel⟩⟩
set_option maxRecDepth 100000 in
theorem mv_RX9_114 : aMV RX9 114 mX9_fires 9 2 := ⟨Or.inl (gwm 830 (by rfl) rfl), (gwm 832 (by rfl) rfl), (gwm 59 (by rfl) rfl), ⟨(gwm 77 (by rfl) rfl), (gwm 833 (by rfl) rfl), by decide +kernel, by decide +kernel, by decide +kernel⟩, TX9, 12, rfl⟩
set_option maxRecDepth 100000 in
theorem mv_RX9_118 : aMV RX9 118 mX9_tries 9 1 := ⟨Or.inl (gwm 842 (by rfl) rfl), (gwm 844 (by rfl) rfl), (gwm 61 (by rfl) rfl), ⟨(gwm 77 (by rfl) rfl), (gwm 845 (by rfl) rfl), by decide +kernel, by decide +kernel, by decide +kernel⟩, TX9, 12, rfl⟩
set_option maxRecDepth 100000 in
theorem ms_RX9_122 : aMS RX9 122 mX9_isFront 1 := ⟨Or.inl ⟨(gwm 854 (by rfl) rfl), rfl⟩, (gwm 855 (by rfl) rfl), ⟨(gwm 77 (by rfl) rfl), (gwm 856 (by rfl) rfl), by decide +kernel, by decide +kernel, by decide +kernel⟩⟩
set_option maxRecDepth 100000 in
theorem ms_RX9_125 : aMS RX9 125 mX9_digit 2 := ⟨Or.inl ⟨(gwm 873 (by rfl) rfl), rfl⟩, (gwm 874 (by rfl) rfl), ⟨(gwm 77 (by rfl) rfl), (gwm 875 (by rfl) rfl), by decide +kernel, by decide +kernel, by decide +kernel⟩⟩
set_option maxRecDepth 100000 in
theorem mv_RX9_131 : aMV RX9 131 mX9_isWithin 9 1 := ⟨Or.inl (gwm 869 (by rfl) rfl), (gwm 871 (by rfl) rfl), (gwm 63 (by rfl) rfl), ⟨(gwm 77 (by rfl) rfl), (gwm 872 (by rfl) rfl), by decide +kernel, by decide +kernel, by decide +kernel⟩, TX9, 12, rfl⟩
set_option maxRecDepth 100000 in
theorem mv_RX9_134 : aMV RX9 134 mX9_cap 9 1 := ⟨Or.inl (gwm 876 (by rfl) rfl), (gwm 878 (by rfl) rfl), (gwm 64 (by rfl) rfl), ⟨(gwm 77 (by rfl) rfl), (gwm 879 (by rfl) rfl), by decide +kernel, by decide +kernel, by decide +kernel⟩, TX9, 12, rfl⟩
set_option maxRecDepth 100000 in
theorem mv_RX9_137 : aMV RX9 137 mX9_behind 9 3 := ⟨Or.inl (gwm 880 (by rfl) rfl), (gwm 882 (by rfl) rfl), (gwm 65 (by rfl) rfl), ⟨(gwm 77 (by rfl) rfl), (gwm 883 (by rfl) rfl), by decide +kernel, by decide +kernel, by decide +kernel⟩, TX9, 12, rfl⟩
set_option maxRecDepth 100000 in
theorem mv_RX9_140 : aMV RX9 140 mX9_plans 9 0 := ⟨Or.inl (gwm 865 (by rfl) rfl), (gwm 867 (by rfl) rfl), (gwm 62 (by rfl) rfl), ⟨(gwm 77 (by rfl) rfl), (gwm 868 (by rfl) rfl), by decide +kernel, by decide +kernel, by decide +kernel⟩, TX9, 12, rfl⟩
set_option maxRecDepth 100000 in
theorem mv_RX9_152 : aMV RX9 152 mX9_reads 9 1 := ⟨Or.inl (gwm 904 (by rfl) rfl), (gwm 906 (by rfl) rfl), (gwm 66 (by rfl) rfl), ⟨(gwm 77 (by rfl) rfl), (gwm 907 (by rfl) rfl), by decide +kernel, by decide +kernel, by decide +kernel⟩, TX9, 12, rfl⟩
set_option maxRecDepth 100000 in
theorem jw_max : Cond.static Lib.Math.max.name ∈ GW ∧ Cond.initialized "java/lang/Math" ∈ GW ∧ Cond.code Lib.Math.max.name Lib.Math.max.code 2 (some .int) ∈ GW := ⟨(gwm 468 (by rfl) rfl), (gwm 78 (by rfl) rfl), (gwm 469 (by rfl) rfl)⟩
set_option maxRecDepth 100000 in
theorem jw_min : Cond.static Lib.Math.min.name ∈ GW ∧ Cond.initialized "java/lang/Math" ∈ GW ∧ Cond.code Lib.Math.min.name Lib.Math.min.code 2 (some .int) ∈ GW := ⟨(gwm 353 (by rfl) rfl), (gwm 78 (by rfl) rfl), (gwm 354 (by rfl) rfl)⟩
set_option maxRecDepth 100000 in
theorem jw_abs : Cond.static Lib.Math.abs.name ∈ GW ∧ Cond.initialized "java/lang/Math" ∈ GW ∧ Cond.code Lib.Math.abs.name Lib.Math.abs.code 1 (some .int) ∈ GW := ⟨(gwm 461 (by rfl) rfl), (gwm 78 (by rfl) rfl), (gwm 462 (by rfl) rfl)⟩
set_option maxRecDepth 100000 in
theorem jw_copy : Cond.native arraycopyName ∈ GW ∧ Cond.static arraycopyName ∈ GW ∧ Cond.initialized "java/lang/System" ∈ GW := ⟨(gwm 357 (by rfl) rfl), (gwm 356 (by rfl) rfl), (gwm 79 (by rfl) rfl)⟩
set_option maxRecDepth 100000 in
theorem ow_init : Cond.instanceMethod objectInit ∈ GW ∧ Cond.code objectInit ⟨#[0xb1]⟩ 1 none ∈ GW := ⟨(gwm 86 (by rfl) rfl), (gwm 87 (by rfl) rfl)⟩
set_option maxRecDepth 100000 in
theorem kl_RX8_7 : Cond.classLink RX8 7 RX0 ∈ GW := (gwm 88 (by rfl) rfl)
set_option maxRecDepth 100000 in
theorem kl_RX8_16 : Cond.classLink RX8 16 RX2 ∈ GW := (gwm 197 (by rfl) rfl)
set_option maxRecDepth 100000 in
theorem kl_RX8_23 : Cond.classLink RX8 23 RX1 ∈ GW := (gwm 217 (by rfl) rfl)
set_option maxRecDepth 100000 in
theorem kl_RX8_30 : Cond.classLink RX8 30 RX5 ∈ GW := (gwm 248 (by rfl) rfl)
set_option maxRecDepth 100000 in
theorem kl_RX8_37 : Cond.classLink RX8 37 RX4 ∈ GW := (gwm 250 (by rfl) rfl)
set_option maxRecDepth 100000 in
theorem kl_RX8_44 : Cond.classLink RX8 44 RX6 ∈ GW := (gwm 285 (by rfl) rfl)
set_option maxRecDepth 100000 in
theorem kl_RX0_9 : Cond.classLink RX0 9 RX3 ∈ GW := (gwm 94 (by rfl) rfl)
set_option maxRecDepth 100000 in
theorem kl_RX0_18 : Cond.classLink RX0 18 RX5 ∈ GW := (gwm 124 (by rfl) rfl)
set_option maxRecDepth 100000 in
theorem kl_RX0_25 : Cond.classLink RX0 25 RX7 ∈ GW := (gwm 156 (by rfl) rfl)
set_option maxRecDepth 100000 in
theorem kl_RX2_9 : Cond.classLink RX2 9 RX0 ∈ GW := (gwm 203 (by rfl) rfl)
set_option maxRecDepth 100000 in
theorem kl_RL_7 : Cond.classLink RL 7 RX8 ∈ GW := (gwm 80 (by rfl) rfl)
set_option maxRecDepth 100000 in
theorem kl_RL_10 : Cond.classLink RL 10 RX9 ∈ GW := (gwm 657 (by rfl) rfl)
set_option maxRecDepth 100000 in
theorem ki_RX8 : Cond.instantiable RX8 7 ∈ GW := (gwm 81 (by rfl) rfl)
set_option maxRecDepth 100000 in
theorem kn_RX8 : Cond.initialized RX8 ∈ GW := (gwm 68 (by rfl) rfl)
set_option maxRecDepth 100000 in
theorem ki_RX0 : Cond.instantiable RX0 5 ∈ GW := (gwm 89 (by rfl) rfl)
set_option maxRecDepth 100000 in
theorem kn_RX0 : Cond.initialized RX0 ∈ GW := (gwm 69 (by rfl) rfl)
set_option maxRecDepth 100000 in
theorem ki_RX1 : Cond.instantiable RX1 6 ∈ GW := (gwm 218 (by rfl) rfl)
set_option maxRecDepth 100000 in
theorem kn_RX1 : Cond.initialized RX1 ∈ GW := (gwm 74 (by rfl) rfl)
set_option maxRecDepth 100000 in
theorem ki_RX2 : Cond.instantiable RX2 3 ∈ GW := (gwm 198 (by rfl) rfl)
set_option maxRecDepth 100000 in
theorem kn_RX2 : Cond.initialized RX2 ∈ GW := (gwm 73 (by rfl) rfl)
set_option maxRecDepth 100000 in
theorem ki_RX3 : Cond.instantiable RX3 4 ∈ GW := (gwm 95 (by rfl) rfl)
set_option maxRecDepth 100000 in
theorem kn_RX3 : Cond.initialized RX3 ∈ GW := (gwm 70 (by rfl) rfl)
set_option maxRecDepth 100000 in
theorem ki_RX4 : Cond.instantiable RX4 8 ∈ GW := (gwm 251 (by rfl) rfl)
set_option maxRecDepth 100000 in
theorem kn_RX4 : Cond.initialized RX4 ∈ GW := (gwm 75 (by rfl) rfl)
set_option maxRecDepth 100000 in
theorem ki_RX5 : Cond.instantiable RX5 5 ∈ GW := (gwm 125 (by rfl) rfl)
set_option maxRecDepth 100000 in
theorem kn_RX5 : Cond.initialized RX5 ∈ GW := (gwm 71 (by rfl) rfl)
set_option maxRecDepth 100000 in
theorem ki_RX6 : Cond.instantiable RX6 4 ∈ GW := (gwm 286 (by rfl) rfl)
set_option maxRecDepth 100000 in
theorem kn_RX6 : Cond.initialized RX6 ∈ GW := (gwm 76 (by rfl) rfl)
set_option maxRecDepth 100000 in
theorem ki_RX7 : Cond.instantiable RX7 2 ∈ GW := (gwm 157 (by rfl) rfl)
set_option maxRecDepth 100000 in
theorem kn_RX7 : Cond.initialized RX7 ∈ GW := (gwm 72 (by rfl) rfl)
set_option maxRecDepth 100000 in
theorem ki_RX9 : Cond.instantiable RX9 12 ∈ GW := (gwm 658 (by rfl) rfl)
set_option maxRecDepth 100000 in
theorem kn_RX9 : Cond.initialized RX9 ∈ GW := (gwm 77 (by rfl) rfl)
set_option maxRecDepth 100000 in
theorem ka_boolean : Cond.arrayClass .boolean ∈ GW := (gwm 247 (by rfl) rfl)
set_option maxRecDepth 100000 in
theorem ka_char : Cond.arrayClass .char ∈ GW := (gwm 307 (by rfl) rfl)
set_option maxRecDepth 100000 in
theorem ka_int : Cond.arrayClass .int ∈ GW := (gwm 123 (by rfl) rfl)
set_option maxRecDepth 100000 in
theorem sl_RX8_162 : Cond.fieldLink RX8 162 RX8 "LEAST_SETTING" "[I" ∈ GW := (gwm 479 (by rfl) rfl)
set_option maxRecDepth 100000 in
theorem sl_RX8_165 : Cond.fieldLink RX8 165 RX8 "GREATEST_SETTING" "[I" ∈ GW := (gwm 481 (by rfl) rfl)
end
section
theorem bp_m4 : (Int8.ofInt (-4)).toInt32 = Int32.ofInt (-4) := by decide +kernel
theorem bp_m3 : (Int8.ofInt (-3)).toInt32 = Int32.ofInt (-3) := by decide +kernel
theorem bp_m2 : (Int8.ofInt (-2)).toInt32 = Int32.ofInt (-2) := by decide +kernel
theorem bp_6 : (Int8.ofInt 6).toInt32 = Int32.ofInt 6 := by decide +kernel
theorem bp_7 : (Int8.ofInt 7).toInt32 = Int32.ofInt 7 := by decide +kernel
theorem bp_8 : (Int8.ofInt 8).toInt32 = Int32.ofInt 8 := by decide +kernel
theorem bp_9 : (Int8.ofInt 9).toInt32 = Int32.ofInt 9 := by decide +kernel
theorem bp_10 : (Int8.ofInt 10).toInt32 = Int32.ofInt 10 := by decide +kernel
theorem bp_11 : (Int8.ofInt 11).toInt32 = Int32.ofInt 11 := by decide +kernel
theorem bp_12 : (Int8.ofInt 12).toInt32 = Int32.ofInt 12 := by decide +kernel
theorem bp_18 : (Int8.ofInt 18).toInt32 = Int32.ofInt 18 := by decide +kernel
theorem bp_19 : (Int8.ofInt 19).toInt32 = Int32.ofInt 19 := by decide +kernel
theorem bp_20 : (Int8.ofInt 20).toInt32 = Int32.ofInt 20 := by decide +kernel
theorem bp_21 : (Int8.ofInt 21).toInt32 = Int32.ofInt 21 := by decide +kernel
theorem bp_31 : (Int8.ofInt 31).toInt32 = Int32.ofInt 31 := by decide +kernel
theorem bp_32 : (Int8.ofInt 32).toInt32 = Int32.ofInt 32 := by decide +kernel
theorem bp_37 : (Int8.ofInt 37).toInt32 = Int32.ofInt 37 := by decide +kernel
theorem bp_40 : (Int8.ofInt 40).toInt32 = Int32.ofInt 40 := by decide +kernel
theorem bp_48 : (Int8.ofInt 48).toInt32 = Int32.ofInt 48 := by decide +kernel
theorem bp_53 : (Int8.ofInt 53).toInt32 = Int32.ofInt 53 := by decide +kernel
theorem bp_59 : (Int8.ofInt 59).toInt32 = Int32.ofInt 59 := by decide +kernel
theorem bp_60 : (Int8.ofInt 60).toInt32 = Int32.ofInt 60 := by decide +kernel
theorem bp_61 : (Int8.ofInt 61).toInt32 = Int32.ofInt 61 := by decide +kernel
theorem bp_64 : (Int8.ofInt 64).toInt32 = Int32.ofInt 64 := by decide +kernel
theorem bp_80 : (Int8.ofInt 80).toInt32 = Int32.ofInt 80 := by decide +kernel
theorem bp_97 : (Int8.ofInt 97).toInt32 = Int32.ofInt 97 := by decide +kernel
theorem bp_108 : (Int8.ofInt 108).toInt32 = Int32.ofInt 108 := by decide +kernel
theorem bp_114 : (Int8.ofInt 114).toInt32 = Int32.ofInt 114 := by decide +kernel
theorem bp_115 : (Int8.ofInt 115).toInt32 = Int32.ofInt 115 := by decide +kernel
theorem bp_116 : (Int8.ofInt 116).toInt32 = Int32.ofInt 116 := by decide +kernel
theorem bp_117 : (Int8.ofInt 117).toInt32 = Int32.ofInt 117 := by decide +kernel
theorem bp_118 : (Int8.ofInt 118).toInt32 = Int32.ofInt 118 := by decide +kernel
theorem bp_119 : (Int8.ofInt 119).toInt32 = Int32.ofInt 119 := by decide +kernel
theorem bp_120 : (Int8.ofInt 120).toInt32 = Int32.ofInt 120 := by decide +kernel
theorem bp_121 : (Int8.ofInt 121).toInt32 = Int32.ofInt 121 := by decide +kernel
theorem bp_122 : (Int8.ofInt 122).toInt32 = Int32.ofInt 122 := by decide +kernel
theorem bp_123 : (Int8.ofInt 123).toInt32 = Int32.ofInt 123 := by decide +kernel
theorem bp_124 : (Int8.ofInt 124).toInt32 = Int32.ofInt 124 := by decide +kernel
theorem bp_125 : (Int8.ofInt 125).toInt32 = Int32.ofInt 125 := by decide +kernel
theorem bp_126 : (Int8.ofInt 126).toInt32 = Int32.ofInt 126 := by decide +kernel
theorem sp_150 : (Int16.ofInt 150).toInt32 = Int32.ofInt 150 := by decide +kernel
theorem sp_160 : (Int16.ofInt 160).toInt32 = Int32.ofInt 160 := by decide +kernel
theorem sp_170 : (Int16.ofInt 170).toInt32 = Int32.ofInt 170 := by decide +kernel
theorem sp_200 : (Int16.ofInt 200).toInt32 = Int32.ofInt 200 := by decide +kernel
theorem sp_400 : (Int16.ofInt 400).toInt32 = Int32.ofInt 400 := by decide +kernel
theorem sp_450 : (Int16.ofInt 450).toInt32 = Int32.ofInt 450 := by decide +kernel
theorem sp_500 : (Int16.ofInt 500).toInt32 = Int32.ofInt 500 := by decide +kernel
theorem sp_600 : (Int16.ofInt 600).toInt32 = Int32.ofInt 600 := by decide +kernel
theorem sp_900 : (Int16.ofInt 900).toInt32 = Int32.ofInt 900 := by decide +kernel
theorem sp_1000 : (Int16.ofInt 1000).toInt32 = Int32.ofInt 1000 := by decide +kernel
theorem sp_1200 : (Int16.ofInt 1200).toInt32 = Int32.ofInt 1200 := by decide +kernel
theorem sp_4095 : (Int16.ofInt 4095).toInt32 = Int32.ofInt 4095 := by decide +kernel
theorem sp_4096 : (Int16.ofInt 4096).toInt32 = Int32.ofInt 4096 := by decide +kernel

theorem up_rec (n : Int) (P : Nat → Prop) (h0 : 0 ≤ n) (h : ∀ i : Nat, (i : Int) ≤ n → ((i : Int) < n → P (i + 1)) → P i) : P 0 := by
  have key : ∀ k i : Nat, (i : Int) + k = n → P i := by
    intro k
    induction k with
    | zero => exact fun i hi => h i (by omega) (fun z => by omega)
    | succ k ih => exact fun i hi => h i (by omega) (fun _ => ih (i + 1) (by omega))
  exact key n.toNat 0 (by omega)
theorem AP.to {K : Nat} {M : MI} {pc : Nat} {L L' : List (Option AV)} {S S' : List AV} {m m' : AM} {Q : Option Int → AM → Prop} (k : AP K M pc L' S' m' Q) (hL : L' = L) (hS : S' = S) (hm : m' = m) : AP K M pc L S m Q := by
  subst hL; subst hS; subst hm; exact k
def lle : List (Option AV) → List (Option AV) → Prop
  | [], _ => True
  | none :: L', _ :: L => True ∧ lle L' L
  | some v :: L', o :: L => o = some v ∧ lle L' L
  | _ :: _, [] => False
theorem lle_at : ∀ (L' L : List (Option AV)), lle L' L → ∀ (i : Nat) (v : AV), L'[i]? = some (some v) → L[i]? = some (some v)
  | [], _, _, i, v, hv => by simp at hv
  | none :: L', [], h, _, _, _ => by cases h
  | some _ :: L', [], h, _, _, _ => by cases h
  | none :: L', o :: L, h, i, v, hv => by
    cases i with
    | zero => simp at hv
    | succ i => exact lle_at L' L h.2 i v (by simpa using hv)
  | some w :: L', o :: L, h, i, v, hv => by
    cases i with
    | zero =>
      have e : w = v := by simpa using hv
      have h1 := h.1
      subst e
      simpa using h1
    | succ i => exact lle_at L' L h.2 i v (by simpa using hv)
theorem AP.bk {K : Nat} {M : MI} {pc : Nat} {L L' : List (Option AV)} {S : List AV} {m m' : AM} {Q : Option Int → AM → Prop} (k : AP K M pc L' S m' Q) (hL : lle L' L) (hm : m = m') : AP K M pc L S m Q := by
  subst hm; exact k.loc (lle_at L' L hL)
theorem am_same {m : AM} {k : Nat} {j v : Int} : am_up m k j v k j = v := if_pos ⟨rfl, rfl⟩
theorem am_k {m : AM} {k k' : Nat} {j j' v : Int} (h : k' ≠ k) : am_up m k j v k' j' = m k' j' := if_neg (fun z => h z.1)
theorem am_j {m : AM} {k k' : Nat} {j j' v : Int} (h : j' ≠ j) : am_up m k j v k' j' = m k' j' := if_neg (fun z => h z.2)
def sumL (g : Int → Int) : Nat → Int
  | 0 => 0
  | k + 1 => sumL g k + g k
theorem sumL_succ (g : Int → Int) (k : Nat) : sumL g (k + 1) = sumL g k + g k := rfl
theorem sumL_congr {g g' : Int → Int} {k : Nat} (h : ∀ i : Nat, i < k → g i = g' i) : sumL g k = sumL g' k := by
  induction k with
  | zero => rfl
  | succ k ih => rw [sumL_succ, sumL_succ, ih (fun i hi => h i (by omega)), h k (by omega)]
def isPlate (p sz co st so cr : Nat) : Prop := (sz = p + 1 ∧ co = p + 2 ∧ st = p + 3 ∧ so = p + 4 ∧ cr = p + 5) ∧ SH[p]? = some (.inl (5, [some (some sz), some (some co), some (some st), some (some so), some (some cr)])) ∧ SH[sz]? = some (.inr (.inl (0, 7))) ∧ SH[co]? = some (.inr (.inl (0, 21))) ∧ SH[st]? = some (.inr (.inl (0, 21))) ∧ SH[so]? = some (.inr (.inl (0, 21))) ∧ SH[cr]? = some (.inr (.inl (0, 6)))
theorem isPlate.n {p sz co st so cr : Nat} (h : isPlate p sz co st so cr) : sz = p + 1 ∧ co = p + 2 ∧ st = p + 3 ∧ so = p + 4 ∧ cr = p + 5 := h.1
theorem isPlate.o {p sz co st so cr : Nat} (h : isPlate p sz co st so cr) : SH[p]? = some (.inl (5, [some (some sz), some (some co), some (some st), some (some so), some (some cr)])) := h.2.1
theorem isPlate.a {p sz co st so cr : Nat} (h : isPlate p sz co st so cr) : SH[sz]? = some (.inr (.inl (0, 7))) := h.2.2.1
theorem isPlate.b {p sz co st so cr : Nat} (h : isPlate p sz co st so cr) : SH[co]? = some (.inr (.inl (0, 21))) := h.2.2.2.1
theorem isPlate.c {p sz co st so cr : Nat} (h : isPlate p sz co st so cr) : SH[st]? = some (.inr (.inl (0, 21))) := h.2.2.2.2.1
theorem isPlate.d {p sz co st so cr : Nat} (h : isPlate p sz co st so cr) : SH[so]? = some (.inr (.inl (0, 21))) := h.2.2.2.2.2.1
theorem isPlate.e {p sz co st so cr : Nat} (h : isPlate p sz co st so cr) : SH[cr]? = some (.inr (.inl (0, 6))) := h.2.2.2.2.2.2
theorem plate6 : isPlate 6 7 8 9 10 11 := ⟨⟨rfl, rfl, rfl, rfl, rfl⟩, rfl, rfl, rfl, rfl, rfl, rfl⟩
theorem plate85 : isPlate 85 86 87 88 89 90 := ⟨⟨rfl, rfl, rfl, rfl, rfl⟩, rfl, rfl, rfl, rfl, rfl, rfl⟩
/-- an answer of a yes-or-no method that writes nothing -/
abbrev yn (C : Prop) (m : AM) : Option Int → AM → Prop := fun v m' => ((C ∧ v = some 1) ∨ (¬ C ∧ v = some 0)) ∧ m = m'
abbrev an (z : Int) (m : AM) : Option Int → AM → Prop := fun v m' => v = some z ∧ m = m'
/-- layers smooth or dull hold on -/
abbrev holds (s : Int) : Prop := s = 2 ∨ s = 3
/-- the pull of a field out of how many layers, their states and their colours' expansions -/
def pullS (n : Int) (St Ex : Int → Int) : Int := sumL (fun l => if holds (St l) then 170 - Ex l else 0) n.toNat
theorem nat_of {n : Int} (h : 0 ≤ n) {i : Nat} (h1 : (i : Int) ≤ n) (h2 : n ≤ (i : Int)) : i = n.toNat := by omega
end
section
set_option maxHeartbeats 4000000 in
theorem qX8_within (v lo hi : Int) (m : AM) (hv : rng v) (h1 : rng lo) (h2 : rng hi) : CS 0 mX8_within [.inl v, .inl lo, .inl hi] m (yn (lo ≤ v ∧ v ≤ hi) m) := by
  refine cs_of (by decide +kernel) (Nat.le_of_ble_eq_true rfl) rfl ?_
  refine ap_ild_0 (pc := 0) dX8_within_0 ?_
  refine ap_ild_1 (pc := 1) dX8_within_1 ?_
  refine ap_icmp_lt (pc := 2) 14 dX8_within_2 rfl ⟨by omega, by omega⟩ ⟨by omega, by omega⟩ (fun c2 => ?_) (fun c2 => ?_)
  · skip
    refine ap_const (pc := 14) dX8_within_14 ?_
    exact ap_zreturn (pc := 15) dX8_within_15 rfl (by decide) ⟨Or.inr ⟨by omega, rfl⟩, rfl⟩
  · skip
    refine ap_ild_0 (pc := 5) dX8_within_5 ?_
    refine ap_ild_2 (pc := 6) dX8_within_6 ?_
    refine ap_icmp_gt (pc := 7) 14 dX8_within_7 rfl ⟨by omega, by omega⟩ ⟨by omega, by omega⟩ (fun c7 => ?_) (fun c7 => ?_)
    · skip
      refine ap_const (pc := 14) dX8_within_14 ?_
      exact ap_zreturn (pc := 15) dX8_within_15 rfl (by decide) ⟨Or.inr ⟨by omega, rfl⟩, rfl⟩
    · skip
      refine ap_const (pc := 10) dX8_within_10 ?_
      refine ap_goto (pc := 11) 15 dX8_within_11 rfl ?_
      exact ap_zreturn (pc := 15) dX8_within_15 rfl (by decide) ⟨Or.inl ⟨by omega, rfl⟩, rfl⟩

set_option maxHeartbeats 4000000 in
theorem qX9_in (v lo hi : Int) (m : AM) (hv : rng v) (h1 : rng lo) (h2 : rng hi) : CS 0 mX9_in [.inl v, .inl lo, .inl hi] m (yn (lo ≤ v ∧ v ≤ hi) m) := by
  refine cs_of (by decide +kernel) (Nat.le_of_ble_eq_true rfl) rfl ?_
  refine ap_ild_0 (pc := 0) dX9_in_0 ?_
  refine ap_ild_1 (pc := 1) dX9_in_1 ?_
  refine ap_icmp_lt (pc := 2) 14 dX9_in_2 rfl ⟨by omega, by omega⟩ ⟨by omega, by omega⟩ (fun c2 => ?_) (fun c2 => ?_)
  · skip
    refine ap_const (pc := 14) dX9_in_14 ?_
    exact ap_zreturn (pc := 15) dX9_in_15 rfl (by decide) ⟨Or.inr ⟨by omega, rfl⟩, rfl⟩
  · skip
    refine ap_ild_0 (pc := 5) dX9_in_5 ?_
    refine ap_ild_2 (pc := 6) dX9_in_6 ?_
    refine ap_icmp_gt (pc := 7) 14 dX9_in_7 rfl ⟨by omega, by omega⟩ ⟨by omega, by omega⟩ (fun c7 => ?_) (fun c7 => ?_)
    · skip
      refine ap_const (pc := 14) dX9_in_14 ?_
      exact ap_zreturn (pc := 15) dX9_in_15 rfl (by decide) ⟨Or.inr ⟨by omega, rfl⟩, rfl⟩
    · skip
      refine ap_const (pc := 10) dX9_in_10 ?_
      refine ap_goto (pc := 11) 15 dX9_in_11 rfl ?_
      exact ap_zreturn (pc := 15) dX9_in_15 rfl (by decide) ⟨Or.inl ⟨by omega, rfl⟩, rfl⟩

set_option maxHeartbeats 4000000 in
theorem qX8_placeOf (f l : Int) (m : AM)  : CS 0 mX8_placeOf [.inl f, .inl l] m (an (f * 3 + l) m) := by
  refine cs_of (by decide +kernel) (Nat.le_of_ble_eq_true rfl) rfl ?_
  refine ap_ild_0 (pc := 0) dX8_placeOf_0 ?_
  refine ap_const (pc := 1) dX8_placeOf_1 ?_
  refine ap_imul (pc := 2) dX8_placeOf_2 ?_
  refine ap_ild_1 (pc := 3) dX8_placeOf_3 ?_
  refine ap_iadd (pc := 4) dX8_placeOf_4 ?_
  exact ap_ireturn (pc := 5) dX8_placeOf_5 rfl ⟨rfl, rfl⟩

set_option maxHeartbeats 4000000 in
theorem qX8_isField (v : Int) (m : AM) (hv : rng v) : CS 1 mX8_isField [.inl v] m (yn (0 ≤ v ∧ v ≤ 6) m) := by
  refine cs_of (by decide +kernel) (Nat.le_of_ble_eq_true rfl) rfl ?_
  refine ap_ild_0 (pc := 0) dX8_isField_0 ?_
  refine ap_const (pc := 1) dX8_isField_1 ?_
  refine ap_bipush (pc := 2) dX8_isField_2 bp_6 ?_
  refine ap_invS (pc := 4) dX8_isField_4 ms_RX8_55 (av := [_, _, _]) (rest := []) (qX8_within _ _ _ _ ⟨by omega, by omega⟩ ⟨by omega, by omega⟩ ⟨by omega, by omega⟩) rfl rfl (Nat.le_of_ble_eq_true rfl) (by decide) (by decide) ?_
  rintro _ _ ⟨⟨w4, rfl⟩ | ⟨w4, rfl⟩, rfl⟩
  · skip
    exact ap_zreturn (pc := 7) dX8_isField_7 rfl (by decide) ⟨Or.inl ⟨by omega, rfl⟩, rfl⟩
  · skip
    exact ap_zreturn (pc := 7) dX8_isField_7 rfl (by decide) ⟨Or.inr ⟨by omega, rfl⟩, rfl⟩

set_option maxHeartbeats 4000000 in
theorem qX8_isFrontField (v : Int) (m : AM) (hv : rng v) : CS 1 mX8_isFrontField [.inl v] m (yn (0 ≤ v ∧ v ≤ 5) m) := by
  refine cs_of (by decide +kernel) (Nat.le_of_ble_eq_true rfl) rfl ?_
  refine ap_ild_0 (pc := 0) dX8_isFrontField_0 ?_
  refine ap_const (pc := 1) dX8_isFrontField_1 ?_
  refine ap_const (pc := 2) dX8_isFrontField_2 ?_
  refine ap_invS (pc := 3) dX8_isFrontField_3 ms_RX8_55 (av := [_, _, _]) (rest := []) (qX8_within _ _ _ _ ⟨by omega, by omega⟩ ⟨by omega, by omega⟩ ⟨by omega, by omega⟩) rfl rfl (Nat.le_of_ble_eq_true rfl) (by decide) (by decide) ?_
  rintro _ _ ⟨⟨w3, rfl⟩ | ⟨w3, rfl⟩, rfl⟩
  · skip
    exact ap_zreturn (pc := 6) dX8_isFrontField_6 rfl (by decide) ⟨Or.inl ⟨by omega, rfl⟩, rfl⟩
  · skip
    exact ap_zreturn (pc := 6) dX8_isFrontField_6 rfl (by decide) ⟨Or.inr ⟨by omega, rfl⟩, rfl⟩

set_option maxHeartbeats 4000000 in
theorem qX9_isField (v : Int) (m : AM) (hv : rng v) : CS 1 mX9_isField [.inl v] m (yn (0 ≤ v ∧ v ≤ 6) m) := by
  refine cs_of (by decide +kernel) (Nat.le_of_ble_eq_true rfl) rfl ?_
  refine ap_ild_0 (pc := 0) dX9_isField_0 ?_
  refine ap_const (pc := 1) dX9_isField_1 ?_
  refine ap_bipush (pc := 2) dX9_isField_2 bp_6 ?_
  refine ap_invS (pc := 4) dX9_isField_4 ms_RX9_32 (av := [_, _, _]) (rest := []) (qX9_in _ _ _ _ ⟨by omega, by omega⟩ ⟨by omega, by omega⟩ ⟨by omega, by omega⟩) rfl rfl (Nat.le_of_ble_eq_true rfl) (by decide) (by decide) ?_
  rintro _ _ ⟨⟨w4, rfl⟩ | ⟨w4, rfl⟩, rfl⟩
  · skip
    exact ap_zreturn (pc := 7) dX9_isField_7 rfl (by decide) ⟨Or.inl ⟨by omega, rfl⟩, rfl⟩
  · skip
    exact ap_zreturn (pc := 7) dX9_isField_7 rfl (by decide) ⟨Or.inr ⟨by omega, rfl⟩, rfl⟩

set_option maxHeartbeats 4000000 in
theorem qX9_isFront (v : Int) (m : AM) (hv : rng v) : CS 1 mX9_isFront [.inl v] m (yn (0 ≤ v ∧ v ≤ 5) m) := by
  refine cs_of (by decide +kernel) (Nat.le_of_ble_eq_true rfl) rfl ?_
  refine ap_ild_0 (pc := 0) dX9_isFront_0 ?_
  refine ap_const (pc := 1) dX9_isFront_1 ?_
  refine ap_const (pc := 2) dX9_isFront_2 ?_
  refine ap_invS (pc := 3) dX9_isFront_3 ms_RX9_32 (av := [_, _, _]) (rest := []) (qX9_in _ _ _ _ ⟨by omega, by omega⟩ ⟨by omega, by omega⟩ ⟨by omega, by omega⟩) rfl rfl (Nat.le_of_ble_eq_true rfl) (by decide) (by decide) ?_
  rintro _ _ ⟨⟨w3, rfl⟩ | ⟨w3, rfl⟩, rfl⟩
  · skip
    exact ap_zreturn (pc := 6) dX9_isFront_6 rfl (by decide) ⟨Or.inl ⟨by omega, rfl⟩, rfl⟩
  · skip
    exact ap_zreturn (pc := 6) dX9_isFront_6 rfl (by decide) ⟨Or.inr ⟨by omega, rfl⟩, rfl⟩

set_option maxHeartbeats 4000000 in
theorem qX8_isColor (v : Int) (m : AM) (hv : rng v) (hn : 0 ≤ m 2 3 ∧ m 2 3 ≤ 12) : CS 1 mX8_isColor [.inr 0, .inl v] m (yn (0 ≤ v ∧ v ≤ m 2 3 - 1) m) := by
  refine cs_of (by decide +kernel) (Nat.le_of_ble_eq_true rfl) rfl ?_
  refine ap_ild_1 (pc := 0) dX8_isColor_0 ?_
  refine ap_const (pc := 1) dX8_isColor_1 ?_
  refine ap_ald_0 (pc := 2) dX8_isColor_2 ?_
  refine ap_getR (pc := 3) dX8_isColor_3 fl_RX8_10 sh_0 rfl ?_
  refine ap_getR (pc := 6) dX8_isColor_6 fl_RX8_59 sh_1 rfl ?_
  refine ap_getI (pc := 9) (jz := 3) dX8_isColor_9 fl_RX8_63 sh_2 rfl rfl ?_
  refine ap_const (pc := 12) dX8_isColor_12 ?_
  refine ap_isub (pc := 13) dX8_isColor_13 ?_
  refine ap_invS (pc := 14) dX8_isColor_14 ms_RX8_55 (av := [_, _, _]) (rest := []) (qX8_within _ _ _ _ ⟨by omega, by omega⟩ ⟨by omega, by omega⟩ ⟨by omega, by omega⟩) rfl rfl (Nat.le_of_ble_eq_true rfl) (by decide) (by decide) ?_
  rintro _ _ ⟨⟨w14, rfl⟩ | ⟨w14, rfl⟩, rfl⟩
  · skip
    exact ap_zreturn (pc := 17) dX8_isColor_17 rfl (by decide) ⟨Or.inl ⟨by omega, rfl⟩, rfl⟩
  · skip
    exact ap_zreturn (pc := 17) dX8_isColor_17 rfl (by decide) ⟨Or.inr ⟨by omega, rfl⟩, rfl⟩

set_option maxHeartbeats 4000000 in
theorem qX9_isColor (v : Int) (m : AM) (hv : rng v) (hn : 0 ≤ m 101 0 ∧ m 101 0 ≤ 12) : CS 1 mX9_isColor [.inr 100, .inl v] m (yn (0 ≤ v ∧ v ≤ m 101 0 - 1) m) := by
  refine cs_of (by decide +kernel) (Nat.le_of_ble_eq_true rfl) rfl ?_
  refine ap_ild_1 (pc := 0) dX9_isColor_0 ?_
  refine ap_const (pc := 1) dX9_isColor_1 ?_
  refine ap_ald_0 (pc := 2) dX9_isColor_2 ?_
  refine ap_getR (pc := 3) dX9_isColor_3 fl_RX9_7 sh_100 rfl ?_
  refine ap_const (pc := 6) dX9_isColor_6 ?_
  refine ap_iaload (pc := 7) dX9_isColor_7 sh_101 (by omega) (by omega) (by decide) ?_
  refine ap_const (pc := 8) dX9_isColor_8 ?_
  refine ap_isub (pc := 9) dX9_isColor_9 ?_
  refine ap_invS (pc := 10) dX9_isColor_10 ms_RX9_32 (av := [_, _, _]) (rest := []) (qX9_in _ _ _ _ ⟨by omega, by omega⟩ ⟨by omega, by omega⟩ ⟨by omega, by omega⟩) rfl rfl (Nat.le_of_ble_eq_true rfl) (by decide) (by decide) ?_
  rintro _ _ ⟨⟨w10, rfl⟩ | ⟨w10, rfl⟩, rfl⟩
  · skip
    exact ap_zreturn (pc := 13) dX9_isColor_13 rfl (by decide) ⟨Or.inl ⟨by omega, rfl⟩, rfl⟩
  · skip
    exact ap_zreturn (pc := 13) dX9_isColor_13 rfl (by decide) ⟨Or.inr ⟨by omega, rfl⟩, rfl⟩

set_option maxHeartbeats 4000000 in
theorem qX9_melting (c : Int) (m : AM) (h0 : 0 ≤ c) (h1 : c < 12) : CS 0 mX9_melting [.inr 100, .inl c] m (an (m 101 (1 + 3 * c)) m) := by
  refine cs_of (by decide +kernel) (Nat.le_of_ble_eq_true rfl) rfl ?_
  refine ap_ald_0 (pc := 0) dX9_melting_0 ?_
  refine ap_getR (pc := 1) dX9_melting_1 fl_RX9_7 sh_100 rfl ?_
  refine ap_const (pc := 4) dX9_melting_4 ?_
  refine ap_const (pc := 5) dX9_melting_5 ?_
  refine ap_ild_1 (pc := 6) dX9_melting_6 ?_
  refine ap_imul (pc := 7) dX9_melting_7 ?_
  refine ap_iadd (pc := 8) dX9_melting_8 ?_
  refine ap_iaload (pc := 9) dX9_melting_9 sh_101 (by omega) (by omega) (by decide) ?_
  exact ap_ireturn (pc := 10) dX9_melting_10 rfl ⟨rfl, rfl⟩

set_option maxHeartbeats 4000000 in
theorem qX9_burning (c : Int) (m : AM) (h0 : 0 ≤ c) (h1 : c < 12) : CS 0 mX9_burning [.inr 100, .inl c] m (an (m 101 (1 + 3 * c + 1)) m) := by
  refine cs_of (by decide +kernel) (Nat.le_of_ble_eq_true rfl) rfl ?_
  refine ap_ald_0 (pc := 0) dX9_burning_0 ?_
  refine ap_getR (pc := 1) dX9_burning_1 fl_RX9_7 sh_100 rfl ?_
  refine ap_const (pc := 4) dX9_burning_4 ?_
  refine ap_const (pc := 5) dX9_burning_5 ?_
  refine ap_ild_1 (pc := 6) dX9_burning_6 ?_
  refine ap_imul (pc := 7) dX9_burning_7 ?_
  refine ap_iadd (pc := 8) dX9_burning_8 ?_
  refine ap_const (pc := 9) dX9_burning_9 ?_
  refine ap_iadd (pc := 10) dX9_burning_10 ?_
  refine ap_iaload (pc := 11) dX9_burning_11 sh_101 (by omega) (by omega) (by decide) ?_
  exact ap_ireturn (pc := 12) dX9_burning_12 rfl ⟨rfl, rfl⟩

set_option maxHeartbeats 4000000 in
theorem qX9_pullOf (c : Int) (m : AM) (h0 : 0 ≤ c) (h1 : c < 12) : CS 0 mX9_pullOf [.inr 100, .inl c] m (an (170 - m 101 (1 + 3 * c + 2)) m) := by
  refine cs_of (by decide +kernel) (Nat.le_of_ble_eq_true rfl) rfl ?_
  refine ap_sipush (pc := 0) dX9_pullOf_0 sp_170 ?_
  refine ap_ald_0 (pc := 3) dX9_pullOf_3 ?_
  refine ap_getR (pc := 4) dX9_pullOf_4 fl_RX9_7 sh_100 rfl ?_
  refine ap_const (pc := 7) dX9_pullOf_7 ?_
  refine ap_const (pc := 8) dX9_pullOf_8 ?_
  refine ap_ild_1 (pc := 9) dX9_pullOf_9 ?_
  refine ap_imul (pc := 10) dX9_pullOf_10 ?_
  refine ap_iadd (pc := 11) dX9_pullOf_11 ?_
  refine ap_const (pc := 12) dX9_pullOf_12 ?_
  refine ap_iadd (pc := 13) dX9_pullOf_13 ?_
  refine ap_iaload (pc := 14) dX9_pullOf_14 sh_101 (by omega) (by omega) (by decide) ?_
  refine ap_isub (pc := 15) dX9_pullOf_15 ?_
  exact ap_ireturn (pc := 16) dX9_pullOf_16 rfl ⟨rfl, rfl⟩

set_option maxHeartbeats 4000000 in
theorem qX3_pullOf (c : Int) (m : AM) (h0 : 0 ≤ c) (h1 : c < 12) : CS 0 mX3_pullOf [.inr 2, .inl c] m (an (170 - m 5 c) m) := by
  refine cs_of (by decide +kernel) (Nat.le_of_ble_eq_true rfl) rfl ?_
  refine ap_sipush (pc := 0) dX3_pullOf_0 sp_170 ?_
  refine ap_ald_0 (pc := 3) dX3_pullOf_3 ?_
  refine ap_getR (pc := 4) dX3_pullOf_4 fl_RX3_18 sh_2 rfl ?_
  refine ap_ild_1 (pc := 7) dX3_pullOf_7 ?_
  refine ap_iaload (pc := 8) dX3_pullOf_8 sh_5 (by omega) (by omega) (by decide) ?_
  refine ap_isub (pc := 9) dX3_pullOf_9 ?_
  exact ap_ireturn (pc := 10) dX3_pullOf_10 rfl ⟨rfl, rfl⟩

set_option maxHeartbeats 4000000 in
theorem qX9_fieldAt (f : Int) (m : AM)  : CS 0 mX9_fieldAt [.inl f] m (an (37 + 11 * f) m) := by
  refine cs_of (by decide +kernel) (Nat.le_of_ble_eq_true rfl) rfl ?_
  refine ap_bipush (pc := 0) dX9_fieldAt_0 bp_37 ?_
  refine ap_bipush (pc := 2) dX9_fieldAt_2 bp_11 ?_
  refine ap_ild_0 (pc := 4) dX9_fieldAt_4 ?_
  refine ap_imul (pc := 5) dX9_fieldAt_5 ?_
  refine ap_iadd (pc := 6) dX9_fieldAt_6 ?_
  exact ap_ireturn (pc := 7) dX9_fieldAt_7 rfl ⟨rfl, rfl⟩

set_option maxHeartbeats 4000000 in
theorem qX9_layers (f : Int) (m : AM) (h0 : 0 ≤ f) (h1 : f < 7) : CS 1 mX9_layers [.inr 100, .inl f] m (an (m 101 (37 + 11 * f)) m) := by
  refine cs_of (by decide +kernel) (Nat.le_of_ble_eq_true rfl) rfl ?_
  refine ap_ald_0 (pc := 0) dX9_layers_0 ?_
  refine ap_getR (pc := 1) dX9_layers_1 fl_RX9_7 sh_100 rfl ?_
  refine ap_ild_1 (pc := 4) dX9_layers_4 ?_
  refine ap_invS (pc := 5) dX9_layers_5 ms_RX9_60 (av := [_]) (rest := [_]) (qX9_fieldAt _ _) rfl rfl (Nat.le_of_ble_eq_true rfl) (by decide) (by decide) ?_
  rintro _ _ ⟨rfl, rfl⟩
  refine ap_iaload (pc := 8) dX9_layers_8 sh_101 (by omega) (by omega) (by decide) ?_
  exact ap_ireturn (pc := 9) dX9_layers_9 rfl ⟨rfl, rfl⟩

set_option maxHeartbeats 4000000 in
theorem qX9_layerAt (f l : Int) (m : AM)  : CS 1 mX9_layerAt [.inl f, .inl l] m (an (37 + 11 * f + 2 + 3 * l) m) := by
  refine cs_of (by decide +kernel) (Nat.le_of_ble_eq_true rfl) rfl ?_
  refine ap_ild_0 (pc := 0) dX9_layerAt_0 ?_
  refine ap_invS (pc := 1) dX9_layerAt_1 ms_RX9_60 (av := [_]) (rest := []) (qX9_fieldAt _ _) rfl rfl (Nat.le_of_ble_eq_true rfl) (by decide) (by decide) ?_
  rintro _ _ ⟨rfl, rfl⟩
  refine ap_const (pc := 4) dX9_layerAt_4 ?_
  refine ap_iadd (pc := 5) dX9_layerAt_5 ?_
  refine ap_const (pc := 6) dX9_layerAt_6 ?_
  refine ap_ild_1 (pc := 7) dX9_layerAt_7 ?_
  refine ap_imul (pc := 8) dX9_layerAt_8 ?_
  refine ap_iadd (pc := 9) dX9_layerAt_9 ?_
  exact ap_ireturn (pc := 10) dX9_layerAt_10 rfl ⟨rfl, rfl⟩

set_option maxHeartbeats 4000000 in
theorem qX9_of (f l w : Int) (m : AM) (h0 : 0 ≤ f) (h1 : f < 7) (h2 : 0 ≤ l) (h3 : l < 3) (h4 : 0 ≤ w) (h5 : w < 3) : CS 2 mX9_of [.inr 100, .inl f, .inl l, .inl w] m (an (m 101 (37 + 11 * f + 2 + 3 * l + w)) m) := by
  refine cs_of (by decide +kernel) (Nat.le_of_ble_eq_true rfl) rfl ?_
  refine ap_ald_0 (pc := 0) dX9_of_0 ?_
  refine ap_getR (pc := 1) dX9_of_1 fl_RX9_7 sh_100 rfl ?_
  refine ap_ild_1 (pc := 4) dX9_of_4 ?_
  refine ap_ild_2 (pc := 5) dX9_of_5 ?_
  refine ap_invS (pc := 6) dX9_of_6 ms_RX9_63 (av := [_, _]) (rest := [_]) (qX9_layerAt _ _ _) rfl rfl (Nat.le_of_ble_eq_true rfl) (by decide) (by decide) ?_
  rintro _ _ ⟨rfl, rfl⟩
  refine ap_ild_3 (pc := 9) dX9_of_9 ?_
  refine ap_iadd (pc := 10) dX9_of_10 ?_
  refine ap_iaload (pc := 11) dX9_of_11 sh_101 (by omega) (by omega) (by decide) ?_
  exact ap_ireturn (pc := 12) dX9_of_12 rfl ⟨rfl, rfl⟩

set_option maxHeartbeats 4000000 in
theorem qX5_holdsOn {p sz co st so cr : Nat} (hp : isPlate p sz co st so cr) (i : Int) (m : AM) (h0 : 0 ≤ i) (h1 : i < 21) (hs : 0 ≤ m st i ∧ m st i ≤ 4) : CS 0 mX5_holdsOn [.inr p, .inl i] m (yn (holds (m st i)) m) := by
  refine cs_of (by decide +kernel) (Nat.le_of_ble_eq_true rfl) rfl ?_
  refine ap_ald_0 (pc := 0) dX5_holdsOn_0 ?_
  refine ap_getR (pc := 1) dX5_holdsOn_1 fl_RX5_18 hp.o rfl ?_
  refine ap_ild_1 (pc := 4) dX5_holdsOn_4 ?_
  refine ap_iaload (pc := 5) dX5_holdsOn_5 hp.c (by omega) (by omega) (by decide) ?_
  refine ap_const (pc := 6) dX5_holdsOn_6 ?_
  refine ap_icmp_eq (pc := 7) 20 dX5_holdsOn_7 rfl (Or.inr ⟨⟨by omega, by omega⟩, ⟨by omega, by omega⟩⟩) (fun c7 => ?_) (fun c7 => ?_)
  · skip
    refine ap_const (pc := 20) dX5_holdsOn_20 ?_
    refine ap_goto (pc := 21) 25 dX5_holdsOn_21 rfl ?_
    exact ap_zreturn (pc := 25) dX5_holdsOn_25 rfl (by decide) ⟨Or.inl ⟨by omega, rfl⟩, rfl⟩
  · skip
    refine ap_ald_0 (pc := 10) dX5_holdsOn_10 ?_
    refine ap_getR (pc := 11) dX5_holdsOn_11 fl_RX5_18 hp.o rfl ?_
    refine ap_ild_1 (pc := 14) dX5_holdsOn_14 ?_
    refine ap_iaload (pc := 15) dX5_holdsOn_15 hp.c (by omega) (by omega) (by decide) ?_
    refine ap_const (pc := 16) dX5_holdsOn_16 ?_
    refine ap_icmp_ne (pc := 17) 24 dX5_holdsOn_17 rfl (Or.inr ⟨⟨by omega, by omega⟩, ⟨by omega, by omega⟩⟩) (fun c17 => ?_) (fun c17 => ?_)
    · skip
      refine ap_const (pc := 24) dX5_holdsOn_24 ?_
      exact ap_zreturn (pc := 25) dX5_holdsOn_25 rfl (by decide) ⟨Or.inr ⟨by omega, rfl⟩, rfl⟩
    · skip
      refine ap_const (pc := 20) dX5_holdsOn_20 ?_
      refine ap_goto (pc := 21) 25 dX5_holdsOn_21 rfl ?_
      exact ap_zreturn (pc := 25) dX5_holdsOn_25 rfl (by decide) ⟨Or.inl ⟨by omega, rfl⟩, rfl⟩

set_option maxHeartbeats 4000000 in
theorem qX5_pullOf {p sz co st so cr : Nat} (hp : isPlate p sz co st so cr) (f : Int) (m : AM) (h0 : 0 ≤ f) (h1 : f < 7) (hn : 0 ≤ m sz f ∧ m sz f ≤ 3) (hC : ∀ l : Int, 0 ≤ l → l < m sz f → (0 ≤ m co (f * 3 + l) ∧ m co (f * 3 + l) < 12) ∧ (0 ≤ m st (f * 3 + l) ∧ m st (f * 3 + l) ≤ 4)) : CS 1 mX5_pullOf [.inr p, .inl f, .inr 2] m (an (pullS (m sz f) (fun l => m st (f * 3 + l)) (fun l => m 5 (m co (f * 3 + l)))) m) := by
  refine cs_of (by decide +kernel) (Nat.le_of_ble_eq_true rfl) rfl ?_
  refine ap_const (pc := 0) dX5_pullOf_0 ?_
  refine ap_ist_3 (pc := 1) dX5_pullOf_1 (by decide) ?_
  refine ap_const (pc := 2) dX5_pullOf_2 ?_
  refine ap_ist_4 (pc := 3) dX5_pullOf_3 (by decide) ?_
  refine up_rec (m sz f) (fun i => AP 1 mX5_pullOf 5 [some (.inr p), some (.inl f), some (.inr 2), some (.inl (sumL (fun l => if holds (m st (f * 3 + l)) then 170 - m 5 (m co (f * 3 + l)) else 0) i)), some (.inl (i : Int)), none] [] m _) hn.1 (fun i hi ih => ?_)
  refine ap_ild_4 (pc := 5) dX5_pullOf_5 ?_
  refine ap_ald_0 (pc := 7) dX5_pullOf_7 ?_
  refine ap_getR (pc := 8) dX5_pullOf_8 fl_RX5_9 hp.o rfl ?_
  refine ap_ild_1 (pc := 11) dX5_pullOf_11 ?_
  refine ap_iaload (pc := 12) dX5_pullOf_12 hp.a (by omega) (by omega) (by decide) ?_
  refine ap_icmp_ge (pc := 13) 53 dX5_pullOf_13 rfl ⟨by omega, by omega⟩ ⟨by omega, by omega⟩ (fun c13 => ?_) (fun c13 => ?_)
  · skip
    obtain rfl := nat_of hn.1 hi c13
    refine ap_ild_3 (pc := 53) dX5_pullOf_53 ?_
    exact ap_ireturn (pc := 54) dX5_pullOf_54 rfl ⟨rfl, rfl⟩
  · skip
    have hl := hC (i : Int) (by omega) c13
    have hst := hl.2
    refine ap_ild_1 (pc := 16) dX5_pullOf_16 ?_
    refine ap_ild_4 (pc := 17) dX5_pullOf_17 ?_
    refine ap_invS (pc := 19) dX5_pullOf_19 ms_RX5_27 (av := [_, _]) (rest := []) (qX8_placeOf _ _ _) rfl rfl (Nat.le_of_ble_eq_true rfl) (by decide) (by decide) ?_
    rintro _ _ ⟨rfl, rfl⟩
    refine ap_ist_5 (pc := 22) dX5_pullOf_22 (by decide) ?_
    refine ap_ald_0 (pc := 24) dX5_pullOf_24 ?_
    refine ap_ild_5 (pc := 25) dX5_pullOf_25 ?_
    refine ap_invV (pc := 27) dX5_pullOf_27 mv_RX5_35 hp.o (av := [_]) (rest := []) (qX5_holdsOn hp _ _ (by omega) (by omega) hst) rfl rfl (Nat.le_of_ble_eq_true rfl) (by decide) (by decide) ?_
    rintro _ _ ⟨⟨w27, rfl⟩ | ⟨w27, rfl⟩, rfl⟩
    · skip
      refine ap_if_eq (pc := 30) 47 dX5_pullOf_30 rfl ⟨by omega, by omega⟩ (fun c30 => absurd c30 (by decide)) (fun _ => ?_)
      refine ap_ild_3 (pc := 33) dX5_pullOf_33 ?_
      refine ap_ald_2 (pc := 34) dX5_pullOf_34 ?_
      refine ap_ald_0 (pc := 35) dX5_pullOf_35 ?_
      refine ap_getR (pc := 36) dX5_pullOf_36 fl_RX5_15 hp.o rfl ?_
      refine ap_ild_5 (pc := 39) dX5_pullOf_39 ?_
      refine ap_iaload (pc := 41) dX5_pullOf_41 hp.b (by omega) (by omega) (by decide) ?_
      refine ap_invV (pc := 42) dX5_pullOf_42 mv_RX5_39 sh_2 (av := [_]) (rest := [_]) (qX3_pullOf _ _ (by omega) (by omega)) rfl rfl (Nat.le_of_ble_eq_true rfl) (by decide) (by decide) ?_
      rintro _ _ ⟨rfl, rfl⟩
      refine ap_iadd (pc := 45) dX5_pullOf_45 ?_
      refine ap_ist_3 (pc := 46) dX5_pullOf_46 (by decide) ?_
      refine ap_iinc_4 (pc := 47) dX5_pullOf_47 (by decide) ?_
      refine ap_goto (pc := 50) 5 dX5_pullOf_50 rfl ?_
      exact (ih c13).bk ⟨rfl, rfl, rfl, by first | (simp only [sumL_succ, if_pos w27]; done) | simp only [sumL_succ, if_neg w27, Int.add_zero], rfl, trivial, trivial⟩ rfl
    · skip
      refine ap_if_eq (pc := 30) 47 dX5_pullOf_30 rfl ⟨by omega, by omega⟩ (fun _ => ?_) (fun c30 => absurd c30 (by decide))
      refine ap_iinc_4 (pc := 47) dX5_pullOf_47 (by decide) ?_
      refine ap_goto (pc := 50) 5 dX5_pullOf_50 rfl ?_
      exact (ih c13).bk ⟨rfl, rfl, rfl, by first | (simp only [sumL_succ, if_pos w27]; done) | simp only [sumL_succ, if_neg w27, Int.add_zero], rfl, trivial, trivial⟩ rfl
end
section

/-- what a layer's firing writes -/
def hlM (m : AM) (st so : Nat) (i ns no gv ds db dd : Int) : AM := fun k j => if k = st ∧ j = i then ns else if k = so ∧ j = i then no else if k = 84 ∧ j = i then gv else if k = 83 ∧ j = 1 then m 83 1 + ds else if k = 83 ∧ j = 2 then m 83 2 + db else if k = 83 ∧ j = 3 then m 83 3 + dd else m k j
def fSt (h lg a M B s so : Int) : Int := if s = 4 then 4 else if h > B then 4 else if holds s then (if h ≥ M - 20 ∧ so + 1 > a ∧ s ≠ 3 then 3 else s) else if h ≥ M ∧ lg = 1 then 2 else if h ≥ M - 40 then 1 else s
def fSo (h M B s so : Int) : Int := if s ≠ 4 ∧ h ≤ B ∧ holds s ∧ h ≥ M - 20 then so + 1 else so
def fGv (h lg M B s : Int) : Int := if s ≠ 4 ∧ h ≤ B ∧ ((holds s ∧ h ≥ M - 20) ∨ (¬ holds s ∧ h ≥ M ∧ lg = 1)) then 1 else 0
def fdS (h lg M B s : Int) : Int := if s ≠ 4 ∧ h ≤ B ∧ ¬ holds s ∧ h ≥ M ∧ lg = 1 then 1 else 0
def fdB (h B s : Int) : Int := if s ≠ 4 ∧ h > B then 1 else 0
def fdD (h a M B s so : Int) : Int := if s ≠ 4 ∧ h ≤ B ∧ holds s ∧ h ≥ M - 20 ∧ so + 1 > a ∧ s ≠ 3 then 1 else 0
set_option maxHeartbeats 4000000 in
theorem qX5_hasHold {p sz co st so cr : Nat} (hp : isPlate p sz co st so cr) (f : Int) (m : AM) (h0 : 0 ≤ f) (h1 : f < 7) (hn : 0 ≤ m sz f ∧ m sz f ≤ 3) (hC : ∀ l : Int, 0 ≤ l → l < m sz f → 0 ≤ m st (f * 3 + l) ∧ m st (f * 3 + l) ≤ 4) : CS 1 mX5_hasHold [.inr p, .inl f] m (yn (∃ l : Int, 0 ≤ l ∧ l < m sz f ∧ holds (m st (f * 3 + l))) m) := by
  refine cs_of (by decide +kernel) (Nat.le_of_ble_eq_true rfl) rfl ?_
  refine ap_const (pc := 0) dX5_hasHold_0 ?_
  refine ap_ist_2 (pc := 1) dX5_hasHold_1 (by decide) ?_
  refine up_rec (m sz f) (fun i => (∀ l : Int, 0 ≤ l → l < i → ¬ holds (m st (f * 3 + l))) → AP 1 mX5_hasHold 2 [some (.inr p), some (.inl f), some (.inl (i : Int))] [] m _) hn.1 (fun i hi ih hno => ?_) (fun l a b => by omega)
  refine ap_ild_2 (pc := 2) dX5_hasHold_2 ?_
  refine ap_ald_0 (pc := 3) dX5_hasHold_3 ?_
  refine ap_getR (pc := 4) dX5_hasHold_4 fl_RX5_9 hp.o rfl ?_
  refine ap_ild_1 (pc := 7) dX5_hasHold_7 ?_
  refine ap_iaload (pc := 8) dX5_hasHold_8 hp.a (by omega) (by omega) (by decide) ?_
  refine ap_icmp_ge (pc := 9) 32 dX5_hasHold_9 rfl ⟨by omega, by omega⟩ ⟨by omega, by omega⟩ (fun c9 => ?_) (fun c9 => ?_)
  · skip
    refine ap_const (pc := 32) dX5_hasHold_32 ?_
    exact ap_zreturn (pc := 33) dX5_hasHold_33 rfl (by decide) ⟨Or.inr ⟨fun ⟨l, a, b, c⟩ => hno l a (by omega) c, rfl⟩, rfl⟩
  · skip
    have hst := hC (i : Int) (by omega) c9
    refine ap_ald_0 (pc := 12) dX5_hasHold_12 ?_
    refine ap_ild_1 (pc := 13) dX5_hasHold_13 ?_
    refine ap_ild_2 (pc := 14) dX5_hasHold_14 ?_
    refine ap_invS (pc := 15) dX5_hasHold_15 ms_RX5_27 (av := [_, _]) (rest := [_]) (qX8_placeOf _ _ _) rfl rfl (Nat.le_of_ble_eq_true rfl) (by decide) (by decide) ?_
    rintro _ _ ⟨rfl, rfl⟩
    refine ap_invV (pc := 18) dX5_hasHold_18 mv_RX5_35 hp.o (av := [_]) (rest := []) (qX5_holdsOn hp _ _ (by omega) (by omega) hst) rfl rfl (Nat.le_of_ble_eq_true rfl) (by decide) (by decide) ?_
    rintro _ _ ⟨⟨w18, rfl⟩ | ⟨w18, rfl⟩, rfl⟩
    · skip
      refine ap_if_eq (pc := 21) 26 dX5_hasHold_21 rfl ⟨by omega, by omega⟩ (fun c21 => absurd c21 (by decide)) (fun _ => ?_)
      refine ap_const (pc := 24) dX5_hasHold_24 ?_
      exact ap_zreturn (pc := 25) dX5_hasHold_25 rfl (by decide) ⟨Or.inl ⟨⟨(i : Int), by omega, c9, w18⟩, rfl⟩, rfl⟩
    · skip
      refine ap_if_eq (pc := 21) 26 dX5_hasHold_21 rfl ⟨by omega, by omega⟩ (fun _ => ?_) (fun c21 => absurd c21 (by decide))
      refine ap_iinc_2 (pc := 26) dX5_hasHold_26 (by decide) ?_
      refine ap_goto (pc := 29) 2 dX5_hasHold_29 rfl ?_
      exact (ih c9 (fun l a b => by
          rcases (by omega : l < (i : Int) ∨ l = (i : Int)) with z | z
          · exact hno l a z
          · rw [z]; exact w18)).bk ⟨rfl, rfl, rfl, trivial⟩ rfl

set_option maxHeartbeats 4000000 in
theorem qX1_soften {p sz co st so cr : Nat} (hp : isPlate p sz co st so cr) (i a : Int) (m : AM) (hpp : p + 5 < 83 ∨ 84 < p) (h0 : 0 ≤ i) (h1 : i < 21) (hs : 0 ≤ m st i ∧ m st i ≤ 4) (hso : 0 ≤ m so i ∧ m so i ≤ 2000) (ha : 0 ≤ a ∧ a ≤ 5) : CS 0 mX1_soften [.inr 83, .inr p, .inl i, .inl a] m (fun v m' => v = none ∧ m' = hlM m st so i (if m so i + 1 > a ∧ m st i ≠ 3 then 3 else m st i) (m so i + 1) 1 0 0 (if m so i + 1 > a ∧ m st i ≠ 3 then 1 else 0)) := by
  refine cs_of (by decide +kernel) (Nat.le_of_ble_eq_true rfl) rfl ?_
  have hpn := hp.n
  refine ap_ald_0 (pc := 0) dX1_soften_0 ?_
  refine ap_getR (pc := 1) dX1_soften_1 fl_RX1_9 sh_83 rfl ?_
  refine ap_ild_2 (pc := 4) dX1_soften_4 ?_
  refine ap_const (pc := 5) dX1_soften_5 ?_
  refine ap_bastore (pc := 6) dX1_soften_6 sh_84 (by omega) (by omega) (by decide) (by decide) ?_
  refine ap_ald_1 (pc := 7) dX1_soften_7 ?_
  refine ap_getR (pc := 8) dX1_soften_8 fl_RX1_84 hp.o rfl ?_
  refine ap_ild_2 (pc := 11) dX1_soften_11 ?_
  refine ap_dup2 (pc := 12) dX1_soften_12 ?_
  refine ap_iaload (pc := 13) dX1_soften_13 hp.d (by omega) (by omega) (by decide) ?_
  try simp (disch := omega) only [am_same, am_k, am_j]
  refine ap_const (pc := 14) dX1_soften_14 ?_
  refine ap_iadd (pc := 15) dX1_soften_15 ?_
  refine ap_iastore (pc := 16) dX1_soften_16 hp.d (by omega) (by omega) (by decide) ?_
  refine ap_ald_1 (pc := 17) dX1_soften_17 ?_
  refine ap_getR (pc := 18) dX1_soften_18 fl_RX1_84 hp.o rfl ?_
  refine ap_ild_2 (pc := 21) dX1_soften_21 ?_
  refine ap_iaload (pc := 22) dX1_soften_22 hp.d (by omega) (by omega) (by decide) ?_
  try simp (disch := omega) only [am_same, am_k, am_j]
  refine ap_ild_3 (pc := 23) dX1_soften_23 ?_
  refine ap_icmp_le (pc := 24) 54 dX1_soften_24 rfl ⟨by omega, by omega⟩ ⟨by omega, by omega⟩ (fun c24 => ?_) (fun c24 => ?_)
  · skip
    exact ap_return (pc := 54) dX1_soften_54 rfl ⟨rfl, by
    funext k j
    simp only [am_up, hlM]
    (repeat' split) <;> first | rfl | omega | (exfalso; omega) | simp_all⟩
  · skip
    refine ap_ald_1 (pc := 27) dX1_soften_27 ?_
    refine ap_getR (pc := 28) dX1_soften_28 fl_RX1_70 hp.o rfl ?_
    refine ap_ild_2 (pc := 31) dX1_soften_31 ?_
    refine ap_iaload (pc := 32) dX1_soften_32 hp.c (by omega) (by omega) (by decide) ?_
    try simp (disch := omega) only [am_same, am_k, am_j]
    refine ap_const (pc := 33) dX1_soften_33 ?_
    refine ap_icmp_eq (pc := 34) 54 dX1_soften_34 rfl (Or.inr ⟨⟨by omega, by omega⟩, ⟨by omega, by omega⟩⟩) (fun c34 => ?_) (fun c34 => ?_)
    · skip
      exact ap_return (pc := 54) dX1_soften_54 rfl ⟨rfl, by
    funext k j
    simp only [am_up, hlM]
    (repeat' split) <;> first | rfl | omega | (exfalso; omega) | simp_all⟩
    · skip
      refine ap_ald_1 (pc := 37) dX1_soften_37 ?_
      refine ap_getR (pc := 38) dX1_soften_38 fl_RX1_70 hp.o rfl ?_
      refine ap_ild_2 (pc := 41) dX1_soften_41 ?_
      refine ap_const (pc := 42) dX1_soften_42 ?_
      refine ap_iastore (pc := 43) dX1_soften_43 hp.c (by omega) (by omega) (by decide) ?_
      refine ap_ald_0 (pc := 44) dX1_soften_44 ?_
      refine ap_dup (pc := 45) dX1_soften_45 ?_
      refine ap_getI (pc := 46) (jz := 3) dX1_soften_46 fl_RX1_22 sh_83 rfl rfl ?_
      try simp (disch := omega) only [am_same, am_k, am_j]
      refine ap_const (pc := 49) dX1_soften_49 ?_
      refine ap_iadd (pc := 50) dX1_soften_50 ?_
      refine ap_putI (pc := 51) (jz := 3) dX1_soften_51 fn_RX1_22 sh_83 rfl rfl (fun z => by cases z) ?_
      exact ap_return (pc := 54) dX1_soften_54 rfl ⟨rfl, by
    funext k j
    simp only [am_up, hlM]
    (repeat' split) <;> first | rfl | omega | (exfalso; omega) | simp_all⟩

set_option maxHeartbeats 4000000 in
theorem qX1_heatLayer {p sz co st so cr : Nat} (hp : isPlate p sz co st so cr) (i h lg : Int) (m : AM) (hpp : p + 5 < 83 ∨ 84 < p) (hp1 : 5 < p) (h0 : 0 ≤ i) (h1 : i < 21) (hh : 500 ≤ h ∧ h ≤ 1200) (hlg : lg = 0 ∨ lg = 1) (hs : 0 ≤ m st i ∧ m st i ≤ 4) (hso : 0 ≤ m so i ∧ m so i ≤ 1999) (ha : 0 ≤ m 15 1 ∧ m 15 1 ≤ 5) (hc : 0 ≤ m co i ∧ m co i < 12) (hM : 600 ≤ m 3 (m co i) ∧ m 3 (m co i) ≤ 900) (hB : m 3 (m co i) + 10 ≤ m 4 (m co i) ∧ m 4 (m co i) ≤ m 3 (m co i) + 200) : CS 1 mX1_heatLayer [.inr 83, .inr 1, .inr p, .inl i, .inl h, .inl lg] m (fun v m' => v = none ∧ m' = hlM m st so i (fSt h lg (m 15 1) (m 3 (m co i)) (m 4 (m co i)) (m st i) (m so i)) (fSo h (m 3 (m co i)) (m 4 (m co i)) (m st i) (m so i)) (fGv h lg (m 3 (m co i)) (m 4 (m co i)) (m st i)) (fdS h lg (m 3 (m co i)) (m 4 (m co i)) (m st i)) (fdB h (m 4 (m co i)) (m st i)) (fdD h (m 15 1) (m 3 (m co i)) (m 4 (m co i)) (m st i) (m so i))) := by
  refine cs_of (by decide +kernel) (Nat.le_of_ble_eq_true rfl) rfl ?_
  have hpn := hp.n
  refine ap_ald_2 (pc := 0) dX1_heatLayer_0 ?_
  refine ap_getR (pc := 1) dX1_heatLayer_1 fl_RX1_58 hp.o rfl ?_
  refine ap_ild_3 (pc := 4) dX1_heatLayer_4 ?_
  refine ap_iaload (pc := 5) dX1_heatLayer_5 hp.b (by omega) (by omega) (by decide) ?_
  refine ap_ist_6 (pc := 6) dX1_heatLayer_6 (by decide) ?_
  refine ap_ald_1 (pc := 8) dX1_heatLayer_8 ?_
  refine ap_getR (pc := 9) dX1_heatLayer_9 fl_RX1_61 sh_1 rfl ?_
  refine ap_getR (pc := 12) dX1_heatLayer_12 fl_RX1_65 sh_2 rfl ?_
  refine ap_ild_6 (pc := 15) dX1_heatLayer_15 ?_
  refine ap_iaload (pc := 17) dX1_heatLayer_17 sh_3 (by omega) (by omega) (by decide) ?_
  refine ap_ist_7 (pc := 18) dX1_heatLayer_18 (by decide) ?_
  refine ap_ald_0 (pc := 20) dX1_heatLayer_20 ?_
  refine ap_getR (pc := 21) dX1_heatLayer_21 fl_RX1_9 sh_83 rfl ?_
  refine ap_ild_3 (pc := 24) dX1_heatLayer_24 ?_
  refine ap_const (pc := 25) dX1_heatLayer_25 ?_
  refine ap_bastore (pc := 26) dX1_heatLayer_26 sh_84 (by omega) (by omega) (by decide) (by decide) ?_
  refine ap_ald_2 (pc := 27) dX1_heatLayer_27 ?_
  refine ap_getR (pc := 28) dX1_heatLayer_28 fl_RX1_70 hp.o rfl ?_
  refine ap_ild_3 (pc := 31) dX1_heatLayer_31 ?_
  refine ap_iaload (pc := 32) dX1_heatLayer_32 hp.c (by omega) (by omega) (by decide) ?_
  try simp (disch := omega) only [am_same, am_k, am_j]
  refine ap_const (pc := 33) dX1_heatLayer_33 ?_
  refine ap_icmp_ne (pc := 34) 38 dX1_heatLayer_34 rfl (Or.inr ⟨⟨by omega, by omega⟩, ⟨by omega, by omega⟩⟩) (fun c34 => ?_) (fun c34 => ?_)
  · skip
    refine ap_ild_4 (pc := 38) dX1_heatLayer_38 ?_
    refine ap_ald_1 (pc := 40) dX1_heatLayer_40 ?_
    refine ap_getR (pc := 41) dX1_heatLayer_41 fl_RX1_61 sh_1 rfl ?_
    refine ap_getR (pc := 44) dX1_heatLayer_44 fl_RX1_73 sh_2 rfl ?_
    refine ap_ild_6 (pc := 47) dX1_heatLayer_47 ?_
    refine ap_iaload (pc := 49) dX1_heatLayer_49 sh_4 (by omega) (by omega) (by decide) ?_
    try simp (disch := omega) only [am_same, am_k, am_j]
    refine ap_icmp_le (pc := 50) 73 dX1_heatLayer_50 rfl ⟨by omega, by omega⟩ ⟨by omega, by omega⟩ (fun c50 => ?_) (fun c50 => ?_)
    · skip
      refine ap_ald_2 (pc := 73) dX1_heatLayer_73 ?_
      refine ap_ild_3 (pc := 74) dX1_heatLayer_74 ?_
      refine ap_invV (pc := 75) dX1_heatLayer_75 mv_RX1_76 hp.o (av := [_]) (rest := []) (qX5_holdsOn hp _ _ (by omega) (by omega) (by (try simp (disch := omega) only [am_same, am_k, am_j]); omega)) rfl rfl (Nat.le_of_ble_eq_true rfl) (by decide) (by decide) ?_
      rintro _ _ ⟨⟨w75, rfl⟩ | ⟨w75, rfl⟩, rfl⟩
      all_goals try simp (disch := omega) only [am_same, am_k, am_j] at w75
      · skip
        refine ap_if_eq (pc := 78) 106 dX1_heatLayer_78 rfl ⟨by omega, by omega⟩ (fun c78 => absurd c78 (by decide)) (fun _ => ?_)
        refine ap_ild_4 (pc := 81) dX1_heatLayer_81 ?_
        refine ap_ild_7 (pc := 83) dX1_heatLayer_83 ?_
        refine ap_bipush (pc := 85) dX1_heatLayer_85 bp_20 ?_
        refine ap_isub (pc := 87) dX1_heatLayer_87 ?_
        refine ap_icmp_lt (pc := 88) 162 dX1_heatLayer_88 rfl ⟨by omega, by omega⟩ ⟨by omega, by omega⟩ (fun c88 => ?_) (fun c88 => ?_)
        · skip
          exact ap_return (pc := 162) dX1_heatLayer_162 rfl ⟨rfl, by
    simp (disch := omega) only [fSt, fSo, fGv, fdS, fdB, fdD, if_pos, if_neg]
    funext k j
    simp only [am_up, hlM]
    (repeat' split) <;> first | rfl | (exfalso; omega) | omega | simp_all⟩
        · skip
          refine ap_ald_0 (pc := 91) dX1_heatLayer_91 ?_
          refine ap_ald_2 (pc := 92) dX1_heatLayer_92 ?_
          refine ap_ild_3 (pc := 93) dX1_heatLayer_93 ?_
          refine ap_ald_1 (pc := 94) dX1_heatLayer_94 ?_
          refine ap_getR (pc := 95) dX1_heatLayer_95 fl_RX1_31 sh_1 rfl ?_
          refine ap_const (pc := 98) dX1_heatLayer_98 ?_
          refine ap_iaload (pc := 99) dX1_heatLayer_99 sh_15 (by omega) (by omega) (by decide) ?_
          try simp (disch := omega) only [am_same, am_k, am_j]
          refine ap_invV (pc := 100) dX1_heatLayer_100 mv_RX1_80 sh_83 (av := [_, _, _]) (rest := []) (qX1_soften hp _ _ _ hpp (by omega) (by omega) (by (try simp (disch := omega) only [am_same, am_k, am_j]); omega) (by (try simp (disch := omega) only [am_same, am_k, am_j]); omega) (by (try simp (disch := omega) only [am_same, am_k, am_j]); omega)) rfl rfl (Nat.le_of_ble_eq_true rfl) (by decide) (by decide) ?_
          rintro _ _ ⟨rfl, rfl⟩
          refine ap_goto (pc := 103) 162 dX1_heatLayer_103 rfl ?_
          exact ap_return (pc := 162) dX1_heatLayer_162 rfl ⟨rfl, by
    simp (disch := omega) only [fSt, fSo, fGv, fdS, fdB, fdD, if_pos, if_neg]
    funext k j
    simp only [am_up, hlM]
    (repeat' split) <;> first | rfl | (exfalso; omega) | omega | simp_all⟩
      · skip
        refine ap_if_eq (pc := 78) 106 dX1_heatLayer_78 rfl ⟨by omega, by omega⟩ (fun _ => ?_) (fun c78 => absurd c78 (by decide))
        refine ap_ild_4 (pc := 106) dX1_heatLayer_106 ?_
        refine ap_ild_7 (pc := 108) dX1_heatLayer_108 ?_
        refine ap_icmp_lt (pc := 110) 145 dX1_heatLayer_110 rfl ⟨by omega, by omega⟩ ⟨by omega, by omega⟩ (fun c110 => ?_) (fun c110 => ?_)
        · skip
          refine ap_ild_4 (pc := 145) dX1_heatLayer_145 ?_
          refine ap_ild_7 (pc := 147) dX1_heatLayer_147 ?_
          refine ap_bipush (pc := 149) dX1_heatLayer_149 bp_40 ?_
          refine ap_isub (pc := 151) dX1_heatLayer_151 ?_
          refine ap_icmp_lt (pc := 152) 162 dX1_heatLayer_152 rfl ⟨by omega, by omega⟩ ⟨by omega, by omega⟩ (fun c152 => ?_) (fun c152 => ?_)
          · skip
            exact ap_return (pc := 162) dX1_heatLayer_162 rfl ⟨rfl, by
    simp (disch := omega) only [fSt, fSo, fGv, fdS, fdB, fdD, if_pos, if_neg]
    funext k j
    simp only [am_up, hlM]
    (repeat' split) <;> first | rfl | (exfalso; omega) | omega | simp_all⟩
          · skip
            refine ap_ald_2 (pc := 155) dX1_heatLayer_155 ?_
            refine ap_getR (pc := 156) dX1_heatLayer_156 fl_RX1_70 hp.o rfl ?_
            refine ap_ild_3 (pc := 159) dX1_heatLayer_159 ?_
            refine ap_const (pc := 160) dX1_heatLayer_160 ?_
            refine ap_iastore (pc := 161) dX1_heatLayer_161 hp.c (by omega) (by omega) (by decide) ?_
            exact ap_return (pc := 162) dX1_heatLayer_162 rfl ⟨rfl, by
    simp (disch := omega) only [fSt, fSo, fGv, fdS, fdB, fdD, if_pos, if_neg]
    funext k j
    simp only [am_up, hlM]
    (repeat' split) <;> first | rfl | (exfalso; omega) | omega | simp_all⟩
        · skip
          refine ap_ild_5 (pc := 113) dX1_heatLayer_113 ?_
          refine ap_if_eq (pc := 115) 145 dX1_heatLayer_115 rfl ⟨by omega, by omega⟩ (fun c115 => ?_) (fun c115 => ?_)
          · skip
            refine ap_ild_4 (pc := 145) dX1_heatLayer_145 ?_
            refine ap_ild_7 (pc := 147) dX1_heatLayer_147 ?_
            refine ap_bipush (pc := 149) dX1_heatLayer_149 bp_40 ?_
            refine ap_isub (pc := 151) dX1_heatLayer_151 ?_
            refine ap_icmp_lt (pc := 152) 162 dX1_heatLayer_152 rfl ⟨by omega, by omega⟩ ⟨by omega, by omega⟩ (fun c152 => ?_) (fun c152 => ?_)
            · skip
              exact ap_return (pc := 162) dX1_heatLayer_162 rfl ⟨rfl, by
    simp (disch := omega) only [fSt, fSo, fGv, fdS, fdB, fdD, if_pos, if_neg]
    funext k j
    simp only [am_up, hlM]
    (repeat' split) <;> first | rfl | (exfalso; omega) | omega | simp_all⟩
            · skip
              refine ap_ald_2 (pc := 155) dX1_heatLayer_155 ?_
              refine ap_getR (pc := 156) dX1_heatLayer_156 fl_RX1_70 hp.o rfl ?_
              refine ap_ild_3 (pc := 159) dX1_heatLayer_159 ?_
              refine ap_const (pc := 160) dX1_heatLayer_160 ?_
              refine ap_iastore (pc := 161) dX1_heatLayer_161 hp.c (by omega) (by omega) (by decide) ?_
              exact ap_return (pc := 162) dX1_heatLayer_162 rfl ⟨rfl, by
    simp (disch := omega) only [fSt, fSo, fGv, fdS, fdB, fdD, if_pos, if_neg]
    funext k j
    simp only [am_up, hlM]
    (repeat' split) <;> first | rfl | (exfalso; omega) | omega | simp_all⟩
          · skip
            refine ap_ald_2 (pc := 118) dX1_heatLayer_118 ?_
            refine ap_getR (pc := 119) dX1_heatLayer_119 fl_RX1_70 hp.o rfl ?_
            refine ap_ild_3 (pc := 122) dX1_heatLayer_122 ?_
            refine ap_const (pc := 123) dX1_heatLayer_123 ?_
            refine ap_iastore (pc := 124) dX1_heatLayer_124 hp.c (by omega) (by omega) (by decide) ?_
            refine ap_ald_0 (pc := 125) dX1_heatLayer_125 ?_
            refine ap_getR (pc := 126) dX1_heatLayer_126 fl_RX1_9 sh_83 rfl ?_
            refine ap_ild_3 (pc := 129) dX1_heatLayer_129 ?_
            refine ap_const (pc := 130) dX1_heatLayer_130 ?_
            refine ap_bastore (pc := 131) dX1_heatLayer_131 sh_84 (by omega) (by omega) (by decide) (by decide) ?_
            refine ap_ald_0 (pc := 132) dX1_heatLayer_132 ?_
            refine ap_dup (pc := 133) dX1_heatLayer_133 ?_
            refine ap_getI (pc := 134) (jz := 1) dX1_heatLayer_134 fl_RX1_15 sh_83 rfl rfl ?_
            try simp (disch := omega) only [am_same, am_k, am_j]
            refine ap_const (pc := 137) dX1_heatLayer_137 ?_
            refine ap_iadd (pc := 138) dX1_heatLayer_138 ?_
            refine ap_putI (pc := 139) (jz := 1) dX1_heatLayer_139 fn_RX1_15 sh_83 rfl rfl (fun z => by cases z) ?_
            refine ap_goto (pc := 142) 162 dX1_heatLayer_142 rfl ?_
            exact ap_return (pc := 162) dX1_heatLayer_162 rfl ⟨rfl, by
    simp (disch := omega) only [fSt, fSo, fGv, fdS, fdB, fdD, if_pos, if_neg]
    funext k j
    simp only [am_up, hlM]
    (repeat' split) <;> first | rfl | (exfalso; omega) | omega | simp_all⟩
    · skip
      refine ap_ald_2 (pc := 53) dX1_heatLayer_53 ?_
      refine ap_getR (pc := 54) dX1_heatLayer_54 fl_RX1_70 hp.o rfl ?_
      refine ap_ild_3 (pc := 57) dX1_heatLayer_57 ?_
      refine ap_const (pc := 58) dX1_heatLayer_58 ?_
      refine ap_iastore (pc := 59) dX1_heatLayer_59 hp.c (by omega) (by omega) (by decide) ?_
      refine ap_ald_0 (pc := 60) dX1_heatLayer_60 ?_
      refine ap_dup (pc := 61) dX1_heatLayer_61 ?_
      refine ap_getI (pc := 62) (jz := 2) dX1_heatLayer_62 fl_RX1_19 sh_83 rfl rfl ?_
      try simp (disch := omega) only [am_same, am_k, am_j]
      refine ap_const (pc := 65) dX1_heatLayer_65 ?_
      refine ap_iadd (pc := 66) dX1_heatLayer_66 ?_
      refine ap_putI (pc := 67) (jz := 2) dX1_heatLayer_67 fn_RX1_19 sh_83 rfl rfl (fun z => by cases z) ?_
      refine ap_goto (pc := 70) 162 dX1_heatLayer_70 rfl ?_
      exact ap_return (pc := 162) dX1_heatLayer_162 rfl ⟨rfl, by
    simp (disch := omega) only [fSt, fSo, fGv, fdS, fdB, fdD, if_pos, if_neg]
    funext k j
    simp only [am_up, hlM]
    (repeat' split) <;> first | rfl | (exfalso; omega) | omega | simp_all⟩
  · skip
    exact ap_return (pc := 37) dX1_heatLayer_37 rfl ⟨rfl, by
    simp (disch := omega) only [fSt, fSo, fGv, fdS, fdB, fdD, if_pos, if_neg]
    funext k j
    simp only [am_up, hlM]
    (repeat' split) <;> first | rfl | (exfalso; omega) | omega | simp_all⟩
end
section

theorem pullS_bd {n : Int} {St Ex : Int → Int} (h3 : n ≤ 3) (h : ∀ l : Int, 0 ≤ l → l < n → 60 ≤ Ex l ∧ Ex l ≤ 160) : 0 ≤ pullS n St Ex ∧ pullS n St Ex ≤ 330 := by
  have key : ∀ k : Nat, (k : Int) ≤ n ∨ k = 0 → 0 ≤ sumL (fun l => if holds (St l) then 170 - Ex l else 0) k ∧ sumL (fun l => if holds (St l) then 170 - Ex l else 0) k ≤ 110 * k := by
    intro k
    induction k with
    | zero => exact fun _ => ⟨Int.le_refl _, Int.le_refl _⟩
    | succ k ih =>
      intro hk
      have hk2 : ((k + 1 : Nat) : Int) ≤ n := by omega
      have h1 := ih (by omega)
      have h2 := h (k : Int) (by omega) (by omega)
      rw [sumL_succ]
      split <;> omega
  have := key n.toNat (by omega)
  unfold pullS
  omega
set_option maxHeartbeats 4000000 in
theorem qX5_strainOf {p sz co st so cr : Nat} (hp : isPlate p sz co st so cr) (f : Int) (m : AM) (h0 : 0 ≤ f) (h1 : f < 7) (hn : ∀ f : Int, 0 ≤ f → f < 7 → 0 ≤ m sz f ∧ m sz f ≤ 3) (hC : ∀ f l : Int, 0 ≤ f → f < 7 → 0 ≤ l → l < m sz f → (0 ≤ m co (f * 3 + l) ∧ m co (f * 3 + l) < 12) ∧ (0 ≤ m st (f * 3 + l) ∧ m st (f * 3 + l) ≤ 4)) (hX : ∀ f l : Int, 0 ≤ f → f < 7 → 0 ≤ l → l < m sz f → 60 ≤ m 5 (m co (f * 3 + l)) ∧ m 5 (m co (f * 3 + l)) ≤ 160) : CS 2 mX5_strainOf [.inr p, .inl f, .inr 2] m (an (if 0 ≤ (pullS (m sz f) (fun l => m st (f * 3 + l)) (fun l => m 5 (m co (f * 3 + l)))) - (pullS (m sz 6) (fun l => m st (6 * 3 + l)) (fun l => m 5 (m co (6 * 3 + l)))) then (pullS (m sz f) (fun l => m st (f * 3 + l)) (fun l => m 5 (m co (f * 3 + l)))) - (pullS (m sz 6) (fun l => m st (6 * 3 + l)) (fun l => m 5 (m co (6 * 3 + l)))) else -((pullS (m sz f) (fun l => m st (f * 3 + l)) (fun l => m 5 (m co (f * 3 + l)))) - (pullS (m sz 6) (fun l => m st (6 * 3 + l)) (fun l => m 5 (m co (6 * 3 + l)))))) m) := by
  refine cs_of (by decide +kernel) (Nat.le_of_ble_eq_true rfl) rfl ?_
  have hb1 := pullS_bd (St := fun l => m st (f * 3 + l)) (Ex := fun l => m 5 (m co (f * 3 + l))) (hn f h0 (by omega)).2 (fun l a b => hX f l h0 (by omega) a b)
  have hb2 := pullS_bd (St := fun l => m st (6 * 3 + l)) (Ex := fun l => m 5 (m co (6 * 3 + l))) (hn 6 (by omega) (by omega)).2 (fun l a b => hX 6 l (by omega) (by omega) a b)
  refine ap_ald_0 (pc := 0) dX5_strainOf_0 ?_
  refine ap_ild_1 (pc := 1) dX5_strainOf_1 ?_
  refine ap_ald_2 (pc := 2) dX5_strainOf_2 ?_
  refine ap_invV (pc := 3) dX5_strainOf_3 mv_RX5_45 hp.o (av := [_, _]) (rest := []) (qX5_pullOf hp _ _ (by omega) (by omega) (hn _ (by omega) (by omega)) (fun l a b => hC _ l (by omega) (by omega) a b)) rfl rfl (Nat.le_of_ble_eq_true rfl) (by decide) (by decide) ?_
  rintro _ _ ⟨rfl, rfl⟩
  refine ap_ald_0 (pc := 6) dX5_strainOf_6 ?_
  refine ap_bipush (pc := 7) dX5_strainOf_7 bp_6 ?_
  refine ap_ald_2 (pc := 9) dX5_strainOf_9 ?_
  refine ap_invV (pc := 10) dX5_strainOf_10 mv_RX5_45 hp.o (av := [_, _]) (rest := [_]) (qX5_pullOf hp _ _ (by omega) (by omega) (hn _ (by omega) (by omega)) (fun l a b => hC _ l (by omega) (by omega) a b)) rfl rfl (Nat.le_of_ble_eq_true rfl) (by decide) (by decide) ?_
  rintro _ _ ⟨rfl, rfl⟩
  refine ap_isub (pc := 13) dX5_strainOf_13 ?_
  refine ap_mabs (pc := 14) dX5_strainOf_14 jl_RX5_48 jw_abs (by decide) (by decide) ⟨by omega, by omega⟩ ?_
  exact ap_ireturn (pc := 17) dX5_strainOf_17 rfl ⟨rfl, rfl⟩

set_option maxHeartbeats 4000000 in
theorem qX1_mendField {p sz co st so cr : Nat} (hp : isPlate p sz co st so cr) (f : Int) (m : AM) (hpp : p + 5 < 83 ∨ 84 < p) (h0 : 0 ≤ f) (h1 : f < 6) (hn : 0 ≤ m sz f ∧ m sz f ≤ 3) (hk : m cr f = 0 ∨ m cr f = 1) (hg : ∀ l : Int, 0 ≤ l → l < m sz f → m 84 (f * 3 + l) = 0 ∨ m 84 (f * 3 + l) = 1) : CS 1 mX1_mendField [.inr 83, .inr p, .inl f] m (fun v m' => v = none ∧ (((m cr f = 1 ∧ ∀ l : Int, 0 ≤ l → l < m sz f → m 84 (f * 3 + l) = 1) ∧ m' = am_up (am_up m cr f 0) 83 5 (m 83 5 + 1)) ∨ (¬ (m cr f = 1 ∧ ∀ l : Int, 0 ≤ l → l < m sz f → m 84 (f * 3 + l) = 1) ∧ m' = m))) := by
  refine cs_of (by decide +kernel) (Nat.le_of_ble_eq_true rfl) rfl ?_
  have hpn := hp.n
  refine ap_ald_1 (pc := 0) dX1_mendField_0 ?_
  refine ap_getR (pc := 1) dX1_mendField_1 fl_RX1_87 hp.o rfl ?_
  refine ap_ild_2 (pc := 4) dX1_mendField_4 ?_
  refine ap_iaload (pc := 5) dX1_mendField_5 hp.e (by omega) (by omega) (by decide) ?_
  refine ap_if_ne (pc := 6) 10 dX1_mendField_6 rfl ⟨by omega, by omega⟩ (fun c6 => ?_) (fun c6 => ?_)
  · skip
    refine ap_const (pc := 10) dX1_mendField_10 ?_
    refine ap_ist_3 (pc := 11) dX1_mendField_11 (by decide) ?_
    refine up_rec (m sz f) (fun i => (∀ l : Int, 0 ≤ l → l < i → m 84 (f * 3 + l) = 1) → AP 1 mX1_mendField 12 [some (.inr 83), some (.inr p), some (.inl f), some (.inl (i : Int))] [] m _) hn.1 (fun i hi ih hal => ?_) (fun l a b => by omega)
    refine ap_ild_3 (pc := 12) dX1_mendField_12 ?_
    refine ap_ald_1 (pc := 13) dX1_mendField_13 ?_
    refine ap_getR (pc := 14) dX1_mendField_14 fl_RX1_37 hp.o rfl ?_
    refine ap_ild_2 (pc := 17) dX1_mendField_17 ?_
    refine ap_iaload (pc := 18) dX1_mendField_18 hp.a (by omega) (by omega) (by decide) ?_
    refine ap_icmp_ge (pc := 19) 42 dX1_mendField_19 rfl ⟨by omega, by omega⟩ ⟨by omega, by omega⟩ (fun c19 => ?_) (fun c19 => ?_)
    · skip
      refine ap_ald_1 (pc := 42) dX1_mendField_42 ?_
      refine ap_getR (pc := 43) dX1_mendField_43 fl_RX1_87 hp.o rfl ?_
      refine ap_ild_2 (pc := 46) dX1_mendField_46 ?_
      refine ap_const (pc := 47) dX1_mendField_47 ?_
      refine ap_iastore (pc := 48) dX1_mendField_48 hp.e (by omega) (by omega) (by decide) ?_
      refine ap_ald_0 (pc := 49) dX1_mendField_49 ?_
      refine ap_dup (pc := 50) dX1_mendField_50 ?_
      refine ap_getI (pc := 51) (jz := 5) dX1_mendField_51 fl_RX1_28 sh_83 rfl rfl ?_
      try simp (disch := omega) only [am_same, am_k, am_j]
      refine ap_const (pc := 54) dX1_mendField_54 ?_
      refine ap_iadd (pc := 55) dX1_mendField_55 ?_
      refine ap_putI (pc := 56) (jz := 5) dX1_mendField_56 fn_RX1_28 sh_83 rfl rfl (fun z => by cases z) ?_
      exact ap_return (pc := 59) dX1_mendField_59 rfl ⟨rfl, Or.inl ⟨⟨by omega, fun l a b => hal l a (by omega)⟩, rfl⟩⟩
    · skip
      have hgi := hg (i : Int) (by omega) c19
      refine ap_ald_0 (pc := 22) dX1_mendField_22 ?_
      refine ap_getR (pc := 23) dX1_mendField_23 fl_RX1_9 sh_83 rfl ?_
      refine ap_ild_2 (pc := 26) dX1_mendField_26 ?_
      refine ap_ild_3 (pc := 27) dX1_mendField_27 ?_
      refine ap_invS (pc := 28) dX1_mendField_28 ms_RX1_42 (av := [_, _]) (rest := [_]) (qX8_placeOf _ _ _) rfl rfl (Nat.le_of_ble_eq_true rfl) (by decide) (by decide) ?_
      rintro _ _ ⟨rfl, rfl⟩
      refine ap_baload (pc := 31) dX1_mendField_31 sh_84 (by omega) (by omega) (by decide) ?_
      refine ap_if_ne (pc := 32) 36 dX1_mendField_32 rfl ⟨by omega, by omega⟩ (fun c32 => ?_) (fun c32 => ?_)
      · skip
        refine ap_iinc_3 (pc := 36) dX1_mendField_36 (by decide) ?_
        refine ap_goto (pc := 39) 12 dX1_mendField_39 rfl ?_
        exact (ih c19 (fun l a b => by
            rcases (by omega : l < (i : Int) ∨ l = (i : Int)) with z | z
            · exact hal l a z
            · rw [z]; omega)).bk ⟨rfl, rfl, rfl, rfl, trivial⟩ rfl
      · skip
        exact ap_return (pc := 35) dX1_mendField_35 rfl ⟨rfl, Or.inr ⟨fun z => by have z2 := z.2 (i : Int) (by omega) c19; omega, rfl⟩⟩
  · skip
    exact ap_return (pc := 9) dX1_mendField_9 rfl ⟨rfl, Or.inr ⟨fun z => by omega, rfl⟩⟩

set_option maxHeartbeats 4000000 in
theorem qX1_coolField {p sz co st so cr : Nat} (hp : isPlate p sz co st so cr) (f : Int) (m : AM) (hpp : p + 5 < 83 ∨ 84 < p) (h0 : 0 ≤ f) (h1 : f < 6) (hk : m cr f = 0 ∨ m cr f = 1) (hs : 0 ≤ m 15 2 ∧ m 15 2 ≤ 400) (hn : ∀ f : Int, 0 ≤ f → f < 7 → 0 ≤ m sz f ∧ m sz f ≤ 3) (hC : ∀ f l : Int, 0 ≤ f → f < 7 → 0 ≤ l → l < m sz f → (0 ≤ m co (f * 3 + l) ∧ m co (f * 3 + l) < 12) ∧ (0 ≤ m st (f * 3 + l) ∧ m st (f * 3 + l) ≤ 4)) (hX : ∀ f l : Int, 0 ≤ f → f < 7 → 0 ≤ l → l < m sz f → 60 ≤ m 5 (m co (f * 3 + l)) ∧ m 5 (m co (f * 3 + l)) ≤ 160) : CS 3 mX1_coolField [.inr 83, .inr 1, .inr p, .inl f] m (fun v m' => v = none ∧ (((m cr f = 0 ∧ (∃ l : Int, 0 ≤ l ∧ l < m sz f ∧ holds (m st (f * 3 + l))) ∧ (if 0 ≤ (pullS (m sz f) (fun l => m st (f * 3 + l)) (fun l => m 5 (m co (f * 3 + l)))) - (pullS (m sz 6) (fun l => m st (6 * 3 + l)) (fun l => m 5 (m co (6 * 3 + l)))) then (pullS (m sz f) (fun l => m st (f * 3 + l)) (fun l => m 5 (m co (f * 3 + l)))) - (pullS (m sz 6) (fun l => m st (6 * 3 + l)) (fun l => m 5 (m co (6 * 3 + l)))) else -((pullS (m sz f) (fun l => m st (f * 3 + l)) (fun l => m 5 (m co (f * 3 + l)))) - (pullS (m sz 6) (fun l => m st (6 * 3 + l)) (fun l => m 5 (m co (6 * 3 + l)))))) > m 15 2) ∧ m' = am_up (am_up m cr f 1) 83 4 (m 83 4 + 1)) ∨ (¬ (m cr f = 0 ∧ (∃ l : Int, 0 ≤ l ∧ l < m sz f ∧ holds (m st (f * 3 + l))) ∧ (if 0 ≤ (pullS (m sz f) (fun l => m st (f * 3 + l)) (fun l => m 5 (m co (f * 3 + l)))) - (pullS (m sz 6) (fun l => m st (6 * 3 + l)) (fun l => m 5 (m co (6 * 3 + l)))) then (pullS (m sz f) (fun l => m st (f * 3 + l)) (fun l => m 5 (m co (f * 3 + l)))) - (pullS (m sz 6) (fun l => m st (6 * 3 + l)) (fun l => m 5 (m co (6 * 3 + l)))) else -((pullS (m sz f) (fun l => m st (f * 3 + l)) (fun l => m 5 (m co (f * 3 + l)))) - (pullS (m sz 6) (fun l => m st (6 * 3 + l)) (fun l => m 5 (m co (6 * 3 + l)))))) > m 15 2) ∧ m' = m))) := by
  refine cs_of (by decide +kernel) (Nat.le_of_ble_eq_true rfl) rfl ?_
  have hpn := hp.n
  have hb1 := pullS_bd (St := fun l => m st (f * 3 + l)) (Ex := fun l => m 5 (m co (f * 3 + l))) (hn f h0 (by omega)).2 (fun l a b => hX f l h0 (by omega) a b)
  have hb2 := pullS_bd (St := fun l => m st (6 * 3 + l)) (Ex := fun l => m 5 (m co (6 * 3 + l))) (hn 6 (by omega) (by omega)).2 (fun l a b => hX 6 l (by omega) (by omega) a b)
  have hsr : rng (if 0 ≤ (pullS (m sz f) (fun l => m st (f * 3 + l)) (fun l => m 5 (m co (f * 3 + l)))) - (pullS (m sz 6) (fun l => m st (6 * 3 + l)) (fun l => m 5 (m co (6 * 3 + l)))) then (pullS (m sz f) (fun l => m st (f * 3 + l)) (fun l => m 5 (m co (f * 3 + l)))) - (pullS (m sz 6) (fun l => m st (6 * 3 + l)) (fun l => m 5 (m co (6 * 3 + l)))) else -((pullS (m sz f) (fun l => m st (f * 3 + l)) (fun l => m 5 (m co (f * 3 + l)))) - (pullS (m sz 6) (fun l => m st (6 * 3 + l)) (fun l => m 5 (m co (6 * 3 + l)))))) := by constructor <;> split <;> omega
  refine ap_ald_2 (pc := 0) dX1_coolField_0 ?_
  refine ap_getR (pc := 1) dX1_coolField_1 fl_RX1_87 hp.o rfl ?_
  refine ap_ild_3 (pc := 4) dX1_coolField_4 ?_
  refine ap_iaload (pc := 5) dX1_coolField_5 hp.e (by omega) (by omega) (by decide) ?_
  refine ap_if_ne (pc := 6) 52 dX1_coolField_6 rfl ⟨by omega, by omega⟩ (fun c6 => ?_) (fun c6 => ?_)
  · skip
    exact ap_return (pc := 52) dX1_coolField_52 rfl ⟨rfl, by first | exact Or.inl ⟨⟨by omega, w11, by omega⟩, rfl⟩ | exact Or.inr ⟨fun z => absurd z.2.1 w11, rfl⟩ | exact Or.inr ⟨fun z => by have z2 := z.2.2; omega, rfl⟩ | exact Or.inr ⟨fun z => by have z2 := z.1; omega, rfl⟩⟩
  · skip
    refine ap_ald_2 (pc := 9) dX1_coolField_9 ?_
    refine ap_ild_3 (pc := 10) dX1_coolField_10 ?_
    refine ap_invV (pc := 11) dX1_coolField_11 mv_RX1_89 hp.o (av := [_]) (rest := []) (qX5_hasHold hp _ _ (by omega) (by omega) (hn _ (by omega) (by omega)) (fun l a b => (hC _ l (by omega) (by omega) a b).2)) rfl rfl (Nat.le_of_ble_eq_true rfl) (by decide) (by decide) ?_
    rintro _ _ ⟨⟨w11, rfl⟩ | ⟨w11, rfl⟩, rfl⟩
    · skip
      refine ap_if_eq (pc := 14) 52 dX1_coolField_14 rfl ⟨by omega, by omega⟩ (fun c14 => absurd c14 (by decide)) (fun _ => ?_)
      refine ap_ald_2 (pc := 17) dX1_coolField_17 ?_
      refine ap_ild_3 (pc := 18) dX1_coolField_18 ?_
      refine ap_ald_1 (pc := 19) dX1_coolField_19 ?_
      refine ap_getR (pc := 20) dX1_coolField_20 fl_RX1_61 sh_1 rfl ?_
      refine ap_invV (pc := 23) dX1_coolField_23 mv_RX1_92 hp.o (av := [_, _]) (rest := []) (qX5_strainOf hp _ _ (by omega) (by omega) hn hC hX) rfl rfl (Nat.le_of_ble_eq_true rfl) (by decide) (by decide) ?_
      rintro _ _ ⟨rfl, rfl⟩
      refine ap_ald_1 (pc := 26) dX1_coolField_26 ?_
      refine ap_getR (pc := 27) dX1_coolField_27 fl_RX1_31 sh_1 rfl ?_
      refine ap_const (pc := 30) dX1_coolField_30 ?_
      refine ap_iaload (pc := 31) dX1_coolField_31 sh_15 (by omega) (by omega) (by decide) ?_
      refine ap_icmp_le (pc := 32) 52 dX1_coolField_32 rfl hsr ⟨by omega, by omega⟩ (fun c32 => ?_) (fun c32 => ?_)
      · skip
        exact ap_return (pc := 52) dX1_coolField_52 rfl ⟨rfl, by first | exact Or.inl ⟨⟨by omega, w11, by omega⟩, rfl⟩ | exact Or.inr ⟨fun z => absurd z.2.1 w11, rfl⟩ | exact Or.inr ⟨fun z => by have z2 := z.2.2; omega, rfl⟩ | exact Or.inr ⟨fun z => by have z2 := z.1; omega, rfl⟩⟩
      · skip
        refine ap_ald_2 (pc := 35) dX1_coolField_35 ?_
        refine ap_getR (pc := 36) dX1_coolField_36 fl_RX1_87 hp.o rfl ?_
        refine ap_ild_3 (pc := 39) dX1_coolField_39 ?_
        refine ap_const (pc := 40) dX1_coolField_40 ?_
        refine ap_iastore (pc := 41) dX1_coolField_41 hp.e (by omega) (by omega) (by decide) ?_
        refine ap_ald_0 (pc := 42) dX1_coolField_42 ?_
        refine ap_dup (pc := 43) dX1_coolField_43 ?_
        refine ap_getI (pc := 44) (jz := 4) dX1_coolField_44 fl_RX1_25 sh_83 rfl rfl ?_
        try simp (disch := omega) only [am_same, am_k, am_j]
        refine ap_const (pc := 47) dX1_coolField_47 ?_
        refine ap_iadd (pc := 48) dX1_coolField_48 ?_
        refine ap_putI (pc := 49) (jz := 4) dX1_coolField_49 fn_RX1_25 sh_83 rfl rfl (fun z => by cases z) ?_
        exact ap_return (pc := 52) dX1_coolField_52 rfl ⟨rfl, by first | exact Or.inl ⟨⟨by omega, w11, by omega⟩, rfl⟩ | exact Or.inr ⟨fun z => absurd z.2.1 w11, rfl⟩ | exact Or.inr ⟨fun z => by have z2 := z.2.2; omega, rfl⟩ | exact Or.inr ⟨fun z => by have z2 := z.1; omega, rfl⟩⟩
    · skip
      refine ap_if_eq (pc := 14) 52 dX1_coolField_14 rfl ⟨by omega, by omega⟩ (fun _ => ?_) (fun c14 => absurd c14 (by decide))
      exact ap_return (pc := 52) dX1_coolField_52 rfl ⟨rfl, by first | exact Or.inl ⟨⟨by omega, w11, by omega⟩, rfl⟩ | exact Or.inr ⟨fun z => absurd z.2.1 w11, rfl⟩ | exact Or.inr ⟨fun z => by have z2 := z.2.2; omega, rfl⟩ | exact Or.inr ⟨fun z => by have z2 := z.1; omega, rfl⟩⟩
end
section

/-! the state as a row of numbers: 0 how many colours, 1 + 3 c their heats and expansions, 37 + 11 f a field (layers, crack, then three of each layer), 114 settings, 117 accounts, 126 + 4 f wishes -/
abbrev szR (r : Int → Int) (f : Int) : Int := r (37 + 11 * f)
abbrev crR (r : Int → Int) (f : Int) : Int := r (37 + 11 * f + 1)
abbrev coR (r : Int → Int) (f l : Int) : Int := r (37 + 11 * f + 2 + 3 * l + 0)
abbrev stR (r : Int → Int) (f l : Int) : Int := r (37 + 11 * f + 2 + 3 * l + 1)
abbrev soR (r : Int → Int) (f l : Int) : Int := r (37 + 11 * f + 2 + 3 * l + 2)
abbrev meR (r : Int → Int) (c : Int) : Int := r (1 + 3 * c)
abbrev buR (r : Int → Int) (c : Int) : Int := r (1 + 3 * c + 1)
abbrev exR (r : Int → Int) (c : Int) : Int := r (1 + 3 * c + 2)
def wfC (r : Int → Int) : Prop := (0 ≤ r 0 ∧ r 0 ≤ 12) ∧ ∀ c : Int, 0 ≤ c → c < r 0 → (600 ≤ meR r c ∧ meR r c ≤ 900) ∧ (meR r c + 10 ≤ buR r c ∧ buR r c ≤ meR r c + 200) ∧ (60 ≤ exR r c ∧ exR r c ≤ 160)
def wfP (r : Int → Int) : Prop := (∀ f : Int, 0 ≤ f → f < 7 → (0 ≤ szR r f ∧ szR r f ≤ 3) ∧ (crR r f = 0 ∨ crR r f = 1)) ∧ ∀ f l : Int, 0 ≤ f → f < 7 → 0 ≤ l → l < szR r f → (0 ≤ coR r f l ∧ coR r f l < r 0) ∧ (0 ≤ stR r f l ∧ stR r f l ≤ 4) ∧ (0 ≤ soR r f l ∧ soR r f l ≤ r 117) ∧ (l + 1 < szR r f → stR r f l ≠ 0)
def wfS (r : Int → Int) : Prop := (1 ≤ r 114 ∧ r 114 ≤ 10) ∧ (0 ≤ r 115 ∧ r 115 ≤ 5) ∧ (0 ≤ r 116 ∧ r 116 ≤ 400) ∧ (0 ≤ r 117 ∧ r 117 ≤ 1000) ∧ crR r 6 = 0
def wfW (r : Int → Int) : Prop := ∀ f : Int, 0 ≤ f → f < 6 → (0 ≤ r (126 + 4 * f) ∧ r (126 + 4 * f) ≤ 3) ∧ ∀ k : Int, 0 ≤ k → k < r (126 + 4 * f) → 0 ≤ r (126 + 4 * f + 1 + k) ∧ r (126 + 4 * f + 1 + k) < r 0
def wfR (r : Int → Int) : Prop := wfC r ∧ wfP r ∧ wfS r ∧ wfW r
/-- a plate's cells hold what the row says -/
def agP (sz co st so cr : Nat) (r : Int → Int) (m : AM) : Prop := (∀ f : Int, 0 ≤ f → f < 7 → m sz f = szR r f) ∧ (∀ f l : Int, 0 ≤ f → f < 7 → 0 ≤ l → l < szR r f → m co (f * 3 + l) = coR r f l ∧ m st (f * 3 + l) = stR r f l ∧ m so (f * 3 + l) = soR r f l) ∧ ∀ f : Int, 0 ≤ f → f < 6 → m cr f = crR r f
def agC (q me bu ex : Nat) (r : Int → Int) (m : AM) : Prop := m q 3 = r 0 ∧ ∀ c : Int, 0 ≤ c → c < r 0 → m me c = meR r c ∧ m bu c = buR r c ∧ m ex c = exR r c
def agS (s a : Nat) (r : Int → Int) (m : AM) : Prop := (∀ k : Int, 0 ≤ k → k < 3 → m s k = r (114 + k)) ∧ ∀ k : Int, 0 ≤ k → k < 9 → m a k = r (117 + k)
def agW (n c : Nat) (r : Int → Int) (m : AM) : Prop := ∀ f : Int, 0 ≤ f → f < 6 → m n f = r (126 + 4 * f) ∧ ∀ k : Int, 0 ≤ k → k < r (126 + 4 * f) → m c (f * 3 + k) = r (126 + 4 * f + 1 + k)
/-- a bench at b -/
def agB (b : Nat) (r : Int → Int) (m : AM) : Prop := agC (b + 1) (b + 2) (b + 3) (b + 4) r m ∧ agP (b + 6) (b + 7) (b + 8) (b + 9) (b + 10) r m ∧ agS (b + 14) (b + 15) r m ∧ agW (b + 11) (b + 12) r m
/-! what a firing does to the row -/
def spS (r : Int → Int) (h lg f l : Int) : Int := fSt h lg (r 115) (meR r (coR r f l)) (buR r (coR r f l)) (stR r f l) (soR r f l)
def spO (r : Int → Int) (h f l : Int) : Int := fSo h (meR r (coR r f l)) (buR r (coR r f l)) (stR r f l) (soR r f l)
def spG (r : Int → Int) (h lg f l : Int) : Int := fGv h lg (meR r (coR r f l)) (buR r (coR r f l)) (stR r f l)
def spU (r : Int → Int) (h lg f l : Int) : Int := fdS h lg (meR r (coR r f l)) (buR r (coR r f l)) (stR r f l)
def spB (r : Int → Int) (h f l : Int) : Int := fdB h (buR r (coR r f l)) (stR r f l)
def spD (r : Int → Int) (h f l : Int) : Int := fdD h (r 115) (meR r (coR r f l)) (buR r (coR r f l)) (stR r f l) (soR r f l)
def sumF (r : Int → Int) (g : Int → Int → Int) (f : Nat) : Int := sumL (fun x => sumL (g x) (szR r x).toNat) f
/-- the pull of a field behind the firing -/
def spP (r : Int → Int) (h lg f : Int) : Int := pullS (szR r f) (fun l => spS r h lg f l) (fun l => exR r (coR r f l))
def iab (x : Int) : Int := if 0 ≤ x then x else -x
def spM (r : Int → Int) (h lg f : Int) : Prop := crR r f = 1 ∧ ∀ l : Int, 0 ≤ l → l < szR r f → spG r h lg f l = 1
def spK (r : Int → Int) (h lg f : Int) : Prop := (crR r f = 0 ∨ spM r h lg f) ∧ (∃ l : Int, 0 ≤ l ∧ l < szR r f ∧ holds (spS r h lg f l)) ∧ iab (spP r h lg f - spP r h lg 6) > r 116
/-- the crack of a field behind the firing -/
noncomputable def spC (r : Int → Int) (h lg f : Int) : Int := by
  classical exact if spK r h lg f then 1 else if spM r h lg f then 0 else crR r f
noncomputable def cntM (r : Int → Int) (h lg : Int) (n : Nat) : Int := by
  classical exact sumL (fun f => if spM r h lg f then 1 else 0) n
noncomputable def cntK (r : Int → Int) (h lg : Int) (n : Nat) : Int := by
  classical exact sumL (fun f => if spK r h lg f then 1 else 0) n
theorem fGv_01 (h lg M B s : Int) : fGv h lg M B s = 0 ∨ fGv h lg M B s = 1 := by unfold fGv; split <;> omega
theorem fSt_bd {h lg a M B s so : Int} (h0 : 0 ≤ s ∧ s ≤ 4) : 0 ≤ fSt h lg a M B s so ∧ fSt h lg a M B s so ≤ 4 := by
  unfold fSt
  (repeat' split) <;> omega
end
section

/-- the firing of the class underway: what the plate holds behind field f and layer l of it -/
def hI (sz co st so cr : Nat) (r : Int → Int) (h lg : Int) (m : AM) (f l : Int) (mi : AM) : Prop :=
  (∀ (k : Nat) (j : Int), k ≠ st → k ≠ so → k ≠ 83 → k ≠ 84 → mi k j = m k j) ∧ mi 83 4 = 0 ∧ mi 83 5 = 0 ∧ (∀ x y : Int, 0 ≤ x → x < 7 → 0 ≤ y → y < szR r x → ((x < f ∨ (x = f ∧ y < l)) → mi st (x * 3 + y) = spS r h lg x y ∧ mi so (x * 3 + y) = spO r h x y ∧ mi 84 (x * 3 + y) = spG r h lg x y) ∧ (¬ (x < f ∨ (x = f ∧ y < l)) → mi st (x * 3 + y) = stR r x y ∧ mi so (x * 3 + y) = soR r x y)) ∧
  mi 83 1 = sumF r (spU r h lg) f.toNat + sumL (spU r h lg f) l.toNat ∧ mi 83 2 = sumF r (spB r h) f.toNat + sumL (spB r h f) l.toNat ∧ mi 83 3 = sumF r (spD r h) f.toNat + sumL (spD r h f) l.toNat
theorem hI_step {sz co st so cr p : Nat} (hp : isPlate p sz co st so cr) (hpp : p + 5 < 83 ∨ 84 < p) (hp1 : 16 < p ∨ p = 6) {r : Int → Int} {h lg : Int} {m mi m' : AM} {f l : Nat} (wP : wfP r) (aP : agP sz co st so cr r m) (aC : agC 2 3 4 5 r m) (aS : agS 15 16 r m) (hf : (f : Int) < 7) (hl : (l : Int) < szR r f) (hi : hI sz co st so cr r h lg m f l mi)
    (e : m' = hlM mi st so ((f : Int) * 3 + l) (fSt h lg (mi 15 1) (mi 3 (mi co ((f : Int) * 3 + l))) (mi 4 (mi co ((f : Int) * 3 + l))) (mi st ((f : Int) * 3 + l)) (mi so ((f : Int) * 3 + l))) (fSo h (mi 3 (mi co ((f : Int) * 3 + l))) (mi 4 (mi co ((f : Int) * 3 + l))) (mi st ((f : Int) * 3 + l)) (mi so ((f : Int) * 3 + l))) (fGv h lg (mi 3 (mi co ((f : Int) * 3 + l))) (mi 4 (mi co ((f : Int) * 3 + l))) (mi st ((f : Int) * 3 + l))) (fdS h lg (mi 3 (mi co ((f : Int) * 3 + l))) (mi 4 (mi co ((f : Int) * 3 + l))) (mi st ((f : Int) * 3 + l))) (fdB h (mi 4 (mi co ((f : Int) * 3 + l))) (mi st ((f : Int) * 3 + l))) (fdD h (mi 15 1) (mi 3 (mi co ((f : Int) * 3 + l))) (mi 4 (mi co ((f : Int) * 3 + l))) (mi st ((f : Int) * 3 + l)) (mi so ((f : Int) * 3 + l)))) : hI sz co st so cr r h lg m f ((l : Int) + 1) m' := by
  have hpn := hp.n
  obtain ⟨i1, i2, i3, i4, i5, i6, i7⟩ := hi
  have hz := (wP.1 f (by omega) hf).1
  have hL := wP.2 f l (by omega) hf (by omega) hl
  have hA := aP.2.1 f l (by omega) hf (by omega) hl
  have hc1 : mi co ((f : Int) * 3 + l) = coR r f l := by rw [i1 co _ (by omega) (by omega) (by omega) (by omega)]; exact hA.1
  have hcc := aC.2 (coR r f l) hL.1.1 hL.1.2
  have hM : mi 3 (coR r f l) = meR r (coR r f l) := by rw [i1 3 _ (by omega) (by omega) (by omega) (by omega)]; exact hcc.1
  have hB : mi 4 (coR r f l) = buR r (coR r f l) := by rw [i1 4 _ (by omega) (by omega) (by omega) (by omega)]; exact hcc.2.1
  have ha : mi 15 1 = r 115 := by rw [i1 15 _ (by omega) (by omega) (by omega) (by omega)]; exact aS.1 1 (by omega) (by omega)
  have h4 := (i4 f l (by omega) hf (by omega) hl).2 (by omega)
  rw [hc1, hM, hB, ha, h4.1, h4.2] at e
  have e' : m' = hlM mi st so ((f : Int) * 3 + l) (spS r h lg f l) (spO r h f l) (spG r h lg f l) (spU r h lg f l) (spB r h f l) (spD r h f l) := e
  clear e
  have t1 : ((l : Int) + 1).toNat = l + 1 := by omega
  have t0 : ((l : Int)).toNat = l := by omega
  refine ⟨fun k j a b c d => ?_, ?_, ?_, fun x y x0 x7 y0 yl => ⟨fun hd => ?_, fun hd => ?_⟩, ?_, ?_, ?_⟩
  · rw [e', ← i1 k j a b c d]; simp [hlM, a, b, c, d]
  · rw [e', ← i2]; simp (disch := omega) only [hlM, if_neg]
  · rw [e', ← i3]; simp (disch := omega) only [hlM, if_neg]
  · by_cases hxy : x = f ∧ y = l
    · obtain ⟨rfl, rfl⟩ := hxy
      rw [e']
      refine ⟨?_, ?_, ?_⟩ <;> simp (disch := omega) only [hlM, if_pos, if_neg, and_self, if_true]
    · have h5 := (i4 x y x0 x7 y0 yl).1 (by omega)
      have hz2 := (wP.1 x x0 x7).1
      have hne : ¬ x * 3 + y = (f : Int) * 3 + l := by omega
      rw [e']
      refine ⟨?_, ?_, ?_⟩ <;> simp (disch := omega) only [hlM, if_neg]
      · exact h5.1
      · exact h5.2.1
      · exact h5.2.2
  · have h5 := (i4 x y x0 x7 y0 yl).2 (by omega)
    have hz2 := (wP.1 x x0 x7).1
    have hne : ¬ x * 3 + y = (f : Int) * 3 + l := by omega
    rw [e']
    refine ⟨?_, ?_⟩ <;> simp (disch := omega) only [hlM, if_neg]
    · exact h5.1
    · exact h5.2
  · rw [t1, sumL_succ, e']; simp (disch := omega) only [hlM, if_pos, if_neg, and_self, if_true]; rw [i5, t0, Int.add_assoc]
  · rw [t1, sumL_succ, e']; simp (disch := omega) only [hlM, if_pos, if_neg, and_self, if_true]; rw [i6, t0, Int.add_assoc]
  · rw [t1, sumL_succ, e']; simp (disch := omega) only [hlM, if_pos, if_neg, and_self, if_true]; rw [i7, t0, Int.add_assoc]

def agC' (r : Int → Int) (m : AM) : Prop := agC 2 3 4 5 r m ∧ agS 15 16 r m
theorem sumF_succ (r : Int → Int) (g : Int → Int → Int) (f : Nat) : sumF r g (f + 1) = sumF r g f + sumL (g f) (szR r f).toNat := rfl
theorem hI_next {sz co st so cr : Nat} {r : Int → Int} {h lg : Int} {m mi : AM} {f : Nat} (wP : wfP r) (hf : (f : Int) < 7) (hi : hI sz co st so cr r h lg m f (szR r f) mi) : hI sz co st so cr r h lg m ((f : Int) + 1) 0 mi := by
  obtain ⟨i1, i2, i3, i4, i5, i6, i7⟩ := hi
  have t1 : ((f : Int) + 1).toNat = f + 1 := by omega
  have t0 : ((f : Int)).toNat = f := by omega
  refine ⟨i1, i2, i3, fun x y x0 x7 y0 yl => ⟨fun hd => (i4 x y x0 x7 y0 yl).1 ?_, fun hd => (i4 x y x0 x7 y0 yl).2 ?_⟩, ?_, ?_, ?_⟩
  · rcases (by omega : x < (f : Int) ∨ x = (f : Int)) with z | z
    · exact Or.inl z
    · exact Or.inr ⟨z, by rw [← z]; exact yl⟩
  · intro z
    omega
  · rw [i5, t1, t0, sumF_succ]; exact (Int.add_zero _).symm
  · rw [i6, t1, t0, sumF_succ]; exact (Int.add_zero _).symm
  · rw [i7, t1, t0, sumF_succ]; exact (Int.add_zero _).symm
end
section

theorem pullS_congr {n n' : Int} {S S' X X' : Int → Int} (hn : n = n') (h : ∀ l : Int, 0 ≤ l → l < n → S l = S' l ∧ X l = X' l) : pullS n S X = pullS n' S' X' := by
  subst hn
  unfold pullS
  refine sumL_congr (fun i hi => ?_)
  have := h (i : Int) (by omega) (by omega)
  simp only [this.1, this.2]
def gI (sz co st so cr : Nat) (r : Int → Int) (h lg : Int) (m mi : AM) : Prop :=
  (∀ (k : Nat) (j : Int), k ≠ st → k ≠ so → k ≠ 83 → k ≠ 84 → k ≠ cr → mi k j = m k j) ∧ ∀ x y : Int, 0 ≤ x → x < 7 → 0 ≤ y → y < szR r x → mi st (x * 3 + y) = spS r h lg x y ∧ mi so (x * 3 + y) = spO r h x y ∧ mi 84 (x * 3 + y) = spG r h lg x y
theorem gI_up {sz co st so cr p : Nat} (hp : isPlate p sz co st so cr) (hpp : p + 5 < 83 ∨ 84 < p) {r : Int → Int} {h lg : Int} {m mi : AM} (g : gI sz co st so cr r h lg m mi) {k : Nat} {j v : Int} (hk : k = cr ∨ k = 83) : gI sz co st so cr r h lg m (am_up mi k j v) := by
  have hpn := hp.n
  refine ⟨fun k' j' a b c d e => ?_, fun x y x0 x7 y0 yl => ?_⟩
  · rw [am_k (by omega)]; exact g.1 k' j' a b c d e
  · rw [am_k (by omega), am_k (by omega), am_k (by omega)]; exact g.2 x y x0 x7 y0 yl
theorem gI_facts {sz co st so cr p : Nat} (hp : isPlate p sz co st so cr) (hpp : p + 5 < 83 ∨ 84 < p) (hp1 : 16 < p ∨ p = 6) {r : Int → Int} {h lg : Int} {m mi : AM} (wC : wfC r) (wP : wfP r) (wS : wfS r) (aP : agP sz co st so cr r m) (aC : agC 2 3 4 5 r m) (aS : agS 15 16 r m) (g : gI sz co st so cr r h lg m mi) :
    (∀ f : Int, 0 ≤ f → f < 7 → mi sz f = szR r f) ∧ (∀ f : Int, 0 ≤ f → f < 7 → 0 ≤ mi sz f ∧ mi sz f ≤ 3) ∧ (∀ f l : Int, 0 ≤ f → f < 7 → 0 ≤ l → l < mi sz f → (0 ≤ mi co (f * 3 + l) ∧ mi co (f * 3 + l) < 12) ∧ (0 ≤ mi st (f * 3 + l) ∧ mi st (f * 3 + l) ≤ 4)) ∧ (∀ f l : Int, 0 ≤ f → f < 7 → 0 ≤ l → l < mi sz f → 60 ≤ mi 5 (mi co (f * 3 + l)) ∧ mi 5 (mi co (f * 3 + l)) ≤ 160) ∧ (∀ f : Int, 0 ≤ f → f < 7 → pullS (mi sz f) (fun l => mi st (f * 3 + l)) (fun l => mi 5 (mi co (f * 3 + l))) = spP r h lg f) ∧ mi 15 2 = r 116 := by
  have hpn := hp.n
  have hz : ∀ f : Int, 0 ≤ f → f < 7 → mi sz f = szR r f := fun f a b => by rw [g.1 sz f (by omega) (by omega) (by omega) (by omega) (by omega)]; exact aP.1 f a b
  have hco : ∀ f l : Int, 0 ≤ f → f < 7 → 0 ≤ l → l < szR r f → mi co (f * 3 + l) = coR r f l := fun f l a b c d => by rw [g.1 co _ (by omega) (by omega) (by omega) (by omega) (by omega)]; exact (aP.2.1 f l a b c d).1
  have hex : ∀ f l : Int, 0 ≤ f → f < 7 → 0 ≤ l → l < szR r f → mi 5 (coR r f l) = exR r (coR r f l) := fun f l a b c d => by
    have h1 := (wP.2 f l a b c d).1
    rw [g.1 5 _ (by omega) (by omega) (by omega) (by omega) (by omega)]; exact (aC.2 _ h1.1 h1.2).2.2
  refine ⟨hz, fun f a b => ?_, fun f l a b c d => ?_, fun f l a b c d => ?_, fun f a b => ?_, ?_⟩
  · rw [hz f a b]; exact (wP.1 f a b).1
  · rw [hz f a b] at d
    have h1 := wP.2 f l a b c d
    have h12 := wC.1
    rw [hco f l a b c d, (g.2 f l a b c d).1]
    exact ⟨⟨h1.1.1, by omega⟩, fSt_bd h1.2.1⟩
  · rw [hz f a b] at d
    have h1 := wP.2 f l a b c d
    rw [hco f l a b c d, hex f l a b c d]
    exact (wC.2 _ h1.1.1 h1.1.2).2.2
  · refine pullS_congr (hz f a b) (fun l c d => ?_)
    rw [hz f a b] at d
    exact ⟨(g.2 f l a b c d).1, by rw [hco f l a b c d, hex f l a b c d]⟩
  · rw [g.1 15 2 (by omega) (by omega) (by omega) (by omega) (by omega)]; exact aS.1 2 (by omega) (by omega)
/-- the cooling of the class underway: fields before f are looked at -/
def cI (sz co st so cr : Nat) (r : Int → Int) (h lg : Int) (m : AM) (f : Nat) (mi : AM) : Prop :=
  gI sz co st so cr r h lg m mi ∧ (∀ x : Int, 0 ≤ x → x < 6 → (x < f → mi cr x = spC r h lg x) ∧ (¬ x < f → mi cr x = crR r x)) ∧ mi 83 1 = sumF r (spU r h lg) 7 ∧ mi 83 2 = sumF r (spB r h) 7 ∧ mi 83 3 = sumF r (spD r h) 7 ∧ mi 83 4 = cntK r h lg f ∧ mi 83 5 = cntM r h lg f
theorem cntM_succ (r : Int → Int) (h lg : Int) (n : Nat) : (spM r h lg n → cntM r h lg (n + 1) = cntM r h lg n + 1) ∧ (¬ spM r h lg n → cntM r h lg (n + 1) = cntM r h lg n) := by
  refine ⟨fun z => ?_, fun z => ?_⟩
  · simp only [cntM, sumL_succ, if_pos z]
  · simp only [cntM, sumL_succ, if_neg z, Int.add_zero]
theorem cntK_succ (r : Int → Int) (h lg : Int) (n : Nat) : (spK r h lg n → cntK r h lg (n + 1) = cntK r h lg n + 1) ∧ (¬ spK r h lg n → cntK r h lg (n + 1) = cntK r h lg n) := by
  refine ⟨fun z => ?_, fun z => ?_⟩
  · simp only [cntK, sumL_succ, if_pos z]
  · simp only [cntK, sumL_succ, if_neg z, Int.add_zero]
theorem spC_cases (r : Int → Int) (h lg f : Int) : (spK r h lg f → spC r h lg f = 1) ∧ (¬ spK r h lg f → spM r h lg f → spC r h lg f = 0) ∧ (¬ spK r h lg f → ¬ spM r h lg f → spC r h lg f = crR r f) := by
  refine ⟨fun z => ?_, fun z y => ?_, fun z y => ?_⟩
  · simp only [spC, if_pos z]
  · simp only [spC, if_neg z, if_pos y]
  · simp only [spC, if_neg z, if_neg y]
theorem cI_step {sz co st so cr p : Nat} (hp : isPlate p sz co st so cr) (hpp : p + 5 < 83 ∨ 84 < p) (hp1 : 16 < p ∨ p = 6) {r : Int → Int} {h lg : Int} {m mi m1 m2 : AM} {f : Nat} (hf : (f : Int) < 6) (wC : wfC r) (wP : wfP r) (wS : wfS r) (aP : agP sz co st so cr r m) (aC : agC 2 3 4 5 r m) (aS : agS 15 16 r m) (hi : cI sz co st so cr r h lg m f mi)
    (e1 : ((mi cr f = 1 ∧ ∀ l : Int, 0 ≤ l → l < mi sz f → mi 84 (f * 3 + l) = 1) ∧ m1 = am_up (am_up mi cr f 0) 83 5 (mi 83 5 + 1)) ∨ (¬ (mi cr f = 1 ∧ ∀ l : Int, 0 ≤ l → l < mi sz f → mi 84 (f * 3 + l) = 1) ∧ m1 = mi))
    (e2 : ((m1 cr f = 0 ∧ (∃ l : Int, 0 ≤ l ∧ l < m1 sz f ∧ holds (m1 st (f * 3 + l))) ∧ iab (pullS (m1 sz f) (fun l => m1 st (f * 3 + l)) (fun l => m1 5 (m1 co (f * 3 + l))) - pullS (m1 sz 6) (fun l => m1 st (6 * 3 + l)) (fun l => m1 5 (m1 co (6 * 3 + l)))) > m1 15 2) ∧ m2 = am_up (am_up m1 cr f 1) 83 4 (m1 83 4 + 1)) ∨ (¬ (m1 cr f = 0 ∧ (∃ l : Int, 0 ≤ l ∧ l < m1 sz f ∧ holds (m1 st (f * 3 + l))) ∧ iab (pullS (m1 sz f) (fun l => m1 st (f * 3 + l)) (fun l => m1 5 (m1 co (f * 3 + l))) - pullS (m1 sz 6) (fun l => m1 st (6 * 3 + l)) (fun l => m1 5 (m1 co (6 * 3 + l)))) > m1 15 2) ∧ m2 = m1)) : cI sz co st so cr r h lg m (f + 1) m2 := by
  have hpn := hp.n
  obtain ⟨g, i2, i3, i4, i5, i6, i7⟩ := hi
  have F0 := gI_facts hp hpp hp1 wC wP wS aP aC aS g
  have hcr := (i2 f (by omega) hf).2 (by omega)
  have hM : (mi cr f = 1 ∧ ∀ l : Int, 0 ≤ l → l < mi sz f → mi 84 (f * 3 + l) = 1) ↔ spM r h lg f := by
    unfold spM
    rw [hcr, F0.1 f (by omega) (by omega)]
    refine and_congr Iff.rfl ⟨fun z l a b => ?_, fun z l a b => ?_⟩
    · rw [← (g.2 f l (by omega) (by omega) a b).2.2]; exact z l a b
    · rw [(g.2 f l (by omega) (by omega) a b).2.2]; exact z l a b
  rw [hM] at e1
  have hone := (wP.1 f (by omega) (by omega)).2
  -- behind the mending
  have G1 : gI sz co st so cr r h lg m m1 ∧ (m1 cr f = 0 ↔ (crR r f = 0 ∨ spM r h lg f)) ∧ (∀ x : Int, x ≠ f → m1 cr x = mi cr x) ∧ m1 83 1 = mi 83 1 ∧ m1 83 2 = mi 83 2 ∧ m1 83 3 = mi 83 3 ∧ m1 83 4 = mi 83 4 ∧ m1 83 5 = cntM r h lg (f + 1) ∧ (spM r h lg f → m1 cr f = 0) ∧ (¬ spM r h lg f → m1 cr f = crR r f) := by
    clear e2
    rcases e1 with ⟨z, rfl⟩ | ⟨z, rfl⟩
    · refine ⟨gI_up hp hpp (gI_up hp hpp g (Or.inl rfl)) (Or.inr rfl), ?_, fun x hx => ?_, ?_, ?_, ?_, ?_, ?_, fun _ => ?_, fun y => absurd z y⟩
      · rw [am_k (by omega), am_same]; exact ⟨fun _ => Or.inr z, fun _ => rfl⟩
      · rw [am_k (by omega), am_j hx]
      · rw [am_j (by omega), am_k (by omega)]
      · rw [am_j (by omega), am_k (by omega)]
      · rw [am_j (by omega), am_k (by omega)]
      · rw [am_j (by omega), am_k (by omega)]
      · rw [am_same, i7]; exact ((cntM_succ r h lg f).1 z).symm
      · rw [am_k (by omega), am_same]
    · refine ⟨g, ?_, fun x hx => rfl, rfl, rfl, rfl, rfl, ?_, fun y => absurd y z, fun _ => hcr⟩
      · rw [hcr]; exact ⟨fun y => Or.inl y, fun y => y.elim id (fun q => absurd q z)⟩
      · rw [i7]; exact ((cntM_succ r h lg f).2 z).symm
  obtain ⟨g1, k0, kx, k1, k2, k3, k4, k5, kM, kN⟩ := G1
  have F1 := gI_facts hp hpp hp1 wC wP wS aP aC aS g1
  have hK : (m1 cr f = 0 ∧ (∃ l : Int, 0 ≤ l ∧ l < m1 sz f ∧ holds (m1 st (f * 3 + l))) ∧ iab (pullS (m1 sz f) (fun l => m1 st (f * 3 + l)) (fun l => m1 5 (m1 co (f * 3 + l))) - pullS (m1 sz 6) (fun l => m1 st (6 * 3 + l)) (fun l => m1 5 (m1 co (6 * 3 + l)))) > m1 15 2) ↔ spK r h lg f := by
    unfold spK
    rw [F1.2.2.2.2.1 f (by omega) (by omega), F1.2.2.2.2.1 6 (by omega) (by omega), F1.2.2.2.2.2, k0, F1.1 f (by omega) (by omega)]
    refine and_congr Iff.rfl (and_congr ⟨fun ⟨l, a, b, c⟩ => ⟨l, a, b, ?_⟩, fun ⟨l, a, b, c⟩ => ⟨l, a, b, ?_⟩⟩ Iff.rfl)
    · rw [← (g1.2 f l (by omega) (by omega) a b).1]; exact c
    · rw [(g1.2 f l (by omega) (by omega) a b).1]; exact c
  rw [hK] at e2
  have sC := spC_cases r h lg f
  rcases e2 with ⟨z, rfl⟩ | ⟨z, rfl⟩
  · refine ⟨gI_up hp hpp (gI_up hp hpp g1 (Or.inl rfl)) (Or.inr rfl), fun x x0 x6 => ?_, ?_, ?_, ?_, ?_, ?_⟩
    · rw [am_k (by omega)]
      by_cases hx : x = f
      · subst hx
        rw [am_same]
        exact ⟨fun _ => (sC.1 z).symm, fun q => absurd q (by omega)⟩
      · rw [am_j hx, kx x hx]
        exact ⟨fun q => (i2 x x0 x6).1 (by omega), fun q => (i2 x x0 x6).2 (by omega)⟩
    · rw [am_j (by omega), am_k (by omega), k1]; exact i3
    · rw [am_j (by omega), am_k (by omega), k2]; exact i4
    · rw [am_j (by omega), am_k (by omega), k3]; exact i5
    · rw [am_same, k4, i6]; exact ((cntK_succ r h lg f).1 z).symm
    · rw [am_j (by omega), am_k (by omega)]; exact k5
  · refine ⟨g1, fun x x0 x6 => ?_, k1.trans i3, k2.trans i4, k3.trans i5, ?_, k5⟩
    · by_cases hx : x = f
      · subst hx
        refine ⟨fun _ => ?_, fun q => absurd q (by omega)⟩
        by_cases hm : spM r h lg f
        · rw [sC.2.1 z hm]; exact kM hm
        · rw [sC.2.2 z hm]; exact kN hm
      · rw [kx x hx]
        exact ⟨fun q => (i2 x x0 x6).1 (by omega), fun q => (i2 x x0 x6).2 (by omega)⟩
    · rw [k4, i6]; exact ((cntK_succ r h lg f).2 z).symm
end
section
set_option maxHeartbeats 4000000 in
theorem qX1_happen {p sz co st so cr : Nat} (hp : isPlate p sz co st so cr) (h mn lg : Int) (r : Int → Int) (m : AM) (hpp : p + 5 < 83 ∨ 84 < p) (hp1 : 16 < p ∨ p = 6) (hh : 500 ≤ h ∧ h ≤ 1200) (hmn : 1 ≤ mn ∧ mn ≤ 20) (hlgd : (mn ≥ r 114 ∧ lg = 1) ∨ (mn < r 114 ∧ lg = 0)) (wC : wfC r) (wP : wfP r) (wS : wfS r) (aP : agP sz co st so cr r m) (aC : agC 2 3 4 5 r m) (aS : agS 15 16 r m) : CS 4 mX1_happen [.inr 83, .inr 1, .inr p, .inl h, .inl mn] m (fun v m' => v = none ∧ cI sz co st so cr r h lg m 6 m') := by
  refine cs_of (by decide +kernel) (Nat.le_of_ble_eq_true rfl) rfl ?_
  have hpn := hp.n
  have hlg : lg = 0 ∨ lg = 1 := by omega
  have hs0 : m 15 0 = r 114 := aS.1 0 (by omega) (by omega)
  have hw14 := wS.1
  refine ap_ald_0 (pc := 0) dX1_happen_0 ?_
  refine ap_const (pc := 1) dX1_happen_1 ?_
  refine ap_putI (pc := 2) (jz := 1) dX1_happen_2 fn_RX1_15 sh_83 rfl rfl (fun z => by cases z) ?_
  refine ap_ald_0 (pc := 5) dX1_happen_5 ?_
  refine ap_const (pc := 6) dX1_happen_6 ?_
  refine ap_putI (pc := 7) (jz := 2) dX1_happen_7 fn_RX1_19 sh_83 rfl rfl (fun z => by cases z) ?_
  refine ap_ald_0 (pc := 10) dX1_happen_10 ?_
  refine ap_const (pc := 11) dX1_happen_11 ?_
  refine ap_putI (pc := 12) (jz := 3) dX1_happen_12 fn_RX1_22 sh_83 rfl rfl (fun z => by cases z) ?_
  refine ap_ald_0 (pc := 15) dX1_happen_15 ?_
  refine ap_const (pc := 16) dX1_happen_16 ?_
  refine ap_putI (pc := 17) (jz := 4) dX1_happen_17 fn_RX1_25 sh_83 rfl rfl (fun z => by cases z) ?_
  refine ap_ald_0 (pc := 20) dX1_happen_20 ?_
  refine ap_const (pc := 21) dX1_happen_21 ?_
  refine ap_putI (pc := 22) (jz := 5) dX1_happen_22 fn_RX1_28 sh_83 rfl rfl (fun z => by cases z) ?_
  refine ap_ild_4 (pc := 25) dX1_happen_25 ?_
  refine ap_ald_1 (pc := 27) dX1_happen_27 ?_
  refine ap_getR (pc := 28) dX1_happen_28 fl_RX1_31 sh_1 rfl ?_
  refine ap_const (pc := 31) dX1_happen_31 ?_
  refine ap_iaload (pc := 32) dX1_happen_32 sh_15 (by omega) (by omega) (by decide) ?_
  try simp (disch := omega) only [am_same, am_k, am_j]
  refine ap_icmp_lt (pc := 33) 40 dX1_happen_33 rfl ⟨by omega, by omega⟩ ⟨by omega, by omega⟩ (fun c33 => ?_) (fun c33 => ?_)
  · skip
    have elg : lg = 0 := by omega
    refine ap_const (pc := 40) dX1_happen_40 ?_
    refine ap_ist_5 (pc := 41) dX1_happen_41 (by decide) ?_
    refine ap_const (pc := 43) dX1_happen_43 ?_
    refine ap_ist_6 (pc := 44) dX1_happen_44 (by decide) ?_
    have hinit : hI sz co st so cr r h lg m ((0 : Nat) : Int) 0 (am_up (am_up (am_up (am_up (am_up m 83 1 0) 83 2 0) 83 3 0) 83 4 0) 83 5 0) := by
      refine ⟨fun k j a b c d => ?_, ?_, ?_, fun x y x0 x7 y0 yl => ⟨fun z => absurd z (by omega), fun _ => ?_⟩, ?_, ?_, ?_⟩
      · rw [am_k c, am_k c, am_k c, am_k c, am_k c]
      · simp (disch := omega) only [am_same, am_k, am_j]
      · simp (disch := omega) only [am_same, am_k, am_j]
      · simp (disch := omega) only [am_same, am_k, am_j]
        exact ⟨(aP.2.1 x y x0 x7 y0 yl).2.1, (aP.2.1 x y x0 x7 y0 yl).2.2⟩
      · simp (disch := omega) only [am_same, am_k, am_j]; rfl
      · simp (disch := omega) only [am_same, am_k, am_j]; rfl
      · simp (disch := omega) only [am_same, am_k, am_j]; rfl
    refine AP.bk (up_rec 7 (fun f => ∀ (mi : AM) (o7 : Option AV), hI sz co st so cr r h lg m f 0 mi → AP 4 mX1_happen 46 [some (.inr 83), some (.inr 1), some (.inr p), some (.inl h), some (.inl mn), some (.inl lg), some (.inl (f : Int)), o7] [] mi (fun v m' => v = none ∧ cI sz co st so cr r h lg m 6 m')) (by omega) (fun f hf7 ihf mi o7 hi0 => ?_) _ none hinit) ⟨rfl, rfl, rfl, rfl, rfl, by rw [elg], rfl, trivial, trivial⟩ rfl
    refine ap_ild_6 (pc := 46) dX1_happen_46 ?_
    refine ap_bipush (pc := 48) dX1_happen_48 bp_7 ?_
    refine ap_icmp_ge (pc := 50) 96 dX1_happen_50 rfl ⟨by omega, by omega⟩ ⟨by omega, by omega⟩ (fun c50 => ?_) (fun c50 => ?_)
    · skip
      refine ap_const (pc := 96) dX1_happen_96 ?_
      refine ap_ist_6 (pc := 97) dX1_happen_97 (by decide) ?_
      have hc0 : cI sz co st so cr r h lg m (0 : Nat) mi := by
        obtain ⟨i1, i2, i3, i4, i5, i6, i7⟩ := hi0
        have e7 : f = 7 := by omega
        subst e7
        refine ⟨⟨fun k j a b c d e => i1 k j a b c d, fun x y x0 x7 y0 yl => (i4 x y x0 x7 y0 yl).1 (by omega)⟩, fun x x0 x6 => ⟨fun z => absurd z (by omega), fun _ => ?_⟩, ?_, ?_, ?_, i2, i3⟩
        · rw [i1 cr x (by omega) (by omega) (by omega) (by omega)]; exact aP.2.2 x x0 x6
        · rw [i5]; exact Int.add_zero _
        · rw [i6]; exact Int.add_zero _
        · rw [i7]; exact Int.add_zero _
      refine AP.bk (up_rec 6 (fun f => ∀ mi : AM, cI sz co st so cr r h lg m f mi → AP 4 mX1_happen 99 [some (.inr 83), some (.inr 1), some (.inr p), some (.inl h), some (.inl mn), some (.inl lg), some (.inl (f : Int)), none] [] mi (fun v m' => v = none ∧ cI sz co st so cr r h lg m 6 m')) (by omega) (fun f hf6 ih6 mi hi => ?_) mi hc0) ⟨rfl, rfl, rfl, rfl, rfl, rfl, rfl, trivial, trivial⟩ rfl
      refine ap_ild_6 (pc := 99) dX1_happen_99 ?_
      refine ap_bipush (pc := 101) dX1_happen_101 bp_6 ?_
      refine ap_icmp_ge (pc := 103) 127 dX1_happen_103 rfl ⟨by omega, by omega⟩ ⟨by omega, by omega⟩ (fun c103 => ?_) (fun c103 => ?_)
      · skip
        have e6 : f = 6 := by omega
        subst e6
        exact ap_return (pc := 127) dX1_happen_127 rfl ⟨rfl, hi⟩
      · skip
        have F0 := gI_facts hp hpp hp1 wC wP wS aP aC aS hi.1
        have hk0 : mi cr f = 0 ∨ mi cr f = 1 := by rw [(hi.2.1 f (by omega) c103).2 (by omega)]; exact (wP.1 f (by omega) (by omega)).2
        have hg0 : ∀ l : Int, 0 ≤ l → l < mi sz f → mi 84 ((f : Int) * 3 + l) = 0 ∨ mi 84 ((f : Int) * 3 + l) = 1 := fun l a b => by
          rw [F0.1 f (by omega) (by omega)] at b
          rw [(hi.1.2 f l (by omega) (by omega) a b).2.2]; exact fGv_01 _ _ _ _ _
        refine ap_ald_0 (pc := 106) dX1_happen_106 ?_
        refine ap_ald_2 (pc := 107) dX1_happen_107 ?_
        refine ap_ild_6 (pc := 108) dX1_happen_108 ?_
        refine ap_invV (pc := 110) dX1_happen_110 mv_RX1_50 sh_83 (av := [_, _]) (rest := []) (qX1_mendField hp _ _ hpp (by omega) (by omega) (F0.2.1 _ (by omega) (by omega)) hk0 hg0) rfl rfl (Nat.le_of_ble_eq_true rfl) (by decide) (by decide) ?_
        rintro _ m1 ⟨rfl, e1⟩
        obtain ⟨g1, hk1⟩ : gI sz co st so cr r h lg m m1 ∧ (m1 cr f = 0 ∨ m1 cr f = 1) := by
          rcases e1 with ⟨z, rfl⟩ | ⟨z, rfl⟩
          · exact ⟨gI_up hp hpp (gI_up hp hpp hi.1 (Or.inl rfl)) (Or.inr rfl), Or.inl (by rw [am_k (by omega), am_same])⟩
          · exact ⟨hi.1, hk0⟩
        have F1 := gI_facts hp hpp hp1 wC wP wS aP aC aS g1
        have hs1 : 0 ≤ m1 15 2 ∧ m1 15 2 ≤ 400 := by rw [F1.2.2.2.2.2]; exact wS.2.2.1
        refine ap_ald_0 (pc := 113) dX1_happen_113 ?_
        refine ap_ald_1 (pc := 114) dX1_happen_114 ?_
        refine ap_ald_2 (pc := 115) dX1_happen_115 ?_
        refine ap_ild_6 (pc := 116) dX1_happen_116 ?_
        refine ap_invV (pc := 118) dX1_happen_118 mv_RX1_54 sh_83 (av := [_, _, _]) (rest := []) (qX1_coolField hp _ _ hpp (by omega) (by omega) hk1 hs1 F1.2.1 F1.2.2.1 F1.2.2.2.1) rfl rfl (Nat.le_of_ble_eq_true rfl) (by decide) (by decide) ?_
        rintro _ m2 ⟨rfl, e2⟩
        have hc2 := cI_step hp hpp hp1 c103 wC wP wS aP aC aS hi e1 e2
        refine ap_iinc_6 (pc := 121) dX1_happen_121 (by decide) ?_
        refine ap_goto (pc := 124) 99 dX1_happen_124 rfl ?_
        exact (ih6 c103 m2 hc2).bk ⟨rfl, rfl, rfl, rfl, rfl, rfl, rfl, trivial, trivial⟩ rfl
    · skip
      refine ap_const (pc := 53) dX1_happen_53 ?_
      refine ap_ist_7 (pc := 54) dX1_happen_54 (by decide) ?_
      have hszf : ∀ (mj : AM) (x y : Int), hI sz co st so cr r h lg m x y mj → mj sz f = szR r f := fun mj x y q => by rw [q.1 sz _ (by omega) (by omega) (by omega) (by omega)]; exact aP.1 f (by omega) c50
      refine up_rec (szR r f) (fun l => ∀ mi : AM, hI sz co st so cr r h lg m f l mi → AP 4 mX1_happen 56 [some (.inr 83), some (.inr 1), some (.inr p), some (.inl h), some (.inl mn), some (.inl lg), some (.inl (f : Int)), some (.inl (l : Int))] [] mi (fun v m' => v = none ∧ cI sz co st so cr r h lg m 6 m')) (wP.1 f (by omega) c50).1.1 (fun l hl3 ihl mi hi => ?_) _ hi0
      have hzz := hszf mi _ _ hi
      have hz3 := (wP.1 f (by omega) c50).1
      refine ap_ild_7 (pc := 56) dX1_happen_56 ?_
      refine ap_ald_2 (pc := 58) dX1_happen_58 ?_
      refine ap_getR (pc := 59) dX1_happen_59 fl_RX1_37 hp.o rfl ?_
      refine ap_ild_6 (pc := 62) dX1_happen_62 ?_
      refine ap_iaload (pc := 64) dX1_happen_64 hp.a (by omega) (by omega) (by decide) ?_
      try simp (disch := omega) only [am_same, am_k, am_j]
      refine ap_icmp_ge (pc := 65) 90 dX1_happen_65 rfl ⟨by omega, by omega⟩ ⟨by omega, by omega⟩ (fun c65 => ?_) (fun c65 => ?_)
      · skip
        rw [hzz] at c65
        have hll : (l : Int) = szR r f := by omega
        rw [hll] at hi
        have hnx := hI_next wP c50 hi
        refine ap_iinc_6 (pc := 90) dX1_happen_90 (by decide) ?_
        refine ap_goto (pc := 93) 46 dX1_happen_93 rfl ?_
        exact (ihf (by omega) _ none hnx).bk ⟨rfl, rfl, rfl, rfl, rfl, rfl, rfl, trivial, trivial⟩ rfl
      · skip
        rw [hzz] at c65
        have hL := wP.2 f l (by omega) c50 (by omega) c65
        have hA := aP.2.1 f l (by omega) c50 (by omega) c65
        have hcoe : mi co ((f : Int) * 3 + l) = coR r f l := by rw [hi.1 co _ (by omega) (by omega) (by omega) (by omega)]; exact hA.1
        have h4 := (hi.2.2.2.1 f l (by omega) c50 (by omega) c65).2 (by omega)
        have hcc := wC.2 _ hL.1.1 hL.1.2
        have hca := aC.2 _ hL.1.1 hL.1.2
        have hM3 : mi 3 (coR r f l) = meR r (coR r f l) := by rw [hi.1 3 _ (by omega) (by omega) (by omega) (by omega)]; exact hca.1
        have hB4 : mi 4 (coR r f l) = buR r (coR r f l) := by rw [hi.1 4 _ (by omega) (by omega) (by omega) (by omega)]; exact hca.2.1
        have h12 := wC.1
        have hw17 := wS.2.2.2.1
        have hf1 : 0 ≤ mi st ((f : Int) * 3 + l) ∧ mi st ((f : Int) * 3 + l) ≤ 4 := by rw [h4.1]; exact hL.2.1
        have hf2 : 0 ≤ mi so ((f : Int) * 3 + l) ∧ mi so ((f : Int) * 3 + l) ≤ 1999 := by rw [h4.2]; exact ⟨hL.2.2.1.1, by omega⟩
        have hf3 : 0 ≤ mi 15 1 ∧ mi 15 1 ≤ 5 := by rw [hi.1 15 _ (by omega) (by omega) (by omega) (by omega), aS.1 1 (by omega) (by omega)]; exact wS.2.1
        have hf4 : 0 ≤ mi co ((f : Int) * 3 + l) ∧ mi co ((f : Int) * 3 + l) < 12 := by rw [hcoe]; exact ⟨hL.1.1, by omega⟩
        have hf5 : 600 ≤ mi 3 (mi co ((f : Int) * 3 + l)) ∧ mi 3 (mi co ((f : Int) * 3 + l)) ≤ 900 := by rw [hcoe, hM3]; exact hcc.1
        have hf6 : mi 3 (mi co ((f : Int) * 3 + l)) + 10 ≤ mi 4 (mi co ((f : Int) * 3 + l)) ∧ mi 4 (mi co ((f : Int) * 3 + l)) ≤ mi 3 (mi co ((f : Int) * 3 + l)) + 200 := by rw [hcoe, hM3, hB4]; exact hcc.2.1
        refine ap_ald_0 (pc := 68) dX1_happen_68 ?_
        refine ap_ald_1 (pc := 69) dX1_happen_69 ?_
        refine ap_ald_2 (pc := 70) dX1_happen_70 ?_
        refine ap_ild_6 (pc := 71) dX1_happen_71 ?_
        refine ap_ild_7 (pc := 73) dX1_happen_73 ?_
        refine ap_invS (pc := 75) dX1_happen_75 ms_RX1_42 (av := [_, _]) (rest := [_, _, _]) (qX8_placeOf _ _ _) rfl rfl (Nat.le_of_ble_eq_true rfl) (by decide) (by decide) ?_
        rintro _ _ ⟨rfl, rfl⟩
        refine ap_ild_3 (pc := 78) dX1_happen_78 ?_
        refine ap_ild_5 (pc := 79) dX1_happen_79 ?_
        refine ap_invV (pc := 81) dX1_happen_81 mv_RX1_46 sh_83 (av := [_, _, _, _, _]) (rest := []) (qX1_heatLayer hp _ _ _ _ hpp (by omega) (by omega) (by omega) hh hlg hf1 hf2 hf3 hf4 hf5 hf6) rfl rfl (Nat.le_of_ble_eq_true rfl) (by decide) (by decide) ?_
        rintro _ m2 ⟨rfl, hm2⟩
        have hI2 := hI_step hp hpp hp1 wP aP aC aS c50 c65 hi hm2
        refine ap_iinc_7 (pc := 84) dX1_happen_84 (by decide) ?_
        refine ap_goto (pc := 87) 56 dX1_happen_87 rfl ?_
        exact (ihl c65 m2 hI2).bk ⟨rfl, rfl, rfl, rfl, rfl, rfl, rfl, rfl, trivial⟩ rfl
  · skip
    have elg : lg = 1 := by omega
    refine ap_const (pc := 36) dX1_happen_36 ?_
    refine ap_goto (pc := 37) 41 dX1_happen_37 rfl ?_
    refine ap_ist_5 (pc := 41) dX1_happen_41 (by decide) ?_
    refine ap_const (pc := 43) dX1_happen_43 ?_
    refine ap_ist_6 (pc := 44) dX1_happen_44 (by decide) ?_
    have hinit : hI sz co st so cr r h lg m ((0 : Nat) : Int) 0 (am_up (am_up (am_up (am_up (am_up m 83 1 0) 83 2 0) 83 3 0) 83 4 0) 83 5 0) := by
      refine ⟨fun k j a b c d => ?_, ?_, ?_, fun x y x0 x7 y0 yl => ⟨fun z => absurd z (by omega), fun _ => ?_⟩, ?_, ?_, ?_⟩
      · rw [am_k c, am_k c, am_k c, am_k c, am_k c]
      · simp (disch := omega) only [am_same, am_k, am_j]
      · simp (disch := omega) only [am_same, am_k, am_j]
      · simp (disch := omega) only [am_same, am_k, am_j]
        exact ⟨(aP.2.1 x y x0 x7 y0 yl).2.1, (aP.2.1 x y x0 x7 y0 yl).2.2⟩
      · simp (disch := omega) only [am_same, am_k, am_j]; rfl
      · simp (disch := omega) only [am_same, am_k, am_j]; rfl
      · simp (disch := omega) only [am_same, am_k, am_j]; rfl
    refine AP.bk (up_rec 7 (fun f => ∀ (mi : AM) (o7 : Option AV), hI sz co st so cr r h lg m f 0 mi → AP 4 mX1_happen 46 [some (.inr 83), some (.inr 1), some (.inr p), some (.inl h), some (.inl mn), some (.inl lg), some (.inl (f : Int)), o7] [] mi (fun v m' => v = none ∧ cI sz co st so cr r h lg m 6 m')) (by omega) (fun f hf7 ihf mi o7 hi0 => ?_) _ none hinit) ⟨rfl, rfl, rfl, rfl, rfl, by rw [elg], rfl, trivial, trivial⟩ rfl
    refine ap_ild_6 (pc := 46) dX1_happen_46 ?_
    refine ap_bipush (pc := 48) dX1_happen_48 bp_7 ?_
    refine ap_icmp_ge (pc := 50) 96 dX1_happen_50 rfl ⟨by omega, by omega⟩ ⟨by omega, by omega⟩ (fun c50 => ?_) (fun c50 => ?_)
    · skip
      refine ap_const (pc := 96) dX1_happen_96 ?_
      refine ap_ist_6 (pc := 97) dX1_happen_97 (by decide) ?_
      have hc0 : cI sz co st so cr r h lg m (0 : Nat) mi := by
        obtain ⟨i1, i2, i3, i4, i5, i6, i7⟩ := hi0
        have e7 : f = 7 := by omega
        subst e7
        refine ⟨⟨fun k j a b c d e => i1 k j a b c d, fun x y x0 x7 y0 yl => (i4 x y x0 x7 y0 yl).1 (by omega)⟩, fun x x0 x6 => ⟨fun z => absurd z (by omega), fun _ => ?_⟩, ?_, ?_, ?_, i2, i3⟩
        · rw [i1 cr x (by omega) (by omega) (by omega) (by omega)]; exact aP.2.2 x x0 x6
        · rw [i5]; exact Int.add_zero _
        · rw [i6]; exact Int.add_zero _
        · rw [i7]; exact Int.add_zero _
      refine AP.bk (up_rec 6 (fun f => ∀ mi : AM, cI sz co st so cr r h lg m f mi → AP 4 mX1_happen 99 [some (.inr 83), some (.inr 1), some (.inr p), some (.inl h), some (.inl mn), some (.inl lg), some (.inl (f : Int)), none] [] mi (fun v m' => v = none ∧ cI sz co st so cr r h lg m 6 m')) (by omega) (fun f hf6 ih6 mi hi => ?_) mi hc0) ⟨rfl, rfl, rfl, rfl, rfl, rfl, rfl, trivial, trivial⟩ rfl
      refine ap_ild_6 (pc := 99) dX1_happen_99 ?_
      refine ap_bipush (pc := 101) dX1_happen_101 bp_6 ?_
      refine ap_icmp_ge (pc := 103) 127 dX1_happen_103 rfl ⟨by omega, by omega⟩ ⟨by omega, by omega⟩ (fun c103 => ?_) (fun c103 => ?_)
      · skip
        have e6 : f = 6 := by omega
        subst e6
        exact ap_return (pc := 127) dX1_happen_127 rfl ⟨rfl, hi⟩
      · skip
        have F0 := gI_facts hp hpp hp1 wC wP wS aP aC aS hi.1
        have hk0 : mi cr f = 0 ∨ mi cr f = 1 := by rw [(hi.2.1 f (by omega) c103).2 (by omega)]; exact (wP.1 f (by omega) (by omega)).2
        have hg0 : ∀ l : Int, 0 ≤ l → l < mi sz f → mi 84 ((f : Int) * 3 + l) = 0 ∨ mi 84 ((f : Int) * 3 + l) = 1 := fun l a b => by
          rw [F0.1 f (by omega) (by omega)] at b
          rw [(hi.1.2 f l (by omega) (by omega) a b).2.2]; exact fGv_01 _ _ _ _ _
        refine ap_ald_0 (pc := 106) dX1_happen_106 ?_
        refine ap_ald_2 (pc := 107) dX1_happen_107 ?_
        refine ap_ild_6 (pc := 108) dX1_happen_108 ?_
        refine ap_invV (pc := 110) dX1_happen_110 mv_RX1_50 sh_83 (av := [_, _]) (rest := []) (qX1_mendField hp _ _ hpp (by omega) (by omega) (F0.2.1 _ (by omega) (by omega)) hk0 hg0) rfl rfl (Nat.le_of_ble_eq_true rfl) (by decide) (by decide) ?_
        rintro _ m1 ⟨rfl, e1⟩
        obtain ⟨g1, hk1⟩ : gI sz co st so cr r h lg m m1 ∧ (m1 cr f = 0 ∨ m1 cr f = 1) := by
          rcases e1 with ⟨z, rfl⟩ | ⟨z, rfl⟩
          · exact ⟨gI_up hp hpp (gI_up hp hpp hi.1 (Or.inl rfl)) (Or.inr rfl), Or.inl (by rw [am_k (by omega), am_same])⟩
          · exact ⟨hi.1, hk0⟩
        have F1 := gI_facts hp hpp hp1 wC wP wS aP aC aS g1
        have hs1 : 0 ≤ m1 15 2 ∧ m1 15 2 ≤ 400 := by rw [F1.2.2.2.2.2]; exact wS.2.2.1
        refine ap_ald_0 (pc := 113) dX1_happen_113 ?_
        refine ap_ald_1 (pc := 114) dX1_happen_114 ?_
        refine ap_ald_2 (pc := 115) dX1_happen_115 ?_
        refine ap_ild_6 (pc := 116) dX1_happen_116 ?_
        refine ap_invV (pc := 118) dX1_happen_118 mv_RX1_54 sh_83 (av := [_, _, _]) (rest := []) (qX1_coolField hp _ _ hpp (by omega) (by omega) hk1 hs1 F1.2.1 F1.2.2.1 F1.2.2.2.1) rfl rfl (Nat.le_of_ble_eq_true rfl) (by decide) (by decide) ?_
        rintro _ m2 ⟨rfl, e2⟩
        have hc2 := cI_step hp hpp hp1 c103 wC wP wS aP aC aS hi e1 e2
        refine ap_iinc_6 (pc := 121) dX1_happen_121 (by decide) ?_
        refine ap_goto (pc := 124) 99 dX1_happen_124 rfl ?_
        exact (ih6 c103 m2 hc2).bk ⟨rfl, rfl, rfl, rfl, rfl, rfl, rfl, trivial, trivial⟩ rfl
    · skip
      refine ap_const (pc := 53) dX1_happen_53 ?_
      refine ap_ist_7 (pc := 54) dX1_happen_54 (by decide) ?_
      have hszf : ∀ (mj : AM) (x y : Int), hI sz co st so cr r h lg m x y mj → mj sz f = szR r f := fun mj x y q => by rw [q.1 sz _ (by omega) (by omega) (by omega) (by omega)]; exact aP.1 f (by omega) c50
      refine up_rec (szR r f) (fun l => ∀ mi : AM, hI sz co st so cr r h lg m f l mi → AP 4 mX1_happen 56 [some (.inr 83), some (.inr 1), some (.inr p), some (.inl h), some (.inl mn), some (.inl lg), some (.inl (f : Int)), some (.inl (l : Int))] [] mi (fun v m' => v = none ∧ cI sz co st so cr r h lg m 6 m')) (wP.1 f (by omega) c50).1.1 (fun l hl3 ihl mi hi => ?_) _ hi0
      have hzz := hszf mi _ _ hi
      have hz3 := (wP.1 f (by omega) c50).1
      refine ap_ild_7 (pc := 56) dX1_happen_56 ?_
      refine ap_ald_2 (pc := 58) dX1_happen_58 ?_
      refine ap_getR (pc := 59) dX1_happen_59 fl_RX1_37 hp.o rfl ?_
      refine ap_ild_6 (pc := 62) dX1_happen_62 ?_
      refine ap_iaload (pc := 64) dX1_happen_64 hp.a (by omega) (by omega) (by decide) ?_
      try simp (disch := omega) only [am_same, am_k, am_j]
      refine ap_icmp_ge (pc := 65) 90 dX1_happen_65 rfl ⟨by omega, by omega⟩ ⟨by omega, by omega⟩ (fun c65 => ?_) (fun c65 => ?_)
      · skip
        rw [hzz] at c65
        have hll : (l : Int) = szR r f := by omega
        rw [hll] at hi
        have hnx := hI_next wP c50 hi
        refine ap_iinc_6 (pc := 90) dX1_happen_90 (by decide) ?_
        refine ap_goto (pc := 93) 46 dX1_happen_93 rfl ?_
        exact (ihf (by omega) _ none hnx).bk ⟨rfl, rfl, rfl, rfl, rfl, rfl, rfl, trivial, trivial⟩ rfl
      · skip
        rw [hzz] at c65
        have hL := wP.2 f l (by omega) c50 (by omega) c65
        have hA := aP.2.1 f l (by omega) c50 (by omega) c65
        have hcoe : mi co ((f : Int) * 3 + l) = coR r f l := by rw [hi.1 co _ (by omega) (by omega) (by omega) (by omega)]; exact hA.1
        have h4 := (hi.2.2.2.1 f l (by omega) c50 (by omega) c65).2 (by omega)
        have hcc := wC.2 _ hL.1.1 hL.1.2
        have hca := aC.2 _ hL.1.1 hL.1.2
        have hM3 : mi 3 (coR r f l) = meR r (coR r f l) := by rw [hi.1 3 _ (by omega) (by omega) (by omega) (by omega)]; exact hca.1
        have hB4 : mi 4 (coR r f l) = buR r (coR r f l) := by rw [hi.1 4 _ (by omega) (by omega) (by omega) (by omega)]; exact hca.2.1
        have h12 := wC.1
        have hw17 := wS.2.2.2.1
        have hf1 : 0 ≤ mi st ((f : Int) * 3 + l) ∧ mi st ((f : Int) * 3 + l) ≤ 4 := by rw [h4.1]; exact hL.2.1
        have hf2 : 0 ≤ mi so ((f : Int) * 3 + l) ∧ mi so ((f : Int) * 3 + l) ≤ 1999 := by rw [h4.2]; exact ⟨hL.2.2.1.1, by omega⟩
        have hf3 : 0 ≤ mi 15 1 ∧ mi 15 1 ≤ 5 := by rw [hi.1 15 _ (by omega) (by omega) (by omega) (by omega), aS.1 1 (by omega) (by omega)]; exact wS.2.1
        have hf4 : 0 ≤ mi co ((f : Int) * 3 + l) ∧ mi co ((f : Int) * 3 + l) < 12 := by rw [hcoe]; exact ⟨hL.1.1, by omega⟩
        have hf5 : 600 ≤ mi 3 (mi co ((f : Int) * 3 + l)) ∧ mi 3 (mi co ((f : Int) * 3 + l)) ≤ 900 := by rw [hcoe, hM3]; exact hcc.1
        have hf6 : mi 3 (mi co ((f : Int) * 3 + l)) + 10 ≤ mi 4 (mi co ((f : Int) * 3 + l)) ∧ mi 4 (mi co ((f : Int) * 3 + l)) ≤ mi 3 (mi co ((f : Int) * 3 + l)) + 200 := by rw [hcoe, hM3, hB4]; exact hcc.2.1
        refine ap_ald_0 (pc := 68) dX1_happen_68 ?_
        refine ap_ald_1 (pc := 69) dX1_happen_69 ?_
        refine ap_ald_2 (pc := 70) dX1_happen_70 ?_
        refine ap_ild_6 (pc := 71) dX1_happen_71 ?_
        refine ap_ild_7 (pc := 73) dX1_happen_73 ?_
        refine ap_invS (pc := 75) dX1_happen_75 ms_RX1_42 (av := [_, _]) (rest := [_, _, _]) (qX8_placeOf _ _ _) rfl rfl (Nat.le_of_ble_eq_true rfl) (by decide) (by decide) ?_
        rintro _ _ ⟨rfl, rfl⟩
        refine ap_ild_3 (pc := 78) dX1_happen_78 ?_
        refine ap_ild_5 (pc := 79) dX1_happen_79 ?_
        refine ap_invV (pc := 81) dX1_happen_81 mv_RX1_46 sh_83 (av := [_, _, _, _, _]) (rest := []) (qX1_heatLayer hp _ _ _ _ hpp (by omega) (by omega) (by omega) hh hlg hf1 hf2 hf3 hf4 hf5 hf6) rfl rfl (Nat.le_of_ble_eq_true rfl) (by decide) (by decide) ?_
        rintro _ m2 ⟨rfl, hm2⟩
        have hI2 := hI_step hp hpp hp1 wP aP aC aS c50 c65 hi hm2
        refine ap_iinc_7 (pc := 84) dX1_happen_84 (by decide) ?_
        refine ap_goto (pc := 87) 56 dX1_happen_87 rfl ?_
        exact (ihl c65 m2 hI2).bk ⟨rfl, rfl, rfl, rfl, rfl, rfl, rfl, rfl, trivial⟩ rfl
end
section

/-- how many layers of a field have states from a to b -/
def cntR (r : Int → Int) (f a b : Int) : Int := sumL (fun l => if a ≤ stR r f l ∧ stR r f l ≤ b then 1 else 0) (szR r f).toNat
theorem cnt_pos {r : Int → Int} {f a b : Int} : 0 ≤ cntR r f a b ∧ (0 < cntR r f a b ↔ ∃ l : Int, 0 ≤ l ∧ l < szR r f ∧ a ≤ stR r f l ∧ stR r f l ≤ b) := by
  have key : ∀ k : Nat, 0 ≤ sumL (fun l => if a ≤ stR r f l ∧ stR r f l ≤ b then 1 else 0) k ∧ (0 < sumL (fun l => if a ≤ stR r f l ∧ stR r f l ≤ b then 1 else 0) k ↔ ∃ l : Int, 0 ≤ l ∧ l < (k : Int) ∧ a ≤ stR r f l ∧ stR r f l ≤ b) := by
    intro k
    induction k with
    | zero => exact ⟨Int.le_refl _, ⟨fun z => absurd z (Int.lt_irrefl 0), fun ⟨l, p, q, _⟩ => by omega⟩⟩
    | succ k ih =>
      rw [sumL_succ]
      by_cases hc : a ≤ stR r f k ∧ stR r f k ≤ b
      · rw [if_pos hc]
        refine ⟨by omega, ⟨fun _ => ⟨k, by omega, by omega, hc⟩, fun _ => by omega⟩⟩
      · rw [if_neg hc, Int.add_zero]
        refine ⟨ih.1, ih.2.trans ⟨fun ⟨l, p, q, s⟩ => ⟨l, p, by omega, s⟩, fun ⟨l, p, q, s⟩ => ⟨l, p, ?_, s⟩⟩⟩
        rcases (by omega : l < (k : Int) ∨ l = (k : Int)) with z | z
        · exact z
        · rw [z] at s; exact absurd s hc
  have := key (szR r f).toNat
  refine ⟨this.1, this.2.trans ⟨fun ⟨l, p, q, s⟩ => ⟨l, p, by omega, s⟩, fun ⟨l, p, q, s⟩ => ⟨l, p, by omega, s⟩⟩⟩
def bcM (m : AM) (a ns no ds db dd : Int) : AM := fun k j => if k = 101 ∧ j = a + 1 then ns else if k = 101 ∧ j = a + 2 then no else if k = 101 ∧ j = 121 then m 101 121 + ds else if k = 101 ∧ j = 123 then m 101 123 + db else if k = 101 ∧ j = 122 then m 101 122 + dd else m k j
end
section
set_option maxHeartbeats 4000000 in
theorem qX9_layersWith (f a b : Int) (m : AM) (h0 : 0 ≤ f) (h1 : f < 7) (hn : 0 ≤ m 101 (37 + 11 * f) ∧ m 101 (37 + 11 * f) ≤ 3) (hS : ∀ l : Int, 0 ≤ l → l < m 101 (37 + 11 * f) → rng (m 101 (37 + 11 * f + 2 + 3 * l + 1))) (ha : rng a) (hb : rng b) : CS 3 mX9_layersWith [.inr 100, .inl f, .inl a, .inl b] m (an (cntR (m 101) f a b) m) := by
  refine cs_of (by decide +kernel) (Nat.le_of_ble_eq_true rfl) rfl ?_
  refine ap_const (pc := 0) dX9_layersWith_0 ?_
  refine ap_ist_4 (pc := 1) dX9_layersWith_1 (by decide) ?_
  refine ap_const (pc := 3) dX9_layersWith_3 ?_
  refine ap_ist_5 (pc := 4) dX9_layersWith_4 (by decide) ?_
  refine up_rec (m 101 (37 + 11 * f)) (fun i => AP 3 mX9_layersWith 6 [some (.inr 100), some (.inl f), some (.inl a), some (.inl b), some (.inl (sumL (fun l => if a ≤ stR (m 101) f l ∧ stR (m 101) f l ≤ b then 1 else 0) i)), some (.inl (i : Int))] [] m (an (cntR (m 101) f a b) m)) hn.1 (fun i hi ih => ?_)
  refine ap_ild_5 (pc := 6) dX9_layersWith_6 ?_
  refine ap_ald_0 (pc := 8) dX9_layersWith_8 ?_
  refine ap_ild_1 (pc := 9) dX9_layersWith_9 ?_
  refine ap_invV (pc := 10) dX9_layersWith_10 mv_RX9_39 sh_100 (av := [_]) (rest := [_]) (qX9_layers _ _ (by omega) (by omega)) rfl rfl (Nat.le_of_ble_eq_true rfl) (by decide) (by decide) ?_
  rintro _ _ ⟨rfl, rfl⟩
  refine ap_icmp_ge (pc := 13) 48 dX9_layersWith_13 rfl ⟨by omega, by omega⟩ ⟨by omega, by omega⟩ (fun c13 => ?_) (fun c13 => ?_)
  · skip
    obtain rfl := nat_of hn.1 hi c13
    refine ap_ild_4 (pc := 48) dX9_layersWith_48 ?_
    exact ap_ireturn (pc := 50) dX9_layersWith_50 rfl ⟨rfl, rfl⟩
  · skip
    have hst := hS (i : Int) (by omega) c13
    refine ap_ild_4 (pc := 16) dX9_layersWith_16 ?_
    refine ap_ald_0 (pc := 18) dX9_layersWith_18 ?_
    refine ap_ild_1 (pc := 19) dX9_layersWith_19 ?_
    refine ap_ild_5 (pc := 20) dX9_layersWith_20 ?_
    refine ap_const (pc := 22) dX9_layersWith_22 ?_
    refine ap_invV (pc := 23) dX9_layersWith_23 mv_RX9_43 sh_100 (av := [_, _, _]) (rest := [_]) (qX9_of _ _ _ _ (by omega) (by omega) (by omega) (by omega) (by omega) (by omega)) rfl rfl (Nat.le_of_ble_eq_true rfl) (by decide) (by decide) ?_
    rintro _ _ ⟨rfl, rfl⟩
    refine ap_ild_2 (pc := 26) dX9_layersWith_26 ?_
    refine ap_ild_3 (pc := 27) dX9_layersWith_27 ?_
    refine ap_invS (pc := 28) dX9_layersWith_28 ms_RX9_32 (av := [_, _, _]) (rest := [_]) (qX9_in _ _ _ _ ⟨by omega, by omega⟩ ⟨by omega, by omega⟩ ⟨by omega, by omega⟩) rfl rfl (Nat.le_of_ble_eq_true rfl) (by decide) (by decide) ?_
    rintro _ _ ⟨⟨w28, rfl⟩ | ⟨w28, rfl⟩, rfl⟩
    · skip
      refine ap_if_eq (pc := 31) 38 dX9_layersWith_31 rfl ⟨by omega, by omega⟩ (fun c31 => absurd c31 (by decide)) (fun _ => ?_)
      refine ap_const (pc := 34) dX9_layersWith_34 ?_
      refine ap_goto (pc := 35) 39 dX9_layersWith_35 rfl ?_
      refine ap_iadd (pc := 39) dX9_layersWith_39 ?_
      refine ap_ist_4 (pc := 40) dX9_layersWith_40 (by decide) ?_
      refine ap_iinc_5 (pc := 42) dX9_layersWith_42 (by decide) ?_
      refine ap_goto (pc := 45) 6 dX9_layersWith_45 rfl ?_
      exact (ih c13).bk ⟨rfl, rfl, rfl, rfl, by first | (simp only [sumL_succ, if_pos w28]; done) | simp only [sumL_succ, if_neg w28], rfl, trivial⟩ rfl
    · skip
      refine ap_if_eq (pc := 31) 38 dX9_layersWith_31 rfl ⟨by omega, by omega⟩ (fun _ => ?_) (fun c31 => absurd c31 (by decide))
      refine ap_const (pc := 38) dX9_layersWith_38 ?_
      refine ap_iadd (pc := 39) dX9_layersWith_39 ?_
      refine ap_ist_4 (pc := 40) dX9_layersWith_40 (by decide) ?_
      refine ap_iinc_5 (pc := 42) dX9_layersWith_42 (by decide) ?_
      refine ap_goto (pc := 45) 6 dX9_layersWith_45 rfl ?_
      exact (ih c13).bk ⟨rfl, rfl, rfl, rfl, by first | (simp only [sumL_succ, if_pos w28]; done) | simp only [sumL_succ, if_neg w28], rfl, trivial⟩ rfl

set_option maxHeartbeats 4000000 in
theorem qX9_pull (f : Int) (m : AM) (h0 : 0 ≤ f) (h1 : f < 7) (hn : 0 ≤ m 101 (37 + 11 * f) ∧ m 101 (37 + 11 * f) ≤ 3) (hC : ∀ l : Int, 0 ≤ l → l < m 101 (37 + 11 * f) → (0 ≤ coR (m 101) f l ∧ coR (m 101) f l < 12) ∧ (0 ≤ stR (m 101) f l ∧ stR (m 101) f l ≤ 4)) : CS 3 mX9_pull [.inr 100, .inl f] m (an (pullS (szR (m 101) f) (fun l => stR (m 101) f l) (fun l => exR (m 101) (coR (m 101) f l))) m) := by
  refine cs_of (by decide +kernel) (Nat.le_of_ble_eq_true rfl) rfl ?_
  refine ap_const (pc := 0) dX9_pull_0 ?_
  refine ap_ist_2 (pc := 1) dX9_pull_1 (by decide) ?_
  refine ap_const (pc := 2) dX9_pull_2 ?_
  refine ap_ist_3 (pc := 3) dX9_pull_3 (by decide) ?_
  refine up_rec (m 101 (37 + 11 * f)) (fun i => AP 3 mX9_pull 4 [some (.inr 100), some (.inl f), some (.inl (sumL (fun l => if holds (stR (m 101) f l) then 170 - exR (m 101) (coR (m 101) f l) else 0) i)), some (.inl (i : Int))] [] m (an (pullS (szR (m 101) f) (fun l => stR (m 101) f l) (fun l => exR (m 101) (coR (m 101) f l))) m)) hn.1 (fun i hi ih => ?_)
  refine ap_ild_3 (pc := 4) dX9_pull_4 ?_
  refine ap_ald_0 (pc := 5) dX9_pull_5 ?_
  refine ap_ild_1 (pc := 6) dX9_pull_6 ?_
  refine ap_invV (pc := 7) dX9_pull_7 mv_RX9_39 sh_100 (av := [_]) (rest := [_]) (qX9_layers _ _ (by omega) (by omega)) rfl rfl (Nat.le_of_ble_eq_true rfl) (by decide) (by decide) ?_
  rintro _ _ ⟨rfl, rfl⟩
  refine ap_icmp_ge (pc := 10) 52 dX9_pull_10 rfl ⟨by omega, by omega⟩ ⟨by omega, by omega⟩ (fun c10 => ?_) (fun c10 => ?_)
  · skip
    obtain rfl := nat_of hn.1 hi c10
    refine ap_ild_2 (pc := 52) dX9_pull_52 ?_
    exact ap_ireturn (pc := 53) dX9_pull_53 rfl ⟨rfl, rfl⟩
  · skip
    have hst := hC (i : Int) (by omega) c10
    simp only [coR, stR] at hst
    refine ap_ild_2 (pc := 13) dX9_pull_13 ?_
    refine ap_ald_0 (pc := 14) dX9_pull_14 ?_
    refine ap_ild_1 (pc := 15) dX9_pull_15 ?_
    refine ap_ild_3 (pc := 16) dX9_pull_16 ?_
    refine ap_const (pc := 17) dX9_pull_17 ?_
    refine ap_invV (pc := 18) dX9_pull_18 mv_RX9_43 sh_100 (av := [_, _, _]) (rest := [_]) (qX9_of _ _ _ _ (by omega) (by omega) (by omega) (by omega) (by omega) (by omega)) rfl rfl (Nat.le_of_ble_eq_true rfl) (by decide) (by decide) ?_
    rintro _ _ ⟨rfl, rfl⟩
    refine ap_const (pc := 21) dX9_pull_21 ?_
    refine ap_const (pc := 22) dX9_pull_22 ?_
    refine ap_invS (pc := 23) dX9_pull_23 ms_RX9_32 (av := [_, _, _]) (rest := [_]) (qX9_in _ _ _ _ ⟨by omega, by omega⟩ ⟨by omega, by omega⟩ ⟨by omega, by omega⟩) rfl rfl (Nat.le_of_ble_eq_true rfl) (by decide) (by decide) ?_
    rintro _ _ ⟨⟨w23, rfl⟩ | ⟨w23, rfl⟩, rfl⟩
    · skip
      refine ap_if_eq (pc := 26) 43 dX9_pull_26 rfl ⟨by omega, by omega⟩ (fun c26 => absurd c26 (by decide)) (fun _ => ?_)
      refine ap_ald_0 (pc := 29) dX9_pull_29 ?_
      refine ap_ald_0 (pc := 30) dX9_pull_30 ?_
      refine ap_ild_1 (pc := 31) dX9_pull_31 ?_
      refine ap_ild_3 (pc := 32) dX9_pull_32 ?_
      refine ap_const (pc := 33) dX9_pull_33 ?_
      refine ap_invV (pc := 34) dX9_pull_34 mv_RX9_43 sh_100 (av := [_, _, _]) (rest := [_, _]) (qX9_of _ _ _ _ (by omega) (by omega) (by omega) (by omega) (by omega) (by omega)) rfl rfl (Nat.le_of_ble_eq_true rfl) (by decide) (by decide) ?_
      rintro _ _ ⟨rfl, rfl⟩
      refine ap_invV (pc := 37) dX9_pull_37 mv_RX9_51 sh_100 (av := [_]) (rest := [_]) (qX9_pullOf _ _ (by omega) (by omega)) rfl rfl (Nat.le_of_ble_eq_true rfl) (by decide) (by decide) ?_
      rintro _ _ ⟨rfl, rfl⟩
      refine ap_goto (pc := 40) 44 dX9_pull_40 rfl ?_
      refine ap_iadd (pc := 44) dX9_pull_44 ?_
      refine ap_ist_2 (pc := 45) dX9_pull_45 (by decide) ?_
      refine ap_iinc_3 (pc := 46) dX9_pull_46 (by decide) ?_
      refine ap_goto (pc := 49) 4 dX9_pull_49 rfl ?_
      have hh : holds (stR (m 101) f i) ↔ (2 ≤ stR (m 101) f i ∧ stR (m 101) f i ≤ 3) := by constructor <;> intro z <;> omega
      rw [← hh] at w23
      exact (ih c10).bk ⟨rfl, rfl, by first | (simp only [sumL_succ, if_pos w23]; done) | simp only [sumL_succ, if_neg w23], rfl, trivial⟩ rfl
    · skip
      refine ap_if_eq (pc := 26) 43 dX9_pull_26 rfl ⟨by omega, by omega⟩ (fun _ => ?_) (fun c26 => absurd c26 (by decide))
      refine ap_const (pc := 43) dX9_pull_43 ?_
      refine ap_iadd (pc := 44) dX9_pull_44 ?_
      refine ap_ist_2 (pc := 45) dX9_pull_45 (by decide) ?_
      refine ap_iinc_3 (pc := 46) dX9_pull_46 (by decide) ?_
      refine ap_goto (pc := 49) 4 dX9_pull_49 rfl ?_
      have hh : holds (stR (m 101) f i) ↔ (2 ≤ stR (m 101) f i ∧ stR (m 101) f i ≤ 3) := by constructor <;> intro z <;> omega
      rw [← hh] at w23
      exact (ih c10).bk ⟨rfl, rfl, by first | (simp only [sumL_succ, if_pos w23]; done) | simp only [sumL_succ, if_neg w23], rfl, trivial⟩ rfl

set_option maxHeartbeats 4000000 in
theorem qX9_strain (f b : Int) (m : AM) (h0 : 0 ≤ f) (h1 : f < 7) (hb : -1000 ≤ b ∧ b ≤ 1000) (hn : ∀ f : Int, 0 ≤ f → f < 7 → 0 ≤ m 101 (37 + 11 * f) ∧ m 101 (37 + 11 * f) ≤ 3) (hC : ∀ f l : Int, 0 ≤ f → f < 7 → 0 ≤ l → l < m 101 (37 + 11 * f) → (0 ≤ coR (m 101) f l ∧ coR (m 101) f l < 12) ∧ (0 ≤ stR (m 101) f l ∧ stR (m 101) f l ≤ 4)) (hX : ∀ f l : Int, 0 ≤ f → f < 7 → 0 ≤ l → l < m 101 (37 + 11 * f) → 60 ≤ exR (m 101) (coR (m 101) f l) ∧ exR (m 101) (coR (m 101) f l) ≤ 160) : CS 4 mX9_strain [.inr 100, .inl f, .inl b] m (an (iab ((pullS (szR (m 101) f) (fun l => stR (m 101) f l) (fun l => exR (m 101) (coR (m 101) f l))) - b)) m) := by
  refine cs_of (by decide +kernel) (Nat.le_of_ble_eq_true rfl) rfl ?_
  have hb1 := pullS_bd (n := szR (m 101) f) (St := fun l => stR (m 101) f l) (Ex := fun l => exR (m 101) (coR (m 101) f l)) (hn f h0 (by omega)).2 (fun l a b => hX f l h0 (by omega) a b)
  refine ap_ald_0 (pc := 0) dX9_strain_0 ?_
  refine ap_ild_1 (pc := 1) dX9_strain_1 ?_
  refine ap_invV (pc := 2) dX9_strain_2 mv_RX9_76 sh_100 (av := [_]) (rest := []) (qX9_pull _ _ (by omega) (by omega) (hn _ (by omega) (by omega)) (fun l a b => hC _ l (by omega) (by omega) a b)) rfl rfl (Nat.le_of_ble_eq_true rfl) (by decide) (by decide) ?_
  rintro _ _ ⟨rfl, rfl⟩
  refine ap_ild_2 (pc := 5) dX9_strain_5 ?_
  refine ap_isub (pc := 6) dX9_strain_6 ?_
  refine ap_ist_3 (pc := 7) dX9_strain_7 (by decide) ?_
  refine ap_ild_3 (pc := 8) dX9_strain_8 ?_
  refine ap_if_ge (pc := 9) 17 dX9_strain_9 rfl ⟨by omega, by omega⟩ (fun c9 => ?_) (fun c9 => ?_)
  · skip
    refine ap_ild_3 (pc := 17) dX9_strain_17 ?_
    exact ap_ireturn (pc := 18) dX9_strain_18 rfl ⟨by unfold iab; first | rw [if_pos (by omega)] | rw [if_neg (by omega)], rfl⟩
  · skip
    refine ap_ild_3 (pc := 12) dX9_strain_12 ?_
    refine ap_ineg (pc := 13) dX9_strain_13 ?_
    refine ap_goto (pc := 14) 18 dX9_strain_14 rfl ?_
    exact ap_ireturn (pc := 18) dX9_strain_18 rfl ⟨by unfold iab; first | rw [if_pos (by omega)] | rw [if_neg (by omega)], rfl⟩
end
section
set_option maxHeartbeats 4000000 in
theorem qX9_becomes (a h mn lg : Int) (m : AM) (h0 : 37 ≤ a) (h1 : a ≤ 111) (hh : 500 ≤ h ∧ h ≤ 1200) (hmn : 1 ≤ mn ∧ mn ≤ 20) (hlgd : (mn ≥ m 101 114 ∧ lg = 1) ∨ (mn < m 101 114 ∧ lg = 0)) (h14 : 1 ≤ m 101 114 ∧ m 101 114 ≤ 10) (hs : 0 ≤ m 101 (a + 1) ∧ m 101 (a + 1) ≤ 4) (hso : 0 ≤ m 101 (a + 2) ∧ m 101 (a + 2) ≤ 1999) (ha : 0 ≤ m 101 115 ∧ m 101 115 ≤ 5) (hc : 0 ≤ m 101 a ∧ m 101 a < 12) (hM : 600 ≤ meR (m 101) (m 101 a) ∧ meR (m 101) (m 101 a) ≤ 900) (hB : meR (m 101) (m 101 a) + 10 ≤ buR (m 101) (m 101 a) ∧ buR (m 101) (m 101 a) ≤ meR (m 101) (m 101 a) + 200) : CS 1 mX9_becomes [.inr 100, .inl a, .inl h, .inl mn] m (fun v m' => ((fGv h lg (meR (m 101) (m 101 a)) (buR (m 101) (m 101 a)) (m 101 (a + 1)) = 1 ∧ v = some 1) ∨ (¬ fGv h lg (meR (m 101) (m 101 a)) (buR (m 101) (m 101 a)) (m 101 (a + 1)) = 1 ∧ v = some 0)) ∧ m' = bcM m a (fSt h lg (m 101 115) (meR (m 101) (m 101 a)) (buR (m 101) (m 101 a)) (m 101 (a + 1)) (m 101 (a + 2))) (fSo h (meR (m 101) (m 101 a)) (buR (m 101) (m 101 a)) (m 101 (a + 1)) (m 101 (a + 2))) (fdS h lg (meR (m 101) (m 101 a)) (buR (m 101) (m 101 a)) (m 101 (a + 1))) (fdB h (buR (m 101) (m 101 a)) (m 101 (a + 1))) (fdD h (m 101 115) (meR (m 101) (m 101 a)) (buR (m 101) (m 101 a)) (m 101 (a + 1)) (m 101 (a + 2)))) := by
  refine cs_of (by decide +kernel) (Nat.le_of_ble_eq_true rfl) rfl ?_
  simp only [meR, buR] at hM hB ⊢
  refine ap_ald_0 (pc := 0) dX9_becomes_0 ?_
  refine ap_getR (pc := 1) dX9_becomes_1 fl_RX9_7 sh_100 rfl ?_
  refine ap_ild_1 (pc := 4) dX9_becomes_4 ?_
  refine ap_iaload (pc := 5) dX9_becomes_5 sh_101 (by omega) (by omega) (by decide) ?_
  refine ap_ist_4 (pc := 6) dX9_becomes_6 (by decide) ?_
  refine ap_ald_0 (pc := 8) dX9_becomes_8 ?_
  refine ap_getR (pc := 9) dX9_becomes_9 fl_RX9_7 sh_100 rfl ?_
  refine ap_ild_1 (pc := 12) dX9_becomes_12 ?_
  refine ap_const (pc := 13) dX9_becomes_13 ?_
  refine ap_iadd (pc := 14) dX9_becomes_14 ?_
  refine ap_iaload (pc := 15) dX9_becomes_15 sh_101 (by omega) (by omega) (by decide) ?_
  refine ap_ist_5 (pc := 16) dX9_becomes_16 (by decide) ?_
  refine ap_ild_5 (pc := 18) dX9_becomes_18 ?_
  refine ap_const (pc := 20) dX9_becomes_20 ?_
  refine ap_icmp_ne (pc := 21) 26 dX9_becomes_21 rfl (Or.inr ⟨⟨by omega, by omega⟩, ⟨by omega, by omega⟩⟩) (fun c21 => ?_) (fun c21 => ?_)
  · skip
    refine ap_ild_2 (pc := 26) dX9_becomes_26 ?_
    refine ap_ald_0 (pc := 27) dX9_becomes_27 ?_
    refine ap_ild_4 (pc := 28) dX9_becomes_28 ?_
    refine ap_invV (pc := 30) dX9_becomes_30 mv_RX9_82 sh_100 (av := [_]) (rest := [_]) (qX9_burning _ _ (by (try simp (disch := omega) only [am_same, am_k, am_j]); omega) (by (try simp (disch := omega) only [am_same, am_k, am_j]); omega)) rfl rfl (Nat.le_of_ble_eq_true rfl) (by decide) (by decide) ?_
    rintro _ _ ⟨rfl, rfl⟩
    try simp (disch := omega) only [am_same, am_k, am_j]
    refine ap_icmp_le (pc := 33) 58 dX9_becomes_33 rfl ⟨by omega, by omega⟩ ⟨by omega, by omega⟩ (fun c33 => ?_) (fun c33 => ?_)
    · skip
      refine ap_ild_5 (pc := 58) dX9_becomes_58 ?_
      refine ap_if_eq (pc := 60) 69 dX9_becomes_60 rfl ⟨by omega, by omega⟩ (fun c60 => ?_) (fun c60 => ?_)
      · skip
        refine ap_ild_2 (pc := 69) dX9_becomes_69 ?_
        refine ap_ald_0 (pc := 70) dX9_becomes_70 ?_
        refine ap_ild_4 (pc := 71) dX9_becomes_71 ?_
        refine ap_invV (pc := 73) dX9_becomes_73 mv_RX9_79 sh_100 (av := [_]) (rest := [_]) (qX9_melting _ _ (by (try simp (disch := omega) only [am_same, am_k, am_j]); omega) (by (try simp (disch := omega) only [am_same, am_k, am_j]); omega)) rfl rfl (Nat.le_of_ble_eq_true rfl) (by decide) (by decide) ?_
        rintro _ _ ⟨rfl, rfl⟩
        try simp (disch := omega) only [am_same, am_k, am_j]
        refine ap_icmp_lt (pc := 76) 94 dX9_becomes_76 rfl ⟨by omega, by omega⟩ ⟨by omega, by omega⟩ (fun c76 => ?_) (fun c76 => ?_)
        · skip
          refine ap_const (pc := 94) dX9_becomes_94 ?_
          refine ap_ist_6 (pc := 95) dX9_becomes_95 (by decide) ?_
          refine ap_ald_0 (pc := 97) dX9_becomes_97 ?_
          refine ap_getR (pc := 98) dX9_becomes_98 fl_RX9_7 sh_100 rfl ?_
          refine ap_ild_1 (pc := 101) dX9_becomes_101 ?_
          refine ap_const (pc := 102) dX9_becomes_102 ?_
          refine ap_iadd (pc := 103) dX9_becomes_103 ?_
          refine ap_ild_6 (pc := 104) dX9_becomes_104 ?_
          refine ap_if_eq (pc := 106) 113 dX9_becomes_106 rfl ⟨by omega, by omega⟩ (fun _ => ?_) (fun c106 => absurd c106 (by decide))
          refine ap_ild_2 (pc := 113) dX9_becomes_113 ?_
          refine ap_ald_0 (pc := 114) dX9_becomes_114 ?_
          refine ap_ild_4 (pc := 115) dX9_becomes_115 ?_
          refine ap_invV (pc := 117) dX9_becomes_117 mv_RX9_79 sh_100 (av := [_]) (rest := [_, _, _]) (qX9_melting _ _ (by (try simp (disch := omega) only [am_same, am_k, am_j]); omega) (by (try simp (disch := omega) only [am_same, am_k, am_j]); omega)) rfl rfl (Nat.le_of_ble_eq_true rfl) (by decide) (by decide) ?_
          rintro _ _ ⟨rfl, rfl⟩
          try simp (disch := omega) only [am_same, am_k, am_j]
          refine ap_bipush (pc := 120) dX9_becomes_120 bp_40 ?_
          refine ap_isub (pc := 122) dX9_becomes_122 ?_
          refine ap_icmp_lt (pc := 123) 130 dX9_becomes_123 rfl ⟨by omega, by omega⟩ ⟨by omega, by omega⟩ (fun c123 => ?_) (fun c123 => ?_)
          · skip
            refine ap_ild_5 (pc := 130) dX9_becomes_130 ?_
            refine ap_iastore (pc := 132) dX9_becomes_132 sh_101 (by omega) (by omega) (by decide) ?_
            refine ap_ald_0 (pc := 133) dX9_becomes_133 ?_
            refine ap_getR (pc := 134) dX9_becomes_134 fl_RX9_7 sh_100 rfl ?_
            refine ap_bipush (pc := 137) dX9_becomes_137 bp_121 ?_
            refine ap_dup2 (pc := 139) dX9_becomes_139 ?_
            refine ap_iaload (pc := 140) dX9_becomes_140 sh_101 (by omega) (by omega) (by decide) ?_
            try simp (disch := omega) only [am_same, am_k, am_j]
            refine ap_ild_6 (pc := 141) dX9_becomes_141 ?_
            refine ap_if_eq (pc := 143) 150 dX9_becomes_143 rfl ⟨by omega, by omega⟩ (fun _ => ?_) (fun c143 => absurd c143 (by decide))
            refine ap_const (pc := 150) dX9_becomes_150 ?_
            refine ap_iadd (pc := 151) dX9_becomes_151 ?_
            refine ap_iastore (pc := 152) dX9_becomes_152 sh_101 (by omega) (by omega) (by decide) ?_
            refine ap_ild_6 (pc := 153) dX9_becomes_153 ?_
            exact ap_zreturn (pc := 155) dX9_becomes_155 rfl (by decide) ⟨Or.inr ⟨by rw [fGv, if_neg (by omega)]; decide, rfl⟩, by
    simp (disch := omega) only [fSt, fSo, fGv, fdS, fdB, fdD, if_pos, if_neg]
    funext k j
    simp only [am_up, bcM]
    (repeat' split) <;> first | rfl | (exfalso; omega) | omega | simp_all⟩
          · skip
            refine ap_const (pc := 126) dX9_becomes_126 ?_
            refine ap_goto (pc := 127) 132 dX9_becomes_127 rfl ?_
            refine ap_iastore (pc := 132) dX9_becomes_132 sh_101 (by omega) (by omega) (by decide) ?_
            refine ap_ald_0 (pc := 133) dX9_becomes_133 ?_
            refine ap_getR (pc := 134) dX9_becomes_134 fl_RX9_7 sh_100 rfl ?_
            refine ap_bipush (pc := 137) dX9_becomes_137 bp_121 ?_
            refine ap_dup2 (pc := 139) dX9_becomes_139 ?_
            refine ap_iaload (pc := 140) dX9_becomes_140 sh_101 (by omega) (by omega) (by decide) ?_
            try simp (disch := omega) only [am_same, am_k, am_j]
            refine ap_ild_6 (pc := 141) dX9_becomes_141 ?_
            refine ap_if_eq (pc := 143) 150 dX9_becomes_143 rfl ⟨by omega, by omega⟩ (fun _ => ?_) (fun c143 => absurd c143 (by decide))
            refine ap_const (pc := 150) dX9_becomes_150 ?_
            refine ap_iadd (pc := 151) dX9_becomes_151 ?_
            refine ap_iastore (pc := 152) dX9_becomes_152 sh_101 (by omega) (by omega) (by decide) ?_
            refine ap_ild_6 (pc := 153) dX9_becomes_153 ?_
            exact ap_zreturn (pc := 155) dX9_becomes_155 rfl (by decide) ⟨Or.inr ⟨by rw [fGv, if_neg (by omega)]; decide, rfl⟩, by
    simp (disch := omega) only [fSt, fSo, fGv, fdS, fdB, fdD, if_pos, if_neg]
    funext k j
    simp only [am_up, bcM]
    (repeat' split) <;> first | rfl | (exfalso; omega) | omega | simp_all⟩
        · skip
          refine ap_ild_3 (pc := 79) dX9_becomes_79 ?_
          refine ap_ald_0 (pc := 80) dX9_becomes_80 ?_
          refine ap_getR (pc := 81) dX9_becomes_81 fl_RX9_7 sh_100 rfl ?_
          refine ap_bipush (pc := 84) dX9_becomes_84 bp_114 ?_
          refine ap_iaload (pc := 86) dX9_becomes_86 sh_101 (by omega) (by omega) (by decide) ?_
          refine ap_icmp_lt (pc := 87) 94 dX9_becomes_87 rfl ⟨by omega, by omega⟩ ⟨by omega, by omega⟩ (fun c87 => ?_) (fun c87 => ?_)
          · skip
            refine ap_const (pc := 94) dX9_becomes_94 ?_
            refine ap_ist_6 (pc := 95) dX9_becomes_95 (by decide) ?_
            refine ap_ald_0 (pc := 97) dX9_becomes_97 ?_
            refine ap_getR (pc := 98) dX9_becomes_98 fl_RX9_7 sh_100 rfl ?_
            refine ap_ild_1 (pc := 101) dX9_becomes_101 ?_
            refine ap_const (pc := 102) dX9_becomes_102 ?_
            refine ap_iadd (pc := 103) dX9_becomes_103 ?_
            refine ap_ild_6 (pc := 104) dX9_becomes_104 ?_
            refine ap_if_eq (pc := 106) 113 dX9_becomes_106 rfl ⟨by omega, by omega⟩ (fun _ => ?_) (fun c106 => absurd c106 (by decide))
            refine ap_ild_2 (pc := 113) dX9_becomes_113 ?_
            refine ap_ald_0 (pc := 114) dX9_becomes_114 ?_
            refine ap_ild_4 (pc := 115) dX9_becomes_115 ?_
            refine ap_invV (pc := 117) dX9_becomes_117 mv_RX9_79 sh_100 (av := [_]) (rest := [_, _, _]) (qX9_melting _ _ (by (try simp (disch := omega) only [am_same, am_k, am_j]); omega) (by (try simp (disch := omega) only [am_same, am_k, am_j]); omega)) rfl rfl (Nat.le_of_ble_eq_true rfl) (by decide) (by decide) ?_
            rintro _ _ ⟨rfl, rfl⟩
            try simp (disch := omega) only [am_same, am_k, am_j]
            refine ap_bipush (pc := 120) dX9_becomes_120 bp_40 ?_
            refine ap_isub (pc := 122) dX9_becomes_122 ?_
            refine ap_icmp_lt (pc := 123) 130 dX9_becomes_123 rfl ⟨by omega, by omega⟩ ⟨by omega, by omega⟩ (fun c123 => ?_) (fun c123 => ?_)
            · skip
              refine ap_ild_5 (pc := 130) dX9_becomes_130 ?_
              refine ap_iastore (pc := 132) dX9_becomes_132 sh_101 (by omega) (by omega) (by decide) ?_
              refine ap_ald_0 (pc := 133) dX9_becomes_133 ?_
              refine ap_getR (pc := 134) dX9_becomes_134 fl_RX9_7 sh_100 rfl ?_
              refine ap_bipush (pc := 137) dX9_becomes_137 bp_121 ?_
              refine ap_dup2 (pc := 139) dX9_becomes_139 ?_
              refine ap_iaload (pc := 140) dX9_becomes_140 sh_101 (by omega) (by omega) (by decide) ?_
              try simp (disch := omega) only [am_same, am_k, am_j]
              refine ap_ild_6 (pc := 141) dX9_becomes_141 ?_
              refine ap_if_eq (pc := 143) 150 dX9_becomes_143 rfl ⟨by omega, by omega⟩ (fun _ => ?_) (fun c143 => absurd c143 (by decide))
              refine ap_const (pc := 150) dX9_becomes_150 ?_
              refine ap_iadd (pc := 151) dX9_becomes_151 ?_
              refine ap_iastore (pc := 152) dX9_becomes_152 sh_101 (by omega) (by omega) (by decide) ?_
              refine ap_ild_6 (pc := 153) dX9_becomes_153 ?_
              exact ap_zreturn (pc := 155) dX9_becomes_155 rfl (by decide) ⟨Or.inr ⟨by rw [fGv, if_neg (by omega)]; decide, rfl⟩, by
    simp (disch := omega) only [fSt, fSo, fGv, fdS, fdB, fdD, if_pos, if_neg]
    funext k j
    simp only [am_up, bcM]
    (repeat' split) <;> first | rfl | (exfalso; omega) | omega | simp_all⟩
            · skip
              refine ap_const (pc := 126) dX9_becomes_126 ?_
              refine ap_goto (pc := 127) 132 dX9_becomes_127 rfl ?_
              refine ap_iastore (pc := 132) dX9_becomes_132 sh_101 (by omega) (by omega) (by decide) ?_
              refine ap_ald_0 (pc := 133) dX9_becomes_133 ?_
              refine ap_getR (pc := 134) dX9_becomes_134 fl_RX9_7 sh_100 rfl ?_
              refine ap_bipush (pc := 137) dX9_becomes_137 bp_121 ?_
              refine ap_dup2 (pc := 139) dX9_becomes_139 ?_
              refine ap_iaload (pc := 140) dX9_becomes_140 sh_101 (by omega) (by omega) (by decide) ?_
              try simp (disch := omega) only [am_same, am_k, am_j]
              refine ap_ild_6 (pc := 141) dX9_becomes_141 ?_
              refine ap_if_eq (pc := 143) 150 dX9_becomes_143 rfl ⟨by omega, by omega⟩ (fun _ => ?_) (fun c143 => absurd c143 (by decide))
              refine ap_const (pc := 150) dX9_becomes_150 ?_
              refine ap_iadd (pc := 151) dX9_becomes_151 ?_
              refine ap_iastore (pc := 152) dX9_becomes_152 sh_101 (by omega) (by omega) (by decide) ?_
              refine ap_ild_6 (pc := 153) dX9_becomes_153 ?_
              exact ap_zreturn (pc := 155) dX9_becomes_155 rfl (by decide) ⟨Or.inr ⟨by rw [fGv, if_neg (by omega)]; decide, rfl⟩, by
    simp (disch := omega) only [fSt, fSo, fGv, fdS, fdB, fdD, if_pos, if_neg]
    funext k j
    simp only [am_up, bcM]
    (repeat' split) <;> first | rfl | (exfalso; omega) | omega | simp_all⟩
          · skip
            refine ap_const (pc := 90) dX9_becomes_90 ?_
            refine ap_goto (pc := 91) 95 dX9_becomes_91 rfl ?_
            refine ap_ist_6 (pc := 95) dX9_becomes_95 (by decide) ?_
            refine ap_ald_0 (pc := 97) dX9_becomes_97 ?_
            refine ap_getR (pc := 98) dX9_becomes_98 fl_RX9_7 sh_100 rfl ?_
            refine ap_ild_1 (pc := 101) dX9_becomes_101 ?_
            refine ap_const (pc := 102) dX9_becomes_102 ?_
            refine ap_iadd (pc := 103) dX9_becomes_103 ?_
            refine ap_ild_6 (pc := 104) dX9_becomes_104 ?_
            refine ap_if_eq (pc := 106) 113 dX9_becomes_106 rfl ⟨by omega, by omega⟩ (fun c106 => absurd c106 (by decide)) (fun _ => ?_)
            refine ap_const (pc := 109) dX9_becomes_109 ?_
            refine ap_goto (pc := 110) 132 dX9_becomes_110 rfl ?_
            refine ap_iastore (pc := 132) dX9_becomes_132 sh_101 (by omega) (by omega) (by decide) ?_
            refine ap_ald_0 (pc := 133) dX9_becomes_133 ?_
            refine ap_getR (pc := 134) dX9_becomes_134 fl_RX9_7 sh_100 rfl ?_
            refine ap_bipush (pc := 137) dX9_becomes_137 bp_121 ?_
            refine ap_dup2 (pc := 139) dX9_becomes_139 ?_
            refine ap_iaload (pc := 140) dX9_becomes_140 sh_101 (by omega) (by omega) (by decide) ?_
            try simp (disch := omega) only [am_same, am_k, am_j]
            refine ap_ild_6 (pc := 141) dX9_becomes_141 ?_
            refine ap_if_eq (pc := 143) 150 dX9_becomes_143 rfl ⟨by omega, by omega⟩ (fun c143 => absurd c143 (by decide)) (fun _ => ?_)
            refine ap_const (pc := 146) dX9_becomes_146 ?_
            refine ap_goto (pc := 147) 151 dX9_becomes_147 rfl ?_
            refine ap_iadd (pc := 151) dX9_becomes_151 ?_
            refine ap_iastore (pc := 152) dX9_becomes_152 sh_101 (by omega) (by omega) (by decide) ?_
            refine ap_ild_6 (pc := 153) dX9_becomes_153 ?_
            exact ap_zreturn (pc := 155) dX9_becomes_155 rfl (by decide) ⟨Or.inl ⟨by rw [fGv, if_pos (by omega)], rfl⟩, by
    simp (disch := omega) only [fSt, fSo, fGv, fdS, fdB, fdD, if_pos, if_neg]
    funext k j
    simp only [am_up, bcM]
    (repeat' split) <;> first | rfl | (exfalso; omega) | omega | simp_all⟩
      · skip
        refine ap_ild_5 (pc := 63) dX9_becomes_63 ?_
        refine ap_const (pc := 65) dX9_becomes_65 ?_
        refine ap_icmp_ne (pc := 66) 156 dX9_becomes_66 rfl (Or.inr ⟨⟨by omega, by omega⟩, ⟨by omega, by omega⟩⟩) (fun c66 => ?_) (fun c66 => ?_)
        · skip
          refine ap_ild_2 (pc := 156) dX9_becomes_156 ?_
          refine ap_ald_0 (pc := 157) dX9_becomes_157 ?_
          refine ap_ild_4 (pc := 158) dX9_becomes_158 ?_
          refine ap_invV (pc := 160) dX9_becomes_160 mv_RX9_79 sh_100 (av := [_]) (rest := [_]) (qX9_melting _ _ (by (try simp (disch := omega) only [am_same, am_k, am_j]); omega) (by (try simp (disch := omega) only [am_same, am_k, am_j]); omega)) rfl rfl (Nat.le_of_ble_eq_true rfl) (by decide) (by decide) ?_
          rintro _ _ ⟨rfl, rfl⟩
          try simp (disch := omega) only [am_same, am_k, am_j]
          refine ap_bipush (pc := 163) dX9_becomes_163 bp_20 ?_
          refine ap_isub (pc := 165) dX9_becomes_165 ?_
          refine ap_icmp_ge (pc := 166) 171 dX9_becomes_166 rfl ⟨by omega, by omega⟩ ⟨by omega, by omega⟩ (fun c166 => ?_) (fun c166 => ?_)
          · skip
            refine ap_ald_0 (pc := 171) dX9_becomes_171 ?_
            refine ap_getR (pc := 172) dX9_becomes_172 fl_RX9_7 sh_100 rfl ?_
            refine ap_ild_1 (pc := 175) dX9_becomes_175 ?_
            refine ap_const (pc := 176) dX9_becomes_176 ?_
            refine ap_iadd (pc := 177) dX9_becomes_177 ?_
            refine ap_dup2 (pc := 178) dX9_becomes_178 ?_
            refine ap_iaload (pc := 179) dX9_becomes_179 sh_101 (by omega) (by omega) (by decide) ?_
            refine ap_const (pc := 180) dX9_becomes_180 ?_
            refine ap_iadd (pc := 181) dX9_becomes_181 ?_
            refine ap_iastore (pc := 182) dX9_becomes_182 sh_101 (by omega) (by omega) (by decide) ?_
            refine ap_ald_0 (pc := 183) dX9_becomes_183 ?_
            refine ap_getR (pc := 184) dX9_becomes_184 fl_RX9_7 sh_100 rfl ?_
            refine ap_ild_1 (pc := 187) dX9_becomes_187 ?_
            refine ap_const (pc := 188) dX9_becomes_188 ?_
            refine ap_iadd (pc := 189) dX9_becomes_189 ?_
            refine ap_iaload (pc := 190) dX9_becomes_190 sh_101 (by omega) (by omega) (by decide) ?_
            try simp (disch := omega) only [am_same, am_k, am_j]
            refine ap_ald_0 (pc := 191) dX9_becomes_191 ?_
            refine ap_getR (pc := 192) dX9_becomes_192 fl_RX9_7 sh_100 rfl ?_
            refine ap_bipush (pc := 195) dX9_becomes_195 bp_115 ?_
            refine ap_iaload (pc := 197) dX9_becomes_197 sh_101 (by omega) (by omega) (by decide) ?_
            try simp (disch := omega) only [am_same, am_k, am_j]
            refine ap_icmp_le (pc := 198) 231 dX9_becomes_198 rfl ⟨by omega, by omega⟩ ⟨by omega, by omega⟩ (fun c198 => ?_) (fun c198 => ?_)
            · skip
              refine ap_const (pc := 231) dX9_becomes_231 ?_
              exact ap_zreturn (pc := 232) dX9_becomes_232 rfl (by decide) ⟨Or.inl ⟨by rw [fGv, if_pos (by omega)], rfl⟩, by
    simp (disch := omega) only [fSt, fSo, fGv, fdS, fdB, fdD, if_pos, if_neg]
    funext k j
    simp only [am_up, bcM]
    (repeat' split) <;> first | rfl | (exfalso; omega) | omega | simp_all⟩
            · skip
              refine ap_ald_0 (pc := 201) dX9_becomes_201 ?_
              refine ap_getR (pc := 202) dX9_becomes_202 fl_RX9_7 sh_100 rfl ?_
              refine ap_bipush (pc := 205) dX9_becomes_205 bp_122 ?_
              refine ap_dup2 (pc := 207) dX9_becomes_207 ?_
              refine ap_iaload (pc := 208) dX9_becomes_208 sh_101 (by omega) (by omega) (by decide) ?_
              try simp (disch := omega) only [am_same, am_k, am_j]
              refine ap_ild_5 (pc := 209) dX9_becomes_209 ?_
              refine ap_const (pc := 211) dX9_becomes_211 ?_
              refine ap_icmp_ne (pc := 212) 219 dX9_becomes_212 rfl (Or.inr ⟨⟨by omega, by omega⟩, ⟨by omega, by omega⟩⟩) (fun c212 => ?_) (fun c212 => ?_)
              · skip
                refine ap_const (pc := 219) dX9_becomes_219 ?_
                refine ap_iadd (pc := 220) dX9_becomes_220 ?_
                refine ap_iastore (pc := 221) dX9_becomes_221 sh_101 (by omega) (by omega) (by decide) ?_
                refine ap_ald_0 (pc := 222) dX9_becomes_222 ?_
                refine ap_getR (pc := 223) dX9_becomes_223 fl_RX9_7 sh_100 rfl ?_
                refine ap_ild_1 (pc := 226) dX9_becomes_226 ?_
                refine ap_const (pc := 227) dX9_becomes_227 ?_
                refine ap_iadd (pc := 228) dX9_becomes_228 ?_
                refine ap_const (pc := 229) dX9_becomes_229 ?_
                refine ap_iastore (pc := 230) dX9_becomes_230 sh_101 (by omega) (by omega) (by decide) ?_
                refine ap_const (pc := 231) dX9_becomes_231 ?_
                exact ap_zreturn (pc := 232) dX9_becomes_232 rfl (by decide) ⟨Or.inl ⟨by rw [fGv, if_pos (by omega)], rfl⟩, by
    simp (disch := omega) only [fSt, fSo, fGv, fdS, fdB, fdD, if_pos, if_neg]
    funext k j
    simp only [am_up, bcM]
    (repeat' split) <;> first | rfl | (exfalso; omega) | omega | simp_all⟩
              · skip
                refine ap_const (pc := 215) dX9_becomes_215 ?_
                refine ap_goto (pc := 216) 220 dX9_becomes_216 rfl ?_
                refine ap_iadd (pc := 220) dX9_becomes_220 ?_
                refine ap_iastore (pc := 221) dX9_becomes_221 sh_101 (by omega) (by omega) (by decide) ?_
                refine ap_ald_0 (pc := 222) dX9_becomes_222 ?_
                refine ap_getR (pc := 223) dX9_becomes_223 fl_RX9_7 sh_100 rfl ?_
                refine ap_ild_1 (pc := 226) dX9_becomes_226 ?_
                refine ap_const (pc := 227) dX9_becomes_227 ?_
                refine ap_iadd (pc := 228) dX9_becomes_228 ?_
                refine ap_const (pc := 229) dX9_becomes_229 ?_
                refine ap_iastore (pc := 230) dX9_becomes_230 sh_101 (by omega) (by omega) (by decide) ?_
                refine ap_const (pc := 231) dX9_becomes_231 ?_
                exact ap_zreturn (pc := 232) dX9_becomes_232 rfl (by decide) ⟨Or.inl ⟨by rw [fGv, if_pos (by omega)], rfl⟩, by
    simp (disch := omega) only [fSt, fSo, fGv, fdS, fdB, fdD, if_pos, if_neg]
    funext k j
    simp only [am_up, bcM]
    (repeat' split) <;> first | rfl | (exfalso; omega) | omega | simp_all⟩
          · skip
            refine ap_const (pc := 169) dX9_becomes_169 ?_
            exact ap_zreturn (pc := 170) dX9_becomes_170 rfl (by decide) ⟨Or.inr ⟨by rw [fGv, if_neg (by omega)]; decide, rfl⟩, by
    simp (disch := omega) only [fSt, fSo, fGv, fdS, fdB, fdD, if_pos, if_neg]
    funext k j
    simp only [am_up, bcM]
    (repeat' split) <;> first | rfl | (exfalso; omega) | omega | simp_all⟩
        · skip
          refine ap_ild_2 (pc := 69) dX9_becomes_69 ?_
          refine ap_ald_0 (pc := 70) dX9_becomes_70 ?_
          refine ap_ild_4 (pc := 71) dX9_becomes_71 ?_
          refine ap_invV (pc := 73) dX9_becomes_73 mv_RX9_79 sh_100 (av := [_]) (rest := [_]) (qX9_melting _ _ (by (try simp (disch := omega) only [am_same, am_k, am_j]); omega) (by (try simp (disch := omega) only [am_same, am_k, am_j]); omega)) rfl rfl (Nat.le_of_ble_eq_true rfl) (by decide) (by decide) ?_
          rintro _ _ ⟨rfl, rfl⟩
          try simp (disch := omega) only [am_same, am_k, am_j]
          refine ap_icmp_lt (pc := 76) 94 dX9_becomes_76 rfl ⟨by omega, by omega⟩ ⟨by omega, by omega⟩ (fun c76 => ?_) (fun c76 => ?_)
          · skip
            refine ap_const (pc := 94) dX9_becomes_94 ?_
            refine ap_ist_6 (pc := 95) dX9_becomes_95 (by decide) ?_
            refine ap_ald_0 (pc := 97) dX9_becomes_97 ?_
            refine ap_getR (pc := 98) dX9_becomes_98 fl_RX9_7 sh_100 rfl ?_
            refine ap_ild_1 (pc := 101) dX9_becomes_101 ?_
            refine ap_const (pc := 102) dX9_becomes_102 ?_
            refine ap_iadd (pc := 103) dX9_becomes_103 ?_
            refine ap_ild_6 (pc := 104) dX9_becomes_104 ?_
            refine ap_if_eq (pc := 106) 113 dX9_becomes_106 rfl ⟨by omega, by omega⟩ (fun _ => ?_) (fun c106 => absurd c106 (by decide))
            refine ap_ild_2 (pc := 113) dX9_becomes_113 ?_
            refine ap_ald_0 (pc := 114) dX9_becomes_114 ?_
            refine ap_ild_4 (pc := 115) dX9_becomes_115 ?_
            refine ap_invV (pc := 117) dX9_becomes_117 mv_RX9_79 sh_100 (av := [_]) (rest := [_, _, _]) (qX9_melting _ _ (by (try simp (disch := omega) only [am_same, am_k, am_j]); omega) (by (try simp (disch := omega) only [am_same, am_k, am_j]); omega)) rfl rfl (Nat.le_of_ble_eq_true rfl) (by decide) (by decide) ?_
            rintro _ _ ⟨rfl, rfl⟩
            try simp (disch := omega) only [am_same, am_k, am_j]
            refine ap_bipush (pc := 120) dX9_becomes_120 bp_40 ?_
            refine ap_isub (pc := 122) dX9_becomes_122 ?_
            refine ap_icmp_lt (pc := 123) 130 dX9_becomes_123 rfl ⟨by omega, by omega⟩ ⟨by omega, by omega⟩ (fun c123 => ?_) (fun c123 => ?_)
            · skip
              refine ap_ild_5 (pc := 130) dX9_becomes_130 ?_
              refine ap_iastore (pc := 132) dX9_becomes_132 sh_101 (by omega) (by omega) (by decide) ?_
              refine ap_ald_0 (pc := 133) dX9_becomes_133 ?_
              refine ap_getR (pc := 134) dX9_becomes_134 fl_RX9_7 sh_100 rfl ?_
              refine ap_bipush (pc := 137) dX9_becomes_137 bp_121 ?_
              refine ap_dup2 (pc := 139) dX9_becomes_139 ?_
              refine ap_iaload (pc := 140) dX9_becomes_140 sh_101 (by omega) (by omega) (by decide) ?_
              try simp (disch := omega) only [am_same, am_k, am_j]
              refine ap_ild_6 (pc := 141) dX9_becomes_141 ?_
              refine ap_if_eq (pc := 143) 150 dX9_becomes_143 rfl ⟨by omega, by omega⟩ (fun _ => ?_) (fun c143 => absurd c143 (by decide))
              refine ap_const (pc := 150) dX9_becomes_150 ?_
              refine ap_iadd (pc := 151) dX9_becomes_151 ?_
              refine ap_iastore (pc := 152) dX9_becomes_152 sh_101 (by omega) (by omega) (by decide) ?_
              refine ap_ild_6 (pc := 153) dX9_becomes_153 ?_
              exact ap_zreturn (pc := 155) dX9_becomes_155 rfl (by decide) ⟨Or.inr ⟨by rw [fGv, if_neg (by omega)]; decide, rfl⟩, by
    simp (disch := omega) only [fSt, fSo, fGv, fdS, fdB, fdD, if_pos, if_neg]
    funext k j
    simp only [am_up, bcM]
    (repeat' split) <;> first | rfl | (exfalso; omega) | omega | simp_all⟩
            · skip
              refine ap_const (pc := 126) dX9_becomes_126 ?_
              refine ap_goto (pc := 127) 132 dX9_becomes_127 rfl ?_
              refine ap_iastore (pc := 132) dX9_becomes_132 sh_101 (by omega) (by omega) (by decide) ?_
              refine ap_ald_0 (pc := 133) dX9_becomes_133 ?_
              refine ap_getR (pc := 134) dX9_becomes_134 fl_RX9_7 sh_100 rfl ?_
              refine ap_bipush (pc := 137) dX9_becomes_137 bp_121 ?_
              refine ap_dup2 (pc := 139) dX9_becomes_139 ?_
              refine ap_iaload (pc := 140) dX9_becomes_140 sh_101 (by omega) (by omega) (by decide) ?_
              try simp (disch := omega) only [am_same, am_k, am_j]
              refine ap_ild_6 (pc := 141) dX9_becomes_141 ?_
              refine ap_if_eq (pc := 143) 150 dX9_becomes_143 rfl ⟨by omega, by omega⟩ (fun _ => ?_) (fun c143 => absurd c143 (by decide))
              refine ap_const (pc := 150) dX9_becomes_150 ?_
              refine ap_iadd (pc := 151) dX9_becomes_151 ?_
              refine ap_iastore (pc := 152) dX9_becomes_152 sh_101 (by omega) (by omega) (by decide) ?_
              refine ap_ild_6 (pc := 153) dX9_becomes_153 ?_
              exact ap_zreturn (pc := 155) dX9_becomes_155 rfl (by decide) ⟨Or.inr ⟨by rw [fGv, if_neg (by omega)]; decide, rfl⟩, by
    simp (disch := omega) only [fSt, fSo, fGv, fdS, fdB, fdD, if_pos, if_neg]
    funext k j
    simp only [am_up, bcM]
    (repeat' split) <;> first | rfl | (exfalso; omega) | omega | simp_all⟩
          · skip
            refine ap_ild_3 (pc := 79) dX9_becomes_79 ?_
            refine ap_ald_0 (pc := 80) dX9_becomes_80 ?_
            refine ap_getR (pc := 81) dX9_becomes_81 fl_RX9_7 sh_100 rfl ?_
            refine ap_bipush (pc := 84) dX9_becomes_84 bp_114 ?_
            refine ap_iaload (pc := 86) dX9_becomes_86 sh_101 (by omega) (by omega) (by decide) ?_
            refine ap_icmp_lt (pc := 87) 94 dX9_becomes_87 rfl ⟨by omega, by omega⟩ ⟨by omega, by omega⟩ (fun c87 => ?_) (fun c87 => ?_)
            · skip
              refine ap_const (pc := 94) dX9_becomes_94 ?_
              refine ap_ist_6 (pc := 95) dX9_becomes_95 (by decide) ?_
              refine ap_ald_0 (pc := 97) dX9_becomes_97 ?_
              refine ap_getR (pc := 98) dX9_becomes_98 fl_RX9_7 sh_100 rfl ?_
              refine ap_ild_1 (pc := 101) dX9_becomes_101 ?_
              refine ap_const (pc := 102) dX9_becomes_102 ?_
              refine ap_iadd (pc := 103) dX9_becomes_103 ?_
              refine ap_ild_6 (pc := 104) dX9_becomes_104 ?_
              refine ap_if_eq (pc := 106) 113 dX9_becomes_106 rfl ⟨by omega, by omega⟩ (fun _ => ?_) (fun c106 => absurd c106 (by decide))
              refine ap_ild_2 (pc := 113) dX9_becomes_113 ?_
              refine ap_ald_0 (pc := 114) dX9_becomes_114 ?_
              refine ap_ild_4 (pc := 115) dX9_becomes_115 ?_
              refine ap_invV (pc := 117) dX9_becomes_117 mv_RX9_79 sh_100 (av := [_]) (rest := [_, _, _]) (qX9_melting _ _ (by (try simp (disch := omega) only [am_same, am_k, am_j]); omega) (by (try simp (disch := omega) only [am_same, am_k, am_j]); omega)) rfl rfl (Nat.le_of_ble_eq_true rfl) (by decide) (by decide) ?_
              rintro _ _ ⟨rfl, rfl⟩
              try simp (disch := omega) only [am_same, am_k, am_j]
              refine ap_bipush (pc := 120) dX9_becomes_120 bp_40 ?_
              refine ap_isub (pc := 122) dX9_becomes_122 ?_
              refine ap_icmp_lt (pc := 123) 130 dX9_becomes_123 rfl ⟨by omega, by omega⟩ ⟨by omega, by omega⟩ (fun c123 => ?_) (fun c123 => ?_)
              · skip
                refine ap_ild_5 (pc := 130) dX9_becomes_130 ?_
                refine ap_iastore (pc := 132) dX9_becomes_132 sh_101 (by omega) (by omega) (by decide) ?_
                refine ap_ald_0 (pc := 133) dX9_becomes_133 ?_
                refine ap_getR (pc := 134) dX9_becomes_134 fl_RX9_7 sh_100 rfl ?_
                refine ap_bipush (pc := 137) dX9_becomes_137 bp_121 ?_
                refine ap_dup2 (pc := 139) dX9_becomes_139 ?_
                refine ap_iaload (pc := 140) dX9_becomes_140 sh_101 (by omega) (by omega) (by decide) ?_
                try simp (disch := omega) only [am_same, am_k, am_j]
                refine ap_ild_6 (pc := 141) dX9_becomes_141 ?_
                refine ap_if_eq (pc := 143) 150 dX9_becomes_143 rfl ⟨by omega, by omega⟩ (fun _ => ?_) (fun c143 => absurd c143 (by decide))
                refine ap_const (pc := 150) dX9_becomes_150 ?_
                refine ap_iadd (pc := 151) dX9_becomes_151 ?_
                refine ap_iastore (pc := 152) dX9_becomes_152 sh_101 (by omega) (by omega) (by decide) ?_
                refine ap_ild_6 (pc := 153) dX9_becomes_153 ?_
                exact ap_zreturn (pc := 155) dX9_becomes_155 rfl (by decide) ⟨Or.inr ⟨by rw [fGv, if_neg (by omega)]; decide, rfl⟩, by
    simp (disch := omega) only [fSt, fSo, fGv, fdS, fdB, fdD, if_pos, if_neg]
    funext k j
    simp only [am_up, bcM]
    (repeat' split) <;> first | rfl | (exfalso; omega) | omega | simp_all⟩
              · skip
                refine ap_const (pc := 126) dX9_becomes_126 ?_
                refine ap_goto (pc := 127) 132 dX9_becomes_127 rfl ?_
                refine ap_iastore (pc := 132) dX9_becomes_132 sh_101 (by omega) (by omega) (by decide) ?_
                refine ap_ald_0 (pc := 133) dX9_becomes_133 ?_
                refine ap_getR (pc := 134) dX9_becomes_134 fl_RX9_7 sh_100 rfl ?_
                refine ap_bipush (pc := 137) dX9_becomes_137 bp_121 ?_
                refine ap_dup2 (pc := 139) dX9_becomes_139 ?_
                refine ap_iaload (pc := 140) dX9_becomes_140 sh_101 (by omega) (by omega) (by decide) ?_
                try simp (disch := omega) only [am_same, am_k, am_j]
                refine ap_ild_6 (pc := 141) dX9_becomes_141 ?_
                refine ap_if_eq (pc := 143) 150 dX9_becomes_143 rfl ⟨by omega, by omega⟩ (fun _ => ?_) (fun c143 => absurd c143 (by decide))
                refine ap_const (pc := 150) dX9_becomes_150 ?_
                refine ap_iadd (pc := 151) dX9_becomes_151 ?_
                refine ap_iastore (pc := 152) dX9_becomes_152 sh_101 (by omega) (by omega) (by decide) ?_
                refine ap_ild_6 (pc := 153) dX9_becomes_153 ?_
                exact ap_zreturn (pc := 155) dX9_becomes_155 rfl (by decide) ⟨Or.inr ⟨by rw [fGv, if_neg (by omega)]; decide, rfl⟩, by
    simp (disch := omega) only [fSt, fSo, fGv, fdS, fdB, fdD, if_pos, if_neg]
    funext k j
    simp only [am_up, bcM]
    (repeat' split) <;> first | rfl | (exfalso; omega) | omega | simp_all⟩
            · skip
              refine ap_const (pc := 90) dX9_becomes_90 ?_
              refine ap_goto (pc := 91) 95 dX9_becomes_91 rfl ?_
              refine ap_ist_6 (pc := 95) dX9_becomes_95 (by decide) ?_
              refine ap_ald_0 (pc := 97) dX9_becomes_97 ?_
              refine ap_getR (pc := 98) dX9_becomes_98 fl_RX9_7 sh_100 rfl ?_
              refine ap_ild_1 (pc := 101) dX9_becomes_101 ?_
              refine ap_const (pc := 102) dX9_becomes_102 ?_
              refine ap_iadd (pc := 103) dX9_becomes_103 ?_
              refine ap_ild_6 (pc := 104) dX9_becomes_104 ?_
              refine ap_if_eq (pc := 106) 113 dX9_becomes_106 rfl ⟨by omega, by omega⟩ (fun c106 => absurd c106 (by decide)) (fun _ => ?_)
              refine ap_const (pc := 109) dX9_becomes_109 ?_
              refine ap_goto (pc := 110) 132 dX9_becomes_110 rfl ?_
              refine ap_iastore (pc := 132) dX9_becomes_132 sh_101 (by omega) (by omega) (by decide) ?_
              refine ap_ald_0 (pc := 133) dX9_becomes_133 ?_
              refine ap_getR (pc := 134) dX9_becomes_134 fl_RX9_7 sh_100 rfl ?_
              refine ap_bipush (pc := 137) dX9_becomes_137 bp_121 ?_
              refine ap_dup2 (pc := 139) dX9_becomes_139 ?_
              refine ap_iaload (pc := 140) dX9_becomes_140 sh_101 (by omega) (by omega) (by decide) ?_
              try simp (disch := omega) only [am_same, am_k, am_j]
              refine ap_ild_6 (pc := 141) dX9_becomes_141 ?_
              refine ap_if_eq (pc := 143) 150 dX9_becomes_143 rfl ⟨by omega, by omega⟩ (fun c143 => absurd c143 (by decide)) (fun _ => ?_)
              refine ap_const (pc := 146) dX9_becomes_146 ?_
              refine ap_goto (pc := 147) 151 dX9_becomes_147 rfl ?_
              refine ap_iadd (pc := 151) dX9_becomes_151 ?_
              refine ap_iastore (pc := 152) dX9_becomes_152 sh_101 (by omega) (by omega) (by decide) ?_
              refine ap_ild_6 (pc := 153) dX9_becomes_153 ?_
              exact ap_zreturn (pc := 155) dX9_becomes_155 rfl (by decide) ⟨Or.inl ⟨by rw [fGv, if_pos (by omega)], rfl⟩, by
    simp (disch := omega) only [fSt, fSo, fGv, fdS, fdB, fdD, if_pos, if_neg]
    funext k j
    simp only [am_up, bcM]
    (repeat' split) <;> first | rfl | (exfalso; omega) | omega | simp_all⟩
    · skip
      refine ap_ald_0 (pc := 36) dX9_becomes_36 ?_
      refine ap_getR (pc := 37) dX9_becomes_37 fl_RX9_7 sh_100 rfl ?_
      refine ap_ild_1 (pc := 40) dX9_becomes_40 ?_
      refine ap_const (pc := 41) dX9_becomes_41 ?_
      refine ap_iadd (pc := 42) dX9_becomes_42 ?_
      refine ap_const (pc := 43) dX9_becomes_43 ?_
      refine ap_iastore (pc := 44) dX9_becomes_44 sh_101 (by omega) (by omega) (by decide) ?_
      refine ap_ald_0 (pc := 45) dX9_becomes_45 ?_
      refine ap_getR (pc := 46) dX9_becomes_46 fl_RX9_7 sh_100 rfl ?_
      refine ap_bipush (pc := 49) dX9_becomes_49 bp_123 ?_
      refine ap_dup2 (pc := 51) dX9_becomes_51 ?_
      refine ap_iaload (pc := 52) dX9_becomes_52 sh_101 (by omega) (by omega) (by decide) ?_
      try simp (disch := omega) only [am_same, am_k, am_j]
      refine ap_const (pc := 53) dX9_becomes_53 ?_
      refine ap_iadd (pc := 54) dX9_becomes_54 ?_
      refine ap_iastore (pc := 55) dX9_becomes_55 sh_101 (by omega) (by omega) (by decide) ?_
      refine ap_const (pc := 56) dX9_becomes_56 ?_
      exact ap_zreturn (pc := 57) dX9_becomes_57 rfl (by decide) ⟨Or.inr ⟨by rw [fGv, if_neg (by omega)]; decide, rfl⟩, by
    simp (disch := omega) only [fSt, fSo, fGv, fdS, fdB, fdD, if_pos, if_neg]
    funext k j
    simp only [am_up, bcM]
    (repeat' split) <;> first | rfl | (exfalso; omega) | omega | simp_all⟩
  · skip
    refine ap_const (pc := 24) dX9_becomes_24 ?_
    exact ap_zreturn (pc := 25) dX9_becomes_25 rfl (by decide) ⟨Or.inr ⟨by rw [fGv, if_neg (by omega)]; decide, rfl⟩, by
    simp (disch := omega) only [fSt, fSo, fGv, fdS, fdB, fdD, if_pos, if_neg]
    funext k j
    simp only [am_up, bcM]
    (repeat' split) <;> first | rfl | (exfalso; omega) | omega | simp_all⟩
end
section

/-- the model's firing underway: the heating (f, l), cracks mended before field f -/
def mI (r : Int → Int) (h lg mn : Int) (m : AM) (f l : Int) (mi : AM) : Prop :=
  (∀ (k : Nat) (j : Int), k ≠ 101 → mi k j = m k j) ∧ (∀ j : Int, (j < 37 ∨ (114 ≤ j ∧ j < 117) ∨ j = 119 ∨ j = 120 ∨ j = 124 ∨ 126 ≤ j) → mi 101 j = r j) ∧ mi 101 117 = r 117 + 1 ∧ mi 101 118 = r 118 + mn ∧
  (∀ x : Int, 0 ≤ x → x < 7 → szR (mi 101) x = szR r x) ∧
  (∀ x y : Int, 0 ≤ x → x < 7 → 0 ≤ y → y < szR r x → coR (mi 101) x y = coR r x y ∧ ((x < f ∨ (x = f ∧ y < l)) → stR (mi 101) x y = spS r h lg x y ∧ soR (mi 101) x y = spO r h x y) ∧ (¬ (x < f ∨ (x = f ∧ y < l)) → stR (mi 101) x y = stR r x y ∧ soR (mi 101) x y = soR r x y)) ∧
  (∀ x : Int, 0 ≤ x → x < 7 → (x < f → (spM r h lg x → crR (mi 101) x = 0) ∧ (¬ spM r h lg x → crR (mi 101) x = crR r x)) ∧ (¬ x < f → crR (mi 101) x = crR r x)) ∧
  mi 101 121 = r 121 + (sumF r (spU r h lg) f.toNat + sumL (spU r h lg f) l.toNat) ∧ mi 101 123 = r 123 + (sumF r (spB r h) f.toNat + sumL (spB r h f) l.toNat) ∧ mi 101 122 = r 122 + (sumF r (spD r h) f.toNat + sumL (spD r h f) l.toNat) ∧ mi 101 125 = r 125 + cntM r h lg f.toNat
theorem bc_at {m : AM} {a ns no ds db dd : Int} : (∀ (k : Nat) (j : Int), k ≠ 101 → bcM m a ns no ds db dd k j = m k j) ∧ (∀ j : Int, j ≠ a + 1 → j ≠ a + 2 → j ≠ 121 → j ≠ 123 → j ≠ 122 → bcM m a ns no ds db dd 101 j = m 101 j) := by
  refine ⟨fun k j hk => ?_, fun j a b c d e => ?_⟩
  · simp [bcM, hk]
  · simp [bcM, a, b, c, d, e]
theorem mI_step {r : Int → Int} {h lg mn : Int} {m mi m' : AM} {f l : Nat} (wP : wfP r) (hf : (f : Int) < 7) (hl : (l : Int) < szR r f) (hi : mI r h lg mn m f l mi)
    (e : m' = bcM mi (37 + 11 * f + 2 + 3 * l) (fSt h lg (mi 101 115) (meR (mi 101) (mi 101 (37 + 11 * f + 2 + 3 * l))) (buR (mi 101) (mi 101 (37 + 11 * f + 2 + 3 * l))) (mi 101 (37 + 11 * f + 2 + 3 * l + 1)) (mi 101 (37 + 11 * f + 2 + 3 * l + 2))) (fSo h (meR (mi 101) (mi 101 (37 + 11 * f + 2 + 3 * l))) (buR (mi 101) (mi 101 (37 + 11 * f + 2 + 3 * l))) (mi 101 (37 + 11 * f + 2 + 3 * l + 1)) (mi 101 (37 + 11 * f + 2 + 3 * l + 2))) (fdS h lg (meR (mi 101) (mi 101 (37 + 11 * f + 2 + 3 * l))) (buR (mi 101) (mi 101 (37 + 11 * f + 2 + 3 * l))) (mi 101 (37 + 11 * f + 2 + 3 * l + 1))) (fdB h (buR (mi 101) (mi 101 (37 + 11 * f + 2 + 3 * l))) (mi 101 (37 + 11 * f + 2 + 3 * l + 1))) (fdD h (mi 101 115) (meR (mi 101) (mi 101 (37 + 11 * f + 2 + 3 * l))) (buR (mi 101) (mi 101 (37 + 11 * f + 2 + 3 * l))) (mi 101 (37 + 11 * f + 2 + 3 * l + 1)) (mi 101 (37 + 11 * f + 2 + 3 * l + 2))))
    (wC : wfC r) : mI r h lg mn m f ((l : Int) + 1) m' := by
  obtain ⟨i1, i2, i3, i4, i5, i6, i7, i8, i9, i10, i11⟩ := hi
  have hL := wP.2 f l (by omega) hf (by omega) hl
  have hz := (wP.1 f (by omega) hf).1
  have h6 := i6 f l (by omega) hf (by omega) hl
  have h62 := h6.2.2 (by omega)
  have hc12 := wC.1
  have ec : mi 101 (37 + 11 * f + 2 + 3 * l) = coR r f l := by rw [← h6.1]; simp only [coR, Int.add_zero]
  have es : mi 101 (37 + 11 * f + 2 + 3 * l + 1) = stR r f l := h62.1
  have eo : mi 101 (37 + 11 * f + 2 + 3 * l + 2) = soR r f l := h62.2
  have eM : meR (mi 101) (coR r f l) = meR r (coR r f l) := i2 _ (Or.inl (by omega))
  have eB : buR (mi 101) (coR r f l) = buR r (coR r f l) := i2 _ (Or.inl (by omega))
  have ea : mi 101 115 = r 115 := i2 _ (Or.inr (Or.inl ⟨by omega, by omega⟩))
  rw [ec, es, eo, eM, eB, ea] at e
  have e' : m' = bcM mi (37 + 11 * f + 2 + 3 * l) (spS r h lg f l) (spO r h f l) (spU r h lg f l) (spB r h f l) (spD r h f l) := e
  clear e
  have t1 : ((l : Int) + 1).toNat = l + 1 := by omega
  have t0 : ((l : Int)).toNat = l := by omega
  have B := bc_at (m := mi) (a := 37 + 11 * f + 2 + 3 * l) (ns := spS r h lg f l) (no := spO r h f l) (ds := spU r h lg f l) (db := spB r h f l) (dd := spD r h f l)
  rw [← e'] at B
  refine ⟨fun k j hk => (B.1 k j hk).trans (i1 k j hk), fun j hj => (B.2 j (by omega) (by omega) (by omega) (by omega) (by omega)).trans (i2 j hj), (B.2 117 (by omega) (by omega) (by omega) (by omega) (by omega)).trans i3, (B.2 118 (by omega) (by omega) (by omega) (by omega) (by omega)).trans i4, fun x x0 x7 => ?_, fun x y x0 x7 y0 yl => ?_, fun x x0 x7 => ?_, ?_, ?_, ?_, ?_⟩
  · exact (B.2 (37 + 11 * x) (by omega) (by omega) (by omega) (by omega) (by omega)).trans (i5 x x0 x7)
  · have hzx := (wP.1 x x0 x7).1
    have h6x := i6 x y x0 x7 y0 yl
    refine ⟨(B.2 (37 + 11 * x + 2 + 3 * y + 0) (by omega) (by omega) (by omega) (by omega) (by omega)).trans h6x.1, fun hd => ?_, fun hd => ?_⟩
    · by_cases hxy : x = f ∧ y = l
      · obtain ⟨rfl, rfl⟩ := hxy
        rw [e']
        constructor <;> simp (disch := omega) only [stR, soR, bcM, if_pos, if_neg, and_self, if_true]
      · have h6y := h6x.2.1 (by omega)
        refine ⟨(B.2 (37 + 11 * x + 2 + 3 * y + 1) (by omega) (by omega) (by omega) (by omega) (by omega)).trans h6y.1, (B.2 (37 + 11 * x + 2 + 3 * y + 2) (by omega) (by omega) (by omega) (by omega) (by omega)).trans h6y.2⟩
    · have h6y := h6x.2.2 (by omega)
      refine ⟨(B.2 (37 + 11 * x + 2 + 3 * y + 1) (by omega) (by omega) (by omega) (by omega) (by omega)).trans h6y.1, (B.2 (37 + 11 * x + 2 + 3 * y + 2) (by omega) (by omega) (by omega) (by omega) (by omega)).trans h6y.2⟩
  · have hq : crR (m' 101) x = crR (mi 101) x := B.2 (37 + 11 * x + 1) (by omega) (by omega) (by omega) (by omega) (by omega)
    rw [hq]; exact i7 x x0 x7
  · rw [t1, sumL_succ, e']; simp (disch := omega) only [bcM, if_pos, if_neg, and_self, if_true]; rw [i8, t0]; simp only [Int.add_assoc]
  · rw [t1, sumL_succ, e']; simp (disch := omega) only [bcM, if_pos, if_neg, and_self, if_true]; rw [i9, t0]; simp only [Int.add_assoc]
  · rw [t1, sumL_succ, e']; simp (disch := omega) only [bcM, if_pos, if_neg, and_self, if_true]; rw [i10, t0]; simp only [Int.add_assoc]
  · exact (B.2 125 (by omega) (by omega) (by omega) (by omega) (by omega)).trans i11
theorem mI_next {r : Int → Int} {h lg mn : Int} {m mi m' : AM} {f : Nat} (wP : wfP r) (hf : (f : Int) < 7) (hi : mI r h lg mn m f (szR r f) mi)
    (e : (spM r h lg f ∧ m' = am_up (am_up mi 101 (37 + 11 * f + 1) 0) 101 125 (mi 101 125 + 1)) ∨ (¬ spM r h lg f ∧ m' = mi)) : mI r h lg mn m ((f : Int) + 1) 0 m' := by
  obtain ⟨i1, i2, i3, i4, i5, i6, i7, i8, i9, i10, i11⟩ := hi
  have t1 : ((f : Int) + 1).toNat = f + 1 := by omega
  have t0 : ((f : Int)).toNat = f := by omega
  have hcr := (i7 f (by omega) hf).2 (by omega)
  have hO : (∀ (k : Nat) (j : Int), k ≠ 101 → m' k j = mi k j) ∧ (∀ j : Int, j ≠ 37 + 11 * f + 1 → j ≠ 125 → m' 101 j = mi 101 j) ∧ (spM r h lg f → m' 101 (37 + 11 * f + 1) = 0) ∧ (¬ spM r h lg f → m' 101 (37 + 11 * f + 1) = crR r f) ∧ m' 101 125 = r 125 + cntM r h lg (f + 1) := by
    rcases e with ⟨z, rfl⟩ | ⟨z, rfl⟩
    · refine ⟨fun k j hk => by rw [am_k hk, am_k hk], fun j a b => by rw [am_j b, am_j a], fun _ => by rw [am_j (by omega), am_same], fun y => absurd z y, ?_⟩
      rw [am_same, i11, t0, (cntM_succ r h lg f).1 z, Int.add_assoc]
    · refine ⟨fun _ _ _ => rfl, fun _ _ _ => rfl, fun y => absurd y z, fun _ => hcr, ?_⟩
      rw [i11, t0, (cntM_succ r h lg f).2 z]
  obtain ⟨o1, o2, o3, o4, o5⟩ := hO
  refine ⟨fun k j hk => (o1 k j hk).trans (i1 k j hk), fun j hj => (o2 j (by omega) (by omega)).trans (i2 j hj), (o2 _ (by omega) (by omega)).trans i3, (o2 _ (by omega) (by omega)).trans i4, fun x x0 x7 => (o2 _ (by omega) (by omega)).trans (i5 x x0 x7), fun x y x0 x7 y0 yl => ?_, fun x x0 x7 => ?_, ?_, ?_, ?_, ?_⟩
  · have hzx := (wP.1 x x0 x7).1
    have h6x := i6 x y x0 x7 y0 yl
    refine ⟨(o2 _ (by omega) (by omega)).trans h6x.1, fun hd => ?_, fun hd => ?_⟩
    · have h6y := h6x.2.1 (by
        rcases (by omega : x < (f : Int) ∨ x = (f : Int)) with z | z
        · exact Or.inl z
        · exact Or.inr ⟨z, by rw [← z]; exact yl⟩)
      exact ⟨(o2 _ (by omega) (by omega)).trans h6y.1, (o2 _ (by omega) (by omega)).trans h6y.2⟩
    · have h6y := h6x.2.2 (by omega)
      exact ⟨(o2 _ (by omega) (by omega)).trans h6y.1, (o2 _ (by omega) (by omega)).trans h6y.2⟩
  · by_cases hx : x = f
    · subst hx
      exact ⟨fun _ => ⟨o3, o4⟩, fun z => absurd z (by omega)⟩
    · have hq : crR (m' 101) x = crR (mi 101) x := o2 _ (by omega) (by omega)
      rw [hq]
      exact ⟨fun z => (i7 x x0 x7).1 (by omega), fun z => (i7 x x0 x7).2 (by omega)⟩
  · rw [o2 _ (by omega) (by omega), i8, t1, t0, sumF_succ]; simp only [Int.toNat_zero, sumL, Int.add_zero]
  · rw [o2 _ (by omega) (by omega), i9, t1, t0, sumF_succ]; simp only [Int.toNat_zero, sumL, Int.add_zero]
  · rw [o2 _ (by omega) (by omega), i10, t1, t0, sumF_succ]; simp only [Int.toNat_zero, sumL, Int.add_zero]
  · rw [o5, t1]
/-- a row behind a firing -/
def isFire (r : Int → Int) (h lg mn : Int) (r' : Int → Int) : Prop :=
  (∀ j : Int, (j < 37 ∨ (114 ≤ j ∧ j < 117) ∨ j = 119 ∨ j = 120 ∨ 126 ≤ j) → r' j = r j) ∧ r' 117 = r 117 + 1 ∧ r' 118 = r 118 + mn ∧ (∀ x : Int, 0 ≤ x → x < 7 → szR r' x = szR r x) ∧ (∀ x : Int, 0 ≤ x → x < 6 → crR r' x = spC r h lg x) ∧ crR r' 6 = 0 ∧
  (∀ x y : Int, 0 ≤ x → x < 7 → 0 ≤ y → y < szR r x → coR r' x y = coR r x y ∧ stR r' x y = spS r h lg x y ∧ soR r' x y = spO r h x y) ∧ r' 121 = r 121 + sumF r (spU r h lg) 7 ∧ r' 122 = r 122 + sumF r (spD r h) 7 ∧ r' 123 = r 123 + sumF r (spB r h) 7 ∧ r' 124 = r 124 + cntK r h lg 6 ∧ r' 125 = r 125 + cntM r h lg 6

theorem mI_g {r : Int → Int} {h lg mn : Int} {m mi : AM} {f l : Nat} (wC : wfC r) (wP : wfP r) (wS : wfS r) (hf : (f : Int) < 7) (hl : (l : Int) < szR r f) (hi : mI r h lg mn m f l mi) :
    fGv h lg (meR (mi 101) (mi 101 (37 + 11 * f + 2 + 3 * l))) (buR (mi 101) (mi 101 (37 + 11 * f + 2 + 3 * l))) (mi 101 (37 + 11 * f + 2 + 3 * l + 1)) = spG r h lg f l ∧
    (0 ≤ mi 101 (37 + 11 * f + 2 + 3 * l + 1) ∧ mi 101 (37 + 11 * f + 2 + 3 * l + 1) ≤ 4) ∧ (0 ≤ mi 101 (37 + 11 * f + 2 + 3 * l + 2) ∧ mi 101 (37 + 11 * f + 2 + 3 * l + 2) ≤ 1999) ∧ (0 ≤ mi 101 115 ∧ mi 101 115 ≤ 5) ∧ (1 ≤ mi 101 114 ∧ mi 101 114 ≤ 10) ∧ mi 101 114 = r 114 ∧ (0 ≤ mi 101 (37 + 11 * f + 2 + 3 * l) ∧ mi 101 (37 + 11 * f + 2 + 3 * l) < 12) ∧
    (600 ≤ meR (mi 101) (mi 101 (37 + 11 * f + 2 + 3 * l)) ∧ meR (mi 101) (mi 101 (37 + 11 * f + 2 + 3 * l)) ≤ 900) ∧ (meR (mi 101) (mi 101 (37 + 11 * f + 2 + 3 * l)) + 10 ≤ buR (mi 101) (mi 101 (37 + 11 * f + 2 + 3 * l)) ∧ buR (mi 101) (mi 101 (37 + 11 * f + 2 + 3 * l)) ≤ meR (mi 101) (mi 101 (37 + 11 * f + 2 + 3 * l)) + 200) := by
  obtain ⟨i1, i2, i3, i4, i5, i6, i7, i8, i9, i10, i11⟩ := hi
  have hL := wP.2 f l (by omega) hf (by omega) hl
  have hz := (wP.1 f (by omega) hf).1
  have h6 := i6 f l (by omega) hf (by omega) hl
  have h62 := h6.2.2 (by omega)
  have hc12 := wC.1
  have hcc := wC.2 _ hL.1.1 hL.1.2
  have h17 := wS.2.2.2.1
  have ec : mi 101 (37 + 11 * f + 2 + 3 * l) = coR r f l := by rw [← h6.1]; simp only [coR, Int.add_zero]
  have es : mi 101 (37 + 11 * f + 2 + 3 * l + 1) = stR r f l := h62.1
  have eo : mi 101 (37 + 11 * f + 2 + 3 * l + 2) = soR r f l := h62.2
  have eM : meR (mi 101) (coR r f l) = meR r (coR r f l) := i2 _ (Or.inl (by omega))
  have eB : buR (mi 101) (coR r f l) = buR r (coR r f l) := i2 _ (Or.inl (by omega))
  have ea : mi 101 115 = r 115 := i2 _ (Or.inr (Or.inl ⟨by omega, by omega⟩))
  have e4 : mi 101 114 = r 114 := i2 _ (Or.inr (Or.inl ⟨by omega, by omega⟩))
  rw [ec, es, eo, eM, eB, ea, e4]
  exact ⟨rfl, hL.2.1, ⟨hL.2.2.1.1, by omega⟩, wS.2.1, wS.1, rfl, ⟨hL.1.1, by omega⟩, hcc.1, hcc.2.1⟩
/-- the model's cooling underway -/
def mC (r : Int → Int) (h lg mn : Int) (m : AM) (f : Nat) (mi : AM) : Prop :=
  (∀ (k : Nat) (j : Int), k ≠ 101 → mi k j = m k j) ∧ (∀ j : Int, (j < 37 ∨ (114 ≤ j ∧ j < 117) ∨ j = 119 ∨ j = 120 ∨ 126 ≤ j) → mi 101 j = r j) ∧ mi 101 117 = r 117 + 1 ∧ mi 101 118 = r 118 + mn ∧ (∀ x : Int, 0 ≤ x → x < 7 → szR (mi 101) x = szR r x) ∧
  (∀ x : Int, 0 ≤ x → x < 6 → (x < f → crR (mi 101) x = spC r h lg x) ∧ (¬ x < f → (spM r h lg x → crR (mi 101) x = 0) ∧ (¬ spM r h lg x → crR (mi 101) x = crR r x))) ∧ crR (mi 101) 6 = 0 ∧
  (∀ x y : Int, 0 ≤ x → x < 7 → 0 ≤ y → y < szR r x → coR (mi 101) x y = coR r x y ∧ stR (mi 101) x y = spS r h lg x y ∧ soR (mi 101) x y = spO r h x y) ∧ mi 101 121 = r 121 + sumF r (spU r h lg) 7 ∧ mi 101 122 = r 122 + sumF r (spD r h) 7 ∧ mi 101 123 = r 123 + sumF r (spB r h) 7 ∧ mi 101 124 = r 124 + cntK r h lg f ∧ mi 101 125 = r 125 + cntM r h lg 6
theorem mC_facts {r : Int → Int} {h lg mn : Int} {m mi : AM} {f : Nat} (wC : wfC r) (wP : wfP r) (wS : wfS r) (hi : mC r h lg mn m f mi) :
    (∀ f : Int, 0 ≤ f → f < 7 → 0 ≤ mi 101 (37 + 11 * f) ∧ mi 101 (37 + 11 * f) ≤ 3) ∧ (∀ f l : Int, 0 ≤ f → f < 7 → 0 ≤ l → l < mi 101 (37 + 11 * f) → (0 ≤ coR (mi 101) f l ∧ coR (mi 101) f l < 12) ∧ (0 ≤ stR (mi 101) f l ∧ stR (mi 101) f l ≤ 4)) ∧ (∀ f l : Int, 0 ≤ f → f < 7 → 0 ≤ l → l < mi 101 (37 + 11 * f) → 60 ≤ exR (mi 101) (coR (mi 101) f l) ∧ exR (mi 101) (coR (mi 101) f l) ≤ 160) ∧ (∀ f : Int, 0 ≤ f → f < 7 → pullS (szR (mi 101) f) (fun l => stR (mi 101) f l) (fun l => exR (mi 101) (coR (mi 101) f l)) = spP r h lg f) ∧ mi 101 116 = r 116 ∧ (∀ f : Int, 0 ≤ f → f < 7 → 0 ≤ spP r h lg f ∧ spP r h lg f ≤ 330) := by
  obtain ⟨i1, i2, i3, i4, i5, i6, i66, i7, -⟩ := hi
  have hex : ∀ x y : Int, 0 ≤ x → x < 7 → 0 ≤ y → y < szR r x → exR (mi 101) (coR r x y) = exR r (coR r x y) := fun x y a b c d => by
    have h1 := (wP.2 x y a b c d).1
    have h12 := wC.1
    exact i2 _ (Or.inl (by omega))
  refine ⟨fun f a b => ?_, fun f l a b c d => ?_, fun f l a b c d => ?_, fun f a b => ?_, i2 _ (Or.inr (Or.inl ⟨by omega, by omega⟩)), fun f a b => ?_⟩
  · have q : mi 101 (37 + 11 * f) = szR r f := i5 f a b
    rw [q]; exact (wP.1 f a b).1
  · rw [show mi 101 (37 + 11 * f) = szR r f from i5 f a b] at d
    have h1 := wP.2 f l a b c d
    have h12 := wC.1
    have h7 := i7 f l a b c d
    rw [h7.1, h7.2.1]
    exact ⟨⟨h1.1.1, by omega⟩, fSt_bd h1.2.1⟩
  · rw [show mi 101 (37 + 11 * f) = szR r f from i5 f a b] at d
    have h1 := wP.2 f l a b c d
    rw [(i7 f l a b c d).1, hex f l a b c d]
    exact (wC.2 _ h1.1.1 h1.1.2).2.2
  · refine pullS_congr (i5 f a b) (fun l c d => ?_)
    rw [i5 f a b] at d
    have h7 := i7 f l a b c d
    exact ⟨h7.2.1, by rw [h7.1, hex f l a b c d]⟩
  · refine pullS_bd (wP.1 f a b).1.2 (fun l c d => ?_)
    have h1 := wP.2 f l a b c d
    exact (wC.2 _ h1.1.1 h1.1.2).2.2
theorem mC_step {r : Int → Int} {h lg mn : Int} {m mi m' : AM} {f : Nat} (hf : (f : Int) < 6) (wP : wfP r) (hi : mC r h lg mn m f mi)
    (e : (spK r h lg f ∧ m' = am_up (am_up mi 101 (37 + 11 * f + 1) 1) 101 124 (mi 101 124 + 1)) ∨ (¬ spK r h lg f ∧ m' = mi)) : mC r h lg mn m (f + 1) m' := by
  obtain ⟨i1, i2, i3, i4, i5, i6, i66, i7, i8, i9, i10, i11, i12⟩ := hi
  have sC := spC_cases r h lg f
  have hcr := (i6 f (by omega) hf).2 (by omega)
  have hO : (∀ (k : Nat) (j : Int), k ≠ 101 → m' k j = mi k j) ∧ (∀ j : Int, j ≠ 37 + 11 * f + 1 → j ≠ 124 → m' 101 j = mi 101 j) ∧ m' 101 (37 + 11 * f + 1) = spC r h lg f ∧ m' 101 124 = r 124 + cntK r h lg (f + 1) := by
    rcases e with ⟨z, rfl⟩ | ⟨z, rfl⟩
    · refine ⟨fun k j hk => by rw [am_k hk, am_k hk], fun j a b => by rw [am_j b, am_j a], by rw [am_j (by omega), am_same, sC.1 z], ?_⟩
      rw [am_same, i11, (cntK_succ r h lg f).1 z, Int.add_assoc]
    · refine ⟨fun _ _ _ => rfl, fun _ _ _ => rfl, ?_, ?_⟩
      · by_cases hm : spM r h lg f
        · rw [sC.2.1 z hm]; exact hcr.1 hm
        · rw [sC.2.2 z hm]; exact hcr.2 hm
      · rw [i11, (cntK_succ r h lg f).2 z]
  obtain ⟨o1, o2, o3, o4⟩ := hO
  refine ⟨fun k j hk => (o1 k j hk).trans (i1 k j hk), fun j hj => (o2 j (by omega) (by omega)).trans (i2 j hj), (o2 _ (by omega) (by omega)).trans i3, (o2 _ (by omega) (by omega)).trans i4, fun x x0 x7 => (o2 _ (by omega) (by omega)).trans (i5 x x0 x7), fun x x0 x6 => ?_, (o2 _ (by omega) (by omega)).trans i66, fun x y x0 x7 y0 yl => ?_, (o2 _ (by omega) (by omega)).trans i8, (o2 _ (by omega) (by omega)).trans i9, (o2 _ (by omega) (by omega)).trans i10, o4, (o2 _ (by omega) (by omega)).trans i12⟩
  · by_cases hx : x = f
    · subst hx
      exact ⟨fun _ => o3, fun z => absurd z (by omega)⟩
    · have hq : crR (m' 101) x = crR (mi 101) x := o2 _ (by omega) (by omega)
      rw [hq]
      exact ⟨fun z => (i6 x x0 x6).1 (by omega), fun z => (i6 x x0 x6).2 (by omega)⟩
  · have hzx := (wP.1 x x0 x7).1
    have h7 := i7 x y x0 x7 y0 yl
    exact ⟨(o2 _ (by omega) (by omega)).trans h7.1, (o2 _ (by omega) (by omega)).trans h7.2.1, (o2 _ (by omega) (by omega)).trans h7.2.2⟩
theorem mC_done {r : Int → Int} {h lg mn : Int} {m mi : AM} (hi : mC r h lg mn m 6 mi) : isFire r h lg mn (mi 101) ∧ ∀ (k : Nat) (j : Int), k ≠ 101 → mi k j = m k j := by
  obtain ⟨i1, i2, i3, i4, i5, i6, i66, i7, i8, i9, i10, i11, i12⟩ := hi
  exact ⟨⟨i2, i3, i4, i5, fun x x0 x6 => (i6 x x0 x6).1 x6, i66, i7, i8, i9, i10, i11, i12⟩, i1⟩
end
section
theorem cnt_le {r : Int → Int} {f a b : Int} (hn : szR r f ≤ 3) : cntR r f a b ≤ 3 := by
  have key : ∀ k : Nat, sumL (fun l => if a ≤ stR r f l ∧ stR r f l ≤ b then 1 else 0) k ≤ k := by
    intro k
    induction k with
    | zero => exact Int.le_refl _
    | succ k ih => rw [sumL_succ]; split <;> omega
  have := key (szR r f).toNat
  unfold cntR
  omega

set_option maxHeartbeats 4000000 in
theorem qX9_fires (h mn lg : Int) (m : AM) (hh : 500 ≤ h ∧ h ≤ 1200) (hmn : 1 ≤ mn ∧ mn ≤ 20) (hlgd : (mn ≥ m 101 114 ∧ lg = 1) ∨ (mn < m 101 114 ∧ lg = 0)) (wC : wfC (m 101)) (wP : wfP (m 101)) (wS : wfS (m 101)) : CS 5 mX9_fires [.inr 100, .inl h, .inl mn] m (fun v m' => v = none ∧ isFire (m 101) h lg mn (m' 101) ∧ ∀ (k : Nat) (j : Int), k ≠ 101 → m' k j = m k j) := by
  refine cs_of (by decide +kernel) (Nat.le_of_ble_eq_true rfl) rfl ?_
  generalize hr : m 101 = r at wC wP wS hlgd ⊢
  have hR : ∀ j : Int, m 101 j = r j := fun j => by rw [hr]
  refine ap_ald_0 (pc := 0) dX9_fires_0 ?_
  refine ap_getR (pc := 1) dX9_fires_1 fl_RX9_7 sh_100 rfl ?_
  refine ap_bipush (pc := 4) dX9_fires_4 bp_117 ?_
  refine ap_dup2 (pc := 6) dX9_fires_6 ?_
  refine ap_iaload (pc := 7) dX9_fires_7 sh_101 (by omega) (by omega) (by decide) ?_
  refine ap_const (pc := 8) dX9_fires_8 ?_
  refine ap_iadd (pc := 9) dX9_fires_9 ?_
  refine ap_iastore (pc := 10) dX9_fires_10 sh_101 (by omega) (by omega) (by decide) ?_
  refine ap_ald_0 (pc := 11) dX9_fires_11 ?_
  refine ap_getR (pc := 12) dX9_fires_12 fl_RX9_7 sh_100 rfl ?_
  refine ap_bipush (pc := 15) dX9_fires_15 bp_118 ?_
  refine ap_dup2 (pc := 17) dX9_fires_17 ?_
  refine ap_iaload (pc := 18) dX9_fires_18 sh_101 (by omega) (by omega) (by decide) ?_
  try simp (disch := omega) only [am_same, am_k, am_j]
  refine ap_ild_2 (pc := 19) dX9_fires_19 ?_
  refine ap_iadd (pc := 20) dX9_fires_20 ?_
  refine ap_iastore (pc := 21) dX9_fires_21 sh_101 (by omega) (by omega) (by decide) ?_
  refine ap_const (pc := 22) dX9_fires_22 ?_
  refine ap_ist_3 (pc := 23) dX9_fires_23 (by decide) ?_
  have hinit : mI r h lg mn m ((0 : Nat) : Int) 0 (am_up (am_up m 101 117 (m 101 117 + 1)) 101 118 (m 101 118 + mn)) := by
    refine ⟨fun k j hk => by rw [am_k hk, am_k hk], fun j hj => by rw [am_j (by omega), am_j (by omega)]; exact hR j, ?_, ?_, fun x x0 x7 => ?_, fun x y x0 x7 y0 yl => ⟨?_, fun z => absurd z (by omega), fun _ => ⟨?_, ?_⟩⟩, fun x x0 x7 => ⟨fun z => absurd z (by omega), fun _ => ?_⟩, ?_, ?_, ?_, ?_⟩
    · rw [am_j (by omega), am_same, hR]
    · rw [am_same, hR]
    · simp only [szR]; rw [am_j (by omega), am_j (by omega), hR]
    · have hzx := (wP.1 x x0 x7).1
      simp only [coR]; rw [am_j (by omega), am_j (by omega), hR]
    · have hzx := (wP.1 x x0 x7).1
      simp only [stR]; rw [am_j (by omega), am_j (by omega), hR]
    · have hzx := (wP.1 x x0 x7).1
      simp only [soR]; rw [am_j (by omega), am_j (by omega), hR]
    · simp only [crR]; rw [am_j (by omega), am_j (by omega), hR]
    · rw [am_j (by omega), am_j (by omega), hR]; exact (Int.add_zero _).symm
    · rw [am_j (by omega), am_j (by omega), hR]; exact (Int.add_zero _).symm
    · rw [am_j (by omega), am_j (by omega), hR]; exact (Int.add_zero _).symm
    · rw [am_j (by omega), am_j (by omega), hR]; simp only [Int.toNat_natCast, cntM, sumL, Int.add_zero]
  refine AP.bk (up_rec 7 (fun f => ∀ mi : AM, mI r h lg mn m f 0 mi → AP 5 mX9_fires 24 [some (.inr 100), some (.inl h), some (.inl mn), some (.inl (f : Int)), none, none, none] [] mi (fun v m' => v = none ∧ isFire r h lg mn (m' 101) ∧ ∀ (k : Nat) (j : Int), k ≠ 101 → m' k j = m k j)) (by omega) (fun f hf7 ihf mi hi0 => ?_) _ hinit) ⟨rfl, rfl, rfl, rfl, trivial, trivial, trivial, trivial⟩ rfl
  refine ap_ild_3 (pc := 24) dX9_fires_24 ?_
  refine ap_bipush (pc := 25) dX9_fires_25 bp_7 ?_
  refine ap_icmp_ge (pc := 27) 132 dX9_fires_27 rfl ⟨by omega, by omega⟩ ⟨by omega, by omega⟩ (fun c27 => ?_) (fun c27 => ?_)
  · skip
    have e7 : f = 7 := by omega
    subst e7
    have hc0 : mC r h lg mn m 0 mi := by
      obtain ⟨i1, i2, i3, i4, i5, i6, i7, i8, i9, i10, i11⟩ := hi0
      have n6 : ¬ spM r h lg 6 := fun z => by have := z.1; have := wS.2.2.2.2; omega
      refine ⟨i1, fun j hj => i2 j (by omega), i3, i4, i5, fun x x0 x6 => ⟨fun z => absurd z (by omega), fun _ => (i7 x x0 (by omega)).1 (by omega)⟩, ?_, fun x y x0 x7 y0 yl => ?_, ?_, ?_, ?_, ?_, ?_⟩
      · rw [((i7 6 (by omega) (by omega)).1 (by omega)).2 n6]; exact wS.2.2.2.2
      · have h6 := i6 x y x0 x7 y0 yl
        exact ⟨h6.1, (h6.2.1 (by omega)).1, (h6.2.1 (by omega)).2⟩
      · rw [i8]; exact congrArg _ (Int.add_zero _)
      · rw [i10]; exact congrArg _ (Int.add_zero _)
      · rw [i9]; exact congrArg _ (Int.add_zero _)
      · rw [i2 124 (by omega)]; exact (Int.add_zero _).symm
      · rw [i11]; exact congrArg _ ((cntM_succ r h lg 6).2 n6)
    have MF := mC_facts wC wP wS hc0
    refine ap_ald_0 (pc := 132) dX9_fires_132 ?_
    refine ap_bipush (pc := 133) dX9_fires_133 bp_6 ?_
    refine ap_invV (pc := 135) dX9_fires_135 mv_RX9_76 sh_100 (av := [_]) (rest := []) (qX9_pull _ _ (by omega) (by omega) (MF.1 _ (by omega) (by omega)) (fun l a b => MF.2.1 _ l (by omega) (by omega) a b)) rfl rfl (Nat.le_of_ble_eq_true rfl) (by decide) (by decide) ?_
    rintro _ _ ⟨rfl, rfl⟩
    rw [MF.2.2.2.1 6 (by omega) (by omega)]
    refine ap_ist_3 (pc := 138) dX9_fires_138 (by decide) ?_
    refine ap_const (pc := 139) dX9_fires_139 ?_
    refine ap_ist_4 (pc := 140) dX9_fires_140 (by decide) ?_
    refine AP.bk (up_rec 6 (fun f => ∀ mi : AM, mC r h lg mn m f mi → AP 5 mX9_fires 142 [some (.inr 100), some (.inl h), some (.inl mn), some (.inl (spP r h lg 6)), some (.inl (f : Int)), none, none] [] mi (fun v m' => v = none ∧ isFire r h lg mn (m' 101) ∧ ∀ (k : Nat) (j : Int), k ≠ 101 → m' k j = m k j)) (by omega) (fun f hf6 ihc mi hi => ?_) _ hc0) ⟨rfl, rfl, rfl, rfl, rfl, trivial, trivial, trivial⟩ rfl
    refine ap_ild_4 (pc := 142) dX9_fires_142 ?_
    refine ap_bipush (pc := 144) dX9_fires_144 bp_6 ?_
    refine ap_icmp_ge (pc := 146) 221 dX9_fires_146 rfl ⟨by omega, by omega⟩ ⟨by omega, by omega⟩ (fun c146 => ?_) (fun c146 => ?_)
    · skip
      have e6 : f = 6 := by omega
      subst e6
      have hdn := mC_done hi
      exact ap_return (pc := 221) dX9_fires_221 rfl ⟨rfl, hdn⟩
    · skip
      have MF := mC_facts wC wP wS hi
      have hsx := hi.2.2.2.2.2.1 f (by omega) c146
      have hs2 := hsx.2 (by omega)
      have hc01 := (wP.1 f (by omega) (by omega)).2
      have hzz : szR (mi 101) f = szR r f := hi.2.2.2.2.1 f (by omega) (by omega)
      have b1 := MF.2.2.2.2.2 f (by omega) (by omega)
      have b2 := MF.2.2.2.2.2 6 (by omega) (by omega)
      have hst := wS.2.2.1
      have hia : rng (iab (spP r h lg f - spP r h lg 6)) := by unfold iab; constructor <;> split <;> omega
      have hcr : crR (mi 101) f = 0 ↔ (crR r f = 0 ∨ spM r h lg f) := by
        by_cases hm : spM r h lg f
        · exact ⟨fun _ => Or.inr hm, fun _ => hs2.1 hm⟩
        · rw [hs2.2 hm]; exact ⟨fun y => Or.inl y, fun y => y.elim id (fun q => absurd q hm)⟩
      have hc01' : crR (mi 101) f = 0 ∨ crR (mi 101) f = 1 := by
        by_cases hm : spM r h lg f
        · exact Or.inl (hs2.1 hm)
        · rw [hs2.2 hm]; exact hc01
      simp only [crR] at hcr hc01' 
      refine ap_ild_4 (pc := 149) dX9_fires_149 ?_
      refine ap_invS (pc := 151) dX9_fires_151 ms_RX9_60 (av := [_]) (rest := []) (qX9_fieldAt _ _) rfl rfl (Nat.le_of_ble_eq_true rfl) (by decide) (by decide) ?_
      rintro _ _ ⟨rfl, rfl⟩
      refine ap_const (pc := 154) dX9_fires_154 ?_
      refine ap_iadd (pc := 155) dX9_fires_155 ?_
      refine ap_ist_5 (pc := 156) dX9_fires_156 (by decide) ?_
      refine ap_ald_0 (pc := 158) dX9_fires_158 ?_
      refine ap_getR (pc := 159) dX9_fires_159 fl_RX9_7 sh_100 rfl ?_
      refine ap_ild_5 (pc := 162) dX9_fires_162 ?_
      refine ap_iaload (pc := 164) dX9_fires_164 sh_101 (by omega) (by omega) (by decide) ?_
      try simp (disch := omega) only [am_same, am_k, am_j]
      refine ap_if_ne (pc := 165) 215 dX9_fires_165 rfl ⟨by omega, by omega⟩ (fun c165 => ?_) (fun c165 => ?_)
      · skip
        refine ap_iinc_4 (pc := 215) dX9_fires_215 (by decide) ?_
        refine ap_goto (pc := 218) 142 dX9_fires_218 rfl ?_
        have hnx := mC_step c146 wP hi (by
          first
            | exact Or.inl ⟨⟨hcr.mp (by omega), by
                obtain ⟨l, a, b, c, d⟩ := hcp.2.mp (by omega)
                rw [hzz] at b
                refine ⟨l, a, b, ?_⟩
                rw [(hi.2.2.2.2.2.2.2.1 f l (by omega) (by omega) a b).2.1] at c d
                show _ = 2 ∨ _ = 3
                omega, by rw [← MF.2.2.2.2.1]; omega⟩, rfl⟩
            | exact Or.inr ⟨fun z => by have z1 := hcr.mpr z.1; omega, rfl⟩
            | exact Or.inr ⟨fun z => by
                obtain ⟨l, a, b, c⟩ := z.2.1
                have q : 0 < cntR (mi 101) f 2 3 := hcp.2.mpr ⟨l, a, by rw [hzz]; exact b, by
                  rw [(hi.2.2.2.2.2.2.2.1 f l (by omega) (by omega) a b).2.1]
                  have c2 : spS r h lg f l = 2 ∨ spS r h lg f l = 3 := c
                  omega⟩
                omega, rfl⟩
            | exact Or.inr ⟨fun z => by have z2 := z.2.2; rw [← MF.2.2.2.2.1] at z2; omega, rfl⟩)
        exact (ihc c146 _ hnx).bk ⟨rfl, rfl, rfl, rfl, rfl, trivial, trivial, trivial⟩ rfl
      · skip
        refine ap_ald_0 (pc := 168) dX9_fires_168 ?_
        refine ap_ild_4 (pc := 169) dX9_fires_169 ?_
        refine ap_const (pc := 171) dX9_fires_171 ?_
        refine ap_const (pc := 172) dX9_fires_172 ?_
        refine ap_invV (pc := 173) dX9_fires_173 mv_RX9_70 sh_100 (av := [_, _, _]) (rest := []) (qX9_layersWith _ _ _ _ (by omega) (by omega) (MF.1 _ (by omega) (by omega)) (fun l a b => by have q := (MF.2.1 f l (by omega) (by omega) a b).2; simp only [stR] at q; omega) (by omega) (by omega)) rfl rfl (Nat.le_of_ble_eq_true rfl) (by decide) (by decide) ?_
        rintro _ _ ⟨rfl, rfl⟩
        have hcp := cnt_pos (r := mi 101) (f := f) (a := 2) (b := 3)
        have hcb : cntR (mi 101) f 2 3 ≤ 3 := by
          have := MF.1 f (by omega) (by omega)
          exact cnt_le this.2
        refine ap_if_le (pc := 176) 215 dX9_fires_176 rfl ⟨by omega, by omega⟩ (fun c176 => ?_) (fun c176 => ?_)
        · skip
          refine ap_iinc_4 (pc := 215) dX9_fires_215 (by decide) ?_
          refine ap_goto (pc := 218) 142 dX9_fires_218 rfl ?_
          have hnx := mC_step c146 wP hi (by
            first
              | exact Or.inl ⟨⟨hcr.mp (by omega), by
                  obtain ⟨l, a, b, c, d⟩ := hcp.2.mp (by omega)
                  rw [hzz] at b
                  refine ⟨l, a, b, ?_⟩
                  rw [(hi.2.2.2.2.2.2.2.1 f l (by omega) (by omega) a b).2.1] at c d
                  show _ = 2 ∨ _ = 3
                  omega, by rw [← MF.2.2.2.2.1]; omega⟩, rfl⟩
              | exact Or.inr ⟨fun z => by have z1 := hcr.mpr z.1; omega, rfl⟩
              | exact Or.inr ⟨fun z => by
                  obtain ⟨l, a, b, c⟩ := z.2.1
                  have q : 0 < cntR (mi 101) f 2 3 := hcp.2.mpr ⟨l, a, by rw [hzz]; exact b, by
                    rw [(hi.2.2.2.2.2.2.2.1 f l (by omega) (by omega) a b).2.1]
                    have c2 : spS r h lg f l = 2 ∨ spS r h lg f l = 3 := c
                    omega⟩
                  omega, rfl⟩
              | exact Or.inr ⟨fun z => by have z2 := z.2.2; rw [← MF.2.2.2.2.1] at z2; omega, rfl⟩)
          exact (ihc c146 _ hnx).bk ⟨rfl, rfl, rfl, rfl, rfl, trivial, trivial, trivial⟩ rfl
        · skip
          refine ap_ald_0 (pc := 179) dX9_fires_179 ?_
          refine ap_ild_4 (pc := 180) dX9_fires_180 ?_
          refine ap_ild_3 (pc := 182) dX9_fires_182 ?_
          refine ap_invV (pc := 183) dX9_fires_183 mv_RX9_85 sh_100 (av := [_, _]) (rest := []) (qX9_strain _ _ _ (by omega) (by omega) (by have := MF.2.2.2.2.2 6 (by omega) (by omega); omega) MF.1 MF.2.1 MF.2.2.1) rfl rfl (Nat.le_of_ble_eq_true rfl) (by decide) (by decide) ?_
          rintro _ _ ⟨rfl, rfl⟩
          rw [MF.2.2.2.1 f (by omega) (by omega)]
          refine ap_ald_0 (pc := 186) dX9_fires_186 ?_
          refine ap_getR (pc := 187) dX9_fires_187 fl_RX9_7 sh_100 rfl ?_
          refine ap_bipush (pc := 190) dX9_fires_190 bp_116 ?_
          refine ap_iaload (pc := 192) dX9_fires_192 sh_101 (by omega) (by omega) (by decide) ?_
          try simp (disch := omega) only [am_same, am_k, am_j]
          refine ap_icmp_le (pc := 193) 215 dX9_fires_193 rfl hia ⟨by rw [MF.2.2.2.2.1]; omega, by rw [MF.2.2.2.2.1]; omega⟩ (fun c193 => ?_) (fun c193 => ?_)
          · skip
            refine ap_iinc_4 (pc := 215) dX9_fires_215 (by decide) ?_
            refine ap_goto (pc := 218) 142 dX9_fires_218 rfl ?_
            have hnx := mC_step c146 wP hi (by
              first
                | exact Or.inl ⟨⟨hcr.mp (by omega), by
                    obtain ⟨l, a, b, c, d⟩ := hcp.2.mp (by omega)
                    rw [hzz] at b
                    refine ⟨l, a, b, ?_⟩
                    rw [(hi.2.2.2.2.2.2.2.1 f l (by omega) (by omega) a b).2.1] at c d
                    show _ = 2 ∨ _ = 3
                    omega, by rw [← MF.2.2.2.2.1]; omega⟩, rfl⟩
                | exact Or.inr ⟨fun z => by have z1 := hcr.mpr z.1; omega, rfl⟩
                | exact Or.inr ⟨fun z => by
                    obtain ⟨l, a, b, c⟩ := z.2.1
                    have q : 0 < cntR (mi 101) f 2 3 := hcp.2.mpr ⟨l, a, by rw [hzz]; exact b, by
                      rw [(hi.2.2.2.2.2.2.2.1 f l (by omega) (by omega) a b).2.1]
                      have c2 : spS r h lg f l = 2 ∨ spS r h lg f l = 3 := c
                      omega⟩
                    omega, rfl⟩
                | exact Or.inr ⟨fun z => by have z2 := z.2.2; rw [← MF.2.2.2.2.1] at z2; omega, rfl⟩)
            exact (ihc c146 _ hnx).bk ⟨rfl, rfl, rfl, rfl, rfl, trivial, trivial, trivial⟩ rfl
          · skip
            refine ap_ald_0 (pc := 196) dX9_fires_196 ?_
            refine ap_getR (pc := 197) dX9_fires_197 fl_RX9_7 sh_100 rfl ?_
            refine ap_ild_5 (pc := 200) dX9_fires_200 ?_
            refine ap_const (pc := 202) dX9_fires_202 ?_
            refine ap_iastore (pc := 203) dX9_fires_203 sh_101 (by omega) (by omega) (by decide) ?_
            refine ap_ald_0 (pc := 204) dX9_fires_204 ?_
            refine ap_getR (pc := 205) dX9_fires_205 fl_RX9_7 sh_100 rfl ?_
            refine ap_bipush (pc := 208) dX9_fires_208 bp_124 ?_
            refine ap_dup2 (pc := 210) dX9_fires_210 ?_
            refine ap_iaload (pc := 211) dX9_fires_211 sh_101 (by omega) (by omega) (by decide) ?_
            try simp (disch := omega) only [am_same, am_k, am_j]
            refine ap_const (pc := 212) dX9_fires_212 ?_
            refine ap_iadd (pc := 213) dX9_fires_213 ?_
            refine ap_iastore (pc := 214) dX9_fires_214 sh_101 (by omega) (by omega) (by decide) ?_
            refine ap_iinc_4 (pc := 215) dX9_fires_215 (by decide) ?_
            refine ap_goto (pc := 218) 142 dX9_fires_218 rfl ?_
            have hnx := mC_step c146 wP hi (by
              first
                | exact Or.inl ⟨⟨hcr.mp (by omega), by
                    obtain ⟨l, a, b, c, d⟩ := hcp.2.mp (by omega)
                    rw [hzz] at b
                    refine ⟨l, a, b, ?_⟩
                    rw [(hi.2.2.2.2.2.2.2.1 f l (by omega) (by omega) a b).2.1] at c d
                    show _ = 2 ∨ _ = 3
                    omega, by rw [← MF.2.2.2.2.1]; omega⟩, rfl⟩
                | exact Or.inr ⟨fun z => by have z1 := hcr.mpr z.1; omega, rfl⟩
                | exact Or.inr ⟨fun z => by
                    obtain ⟨l, a, b, c⟩ := z.2.1
                    have q : 0 < cntR (mi 101) f 2 3 := hcp.2.mpr ⟨l, a, by rw [hzz]; exact b, by
                      rw [(hi.2.2.2.2.2.2.2.1 f l (by omega) (by omega) a b).2.1]
                      have c2 : spS r h lg f l = 2 ∨ spS r h lg f l = 3 := c
                      omega⟩
                    omega, rfl⟩
                | exact Or.inr ⟨fun z => by have z2 := z.2.2; rw [← MF.2.2.2.2.1] at z2; omega, rfl⟩)
            exact (ihc c146 _ hnx).bk ⟨rfl, rfl, rfl, rfl, rfl, trivial, trivial, trivial⟩ rfl
  · skip
    refine ap_const (pc := 30) dX9_fires_30 ?_
    refine ap_ist_4 (pc := 31) dX9_fires_31 (by decide) ?_
    refine ap_const (pc := 33) dX9_fires_33 ?_
    refine ap_ist_5 (pc := 34) dX9_fires_34 (by decide) ?_
    refine AP.bk (up_rec (szR r f) (fun l => ∀ (mi : AM) (al : Int), mI r h lg mn m f l mi → (al = 0 ∨ al = 1) → (al = 1 ↔ ∀ y : Int, 0 ≤ y → y < l → spG r h lg f y = 1) → AP 5 mX9_fires 36 [some (.inr 100), some (.inl h), some (.inl mn), some (.inl (f : Int)), some (.inl al), some (.inl (l : Int)), none] [] mi (fun v m' => v = none ∧ isFire r h lg mn (m' 101) ∧ ∀ (k : Nat) (j : Int), k ≠ 101 → m' k j = m k j)) (wP.1 f (by omega) c27).1.1 (fun l hl3 ihl mi al hi hal hall => ?_) _ 1 hi0 (Or.inr rfl) ⟨fun _ y a b => absurd b (by omega), fun _ => rfl⟩) ⟨rfl, rfl, rfl, rfl, rfl, rfl, trivial, trivial⟩ rfl
    have hz3 := (wP.1 f (by omega) c27).1
    have hzz : mi 101 (37 + 11 * (f : Int)) = szR r f := hi.2.2.2.2.1 f (by omega) c27
    refine ap_ild_5 (pc := 36) dX9_fires_36 ?_
    refine ap_ald_0 (pc := 38) dX9_fires_38 ?_
    refine ap_ild_3 (pc := 39) dX9_fires_39 ?_
    refine ap_invV (pc := 40) dX9_fires_40 mv_RX9_39 sh_100 (av := [_]) (rest := [_]) (qX9_layers _ _ (by omega) (by omega)) rfl rfl (Nat.le_of_ble_eq_true rfl) (by decide) (by decide) ?_
    rintro _ _ ⟨rfl, rfl⟩
    refine ap_icmp_ge (pc := 43) 83 dX9_fires_43 rfl ⟨by omega, by omega⟩ ⟨by omega, by omega⟩ (fun c43 => ?_) (fun c43 => ?_)
    · skip
      rw [hzz] at c43
      have hll : (l : Int) = szR r f := by omega
      rw [hll] at hi hall
      have hcr : crR (mi 101) f = crR r f := (hi.2.2.2.2.2.2.1 f (by omega) c27).2 (by omega)
      have hc01 := (wP.1 f (by omega) c27).2
      refine ap_ild_3 (pc := 83) dX9_fires_83 ?_
      refine ap_invS (pc := 84) dX9_fires_84 ms_RX9_60 (av := [_]) (rest := []) (qX9_fieldAt _ _) rfl rfl (Nat.le_of_ble_eq_true rfl) (by decide) (by decide) ?_
      rintro _ _ ⟨rfl, rfl⟩
      refine ap_const (pc := 87) dX9_fires_87 ?_
      refine ap_iadd (pc := 88) dX9_fires_88 ?_
      refine ap_ist_5 (pc := 89) dX9_fires_89 (by decide) ?_
      refine ap_ild_4 (pc := 91) dX9_fires_91 ?_
      refine ap_if_eq (pc := 93) 126 dX9_fires_93 rfl ⟨by omega, by omega⟩ (fun c93 => ?_) (fun c93 => ?_)
      · skip
        refine ap_iinc_3 (pc := 126) dX9_fires_126 (by decide) ?_
        refine ap_goto (pc := 129) 24 dX9_fires_129 rfl ?_
        have hnx := mI_next wP c27 hi (by
          first
            | exact Or.inl ⟨⟨by simp only [crR] at hcr ⊢; omega, hall.mp (by omega)⟩, rfl⟩
            | exact Or.inr ⟨fun z => by have z1 := z.1; simp only [crR] at hcr z1; omega, rfl⟩
            | exact Or.inr ⟨fun z => by have z1 := hall.mpr z.2; omega, rfl⟩)
        exact (ihf c27 _ hnx).bk ⟨rfl, rfl, rfl, rfl, trivial, trivial, trivial, trivial⟩ rfl
      · skip
        refine ap_ald_0 (pc := 96) dX9_fires_96 ?_
        refine ap_getR (pc := 97) dX9_fires_97 fl_RX9_7 sh_100 rfl ?_
        refine ap_ild_5 (pc := 100) dX9_fires_100 ?_
        refine ap_iaload (pc := 102) dX9_fires_102 sh_101 (by omega) (by omega) (by decide) ?_
        try simp (disch := omega) only [am_same, am_k, am_j]
        refine ap_const (pc := 103) dX9_fires_103 ?_
        refine ap_icmp_ne (pc := 104) 126 dX9_fires_104 rfl (Or.inr ⟨by simp only [crR] at hcr hc01; rw [hcr]; constructor <;> omega, ⟨by omega, by omega⟩⟩) (fun c104 => ?_) (fun c104 => ?_)
        · skip
          refine ap_iinc_3 (pc := 126) dX9_fires_126 (by decide) ?_
          refine ap_goto (pc := 129) 24 dX9_fires_129 rfl ?_
          have hnx := mI_next wP c27 hi (by
            first
              | exact Or.inl ⟨⟨by simp only [crR] at hcr ⊢; omega, hall.mp (by omega)⟩, rfl⟩
              | exact Or.inr ⟨fun z => by have z1 := z.1; simp only [crR] at hcr z1; omega, rfl⟩
              | exact Or.inr ⟨fun z => by have z1 := hall.mpr z.2; omega, rfl⟩)
          exact (ihf c27 _ hnx).bk ⟨rfl, rfl, rfl, rfl, trivial, trivial, trivial, trivial⟩ rfl
        · skip
          refine ap_ald_0 (pc := 107) dX9_fires_107 ?_
          refine ap_getR (pc := 108) dX9_fires_108 fl_RX9_7 sh_100 rfl ?_
          refine ap_ild_5 (pc := 111) dX9_fires_111 ?_
          refine ap_const (pc := 113) dX9_fires_113 ?_
          refine ap_iastore (pc := 114) dX9_fires_114 sh_101 (by omega) (by omega) (by decide) ?_
          refine ap_ald_0 (pc := 115) dX9_fires_115 ?_
          refine ap_getR (pc := 116) dX9_fires_116 fl_RX9_7 sh_100 rfl ?_
          refine ap_bipush (pc := 119) dX9_fires_119 bp_125 ?_
          refine ap_dup2 (pc := 121) dX9_fires_121 ?_
          refine ap_iaload (pc := 122) dX9_fires_122 sh_101 (by omega) (by omega) (by decide) ?_
          try simp (disch := omega) only [am_same, am_k, am_j]
          refine ap_const (pc := 123) dX9_fires_123 ?_
          refine ap_iadd (pc := 124) dX9_fires_124 ?_
          refine ap_iastore (pc := 125) dX9_fires_125 sh_101 (by omega) (by omega) (by decide) ?_
          refine ap_iinc_3 (pc := 126) dX9_fires_126 (by decide) ?_
          refine ap_goto (pc := 129) 24 dX9_fires_129 rfl ?_
          have hnx := mI_next wP c27 hi (by
            first
              | exact Or.inl ⟨⟨by simp only [crR] at hcr ⊢; omega, hall.mp (by omega)⟩, rfl⟩
              | exact Or.inr ⟨fun z => by have z1 := z.1; simp only [crR] at hcr z1; omega, rfl⟩
              | exact Or.inr ⟨fun z => by have z1 := hall.mpr z.2; omega, rfl⟩)
          exact (ihf c27 _ hnx).bk ⟨rfl, rfl, rfl, rfl, trivial, trivial, trivial, trivial⟩ rfl
    · skip
      rw [hzz] at c43
      have hG := mI_g wC wP wS c27 c43 hi
      refine ap_ald_0 (pc := 46) dX9_fires_46 ?_
      refine ap_ild_3 (pc := 47) dX9_fires_47 ?_
      refine ap_ild_5 (pc := 48) dX9_fires_48 ?_
      refine ap_invS (pc := 50) dX9_fires_50 ms_RX9_63 (av := [_, _]) (rest := [_]) (qX9_layerAt _ _ _) rfl rfl (Nat.le_of_ble_eq_true rfl) (by decide) (by decide) ?_
      rintro _ _ ⟨rfl, rfl⟩
      refine ap_ild_1 (pc := 53) dX9_fires_53 ?_
      refine ap_ild_2 (pc := 54) dX9_fires_54 ?_
      refine ap_invV (pc := 55) dX9_fires_55 mv_RX9_108 sh_100 (av := [_, _, _]) (rest := []) (qX9_becomes _ _ _ lg _ (by omega) (by omega) hh hmn (by rw [hG.2.2.2.2.2.1]; exact hlgd) hG.2.2.2.2.1 hG.2.1 hG.2.2.1 hG.2.2.2.1 hG.2.2.2.2.2.2.1 hG.2.2.2.2.2.2.2.1 hG.2.2.2.2.2.2.2.2) rfl rfl (Nat.le_of_ble_eq_true rfl) (by decide) (by decide) ?_
      rintro v m2 ⟨⟨gv, rfl⟩ | ⟨gv, rfl⟩, hm2⟩
      all_goals rw [hG.1] at gv
      all_goals have hI2 := mI_step wP c27 c43 hi hm2 wC
      · skip
        refine ap_ist_6 (pc := 58) dX9_fires_58 (by decide) ?_
        refine ap_ild_4 (pc := 60) dX9_fires_60 ?_
        refine ap_if_eq (pc := 62) 74 dX9_fires_62 rfl ⟨by omega, by omega⟩ (fun c62 => ?_) (fun c62 => ?_)
        · skip
          refine ap_const (pc := 74) dX9_fires_74 ?_
          refine ap_ist_4 (pc := 75) dX9_fires_75 (by decide) ?_
          refine ap_iinc_5 (pc := 77) dX9_fires_77 (by decide) ?_
          refine ap_goto (pc := 80) 36 dX9_fires_80 rfl ?_
          first
            | (have hn1 : (1 : Int) = 1 ↔ ∀ y : Int, 0 ≤ y → y < ((l + 1 : Nat) : Int) → spG r h lg f y = 1 := ⟨fun _ y a b => by
                rcases (by omega : y < (l : Int) ∨ y = (l : Int)) with z | z
                · exact hall.mp (by omega) y a z
                · rw [z]; exact gv, fun _ => rfl⟩
               exact (ihl c43 m2 1 hI2 (Or.inr rfl) hn1).bk ⟨rfl, rfl, rfl, rfl, rfl, rfl, trivial, trivial⟩ rfl)
            | (have hn0 : (0 : Int) = 1 ↔ ∀ y : Int, 0 ≤ y → y < ((l + 1 : Nat) : Int) → spG r h lg f y = 1 := ⟨fun z => by omega, fun z => by
                first
                  | exact absurd (z l (by omega) (by omega)) gv
                  | (have q := hall.mpr (fun y a b => z y a (by omega)); omega)⟩
               exact (ihl c43 m2 0 hI2 (Or.inl rfl) hn0).bk ⟨rfl, rfl, rfl, rfl, rfl, rfl, trivial, trivial⟩ rfl)
        · skip
          refine ap_ild_6 (pc := 65) dX9_fires_65 ?_
          refine ap_if_eq (pc := 67) 74 dX9_fires_67 rfl ⟨by omega, by omega⟩ (fun c67 => absurd c67 (by decide)) (fun _ => ?_)
          refine ap_const (pc := 70) dX9_fires_70 ?_
          refine ap_goto (pc := 71) 75 dX9_fires_71 rfl ?_
          refine ap_ist_4 (pc := 75) dX9_fires_75 (by decide) ?_
          refine ap_iinc_5 (pc := 77) dX9_fires_77 (by decide) ?_
          refine ap_goto (pc := 80) 36 dX9_fires_80 rfl ?_
          first
            | (have hn1 : (1 : Int) = 1 ↔ ∀ y : Int, 0 ≤ y → y < ((l + 1 : Nat) : Int) → spG r h lg f y = 1 := ⟨fun _ y a b => by
                rcases (by omega : y < (l : Int) ∨ y = (l : Int)) with z | z
                · exact hall.mp (by omega) y a z
                · rw [z]; exact gv, fun _ => rfl⟩
               exact (ihl c43 m2 1 hI2 (Or.inr rfl) hn1).bk ⟨rfl, rfl, rfl, rfl, rfl, rfl, trivial, trivial⟩ rfl)
            | (have hn0 : (0 : Int) = 1 ↔ ∀ y : Int, 0 ≤ y → y < ((l + 1 : Nat) : Int) → spG r h lg f y = 1 := ⟨fun z => by omega, fun z => by
                first
                  | exact absurd (z l (by omega) (by omega)) gv
                  | (have q := hall.mpr (fun y a b => z y a (by omega)); omega)⟩
               exact (ihl c43 m2 0 hI2 (Or.inl rfl) hn0).bk ⟨rfl, rfl, rfl, rfl, rfl, rfl, trivial, trivial⟩ rfl)
      · skip
        refine ap_ist_6 (pc := 58) dX9_fires_58 (by decide) ?_
        refine ap_ild_4 (pc := 60) dX9_fires_60 ?_
        refine ap_if_eq (pc := 62) 74 dX9_fires_62 rfl ⟨by omega, by omega⟩ (fun c62 => ?_) (fun c62 => ?_)
        · skip
          refine ap_const (pc := 74) dX9_fires_74 ?_
          refine ap_ist_4 (pc := 75) dX9_fires_75 (by decide) ?_
          refine ap_iinc_5 (pc := 77) dX9_fires_77 (by decide) ?_
          refine ap_goto (pc := 80) 36 dX9_fires_80 rfl ?_
          first
            | (have hn1 : (1 : Int) = 1 ↔ ∀ y : Int, 0 ≤ y → y < ((l + 1 : Nat) : Int) → spG r h lg f y = 1 := ⟨fun _ y a b => by
                rcases (by omega : y < (l : Int) ∨ y = (l : Int)) with z | z
                · exact hall.mp (by omega) y a z
                · rw [z]; exact gv, fun _ => rfl⟩
               exact (ihl c43 m2 1 hI2 (Or.inr rfl) hn1).bk ⟨rfl, rfl, rfl, rfl, rfl, rfl, trivial, trivial⟩ rfl)
            | (have hn0 : (0 : Int) = 1 ↔ ∀ y : Int, 0 ≤ y → y < ((l + 1 : Nat) : Int) → spG r h lg f y = 1 := ⟨fun z => by omega, fun z => by
                first
                  | exact absurd (z l (by omega) (by omega)) gv
                  | (have q := hall.mpr (fun y a b => z y a (by omega)); omega)⟩
               exact (ihl c43 m2 0 hI2 (Or.inl rfl) hn0).bk ⟨rfl, rfl, rfl, rfl, rfl, rfl, trivial, trivial⟩ rfl)
        · skip
          refine ap_ild_6 (pc := 65) dX9_fires_65 ?_
          refine ap_if_eq (pc := 67) 74 dX9_fires_67 rfl ⟨by omega, by omega⟩ (fun _ => ?_) (fun c67 => absurd c67 (by decide))
          refine ap_const (pc := 74) dX9_fires_74 ?_
          refine ap_ist_4 (pc := 75) dX9_fires_75 (by decide) ?_
          refine ap_iinc_5 (pc := 77) dX9_fires_77 (by decide) ?_
          refine ap_goto (pc := 80) 36 dX9_fires_80 rfl ?_
          first
            | (have hn1 : (1 : Int) = 1 ↔ ∀ y : Int, 0 ≤ y → y < ((l + 1 : Nat) : Int) → spG r h lg f y = 1 := ⟨fun _ y a b => by
                rcases (by omega : y < (l : Int) ∨ y = (l : Int)) with z | z
                · exact hall.mp (by omega) y a z
                · rw [z]; exact gv, fun _ => rfl⟩
               exact (ihl c43 m2 1 hI2 (Or.inr rfl) hn1).bk ⟨rfl, rfl, rfl, rfl, rfl, rfl, trivial, trivial⟩ rfl)
            | (have hn0 : (0 : Int) = 1 ↔ ∀ y : Int, 0 ≤ y → y < ((l + 1 : Nat) : Int) → spG r h lg f y = 1 := ⟨fun z => by omega, fun z => by
                first
                  | exact absurd (z l (by omega) (by omega)) gv
                  | (have q := hall.mpr (fun y a b => z y a (by omega)); omega)⟩
               exact (ihl c43 m2 0 hI2 (Or.inl rfl) hn0).bk ⟨rfl, rfl, rfl, rfl, rfl, rfl, trivial, trivial⟩ rfl)
end
