section
/-- a private method of a class that the tables say can be made, by its rows of tables_1 -/
def lw_okq (q : MethodName × Nat) : Prop := (q.1.cls ≠ "java/lang/invoke/MethodHandle" ∧ q.1.cls ≠ "java/lang/invoke/VarHandle") ∧ Cond.instantiable q.1.cls q.2 ∈ tables_1 ∧ Cond.privateMethod q.1 ∈ tables_1 ∧ Cond.instanceMethod q.1 ∈ tables_1
theorem lw_p0 : lw_okq (⟨"EnamelKiln$Plate", "layersOfState", "(I)I"⟩, 5) := ⟨⟨by decide +kernel, by decide +kernel⟩, List.mem_of_getElem? (i := 57) (by decide +kernel), List.mem_of_getElem? (i := 269) (by decide +kernel), List.mem_of_getElem? (i := 270) (by decide +kernel)⟩
theorem lw_p1 : lw_okq (⟨"EnamelKiln$Plate", "layersWith", "([II)I"⟩, 5) := ⟨⟨by decide +kernel, by decide +kernel⟩, List.mem_of_getElem? (i := 57) (by decide +kernel), List.mem_of_getElem? (i := 273) (by decide +kernel), List.mem_of_getElem? (i := 274) (by decide +kernel)⟩
theorem lw_p2 : lw_okq (⟨"EnamelKiln$Plate", "layers", "()I"⟩, 5) := ⟨⟨by decide +kernel, by decide +kernel⟩, List.mem_of_getElem? (i := 57) (by decide +kernel), List.mem_of_getElem? (i := 280) (by decide +kernel), List.mem_of_getElem? (i := 281) (by decide +kernel)⟩
theorem lw_p3 : lw_okq (⟨"EnamelKiln$Plate", "crackedFields", "()I"⟩, 5) := ⟨⟨by decide +kernel, by decide +kernel⟩, List.mem_of_getElem? (i := 57) (by decide +kernel), List.mem_of_getElem? (i := 284) (by decide +kernel), List.mem_of_getElem? (i := 285) (by decide +kernel)⟩
theorem lw_p4 : lw_okq (⟨"EnamelKiln$Wishes", "colorsTogether", "()I"⟩, 2) := ⟨⟨by decide +kernel, by decide +kernel⟩, List.mem_of_getElem? (i := 89) (by decide +kernel), List.mem_of_getElem? (i := 288) (by decide +kernel), List.mem_of_getElem? (i := 289) (by decide +kernel)⟩
theorem lw_p5 : lw_okq (⟨"EnamelKiln$History", "restore", "(LEnamelKiln$Bench;)V"⟩, 3) := ⟨⟨by decide +kernel, by decide +kernel⟩, List.mem_of_getElem? (i := 129) (by decide +kernel), List.mem_of_getElem? (i := 296) (by decide +kernel), List.mem_of_getElem? (i := 297) (by decide +kernel)⟩
theorem lw_p6 : lw_okq (⟨"EnamelKiln$Bench", "copyFrom", "(LEnamelKiln$Bench;)V"⟩, 5) := ⟨⟨by decide +kernel, by decide +kernel⟩, List.mem_of_getElem? (i := 21) (by decide +kernel), List.mem_of_getElem? (i := 300) (by decide +kernel), List.mem_of_getElem? (i := 301) (by decide +kernel)⟩
theorem lw_p7 : lw_okq (⟨"EnamelKiln$Palette", "copyFrom", "(LEnamelKiln$Palette;)V"⟩, 4) := ⟨⟨by decide +kernel, by decide +kernel⟩, List.mem_of_getElem? (i := 27) (by decide +kernel), List.mem_of_getElem? (i := 304) (by decide +kernel), List.mem_of_getElem? (i := 305) (by decide +kernel)⟩
theorem lw_p8 : lw_okq (⟨"EnamelKiln$Plate", "copyFrom", "(LEnamelKiln$Plate;)V"⟩, 5) := ⟨⟨by decide +kernel, by decide +kernel⟩, List.mem_of_getElem? (i := 57) (by decide +kernel), List.mem_of_getElem? (i := 317) (by decide +kernel), List.mem_of_getElem? (i := 318) (by decide +kernel)⟩
theorem lw_p9 : lw_okq (⟨"EnamelKiln$Wishes", "copyFrom", "(LEnamelKiln$Wishes;)V"⟩, 2) := ⟨⟨by decide +kernel, by decide +kernel⟩, List.mem_of_getElem? (i := 89) (by decide +kernel), List.mem_of_getElem? (i := 322) (by decide +kernel), List.mem_of_getElem? (i := 323) (by decide +kernel)⟩
theorem lw_p10 : lw_okq (⟨"EnamelKiln$Plate", "pullOf", "(ILEnamelKiln$Palette;)I"⟩, 5) := ⟨⟨by decide +kernel, by decide +kernel⟩, List.mem_of_getElem? (i := 57) (by decide +kernel), List.mem_of_getElem? (i := 353) (by decide +kernel), List.mem_of_getElem? (i := 354) (by decide +kernel)⟩
theorem lw_p11 : lw_okq (⟨"EnamelKiln$Plate", "holdsOn", "(I)Z"⟩, 5) := ⟨⟨by decide +kernel, by decide +kernel⟩, List.mem_of_getElem? (i := 57) (by decide +kernel), List.mem_of_getElem? (i := 357) (by decide +kernel), List.mem_of_getElem? (i := 358) (by decide +kernel)⟩
theorem lw_p12 : lw_okq (⟨"EnamelKiln$Palette", "pullOf", "(I)I"⟩, 4) := ⟨⟨by decide +kernel, by decide +kernel⟩, List.mem_of_getElem? (i := 27) (by decide +kernel), List.mem_of_getElem? (i := 361) (by decide +kernel), List.mem_of_getElem? (i := 362) (by decide +kernel)⟩
theorem lw_p13 : lw_okq (⟨"EnamelKiln$Plate", "strainOf", "(ILEnamelKiln$Palette;)I"⟩, 5) := ⟨⟨by decide +kernel, by decide +kernel⟩, List.mem_of_getElem? (i := 57) (by decide +kernel), List.mem_of_getElem? (i := 365) (by decide +kernel), List.mem_of_getElem? (i := 366) (by decide +kernel)⟩
theorem lw_p14 : lw_okq (⟨"EnamelKiln$Plate", "heatThatMelts", "(ILEnamelKiln$Palette;)I"⟩, 5) := ⟨⟨by decide +kernel, by decide +kernel⟩, List.mem_of_getElem? (i := 57) (by decide +kernel), List.mem_of_getElem? (i := 373) (by decide +kernel), List.mem_of_getElem? (i := 374) (by decide +kernel)⟩
theorem lw_p15 : lw_okq (⟨"EnamelKiln$Plate", "heatThatSpares", "(ILEnamelKiln$Palette;)I"⟩, 5) := ⟨⟨by decide +kernel, by decide +kernel⟩, List.mem_of_getElem? (i := 57) (by decide +kernel), List.mem_of_getElem? (i := 380) (by decide +kernel), List.mem_of_getElem? (i := 381) (by decide +kernel)⟩
def lw_privs_1 : List (MethodName × Nat) := [(⟨"EnamelKiln$Plate", "layersOfState", "(I)I"⟩, 5), (⟨"EnamelKiln$Plate", "layersWith", "([II)I"⟩, 5), (⟨"EnamelKiln$Plate", "layers", "()I"⟩, 5), (⟨"EnamelKiln$Plate", "crackedFields", "()I"⟩, 5), (⟨"EnamelKiln$Wishes", "colorsTogether", "()I"⟩, 2), (⟨"EnamelKiln$History", "restore", "(LEnamelKiln$Bench;)V"⟩, 3), (⟨"EnamelKiln$Bench", "copyFrom", "(LEnamelKiln$Bench;)V"⟩, 5), (⟨"EnamelKiln$Palette", "copyFrom", "(LEnamelKiln$Palette;)V"⟩, 4), (⟨"EnamelKiln$Plate", "copyFrom", "(LEnamelKiln$Plate;)V"⟩, 5), (⟨"EnamelKiln$Wishes", "copyFrom", "(LEnamelKiln$Wishes;)V"⟩, 2), (⟨"EnamelKiln$Plate", "pullOf", "(ILEnamelKiln$Palette;)I"⟩, 5), (⟨"EnamelKiln$Plate", "holdsOn", "(I)Z"⟩, 5), (⟨"EnamelKiln$Palette", "pullOf", "(I)I"⟩, 4), (⟨"EnamelKiln$Plate", "strainOf", "(ILEnamelKiln$Palette;)I"⟩, 5), (⟨"EnamelKiln$Plate", "heatThatMelts", "(ILEnamelKiln$Palette;)I"⟩, 5), (⟨"EnamelKiln$Plate", "heatThatSpares", "(ILEnamelKiln$Palette;)I"⟩, 5)]
theorem lw_r1 : ∀ q ∈ lw_privs_1, lw_okq q := List.forall_mem_cons.mpr ⟨lw_p0, List.forall_mem_cons.mpr ⟨lw_p1, List.forall_mem_cons.mpr ⟨lw_p2, List.forall_mem_cons.mpr ⟨lw_p3, List.forall_mem_cons.mpr ⟨lw_p4, List.forall_mem_cons.mpr ⟨lw_p5, List.forall_mem_cons.mpr ⟨lw_p6, List.forall_mem_cons.mpr ⟨lw_p7, List.forall_mem_cons.mpr ⟨lw_p8, List.forall_mem_cons.mpr ⟨lw_p9, List.forall_mem_cons.mpr ⟨lw_p10, List.forall_mem_cons.mpr ⟨lw_p11, List.forall_mem_cons.mpr ⟨lw_p12, List.forall_mem_cons.mpr ⟨lw_p13, List.forall_mem_cons.mpr ⟨lw_p14, List.forall_mem_cons.mpr ⟨lw_p15, fun _ h => absurd h List.not_mem_nil⟩⟩⟩⟩⟩⟩⟩⟩⟩⟩⟩⟩⟩⟩⟩⟩
theorem lw_p16 : lw_okq (⟨"EnamelKiln", "isColor", "(I)Z"⟩, 7) := ⟨⟨by decide +kernel, by decide +kernel⟩, List.mem_of_getElem? (i := 13) (by decide +kernel), List.mem_of_getElem? (i := 396) (by decide +kernel), List.mem_of_getElem? (i := 397) (by decide +kernel)⟩
theorem lw_p17 : lw_okq (⟨"EnamelKiln$Plate", "layersOfColor", "(I)I"⟩, 5) := ⟨⟨by decide +kernel, by decide +kernel⟩, List.mem_of_getElem? (i := 57) (by decide +kernel), List.mem_of_getElem? (i := 401) (by decide +kernel), List.mem_of_getElem? (i := 402) (by decide +kernel)⟩
theorem lw_p18 : lw_okq (⟨"EnamelKiln$Wishes", "timesOfColor", "(I)I"⟩, 2) := ⟨⟨by decide +kernel, by decide +kernel⟩, List.mem_of_getElem? (i := 89) (by decide +kernel), List.mem_of_getElem? (i := 405) (by decide +kernel), List.mem_of_getElem? (i := 406) (by decide +kernel)⟩
theorem lw_p19 : lw_okq (⟨"EnamelKiln$History", "keep", "(LEnamelKiln$Bench;)V"⟩, 3) := ⟨⟨by decide +kernel, by decide +kernel⟩, List.mem_of_getElem? (i := 129) (by decide +kernel), List.mem_of_getElem? (i := 417) (by decide +kernel), List.mem_of_getElem? (i := 418) (by decide +kernel)⟩
theorem lw_p20 : lw_okq (⟨"EnamelKiln$Palette", "append", "(III)I"⟩, 4) := ⟨⟨by decide +kernel, by decide +kernel⟩, List.mem_of_getElem? (i := 27) (by decide +kernel), List.mem_of_getElem? (i := 422) (by decide +kernel), List.mem_of_getElem? (i := 423) (by decide +kernel)⟩
theorem lw_p21 : lw_okq (⟨"EnamelKiln$Plate", "outermostIsRaw", "(I)Z"⟩, 5) := ⟨⟨by decide +kernel, by decide +kernel⟩, List.mem_of_getElem? (i := 57) (by decide +kernel), List.mem_of_getElem? (i := 430) (by decide +kernel), List.mem_of_getElem? (i := 431) (by decide +kernel)⟩
theorem lw_p22 : lw_okq (⟨"EnamelKiln$Plate", "append", "(II)I"⟩, 5) := ⟨⟨by decide +kernel, by decide +kernel⟩, List.mem_of_getElem? (i := 57) (by decide +kernel), List.mem_of_getElem? (i := 434) (by decide +kernel), List.mem_of_getElem? (i := 435) (by decide +kernel)⟩
theorem lw_p23 : lw_okq (⟨"EnamelKiln$Plate", "removeOutermost", "(I)I"⟩, 5) := ⟨⟨by decide +kernel, by decide +kernel⟩, List.mem_of_getElem? (i := 57) (by decide +kernel), List.mem_of_getElem? (i := 442) (by decide +kernel), List.mem_of_getElem? (i := 443) (by decide +kernel)⟩
theorem lw_p24 : lw_okq (⟨"EnamelKiln$Firing", "happen", "(LEnamelKiln$Bench;LEnamelKiln$Plate;II)V"⟩, 6) := ⟨⟨by decide +kernel, by decide +kernel⟩, List.mem_of_getElem? (i := 149) (by decide +kernel), List.mem_of_getElem? (i := 458) (by decide +kernel), List.mem_of_getElem? (i := 459) (by decide +kernel)⟩
theorem lw_p25 : lw_okq (⟨"EnamelKiln$Firing", "heatLayer", "(LEnamelKiln$Bench;LEnamelKiln$Plate;IIZ)V"⟩, 6) := ⟨⟨by decide +kernel, by decide +kernel⟩, List.mem_of_getElem? (i := 149) (by decide +kernel), List.mem_of_getElem? (i := 463) (by decide +kernel), List.mem_of_getElem? (i := 464) (by decide +kernel)⟩
theorem lw_p26 : lw_okq (⟨"EnamelKiln$Firing", "soften", "(LEnamelKiln$Plate;II)V"⟩, 6) := ⟨⟨by decide +kernel, by decide +kernel⟩, List.mem_of_getElem? (i := 149) (by decide +kernel), List.mem_of_getElem? (i := 468) (by decide +kernel), List.mem_of_getElem? (i := 469) (by decide +kernel)⟩
theorem lw_p27 : lw_okq (⟨"EnamelKiln$Firing", "mendField", "(LEnamelKiln$Plate;I)V"⟩, 6) := ⟨⟨by decide +kernel, by decide +kernel⟩, List.mem_of_getElem? (i := 149) (by decide +kernel), List.mem_of_getElem? (i := 472) (by decide +kernel), List.mem_of_getElem? (i := 473) (by decide +kernel)⟩
theorem lw_p28 : lw_okq (⟨"EnamelKiln$Firing", "coolField", "(LEnamelKiln$Bench;LEnamelKiln$Plate;I)V"⟩, 6) := ⟨⟨by decide +kernel, by decide +kernel⟩, List.mem_of_getElem? (i := 149) (by decide +kernel), List.mem_of_getElem? (i := 476) (by decide +kernel), List.mem_of_getElem? (i := 477) (by decide +kernel)⟩
theorem lw_p29 : lw_okq (⟨"EnamelKiln$Plate", "hasHold", "(I)Z"⟩, 5) := ⟨⟨by decide +kernel, by decide +kernel⟩, List.mem_of_getElem? (i := 57) (by decide +kernel), List.mem_of_getElem? (i := 480) (by decide +kernel), List.mem_of_getElem? (i := 481) (by decide +kernel)⟩
theorem lw_p30 : lw_okq (⟨"EnamelKiln", "tryHeat", "(I)V"⟩, 7) := ⟨⟨by decide +kernel, by decide +kernel⟩, List.mem_of_getElem? (i := 13) (by decide +kernel), List.mem_of_getElem? (i := 489) (by decide +kernel), List.mem_of_getElem? (i := 490) (by decide +kernel)⟩
theorem lw_p31 : lw_okq (⟨"EnamelKiln$Wishes", "append", "(II)V"⟩, 2) := ⟨⟨by decide +kernel, by decide +kernel⟩, List.mem_of_getElem? (i := 89) (by decide +kernel), List.mem_of_getElem? (i := 498) (by decide +kernel), List.mem_of_getElem? (i := 499) (by decide +kernel)⟩
def lw_privs_2 : List (MethodName × Nat) := [(⟨"EnamelKiln", "isColor", "(I)Z"⟩, 7), (⟨"EnamelKiln$Plate", "layersOfColor", "(I)I"⟩, 5), (⟨"EnamelKiln$Wishes", "timesOfColor", "(I)I"⟩, 2), (⟨"EnamelKiln$History", "keep", "(LEnamelKiln$Bench;)V"⟩, 3), (⟨"EnamelKiln$Palette", "append", "(III)I"⟩, 4), (⟨"EnamelKiln$Plate", "outermostIsRaw", "(I)Z"⟩, 5), (⟨"EnamelKiln$Plate", "append", "(II)I"⟩, 5), (⟨"EnamelKiln$Plate", "removeOutermost", "(I)I"⟩, 5), (⟨"EnamelKiln$Firing", "happen", "(LEnamelKiln$Bench;LEnamelKiln$Plate;II)V"⟩, 6), (⟨"EnamelKiln$Firing", "heatLayer", "(LEnamelKiln$Bench;LEnamelKiln$Plate;IIZ)V"⟩, 6), (⟨"EnamelKiln$Firing", "soften", "(LEnamelKiln$Plate;II)V"⟩, 6), (⟨"EnamelKiln$Firing", "mendField", "(LEnamelKiln$Plate;I)V"⟩, 6), (⟨"EnamelKiln$Firing", "coolField", "(LEnamelKiln$Bench;LEnamelKiln$Plate;I)V"⟩, 6), (⟨"EnamelKiln$Plate", "hasHold", "(I)Z"⟩, 5), (⟨"EnamelKiln", "tryHeat", "(I)V"⟩, 7), (⟨"EnamelKiln$Wishes", "append", "(II)V"⟩, 2)]
theorem lw_r2 : ∀ q ∈ lw_privs_2, lw_okq q := List.forall_mem_cons.mpr ⟨lw_p16, List.forall_mem_cons.mpr ⟨lw_p17, List.forall_mem_cons.mpr ⟨lw_p18, List.forall_mem_cons.mpr ⟨lw_p19, List.forall_mem_cons.mpr ⟨lw_p20, List.forall_mem_cons.mpr ⟨lw_p21, List.forall_mem_cons.mpr ⟨lw_p22, List.forall_mem_cons.mpr ⟨lw_p23, List.forall_mem_cons.mpr ⟨lw_p24, List.forall_mem_cons.mpr ⟨lw_p25, List.forall_mem_cons.mpr ⟨lw_p26, List.forall_mem_cons.mpr ⟨lw_p27, List.forall_mem_cons.mpr ⟨lw_p28, List.forall_mem_cons.mpr ⟨lw_p29, List.forall_mem_cons.mpr ⟨lw_p30, List.forall_mem_cons.mpr ⟨lw_p31, fun _ h => absurd h List.not_mem_nil⟩⟩⟩⟩⟩⟩⟩⟩⟩⟩⟩⟩⟩⟩⟩⟩
theorem lw_p32 : lw_okq (⟨"EnamelKiln", "bringPlanUpToDate", "()V"⟩, 7) := ⟨⟨by decide +kernel, by decide +kernel⟩, List.mem_of_getElem? (i := 13) (by decide +kernel), List.mem_of_getElem? (i := 506) (by decide +kernel), List.mem_of_getElem? (i := 507) (by decide +kernel)⟩
theorem lw_p33 : lw_okq (⟨"EnamelKiln$Planner", "search", "(LEnamelKiln$Wishes;LEnamelKiln$Palette;)V"⟩, 8) := ⟨⟨by decide +kernel, by decide +kernel⟩, List.mem_of_getElem? (i := 182) (by decide +kernel), List.mem_of_getElem? (i := 510) (by decide +kernel), List.mem_of_getElem? (i := 511) (by decide +kernel)⟩
theorem lw_p34 : lw_okq (⟨"EnamelKiln$Planner", "bestSet", "(ILEnamelKiln$Wishes;LEnamelKiln$Palette;)I"⟩, 8) := ⟨⟨by decide +kernel, by decide +kernel⟩, List.mem_of_getElem? (i := 182) (by decide +kernel), List.mem_of_getElem? (i := 523) (by decide +kernel), List.mem_of_getElem? (i := 524) (by decide +kernel)⟩
theorem lw_p35 : lw_okq (⟨"EnamelKiln$Planner", "lookAtNext", "(ILEnamelKiln$Wishes;LEnamelKiln$Palette;)I"⟩, 8) := ⟨⟨by decide +kernel, by decide +kernel⟩, List.mem_of_getElem? (i := 182) (by decide +kernel), List.mem_of_getElem? (i := 527) (by decide +kernel), List.mem_of_getElem? (i := 528) (by decide +kernel)⟩
theorem lw_p36 : lw_okq (⟨"EnamelKiln$WishText", "append", "(C)I"⟩, 4) := ⟨⟨by decide +kernel, by decide +kernel⟩, List.mem_of_getElem? (i := 217) (by decide +kernel), List.mem_of_getElem? (i := 541) (by decide +kernel), List.mem_of_getElem? (i := 542) (by decide +kernel)⟩
theorem lw_p37 : lw_okq (⟨"EnamelKiln$WishText", "lookForFault", "(I)V"⟩, 4) := ⟨⟨by decide +kernel, by decide +kernel⟩, List.mem_of_getElem? (i := 217) (by decide +kernel), List.mem_of_getElem? (i := 549) (by decide +kernel), List.mem_of_getElem? (i := 550) (by decide +kernel)⟩
theorem lw_p38 : lw_okq (⟨"EnamelKiln$WishText", "hasFault", "()Z"⟩, 4) := ⟨⟨by decide +kernel, by decide +kernel⟩, List.mem_of_getElem? (i := 217) (by decide +kernel), List.mem_of_getElem? (i := 563) (by decide +kernel), List.mem_of_getElem? (i := 564) (by decide +kernel)⟩
theorem lw_p39 : lw_okq (⟨"EnamelKiln$Plate", "greatestStrainWith", "(ILEnamelKiln$Palette;)I"⟩, 5) := ⟨⟨by decide +kernel, by decide +kernel⟩, List.mem_of_getElem? (i := 57) (by decide +kernel), List.mem_of_getElem? (i := 598) (by decide +kernel), List.mem_of_getElem? (i := 599) (by decide +kernel)⟩
theorem lw_p40 : lw_okq (⟨"EnamelKiln$Plate", "makeBare", "()V"⟩, 5) := ⟨⟨by decide +kernel, by decide +kernel⟩, List.mem_of_getElem? (i := 57) (by decide +kernel), List.mem_of_getElem? (i := 609) (by decide +kernel), List.mem_of_getElem? (i := 610) (by decide +kernel)⟩
def lw_privs_3 : List (MethodName × Nat) := [(⟨"EnamelKiln", "bringPlanUpToDate", "()V"⟩, 7), (⟨"EnamelKiln$Planner", "search", "(LEnamelKiln$Wishes;LEnamelKiln$Palette;)V"⟩, 8), (⟨"EnamelKiln$Planner", "bestSet", "(ILEnamelKiln$Wishes;LEnamelKiln$Palette;)I"⟩, 8), (⟨"EnamelKiln$Planner", "lookAtNext", "(ILEnamelKiln$Wishes;LEnamelKiln$Palette;)I"⟩, 8), (⟨"EnamelKiln$WishText", "append", "(C)I"⟩, 4), (⟨"EnamelKiln$WishText", "lookForFault", "(I)V"⟩, 4), (⟨"EnamelKiln$WishText", "hasFault", "()Z"⟩, 4), (⟨"EnamelKiln$Plate", "greatestStrainWith", "(ILEnamelKiln$Palette;)I"⟩, 5), (⟨"EnamelKiln$Plate", "makeBare", "()V"⟩, 5)]
theorem lw_r3 : ∀ q ∈ lw_privs_3, lw_okq q := List.forall_mem_cons.mpr ⟨lw_p32, List.forall_mem_cons.mpr ⟨lw_p33, List.forall_mem_cons.mpr ⟨lw_p34, List.forall_mem_cons.mpr ⟨lw_p35, List.forall_mem_cons.mpr ⟨lw_p36, List.forall_mem_cons.mpr ⟨lw_p37, List.forall_mem_cons.mpr ⟨lw_p38, List.forall_mem_cons.mpr ⟨lw_p39, List.forall_mem_cons.mpr ⟨lw_p40, fun _ h => absurd h List.not_mem_nil⟩⟩⟩⟩⟩⟩⟩⟩⟩
def lw_privs : List (MethodName × Nat) := lw_privs_1 ++ (lw_privs_2 ++ (lw_privs_3))
def lw_tbl : List Cond := k2_sels lw_privs ++ tables_1
theorem lw_privs_ok : ∀ q ∈ lw_privs, lw_okq q := by
  show ∀ q ∈ lw_privs_1 ++ (lw_privs_2 ++ (lw_privs_3)), lw_okq q
  exact List.forall_mem_append.mpr ⟨lw_r1, List.forall_mem_append.mpr ⟨lw_r2, lw_r3⟩⟩
end
section
def RX0 : String := "EnamelKiln$Bench"
def TX0 : u_T := fun k => match k with
  | 0 => ("EnamelKiln$Bench", "palette", "LEnamelKiln$Palette;", true)
  | 1 => ("EnamelKiln$Bench", "plate", "LEnamelKiln$Plate;", true)
  | 2 => ("EnamelKiln$Bench", "wishes", "LEnamelKiln$Wishes;", true)
  | 3 => ("EnamelKiln$Bench", "settings", "[I", true)
  | _ => ("EnamelKiln$Bench", "accounts", "[I", true)
def tyX0 : Nat → FieldType := fun k => match k with
  | 0 => .object "EnamelKiln$Palette"
  | 1 => .object "EnamelKiln$Plate"
  | 2 => .object "EnamelKiln$Wishes"
  | 3 => .array .int
  | _ => .array .int
abbrev wsX00 : List Cond := u_ws RX0 TX0 5
theorem nmX0 : ∀ a, a < 5 → ∀ b, b < 5 → a ≠ b → (TX0 a).2.1 ≠ (TX0 b).2.1 := by decide +kernel
theorem tyX0_ok : ∀ k, k < 5 → parseFieldDescriptor (TX0 k).2.2.1 = some (tyX0 k) := by decide +kernel
abbrev cX0_init : ByteArray := prog_2_method_1_code
def yX0_init : MethodName := ⟨RX0, "<init>", "()V"⟩
abbrev cX0_copyFrom : ByteArray := prog_2_method_2_code
def yX0_copyFrom : MethodName := ⟨RX0, "copyFrom", "(LEnamelKiln$Bench;)V"⟩
def RX1 : String := "EnamelKiln$Firing"
def TX1 : u_T := fun k => match k with
  | 0 => ("EnamelKiln$Firing", "gaveWay", "[Z", true)
  | 1 => ("EnamelKiln$Firing", "smooth", "I", false)
  | 2 => ("EnamelKiln$Firing", "burnt", "I", false)
  | 3 => ("EnamelKiln$Firing", "dull", "I", false)
  | 4 => ("EnamelKiln$Firing", "cracks", "I", false)
  | _ => ("EnamelKiln$Firing", "mended", "I", false)
def tyX1 : Nat → FieldType := fun k => match k with
  | 0 => .array .boolean
  | 1 => .int
  | 2 => .int
  | 3 => .int
  | 4 => .int
  | _ => .int
abbrev wsX10 : List Cond := u_ws RX1 TX1 6
theorem nmX1 : ∀ a, a < 6 → ∀ b, b < 6 → a ≠ b → (TX1 a).2.1 ≠ (TX1 b).2.1 := by decide +kernel
theorem tyX1_ok : ∀ k, k < 6 → parseFieldDescriptor (TX1 k).2.2.1 = some (tyX1 k) := by decide +kernel
abbrev cX1_init : ByteArray := prog_3_method_1_code
def yX1_init : MethodName := ⟨RX1, "<init>", "()V"⟩
abbrev cX1_happen : ByteArray := prog_3_method_2_code
def yX1_happen : MethodName := ⟨RX1, "happen", "(LEnamelKiln$Bench;LEnamelKiln$Plate;II)V"⟩
abbrev cX1_heatLayer : ByteArray := prog_3_method_3_code
def yX1_heatLayer : MethodName := ⟨RX1, "heatLayer", "(LEnamelKiln$Bench;LEnamelKiln$Plate;IIZ)V"⟩
abbrev cX1_soften : ByteArray := prog_3_method_4_code
def yX1_soften : MethodName := ⟨RX1, "soften", "(LEnamelKiln$Plate;II)V"⟩
abbrev cX1_mendField : ByteArray := prog_3_method_5_code
def yX1_mendField : MethodName := ⟨RX1, "mendField", "(LEnamelKiln$Plate;I)V"⟩
abbrev cX1_coolField : ByteArray := prog_3_method_6_code
def yX1_coolField : MethodName := ⟨RX1, "coolField", "(LEnamelKiln$Bench;LEnamelKiln$Plate;I)V"⟩
def RX2 : String := "EnamelKiln$History"
def TX2 : u_T := fun k => match k with
  | 0 => ("EnamelKiln$History", "ring", "[LEnamelKiln$Bench;", true)
  | 1 => ("EnamelKiln$History", "next", "I", false)
  | _ => ("EnamelKiln$History", "size", "I", false)
def tyX2 : Nat → FieldType := fun k => match k with
  | 0 => .array (.object "EnamelKiln$Bench")
  | 1 => .int
  | _ => .int
abbrev wsX20 : List Cond := u_ws RX2 TX2 3
theorem nmX2 : ∀ a, a < 3 → ∀ b, b < 3 → a ≠ b → (TX2 a).2.1 ≠ (TX2 b).2.1 := by decide +kernel
theorem tyX2_ok : ∀ k, k < 3 → parseFieldDescriptor (TX2 k).2.2.1 = some (tyX2 k) := by decide +kernel
abbrev cX2_init : ByteArray := prog_4_method_1_code
def yX2_init : MethodName := ⟨RX2, "<init>", "()V"⟩
abbrev cX2_keep : ByteArray := prog_4_method_2_code
def yX2_keep : MethodName := ⟨RX2, "keep", "(LEnamelKiln$Bench;)V"⟩
abbrev cX2_restore : ByteArray := prog_4_method_3_code
def yX2_restore : MethodName := ⟨RX2, "restore", "(LEnamelKiln$Bench;)V"⟩
def RX3 : String := "EnamelKiln$Palette"
def TX3 : u_T := fun k => match k with
  | 0 => ("EnamelKiln$Palette", "melting", "[I", true)
  | 1 => ("EnamelKiln$Palette", "burning", "[I", true)
  | 2 => ("EnamelKiln$Palette", "expansion", "[I", true)
  | _ => ("EnamelKiln$Palette", "size", "I", false)
def tyX3 : Nat → FieldType := fun k => match k with
  | 0 => .array .int
  | 1 => .array .int
  | 2 => .array .int
  | _ => .int
abbrev wsX30 : List Cond := u_ws RX3 TX3 4
theorem nmX3 : ∀ a, a < 4 → ∀ b, b < 4 → a ≠ b → (TX3 a).2.1 ≠ (TX3 b).2.1 := by decide +kernel
theorem tyX3_ok : ∀ k, k < 4 → parseFieldDescriptor (TX3 k).2.2.1 = some (tyX3 k) := by decide +kernel
abbrev cX3_init : ByteArray := prog_5_method_1_code
def yX3_init : MethodName := ⟨RX3, "<init>", "()V"⟩
abbrev cX3_append : ByteArray := prog_5_method_2_code
def yX3_append : MethodName := ⟨RX3, "append", "(III)I"⟩
abbrev cX3_pullOf : ByteArray := prog_5_method_3_code
def yX3_pullOf : MethodName := ⟨RX3, "pullOf", "(I)I"⟩
abbrev cX3_copyFrom : ByteArray := prog_5_method_4_code
def yX3_copyFrom : MethodName := ⟨RX3, "copyFrom", "(LEnamelKiln$Palette;)V"⟩
def RX4 : String := "EnamelKiln$Planner"
def TX4 : u_T := fun k => match k with
  | 0 => ("EnamelKiln$Planner", "firingsFrom", "[I", true)
  | 1 => ("EnamelKiln$Planner", "stepOf", "[I", true)
  | 2 => ("EnamelKiln$Planner", "meltingOf", "[I", true)
  | 3 => ("EnamelKiln$Planner", "burningOf", "[I", true)
  | 4 => ("EnamelKiln$Planner", "sets", "[I", true)
  | 5 => ("EnamelKiln$Planner", "heats", "[I", true)
  | 6 => ("EnamelKiln$Planner", "length", "I", false)
  | _ => ("EnamelKiln$Planner", "isFound", "Z", false)
def tyX4 : Nat → FieldType := fun k => match k with
  | 0 => .array .int
  | 1 => .array .int
  | 2 => .array .int
  | 3 => .array .int
  | 4 => .array .int
  | 5 => .array .int
  | 6 => .int
  | _ => .boolean
abbrev wsX40 : List Cond := u_ws RX4 TX4 8
theorem nmX4 : ∀ a, a < 8 → ∀ b, b < 8 → a ≠ b → (TX4 a).2.1 ≠ (TX4 b).2.1 := by decide +kernel
theorem tyX4_ok : ∀ k, k < 8 → parseFieldDescriptor (TX4 k).2.2.1 = some (tyX4 k) := by decide +kernel
abbrev cX4_init : ByteArray := prog_6_method_1_code
def yX4_init : MethodName := ⟨RX4, "<init>", "()V"⟩
abbrev cX4_search : ByteArray := prog_6_method_2_code
def yX4_search : MethodName := ⟨RX4, "search", "(LEnamelKiln$Wishes;LEnamelKiln$Palette;)V"⟩
abbrev cX4_layersAt : ByteArray := prog_6_method_3_code
def yX4_layersAt : MethodName := ⟨RX4, "layersAt", "(II)I"⟩
abbrev cX4_lastStage : ByteArray := prog_6_method_4_code
def yX4_lastStage : MethodName := ⟨RX4, "lastStage", "(LEnamelKiln$Wishes;)I"⟩
abbrev cX4_isStage : ByteArray := prog_6_method_5_code
def yX4_isStage : MethodName := ⟨RX4, "isStage", "(ILEnamelKiln$Wishes;)Z"⟩
abbrev cX4_bestSet : ByteArray := prog_6_method_6_code
def yX4_bestSet : MethodName := ⟨RX4, "bestSet", "(ILEnamelKiln$Wishes;LEnamelKiln$Palette;)I"⟩
abbrev cX4_lookAtNext : ByteArray := prog_6_method_7_code
def yX4_lookAtNext : MethodName := ⟨RX4, "lookAtNext", "(ILEnamelKiln$Wishes;LEnamelKiln$Palette;)I"⟩
abbrev cX4_burningOfPut : ByteArray := prog_6_method_8_code
def yX4_burningOfPut : MethodName := ⟨RX4, "burningOfPut", "(ILEnamelKiln$Wishes;LEnamelKiln$Palette;)I"⟩
def RX5 : String := "EnamelKiln$Plate"
def TX5 : u_T := fun k => match k with
  | 0 => ("EnamelKiln$Plate", "sizes", "[I", true)
  | 1 => ("EnamelKiln$Plate", "colors", "[I", true)
  | 2 => ("EnamelKiln$Plate", "states", "[I", true)
  | 3 => ("EnamelKiln$Plate", "softenings", "[I", true)
  | _ => ("EnamelKiln$Plate", "cracks", "[I", true)
def tyX5 : Nat → FieldType := fun k => match k with
  | 0 => .array .int
  | 1 => .array .int
  | 2 => .array .int
  | 3 => .array .int
  | _ => .array .int
abbrev wsX50 : List Cond := u_ws RX5 TX5 5
theorem nmX5 : ∀ a, a < 5 → ∀ b, b < 5 → a ≠ b → (TX5 a).2.1 ≠ (TX5 b).2.1 := by decide +kernel
theorem tyX5_ok : ∀ k, k < 5 → parseFieldDescriptor (TX5 k).2.2.1 = some (tyX5 k) := by decide +kernel
abbrev cX5_init : ByteArray := prog_7_method_1_code
def yX5_init : MethodName := ⟨RX5, "<init>", "()V"⟩
abbrev cX5_append : ByteArray := prog_7_method_2_code
def yX5_append : MethodName := ⟨RX5, "append", "(II)I"⟩
abbrev cX5_removeOutermost : ByteArray := prog_7_method_3_code
def yX5_removeOutermost : MethodName := ⟨RX5, "removeOutermost", "(I)I"⟩
abbrev cX5_outermostIsRaw : ByteArray := prog_7_method_4_code
def yX5_outermostIsRaw : MethodName := ⟨RX5, "outermostIsRaw", "(I)Z"⟩
abbrev cX5_makeBare : ByteArray := prog_7_method_5_code
def yX5_makeBare : MethodName := ⟨RX5, "makeBare", "()V"⟩
abbrev cX5_layers : ByteArray := prog_7_method_6_code
def yX5_layers : MethodName := ⟨RX5, "layers", "()I"⟩
abbrev cX5_layersOfColor : ByteArray := prog_7_method_7_code
def yX5_layersOfColor : MethodName := ⟨RX5, "layersOfColor", "(I)I"⟩
abbrev cX5_layersOfState : ByteArray := prog_7_method_8_code
def yX5_layersOfState : MethodName := ⟨RX5, "layersOfState", "(I)I"⟩
abbrev cX5_layersWith : ByteArray := prog_7_method_9_code
def yX5_layersWith : MethodName := ⟨RX5, "layersWith", "([II)I"⟩
abbrev cX5_crackedFields : ByteArray := prog_7_method_10_code
def yX5_crackedFields : MethodName := ⟨RX5, "crackedFields", "()I"⟩
abbrev cX5_holdsOn : ByteArray := prog_7_method_11_code
def yX5_holdsOn : MethodName := ⟨RX5, "holdsOn", "(I)Z"⟩
abbrev cX5_hasHold : ByteArray := prog_7_method_12_code
def yX5_hasHold : MethodName := ⟨RX5, "hasHold", "(I)Z"⟩
abbrev cX5_pullOf : ByteArray := prog_7_method_13_code
def yX5_pullOf : MethodName := ⟨RX5, "pullOf", "(ILEnamelKiln$Palette;)I"⟩
abbrev cX5_strainOf : ByteArray := prog_7_method_14_code
def yX5_strainOf : MethodName := ⟨RX5, "strainOf", "(ILEnamelKiln$Palette;)I"⟩
abbrev cX5_greatestStrainWith : ByteArray := prog_7_method_15_code
def yX5_greatestStrainWith : MethodName := ⟨RX5, "greatestStrainWith", "(ILEnamelKiln$Palette;)I"⟩
abbrev cX5_heatThatMelts : ByteArray := prog_7_method_16_code
def yX5_heatThatMelts : MethodName := ⟨RX5, "heatThatMelts", "(ILEnamelKiln$Palette;)I"⟩
abbrev cX5_heatThatSpares : ByteArray := prog_7_method_17_code
def yX5_heatThatSpares : MethodName := ⟨RX5, "heatThatSpares", "(ILEnamelKiln$Palette;)I"⟩
abbrev cX5_copyFrom : ByteArray := prog_7_method_18_code
def yX5_copyFrom : MethodName := ⟨RX5, "copyFrom", "(LEnamelKiln$Plate;)V"⟩
def RX6 : String := "EnamelKiln$WishText"
def TX6 : u_T := fun k => match k with
  | 0 => ("EnamelKiln$WishText", "characters", "[C", true)
  | 1 => ("EnamelKiln$WishText", "length", "I", false)
  | 2 => ("EnamelKiln$WishText", "faultPosition", "I", false)
  | _ => ("EnamelKiln$WishText", "faultReason", "I", false)
def tyX6 : Nat → FieldType := fun k => match k with
  | 0 => .array .char
  | 1 => .int
  | 2 => .int
  | _ => .int
abbrev wsX60 : List Cond := u_ws RX6 TX6 4
theorem nmX6 : ∀ a, a < 4 → ∀ b, b < 4 → a ≠ b → (TX6 a).2.1 ≠ (TX6 b).2.1 := by decide +kernel
theorem tyX6_ok : ∀ k, k < 4 → parseFieldDescriptor (TX6 k).2.2.1 = some (tyX6 k) := by decide +kernel
abbrev cX6_init : ByteArray := prog_8_method_1_code
def yX6_init : MethodName := ⟨RX6, "<init>", "()V"⟩
abbrev cX6_append : ByteArray := prog_8_method_2_code
def yX6_append : MethodName := ⟨RX6, "append", "(C)I"⟩
abbrev cX6_hasFault : ByteArray := prog_8_method_3_code
def yX6_hasFault : MethodName := ⟨RX6, "hasFault", "()Z"⟩
abbrev cX6_lookForFault : ByteArray := prog_8_method_4_code
def yX6_lookForFault : MethodName := ⟨RX6, "lookForFault", "(I)V"⟩
abbrev cX6_reasonOf : ByteArray := prog_8_method_5_code
def yX6_reasonOf : MethodName := ⟨RX6, "reasonOf", "(CII)I"⟩
abbrev cX6_isFieldDigit : ByteArray := prog_8_method_6_code
def yX6_isFieldDigit : MethodName := ⟨RX6, "isFieldDigit", "(C)Z"⟩
abbrev cX6_isLetter : ByteArray := prog_8_method_7_code
def yX6_isLetter : MethodName := ⟨RX6, "isLetter", "(C)Z"⟩
def RX7 : String := "EnamelKiln$Wishes"
def TX7 : u_T := fun k => match k with
  | 0 => ("EnamelKiln$Wishes", "sizes", "[I", true)
  | _ => ("EnamelKiln$Wishes", "colors", "[I", true)
def tyX7 : Nat → FieldType := fun k => match k with
  | 0 => .array .int
  | _ => .array .int
abbrev wsX70 : List Cond := u_ws RX7 TX7 2
theorem nmX7 : ∀ a, a < 2 → ∀ b, b < 2 → a ≠ b → (TX7 a).2.1 ≠ (TX7 b).2.1 := by decide +kernel
theorem tyX7_ok : ∀ k, k < 2 → parseFieldDescriptor (TX7 k).2.2.1 = some (tyX7 k) := by decide +kernel
abbrev cX7_init : ByteArray := prog_9_method_1_code
def yX7_init : MethodName := ⟨RX7, "<init>", "()V"⟩
abbrev cX7_append : ByteArray := prog_9_method_2_code
def yX7_append : MethodName := ⟨RX7, "append", "(II)V"⟩
abbrev cX7_colorsTogether : ByteArray := prog_9_method_3_code
def yX7_colorsTogether : MethodName := ⟨RX7, "colorsTogether", "()I"⟩
abbrev cX7_timesOfColor : ByteArray := prog_9_method_4_code
def yX7_timesOfColor : MethodName := ⟨RX7, "timesOfColor", "(I)I"⟩
abbrev cX7_copyFrom : ByteArray := prog_9_method_5_code
def yX7_copyFrom : MethodName := ⟨RX7, "copyFrom", "(LEnamelKiln$Wishes;)V"⟩
def RX8 : String := "EnamelKiln"
def TX8 : u_T := fun k => match k with
  | 0 => ("EnamelKiln", "bench", "LEnamelKiln$Bench;", true)
  | 1 => ("EnamelKiln", "history", "LEnamelKiln$History;", true)
  | 2 => ("EnamelKiln", "firing", "LEnamelKiln$Firing;", true)
  | 3 => ("EnamelKiln", "trialPlate", "LEnamelKiln$Plate;", true)
  | 4 => ("EnamelKiln", "planner", "LEnamelKiln$Planner;", true)
  | 5 => ("EnamelKiln", "text", "LEnamelKiln$WishText;", true)
  | _ => ("EnamelKiln", "planIsOld", "Z", false)
def tyX8 : Nat → FieldType := fun k => match k with
  | 0 => .object "EnamelKiln$Bench"
  | 1 => .object "EnamelKiln$History"
  | 2 => .object "EnamelKiln$Firing"
  | 3 => .object "EnamelKiln$Plate"
  | 4 => .object "EnamelKiln$Planner"
  | 5 => .object "EnamelKiln$WishText"
  | _ => .boolean
abbrev wsX80 : List Cond := u_ws RX8 TX8 7
theorem nmX8 : ∀ a, a < 7 → ∀ b, b < 7 → a ≠ b → (TX8 a).2.1 ≠ (TX8 b).2.1 := by decide +kernel
theorem tyX8_ok : ∀ k, k < 7 → parseFieldDescriptor (TX8 k).2.2.1 = some (tyX8 k) := by decide +kernel
abbrev cX8_init : ByteArray := prog_1_method_1_code
def yX8_init : MethodName := ⟨RX8, "<init>", "()V"⟩
abbrev cX8_color : ByteArray := prog_1_method_2_code
def yX8_color : MethodName := ⟨RX8, "color", "(III)I"⟩
abbrev cX8_colorInfo : ByteArray := prog_1_method_3_code
def yX8_colorInfo : MethodName := ⟨RX8, "colorInfo", "(II)I"⟩
abbrev cX8_put : ByteArray := prog_1_method_4_code
def yX8_put : MethodName := ⟨RX8, "put", "(II)I"⟩
abbrev cX8_takeOff : ByteArray := prog_1_method_5_code
def yX8_takeOff : MethodName := ⟨RX8, "takeOff", "(I)I"⟩
abbrev cX8_clean : ByteArray := prog_1_method_6_code
def yX8_clean : MethodName := ⟨RX8, "clean", "()I"⟩
abbrev cX8_layer : ByteArray := prog_1_method_7_code
def yX8_layer : MethodName := ⟨RX8, "layer", "(III)I"⟩
abbrev cX8_field : ByteArray := prog_1_method_8_code
def yX8_field : MethodName := ⟨RX8, "field", "(II)I"⟩
abbrev cX8_set : ByteArray := prog_1_method_9_code
def yX8_set : MethodName := ⟨RX8, "set", "(II)I"⟩
abbrev cX8_count : ByteArray := prog_1_method_10_code
def yX8_count : MethodName := ⟨RX8, "count", "(I)I"⟩
abbrev cX8_fire : ByteArray := prog_1_method_11_code
def yX8_fire : MethodName := ⟨RX8, "fire", "(II)I"⟩
abbrev cX8_ifFired : ByteArray := prog_1_method_12_code
def yX8_ifFired : MethodName := ⟨RX8, "ifFired", "(II)I"⟩
abbrev cX8_bestHeat : ByteArray := prog_1_method_13_code
def yX8_bestHeat : MethodName := ⟨RX8, "bestHeat", "()I"⟩
abbrev cX8_wish : ByteArray := prog_1_method_14_code
def yX8_wish : MethodName := ⟨RX8, "wish", "(II)I"⟩
abbrev cX8_wished : ByteArray := prog_1_method_15_code
def yX8_wished : MethodName := ⟨RX8, "wished", "(II)I"⟩
abbrev cX8_leastFirings : ByteArray := prog_1_method_16_code
def yX8_leastFirings : MethodName := ⟨RX8, "leastFirings", "()I"⟩
abbrev cX8_planned : ByteArray := prog_1_method_17_code
def yX8_planned : MethodName := ⟨RX8, "planned", "(II)I"⟩
abbrev cX8_counter : ByteArray := prog_1_method_18_code
def yX8_counter : MethodName := ⟨RX8, "counter", "()I"⟩
abbrev cX8_undo : ByteArray := prog_1_method_19_code
def yX8_undo : MethodName := ⟨RX8, "undo", "()I"⟩
abbrev cX8_type : ByteArray := prog_1_method_20_code
def yX8_type : MethodName := ⟨RX8, "type", "(I)I"⟩
abbrev cX8_fault : ByteArray := prog_1_method_22_code
def yX8_fault : MethodName := ⟨RX8, "fault", "(I)I"⟩
abbrev cX8_within : ByteArray := prog_1_method_24_code
def yX8_within : MethodName := ⟨RX8, "within", "(III)Z"⟩
abbrev cX8_placeOf : ByteArray := prog_1_method_25_code
def yX8_placeOf : MethodName := ⟨RX8, "placeOf", "(II)I"⟩
abbrev cX8_isField : ByteArray := prog_1_method_26_code
def yX8_isField : MethodName := ⟨RX8, "isField", "(I)Z"⟩
abbrev cX8_isFrontField : ByteArray := prog_1_method_27_code
def yX8_isFrontField : MethodName := ⟨RX8, "isFrontField", "(I)Z"⟩
abbrev cX8_isColor : ByteArray := prog_1_method_28_code
def yX8_isColor : MethodName := ⟨RX8, "isColor", "(I)Z"⟩
abbrev cX8_tryHeat : ByteArray := prog_1_method_29_code
def yX8_tryHeat : MethodName := ⟨RX8, "tryHeat", "(I)V"⟩
abbrev cX8_bringPlanUpToDate : ByteArray := prog_1_method_30_code
def yX8_bringPlanUpToDate : MethodName := ⟨RX8, "bringPlanUpToDate", "()V"⟩
abbrev cX8_copyRow : ByteArray := prog_1_method_31_code
def yX8_copyRow : MethodName := ⟨RX8, "copyRow", "([I[I)V"⟩
def RX9 : String := "EnamelKilnModel"
def TX9 : u_T := fun k => match k with
  | _ => ("", "", "", false)
def tyX9 : Nat → FieldType := fun k => match k with
  | _ => .int
abbrev wsX90 : List Cond := u_ws RX9 TX9 0
theorem nmX9 : ∀ a, a < 0 → ∀ b, b < 0 → a ≠ b → (TX9 a).2.1 ≠ (TX9 b).2.1 := by decide +kernel
theorem tyX9_ok : ∀ k, k < 0 → parseFieldDescriptor (TX9 k).2.2.1 = some (tyX9 k) := by decide +kernel
def RJ9 : String := "java/lang/Math"
def TJ9 : u_T := fun k => match k with
  | _ => ("", "", "", false)
def tyJ9 : Nat → FieldType := fun k => match k with
  | _ => .int
abbrev wsJ90 : List Cond := u_ws RJ9 TJ9 0
theorem nmJ9 : ∀ a, a < 0 → ∀ b, b < 0 → a ≠ b → (TJ9 a).2.1 ≠ (TJ9 b).2.1 := by decide +kernel
theorem tyJ9_ok : ∀ k, k < 0 → parseFieldDescriptor (TJ9 k).2.2.1 = some (tyJ9 k) := by decide +kernel
abbrev cJ9_abs_0f7a4 : ByteArray := prog_12_method_59_code
def yJ9_abs_0f7a4 : MethodName := ⟨RJ9, "abs", "(I)I"⟩
abbrev cJ9_max_7cf53 : ByteArray := prog_12_method_65_code
def yJ9_max_7cf53 : MethodName := ⟨RJ9, "max", "(II)I"⟩
abbrev cJ9_min_7cf53 : ByteArray := prog_12_method_69_code
def yJ9_min_7cf53 : MethodName := ⟨RJ9, "min", "(II)I"⟩
def RJ10 : String := "java/lang/System"
def TJ10 : u_T := fun k => match k with
  | _ => ("", "", "", false)
def tyJ10 : Nat → FieldType := fun k => match k with
  | _ => .int
abbrev wsJ100 : List Cond := u_ws RJ10 TJ10 0
theorem nmJ10 : ∀ a, a < 0 → ∀ b, b < 0 → a ≠ b → (TJ10 a).2.1 ≠ (TJ10 b).2.1 := by decide +kernel
theorem tyJ10_ok : ∀ k, k < 0 → parseFieldDescriptor (TJ10 k).2.2.1 = some (tyJ10 k) := by decide +kernel
def RL : String := "EnamelKilnLaw"
abbrev cL_cell : ByteArray := method_2_code
def yL_cell : MethodName := ⟨RL, "cell", "([II)I"⟩
abbrev cL_low : ByteArray := method_3_code
def yL_low : MethodName := ⟨RL, "low", "(II)I"⟩
abbrev cL_print : ByteArray := method_4_code
def yL_print : MethodName := ⟨RL, "print", "(LEnamelKiln;)J"⟩
abbrev cL_refused : ByteArray := method_5_code
def yL_refused : MethodName := ⟨RL, "refused", "(LEnamelKiln;)Z"⟩
abbrev cL_size : ByteArray := method_6_code
def yL_size : MethodName := ⟨RL, "size", "(I)I"⟩
abbrev cL_areLayers : ByteArray := method_7_code
def yL_areLayers : MethodName := ⟨RL, "areLayers", "(LEnamelKiln;)Z"⟩
abbrev cL_isFired : ByteArray := method_8_code
def yL_isFired : MethodName := ⟨RL, "isFired", "(LEnamelKiln;I)Z"⟩
abbrev cL_isBest : ByteArray := method_9_code
def yL_isBest : MethodName := ⟨RL, "isBest", "(LEnamelKiln;)Z"⟩
abbrev cL_isPlan : ByteArray := method_10_code
def yL_isPlan : MethodName := ⟨RL, "isPlan", "(LEnamelKiln;)Z"⟩
abbrev cL_isCounter : ByteArray := method_11_code
def yL_isCounter : MethodName := ⟨RL, "isCounter", "(LEnamelKiln;)Z"⟩
abbrev cL_acts : ByteArray := method_12_code
def yL_acts : MethodName := ⟨RL, "acts", "(LEnamelKiln;II)I"⟩
abbrev cL_law : ByteArray := code
def yL_law : MethodName := ⟨RL, "law", "([I)Z"⟩
abbrev vwCl : List vw_C := [(RX0, TX0, 5), (RX1, TX1, 6), (RX2, TX2, 3), (RX3, TX3, 4), (RX4, TX4, 8), (RX5, TX5, 5), (RX6, TX6, 4), (RX7, TX7, 2), (RX8, TX8, 7)]
end
section
theorem dX0_init_0 : decode cX0_init 0 = .ok (.aload_n 0, 1) := by decide +kernel
theorem dX0_init_1 : decode cX0_init 1 = .ok (.invokespecial 3, 3) := by decide +kernel
theorem dX0_init_4 : decode cX0_init 4 = .ok (.aload_n 0, 1) := by decide +kernel
theorem dX0_init_5 : decode cX0_init 5 = .ok (.new 9, 3) := by decide +kernel
theorem dX0_init_8 : decode cX0_init 8 = .ok (.dup, 1) := by decide +kernel
theorem dX0_init_9 : decode cX0_init 9 = .ok (.invokespecial 11, 3) := by decide +kernel
theorem dX0_init_12 : decode cX0_init 12 = .ok (.putfield 12, 3) := by decide +kernel
theorem dX0_init_15 : decode cX0_init 15 = .ok (.aload_n 0, 1) := by decide +kernel
theorem dX0_init_16 : decode cX0_init 16 = .ok (.new 18, 3) := by decide +kernel
theorem dX0_init_19 : decode cX0_init 19 = .ok (.dup, 1) := by decide +kernel
theorem dX0_init_20 : decode cX0_init 20 = .ok (.invokespecial 20, 3) := by decide +kernel
theorem dX0_init_23 : decode cX0_init 23 = .ok (.putfield 21, 3) := by decide +kernel
theorem dX0_init_26 : decode cX0_init 26 = .ok (.aload_n 0, 1) := by decide +kernel
theorem dX0_init_27 : decode cX0_init 27 = .ok (.new 25, 3) := by decide +kernel
theorem dX0_init_30 : decode cX0_init 30 = .ok (.dup, 1) := by decide +kernel
theorem dX0_init_31 : decode cX0_init 31 = .ok (.invokespecial 27, 3) := by decide +kernel
theorem dX0_init_34 : decode cX0_init 34 = .ok (.putfield 28, 3) := by decide +kernel
theorem dX0_init_37 : decode cX0_init 37 = .ok (.aload_n 0, 1) := by decide +kernel
theorem dX0_init_38 : decode cX0_init 38 = .ok (.iconst 3, 1) := by decide +kernel
theorem dX0_init_39 : decode cX0_init 39 = .ok (.newarray .int, 2) := by decide +kernel
theorem dX0_init_41 : decode cX0_init 41 = .ok (.dup, 1) := by decide +kernel
theorem dX0_init_42 : decode cX0_init 42 = .ok (.iconst 0, 1) := by decide +kernel
theorem dX0_init_43 : decode cX0_init 43 = .ok (.iconst 3, 1) := by decide +kernel
theorem dX0_init_44 : decode cX0_init 44 = .ok (.iastore, 1) := by decide +kernel
theorem dX0_init_45 : decode cX0_init 45 = .ok (.dup, 1) := by decide +kernel
theorem dX0_init_46 : decode cX0_init 46 = .ok (.iconst 1, 1) := by decide +kernel
theorem dX0_init_47 : decode cX0_init 47 = .ok (.iconst 2, 1) := by decide +kernel
theorem dX0_init_48 : decode cX0_init 48 = .ok (.iastore, 1) := by decide +kernel
theorem dX0_init_49 : decode cX0_init 49 = .ok (.dup, 1) := by decide +kernel
theorem dX0_init_50 : decode cX0_init 50 = .ok (.iconst 2, 1) := by decide +kernel
theorem dX0_init_51 : decode cX0_init 51 = .ok (.bipush 120, 2) := by decide +kernel
theorem dX0_init_53 : decode cX0_init 53 = .ok (.iastore, 1) := by decide +kernel
theorem dX0_init_54 : decode cX0_init 54 = .ok (.putfield 32, 3) := by decide +kernel
theorem dX0_init_57 : decode cX0_init 57 = .ok (.aload_n 0, 1) := by decide +kernel
theorem dX0_init_58 : decode cX0_init 58 = .ok (.bipush 9, 2) := by decide +kernel
theorem dX0_init_60 : decode cX0_init 60 = .ok (.newarray .int, 2) := by decide +kernel
theorem dX0_init_62 : decode cX0_init 62 = .ok (.putfield 36, 3) := by decide +kernel
theorem dX0_init_65 : decode cX0_init 65 = .ok (.return_, 1) := by decide +kernel
theorem dX0_copyFrom_0 : decode cX0_copyFrom 0 = .ok (.aload_n 0, 1) := by decide +kernel
theorem dX0_copyFrom_1 : decode cX0_copyFrom 1 = .ok (.getfield 12, 3) := by decide +kernel
theorem dX0_copyFrom_4 : decode cX0_copyFrom 4 = .ok (.aload_n 1, 1) := by decide +kernel
theorem dX0_copyFrom_5 : decode cX0_copyFrom 5 = .ok (.getfield 12, 3) := by decide +kernel
theorem dX0_copyFrom_8 : decode cX0_copyFrom 8 = .ok (.invokevirtual 39, 3) := by decide +kernel
theorem dX0_copyFrom_11 : decode cX0_copyFrom 11 = .ok (.aload_n 0, 1) := by decide +kernel
theorem dX0_copyFrom_12 : decode cX0_copyFrom 12 = .ok (.getfield 21, 3) := by decide +kernel
theorem dX0_copyFrom_15 : decode cX0_copyFrom 15 = .ok (.aload_n 1, 1) := by decide +kernel
theorem dX0_copyFrom_16 : decode cX0_copyFrom 16 = .ok (.getfield 21, 3) := by decide +kernel
theorem dX0_copyFrom_19 : decode cX0_copyFrom 19 = .ok (.invokevirtual 43, 3) := by decide +kernel
theorem dX0_copyFrom_22 : decode cX0_copyFrom 22 = .ok (.aload_n 0, 1) := by decide +kernel
theorem dX0_copyFrom_23 : decode cX0_copyFrom 23 = .ok (.getfield 28, 3) := by decide +kernel
theorem dX0_copyFrom_26 : decode cX0_copyFrom 26 = .ok (.aload_n 1, 1) := by decide +kernel
theorem dX0_copyFrom_27 : decode cX0_copyFrom 27 = .ok (.getfield 28, 3) := by decide +kernel
theorem dX0_copyFrom_30 : decode cX0_copyFrom 30 = .ok (.invokevirtual 46, 3) := by decide +kernel
theorem dX0_copyFrom_33 : decode cX0_copyFrom 33 = .ok (.aload_n 1, 1) := by decide +kernel
theorem dX0_copyFrom_34 : decode cX0_copyFrom 34 = .ok (.getfield 32, 3) := by decide +kernel
theorem dX0_copyFrom_37 : decode cX0_copyFrom 37 = .ok (.aload_n 0, 1) := by decide +kernel
theorem dX0_copyFrom_38 : decode cX0_copyFrom 38 = .ok (.getfield 32, 3) := by decide +kernel
theorem dX0_copyFrom_41 : decode cX0_copyFrom 41 = .ok (.invokestatic 49, 3) := by decide +kernel
theorem dX0_copyFrom_44 : decode cX0_copyFrom 44 = .ok (.aload_n 1, 1) := by decide +kernel
theorem dX0_copyFrom_45 : decode cX0_copyFrom 45 = .ok (.getfield 36, 3) := by decide +kernel
theorem dX0_copyFrom_48 : decode cX0_copyFrom 48 = .ok (.aload_n 0, 1) := by decide +kernel
theorem dX0_copyFrom_49 : decode cX0_copyFrom 49 = .ok (.getfield 36, 3) := by decide +kernel
theorem dX0_copyFrom_52 : decode cX0_copyFrom 52 = .ok (.invokestatic 49, 3) := by decide +kernel
theorem dX0_copyFrom_55 : decode cX0_copyFrom 55 = .ok (.return_, 1) := by decide +kernel
theorem dX1_init_0 : decode cX1_init 0 = .ok (.aload_n 0, 1) := by decide +kernel
theorem dX1_init_1 : decode cX1_init 1 = .ok (.invokespecial 3, 3) := by decide +kernel
theorem dX1_init_4 : decode cX1_init 4 = .ok (.aload_n 0, 1) := by decide +kernel
theorem dX1_init_5 : decode cX1_init 5 = .ok (.bipush 21, 2) := by decide +kernel
theorem dX1_init_7 : decode cX1_init 7 = .ok (.newarray .boolean, 2) := by decide +kernel
theorem dX1_init_9 : decode cX1_init 9 = .ok (.putfield 9, 3) := by decide +kernel
theorem dX1_init_12 : decode cX1_init 12 = .ok (.aload_n 0, 1) := by decide +kernel
theorem dX1_init_13 : decode cX1_init 13 = .ok (.iconst 0, 1) := by decide +kernel
theorem dX1_init_14 : decode cX1_init 14 = .ok (.putfield 15, 3) := by decide +kernel
theorem dX1_init_17 : decode cX1_init 17 = .ok (.aload_n 0, 1) := by decide +kernel
theorem dX1_init_18 : decode cX1_init 18 = .ok (.iconst 0, 1) := by decide +kernel
theorem dX1_init_19 : decode cX1_init 19 = .ok (.putfield 19, 3) := by decide +kernel
theorem dX1_init_22 : decode cX1_init 22 = .ok (.aload_n 0, 1) := by decide +kernel
theorem dX1_init_23 : decode cX1_init 23 = .ok (.iconst 0, 1) := by decide +kernel
theorem dX1_init_24 : decode cX1_init 24 = .ok (.putfield 22, 3) := by decide +kernel
theorem dX1_init_27 : decode cX1_init 27 = .ok (.aload_n 0, 1) := by decide +kernel
theorem dX1_init_28 : decode cX1_init 28 = .ok (.iconst 0, 1) := by decide +kernel
theorem dX1_init_29 : decode cX1_init 29 = .ok (.putfield 25, 3) := by decide +kernel
theorem dX1_init_32 : decode cX1_init 32 = .ok (.aload_n 0, 1) := by decide +kernel
theorem dX1_init_33 : decode cX1_init 33 = .ok (.iconst 0, 1) := by decide +kernel
theorem dX1_init_34 : decode cX1_init 34 = .ok (.putfield 28, 3) := by decide +kernel
theorem dX1_init_37 : decode cX1_init 37 = .ok (.return_, 1) := by decide +kernel
theorem dX1_happen_0 : decode cX1_happen 0 = .ok (.aload_n 0, 1) := by decide +kernel
theorem dX1_happen_1 : decode cX1_happen 1 = .ok (.iconst 0, 1) := by decide +kernel
theorem dX1_happen_2 : decode cX1_happen 2 = .ok (.putfield 15, 3) := by decide +kernel
theorem dX1_happen_5 : decode cX1_happen 5 = .ok (.aload_n 0, 1) := by decide +kernel
theorem dX1_happen_6 : decode cX1_happen 6 = .ok (.iconst 0, 1) := by decide +kernel
theorem dX1_happen_7 : decode cX1_happen 7 = .ok (.putfield 19, 3) := by decide +kernel
theorem dX1_happen_10 : decode cX1_happen 10 = .ok (.aload_n 0, 1) := by decide +kernel
theorem dX1_happen_11 : decode cX1_happen 11 = .ok (.iconst 0, 1) := by decide +kernel
theorem dX1_happen_12 : decode cX1_happen 12 = .ok (.putfield 22, 3) := by decide +kernel
theorem dX1_happen_15 : decode cX1_happen 15 = .ok (.aload_n 0, 1) := by decide +kernel
theorem dX1_happen_16 : decode cX1_happen 16 = .ok (.iconst 0, 1) := by decide +kernel
theorem dX1_happen_17 : decode cX1_happen 17 = .ok (.putfield 25, 3) := by decide +kernel
theorem dX1_happen_20 : decode cX1_happen 20 = .ok (.aload_n 0, 1) := by decide +kernel
theorem dX1_happen_21 : decode cX1_happen 21 = .ok (.iconst 0, 1) := by decide +kernel
theorem dX1_happen_22 : decode cX1_happen 22 = .ok (.putfield 28, 3) := by decide +kernel
theorem dX1_happen_25 : decode cX1_happen 25 = .ok (.iload 4, 2) := by decide +kernel
theorem dX1_happen_27 : decode cX1_happen 27 = .ok (.aload_n 1, 1) := by decide +kernel
theorem dX1_happen_28 : decode cX1_happen 28 = .ok (.getfield 31, 3) := by decide +kernel
theorem dX1_happen_31 : decode cX1_happen 31 = .ok (.iconst 0, 1) := by decide +kernel
theorem dX1_happen_32 : decode cX1_happen 32 = .ok (.iaload, 1) := by decide +kernel
theorem dX1_happen_33 : decode cX1_happen 33 = .ok (.if_icmp .lt 7, 3) := by decide +kernel
theorem dX1_happen_36 : decode cX1_happen 36 = .ok (.iconst 1, 1) := by decide +kernel
theorem dX1_happen_37 : decode cX1_happen 37 = .ok (.goto 4, 3) := by decide +kernel
theorem dX1_happen_40 : decode cX1_happen 40 = .ok (.iconst 0, 1) := by decide +kernel
theorem dX1_happen_41 : decode cX1_happen 41 = .ok (.istore 5, 2) := by decide +kernel
theorem dX1_happen_43 : decode cX1_happen 43 = .ok (.iconst 0, 1) := by decide +kernel
theorem dX1_happen_44 : decode cX1_happen 44 = .ok (.istore 6, 2) := by decide +kernel
theorem dX1_happen_46 : decode cX1_happen 46 = .ok (.iload 6, 2) := by decide +kernel
theorem dX1_happen_48 : decode cX1_happen 48 = .ok (.bipush 7, 2) := by decide +kernel
theorem dX1_happen_50 : decode cX1_happen 50 = .ok (.if_icmp .ge 46, 3) := by decide +kernel
theorem dX1_happen_53 : decode cX1_happen 53 = .ok (.iconst 0, 1) := by decide +kernel
theorem dX1_happen_54 : decode cX1_happen 54 = .ok (.istore 7, 2) := by decide +kernel
theorem dX1_happen_56 : decode cX1_happen 56 = .ok (.iload 7, 2) := by decide +kernel
theorem dX1_happen_58 : decode cX1_happen 58 = .ok (.aload_n 2, 1) := by decide +kernel
theorem dX1_happen_59 : decode cX1_happen 59 = .ok (.getfield 37, 3) := by decide +kernel
theorem dX1_happen_62 : decode cX1_happen 62 = .ok (.iload 6, 2) := by decide +kernel
theorem dX1_happen_64 : decode cX1_happen 64 = .ok (.iaload, 1) := by decide +kernel
theorem dX1_happen_65 : decode cX1_happen 65 = .ok (.if_icmp .ge 25, 3) := by decide +kernel
theorem dX1_happen_68 : decode cX1_happen 68 = .ok (.aload_n 0, 1) := by decide +kernel
theorem dX1_happen_69 : decode cX1_happen 69 = .ok (.aload_n 1, 1) := by decide +kernel
theorem dX1_happen_70 : decode cX1_happen 70 = .ok (.aload_n 2, 1) := by decide +kernel
theorem dX1_happen_71 : decode cX1_happen 71 = .ok (.iload 6, 2) := by decide +kernel
theorem dX1_happen_73 : decode cX1_happen 73 = .ok (.iload 7, 2) := by decide +kernel
theorem dX1_happen_75 : decode cX1_happen 75 = .ok (.invokestatic 42, 3) := by decide +kernel
theorem dX1_happen_78 : decode cX1_happen 78 = .ok (.iload_n 3, 1) := by decide +kernel
theorem dX1_happen_79 : decode cX1_happen 79 = .ok (.iload 5, 2) := by decide +kernel
theorem dX1_happen_81 : decode cX1_happen 81 = .ok (.invokevirtual 46, 3) := by decide +kernel
theorem dX1_happen_84 : decode cX1_happen 84 = .ok (.iinc 7 1, 3) := by decide +kernel
theorem dX1_happen_87 : decode cX1_happen 87 = .ok (.goto (-31), 3) := by decide +kernel
theorem dX1_happen_90 : decode cX1_happen 90 = .ok (.iinc 6 1, 3) := by decide +kernel
theorem dX1_happen_93 : decode cX1_happen 93 = .ok (.goto (-47), 3) := by decide +kernel
theorem dX1_happen_96 : decode cX1_happen 96 = .ok (.iconst 0, 1) := by decide +kernel
theorem dX1_happen_97 : decode cX1_happen 97 = .ok (.istore 6, 2) := by decide +kernel
theorem dX1_happen_99 : decode cX1_happen 99 = .ok (.iload 6, 2) := by decide +kernel
theorem dX1_happen_101 : decode cX1_happen 101 = .ok (.bipush 6, 2) := by decide +kernel
theorem dX1_happen_103 : decode cX1_happen 103 = .ok (.if_icmp .ge 24, 3) := by decide +kernel
theorem dX1_happen_106 : decode cX1_happen 106 = .ok (.aload_n 0, 1) := by decide +kernel
theorem dX1_happen_107 : decode cX1_happen 107 = .ok (.aload_n 2, 1) := by decide +kernel
theorem dX1_happen_108 : decode cX1_happen 108 = .ok (.iload 6, 2) := by decide +kernel
theorem dX1_happen_110 : decode cX1_happen 110 = .ok (.invokevirtual 50, 3) := by decide +kernel
theorem dX1_happen_113 : decode cX1_happen 113 = .ok (.aload_n 0, 1) := by decide +kernel
theorem dX1_happen_114 : decode cX1_happen 114 = .ok (.aload_n 1, 1) := by decide +kernel
theorem dX1_happen_115 : decode cX1_happen 115 = .ok (.aload_n 2, 1) := by decide +kernel
theorem dX1_happen_116 : decode cX1_happen 116 = .ok (.iload 6, 2) := by decide +kernel
theorem dX1_happen_118 : decode cX1_happen 118 = .ok (.invokevirtual 54, 3) := by decide +kernel
theorem dX1_happen_121 : decode cX1_happen 121 = .ok (.iinc 6 1, 3) := by decide +kernel
theorem dX1_happen_124 : decode cX1_happen 124 = .ok (.goto (-25), 3) := by decide +kernel
theorem dX1_happen_127 : decode cX1_happen 127 = .ok (.return_, 1) := by decide +kernel
theorem dX1_heatLayer_0 : decode cX1_heatLayer 0 = .ok (.aload_n 2, 1) := by decide +kernel
theorem dX1_heatLayer_1 : decode cX1_heatLayer 1 = .ok (.getfield 58, 3) := by decide +kernel
theorem dX1_heatLayer_4 : decode cX1_heatLayer 4 = .ok (.iload_n 3, 1) := by decide +kernel
theorem dX1_heatLayer_5 : decode cX1_heatLayer 5 = .ok (.iaload, 1) := by decide +kernel
theorem dX1_heatLayer_6 : decode cX1_heatLayer 6 = .ok (.istore 6, 2) := by decide +kernel
theorem dX1_heatLayer_8 : decode cX1_heatLayer 8 = .ok (.aload_n 1, 1) := by decide +kernel
theorem dX1_heatLayer_9 : decode cX1_heatLayer 9 = .ok (.getfield 61, 3) := by decide +kernel
theorem dX1_heatLayer_12 : decode cX1_heatLayer 12 = .ok (.getfield 65, 3) := by decide +kernel
theorem dX1_heatLayer_15 : decode cX1_heatLayer 15 = .ok (.iload 6, 2) := by decide +kernel
theorem dX1_heatLayer_17 : decode cX1_heatLayer 17 = .ok (.iaload, 1) := by decide +kernel
theorem dX1_heatLayer_18 : decode cX1_heatLayer 18 = .ok (.istore 7, 2) := by decide +kernel
theorem dX1_heatLayer_20 : decode cX1_heatLayer 20 = .ok (.aload_n 0, 1) := by decide +kernel
theorem dX1_heatLayer_21 : decode cX1_heatLayer 21 = .ok (.getfield 9, 3) := by decide +kernel
theorem dX1_heatLayer_24 : decode cX1_heatLayer 24 = .ok (.iload_n 3, 1) := by decide +kernel
theorem dX1_heatLayer_25 : decode cX1_heatLayer 25 = .ok (.iconst 0, 1) := by decide +kernel
theorem dX1_heatLayer_26 : decode cX1_heatLayer 26 = .ok (.bastore, 1) := by decide +kernel
theorem dX1_heatLayer_27 : decode cX1_heatLayer 27 = .ok (.aload_n 2, 1) := by decide +kernel
theorem dX1_heatLayer_28 : decode cX1_heatLayer 28 = .ok (.getfield 70, 3) := by decide +kernel
theorem dX1_heatLayer_31 : decode cX1_heatLayer 31 = .ok (.iload_n 3, 1) := by decide +kernel
theorem dX1_heatLayer_32 : decode cX1_heatLayer 32 = .ok (.iaload, 1) := by decide +kernel
theorem dX1_heatLayer_33 : decode cX1_heatLayer 33 = .ok (.iconst 4, 1) := by decide +kernel
theorem dX1_heatLayer_34 : decode cX1_heatLayer 34 = .ok (.if_icmp .ne 4, 3) := by decide +kernel
theorem dX1_heatLayer_37 : decode cX1_heatLayer 37 = .ok (.return_, 1) := by decide +kernel
theorem dX1_heatLayer_38 : decode cX1_heatLayer 38 = .ok (.iload 4, 2) := by decide +kernel
theorem dX1_heatLayer_40 : decode cX1_heatLayer 40 = .ok (.aload_n 1, 1) := by decide +kernel
theorem dX1_heatLayer_41 : decode cX1_heatLayer 41 = .ok (.getfield 61, 3) := by decide +kernel
theorem dX1_heatLayer_44 : decode cX1_heatLayer 44 = .ok (.getfield 73, 3) := by decide +kernel
theorem dX1_heatLayer_47 : decode cX1_heatLayer 47 = .ok (.iload 6, 2) := by decide +kernel
theorem dX1_heatLayer_49 : decode cX1_heatLayer 49 = .ok (.iaload, 1) := by decide +kernel
theorem dX1_heatLayer_50 : decode cX1_heatLayer 50 = .ok (.if_icmp .le 23, 3) := by decide +kernel
theorem dX1_heatLayer_53 : decode cX1_heatLayer 53 = .ok (.aload_n 2, 1) := by decide +kernel
theorem dX1_heatLayer_54 : decode cX1_heatLayer 54 = .ok (.getfield 70, 3) := by decide +kernel
theorem dX1_heatLayer_57 : decode cX1_heatLayer 57 = .ok (.iload_n 3, 1) := by decide +kernel
theorem dX1_heatLayer_58 : decode cX1_heatLayer 58 = .ok (.iconst 4, 1) := by decide +kernel
theorem dX1_heatLayer_59 : decode cX1_heatLayer 59 = .ok (.iastore, 1) := by decide +kernel
theorem dX1_heatLayer_60 : decode cX1_heatLayer 60 = .ok (.aload_n 0, 1) := by decide +kernel
theorem dX1_heatLayer_61 : decode cX1_heatLayer 61 = .ok (.dup, 1) := by decide +kernel
theorem dX1_heatLayer_62 : decode cX1_heatLayer 62 = .ok (.getfield 19, 3) := by decide +kernel
theorem dX1_heatLayer_65 : decode cX1_heatLayer 65 = .ok (.iconst 1, 1) := by decide +kernel
theorem dX1_heatLayer_66 : decode cX1_heatLayer 66 = .ok (.iadd, 1) := by decide +kernel
theorem dX1_heatLayer_67 : decode cX1_heatLayer 67 = .ok (.putfield 19, 3) := by decide +kernel
theorem dX1_heatLayer_70 : decode cX1_heatLayer 70 = .ok (.goto 92, 3) := by decide +kernel
theorem dX1_heatLayer_73 : decode cX1_heatLayer 73 = .ok (.aload_n 2, 1) := by decide +kernel
theorem dX1_heatLayer_74 : decode cX1_heatLayer 74 = .ok (.iload_n 3, 1) := by decide +kernel
theorem dX1_heatLayer_75 : decode cX1_heatLayer 75 = .ok (.invokevirtual 76, 3) := by decide +kernel
theorem dX1_heatLayer_78 : decode cX1_heatLayer 78 = .ok (.ifCond .eq 28, 3) := by decide +kernel
theorem dX1_heatLayer_81 : decode cX1_heatLayer 81 = .ok (.iload 4, 2) := by decide +kernel
theorem dX1_heatLayer_83 : decode cX1_heatLayer 83 = .ok (.iload 7, 2) := by decide +kernel
theorem dX1_heatLayer_85 : decode cX1_heatLayer 85 = .ok (.bipush 20, 2) := by decide +kernel
theorem dX1_heatLayer_87 : decode cX1_heatLayer 87 = .ok (.isub, 1) := by decide +kernel
theorem dX1_heatLayer_88 : decode cX1_heatLayer 88 = .ok (.if_icmp .lt 74, 3) := by decide +kernel
theorem dX1_heatLayer_91 : decode cX1_heatLayer 91 = .ok (.aload_n 0, 1) := by decide +kernel
theorem dX1_heatLayer_92 : decode cX1_heatLayer 92 = .ok (.aload_n 2, 1) := by decide +kernel
theorem dX1_heatLayer_93 : decode cX1_heatLayer 93 = .ok (.iload_n 3, 1) := by decide +kernel
theorem dX1_heatLayer_94 : decode cX1_heatLayer 94 = .ok (.aload_n 1, 1) := by decide +kernel
theorem dX1_heatLayer_95 : decode cX1_heatLayer 95 = .ok (.getfield 31, 3) := by decide +kernel
theorem dX1_heatLayer_98 : decode cX1_heatLayer 98 = .ok (.iconst 1, 1) := by decide +kernel
theorem dX1_heatLayer_99 : decode cX1_heatLayer 99 = .ok (.iaload, 1) := by decide +kernel
theorem dX1_heatLayer_100 : decode cX1_heatLayer 100 = .ok (.invokevirtual 80, 3) := by decide +kernel
theorem dX1_heatLayer_103 : decode cX1_heatLayer 103 = .ok (.goto 59, 3) := by decide +kernel
theorem dX1_heatLayer_106 : decode cX1_heatLayer 106 = .ok (.iload 4, 2) := by decide +kernel
theorem dX1_heatLayer_108 : decode cX1_heatLayer 108 = .ok (.iload 7, 2) := by decide +kernel
theorem dX1_heatLayer_110 : decode cX1_heatLayer 110 = .ok (.if_icmp .lt 35, 3) := by decide +kernel
theorem dX1_heatLayer_113 : decode cX1_heatLayer 113 = .ok (.iload 5, 2) := by decide +kernel
theorem dX1_heatLayer_115 : decode cX1_heatLayer 115 = .ok (.ifCond .eq 30, 3) := by decide +kernel
theorem dX1_heatLayer_118 : decode cX1_heatLayer 118 = .ok (.aload_n 2, 1) := by decide +kernel
theorem dX1_heatLayer_119 : decode cX1_heatLayer 119 = .ok (.getfield 70, 3) := by decide +kernel
theorem dX1_heatLayer_122 : decode cX1_heatLayer 122 = .ok (.iload_n 3, 1) := by decide +kernel
theorem dX1_heatLayer_123 : decode cX1_heatLayer 123 = .ok (.iconst 2, 1) := by decide +kernel
theorem dX1_heatLayer_124 : decode cX1_heatLayer 124 = .ok (.iastore, 1) := by decide +kernel
theorem dX1_heatLayer_125 : decode cX1_heatLayer 125 = .ok (.aload_n 0, 1) := by decide +kernel
theorem dX1_heatLayer_126 : decode cX1_heatLayer 126 = .ok (.getfield 9, 3) := by decide +kernel
theorem dX1_heatLayer_129 : decode cX1_heatLayer 129 = .ok (.iload_n 3, 1) := by decide +kernel
theorem dX1_heatLayer_130 : decode cX1_heatLayer 130 = .ok (.iconst 1, 1) := by decide +kernel
theorem dX1_heatLayer_131 : decode cX1_heatLayer 131 = .ok (.bastore, 1) := by decide +kernel
theorem dX1_heatLayer_132 : decode cX1_heatLayer 132 = .ok (.aload_n 0, 1) := by decide +kernel
theorem dX1_heatLayer_133 : decode cX1_heatLayer 133 = .ok (.dup, 1) := by decide +kernel
theorem dX1_heatLayer_134 : decode cX1_heatLayer 134 = .ok (.getfield 15, 3) := by decide +kernel
theorem dX1_heatLayer_137 : decode cX1_heatLayer 137 = .ok (.iconst 1, 1) := by decide +kernel
theorem dX1_heatLayer_138 : decode cX1_heatLayer 138 = .ok (.iadd, 1) := by decide +kernel
theorem dX1_heatLayer_139 : decode cX1_heatLayer 139 = .ok (.putfield 15, 3) := by decide +kernel
theorem dX1_heatLayer_142 : decode cX1_heatLayer 142 = .ok (.goto 20, 3) := by decide +kernel
theorem dX1_heatLayer_145 : decode cX1_heatLayer 145 = .ok (.iload 4, 2) := by decide +kernel
theorem dX1_heatLayer_147 : decode cX1_heatLayer 147 = .ok (.iload 7, 2) := by decide +kernel
theorem dX1_heatLayer_149 : decode cX1_heatLayer 149 = .ok (.bipush 40, 2) := by decide +kernel
theorem dX1_heatLayer_151 : decode cX1_heatLayer 151 = .ok (.isub, 1) := by decide +kernel
theorem dX1_heatLayer_152 : decode cX1_heatLayer 152 = .ok (.if_icmp .lt 10, 3) := by decide +kernel
theorem dX1_heatLayer_155 : decode cX1_heatLayer 155 = .ok (.aload_n 2, 1) := by decide +kernel
theorem dX1_heatLayer_156 : decode cX1_heatLayer 156 = .ok (.getfield 70, 3) := by decide +kernel
theorem dX1_heatLayer_159 : decode cX1_heatLayer 159 = .ok (.iload_n 3, 1) := by decide +kernel
theorem dX1_heatLayer_160 : decode cX1_heatLayer 160 = .ok (.iconst 1, 1) := by decide +kernel
theorem dX1_heatLayer_161 : decode cX1_heatLayer 161 = .ok (.iastore, 1) := by decide +kernel
theorem dX1_heatLayer_162 : decode cX1_heatLayer 162 = .ok (.return_, 1) := by decide +kernel
theorem dX1_soften_0 : decode cX1_soften 0 = .ok (.aload_n 0, 1) := by decide +kernel
theorem dX1_soften_1 : decode cX1_soften 1 = .ok (.getfield 9, 3) := by decide +kernel
theorem dX1_soften_4 : decode cX1_soften 4 = .ok (.iload_n 2, 1) := by decide +kernel
theorem dX1_soften_5 : decode cX1_soften 5 = .ok (.iconst 1, 1) := by decide +kernel
theorem dX1_soften_6 : decode cX1_soften 6 = .ok (.bastore, 1) := by decide +kernel
theorem dX1_soften_7 : decode cX1_soften 7 = .ok (.aload_n 1, 1) := by decide +kernel
theorem dX1_soften_8 : decode cX1_soften 8 = .ok (.getfield 84, 3) := by decide +kernel
theorem dX1_soften_11 : decode cX1_soften 11 = .ok (.iload_n 2, 1) := by decide +kernel
theorem dX1_soften_12 : decode cX1_soften 12 = .ok (.dup2, 1) := by decide +kernel
theorem dX1_soften_13 : decode cX1_soften 13 = .ok (.iaload, 1) := by decide +kernel
theorem dX1_soften_14 : decode cX1_soften 14 = .ok (.iconst 1, 1) := by decide +kernel
theorem dX1_soften_15 : decode cX1_soften 15 = .ok (.iadd, 1) := by decide +kernel
theorem dX1_soften_16 : decode cX1_soften 16 = .ok (.iastore, 1) := by decide +kernel
theorem dX1_soften_17 : decode cX1_soften 17 = .ok (.aload_n 1, 1) := by decide +kernel
theorem dX1_soften_18 : decode cX1_soften 18 = .ok (.getfield 84, 3) := by decide +kernel
theorem dX1_soften_21 : decode cX1_soften 21 = .ok (.iload_n 2, 1) := by decide +kernel
theorem dX1_soften_22 : decode cX1_soften 22 = .ok (.iaload, 1) := by decide +kernel
theorem dX1_soften_23 : decode cX1_soften 23 = .ok (.iload_n 3, 1) := by decide +kernel
theorem dX1_soften_24 : decode cX1_soften 24 = .ok (.if_icmp .le 30, 3) := by decide +kernel
theorem dX1_soften_27 : decode cX1_soften 27 = .ok (.aload_n 1, 1) := by decide +kernel
theorem dX1_soften_28 : decode cX1_soften 28 = .ok (.getfield 70, 3) := by decide +kernel
theorem dX1_soften_31 : decode cX1_soften 31 = .ok (.iload_n 2, 1) := by decide +kernel
theorem dX1_soften_32 : decode cX1_soften 32 = .ok (.iaload, 1) := by decide +kernel
theorem dX1_soften_33 : decode cX1_soften 33 = .ok (.iconst 3, 1) := by decide +kernel
theorem dX1_soften_34 : decode cX1_soften 34 = .ok (.if_icmp .eq 20, 3) := by decide +kernel
theorem dX1_soften_37 : decode cX1_soften 37 = .ok (.aload_n 1, 1) := by decide +kernel
theorem dX1_soften_38 : decode cX1_soften 38 = .ok (.getfield 70, 3) := by decide +kernel
theorem dX1_soften_41 : decode cX1_soften 41 = .ok (.iload_n 2, 1) := by decide +kernel
theorem dX1_soften_42 : decode cX1_soften 42 = .ok (.iconst 3, 1) := by decide +kernel
theorem dX1_soften_43 : decode cX1_soften 43 = .ok (.iastore, 1) := by decide +kernel
theorem dX1_soften_44 : decode cX1_soften 44 = .ok (.aload_n 0, 1) := by decide +kernel
theorem dX1_soften_45 : decode cX1_soften 45 = .ok (.dup, 1) := by decide +kernel
theorem dX1_soften_46 : decode cX1_soften 46 = .ok (.getfield 22, 3) := by decide +kernel
theorem dX1_soften_49 : decode cX1_soften 49 = .ok (.iconst 1, 1) := by decide +kernel
theorem dX1_soften_50 : decode cX1_soften 50 = .ok (.iadd, 1) := by decide +kernel
theorem dX1_soften_51 : decode cX1_soften 51 = .ok (.putfield 22, 3) := by decide +kernel
theorem dX1_soften_54 : decode cX1_soften 54 = .ok (.return_, 1) := by decide +kernel
theorem dX1_mendField_0 : decode cX1_mendField 0 = .ok (.aload_n 1, 1) := by decide +kernel
theorem dX1_mendField_1 : decode cX1_mendField 1 = .ok (.getfield 87, 3) := by decide +kernel
theorem dX1_mendField_4 : decode cX1_mendField 4 = .ok (.iload_n 2, 1) := by decide +kernel
theorem dX1_mendField_5 : decode cX1_mendField 5 = .ok (.iaload, 1) := by decide +kernel
theorem dX1_mendField_6 : decode cX1_mendField 6 = .ok (.ifCond .ne 4, 3) := by decide +kernel
theorem dX1_mendField_9 : decode cX1_mendField 9 = .ok (.return_, 1) := by decide +kernel
theorem dX1_mendField_10 : decode cX1_mendField 10 = .ok (.iconst 0, 1) := by decide +kernel
theorem dX1_mendField_11 : decode cX1_mendField 11 = .ok (.istore_n 3, 1) := by decide +kernel
theorem dX1_mendField_12 : decode cX1_mendField 12 = .ok (.iload_n 3, 1) := by decide +kernel
theorem dX1_mendField_13 : decode cX1_mendField 13 = .ok (.aload_n 1, 1) := by decide +kernel
theorem dX1_mendField_14 : decode cX1_mendField 14 = .ok (.getfield 37, 3) := by decide +kernel
theorem dX1_mendField_17 : decode cX1_mendField 17 = .ok (.iload_n 2, 1) := by decide +kernel
theorem dX1_mendField_18 : decode cX1_mendField 18 = .ok (.iaload, 1) := by decide +kernel
theorem dX1_mendField_19 : decode cX1_mendField 19 = .ok (.if_icmp .ge 23, 3) := by decide +kernel
theorem dX1_mendField_22 : decode cX1_mendField 22 = .ok (.aload_n 0, 1) := by decide +kernel
theorem dX1_mendField_23 : decode cX1_mendField 23 = .ok (.getfield 9, 3) := by decide +kernel
theorem dX1_mendField_26 : decode cX1_mendField 26 = .ok (.iload_n 2, 1) := by decide +kernel
theorem dX1_mendField_27 : decode cX1_mendField 27 = .ok (.iload_n 3, 1) := by decide +kernel
theorem dX1_mendField_28 : decode cX1_mendField 28 = .ok (.invokestatic 42, 3) := by decide +kernel
theorem dX1_mendField_31 : decode cX1_mendField 31 = .ok (.baload, 1) := by decide +kernel
theorem dX1_mendField_32 : decode cX1_mendField 32 = .ok (.ifCond .ne 4, 3) := by decide +kernel
theorem dX1_mendField_35 : decode cX1_mendField 35 = .ok (.return_, 1) := by decide +kernel
theorem dX1_mendField_36 : decode cX1_mendField 36 = .ok (.iinc 3 1, 3) := by decide +kernel
theorem dX1_mendField_39 : decode cX1_mendField 39 = .ok (.goto (-27), 3) := by decide +kernel
theorem dX1_mendField_42 : decode cX1_mendField 42 = .ok (.aload_n 1, 1) := by decide +kernel
theorem dX1_mendField_43 : decode cX1_mendField 43 = .ok (.getfield 87, 3) := by decide +kernel
theorem dX1_mendField_46 : decode cX1_mendField 46 = .ok (.iload_n 2, 1) := by decide +kernel
theorem dX1_mendField_47 : decode cX1_mendField 47 = .ok (.iconst 0, 1) := by decide +kernel
theorem dX1_mendField_48 : decode cX1_mendField 48 = .ok (.iastore, 1) := by decide +kernel
theorem dX1_mendField_49 : decode cX1_mendField 49 = .ok (.aload_n 0, 1) := by decide +kernel
theorem dX1_mendField_50 : decode cX1_mendField 50 = .ok (.dup, 1) := by decide +kernel
theorem dX1_mendField_51 : decode cX1_mendField 51 = .ok (.getfield 28, 3) := by decide +kernel
theorem dX1_mendField_54 : decode cX1_mendField 54 = .ok (.iconst 1, 1) := by decide +kernel
theorem dX1_mendField_55 : decode cX1_mendField 55 = .ok (.iadd, 1) := by decide +kernel
theorem dX1_mendField_56 : decode cX1_mendField 56 = .ok (.putfield 28, 3) := by decide +kernel
theorem dX1_mendField_59 : decode cX1_mendField 59 = .ok (.return_, 1) := by decide +kernel
theorem dX1_coolField_0 : decode cX1_coolField 0 = .ok (.aload_n 2, 1) := by decide +kernel
theorem dX1_coolField_1 : decode cX1_coolField 1 = .ok (.getfield 87, 3) := by decide +kernel
theorem dX1_coolField_4 : decode cX1_coolField 4 = .ok (.iload_n 3, 1) := by decide +kernel
theorem dX1_coolField_5 : decode cX1_coolField 5 = .ok (.iaload, 1) := by decide +kernel
theorem dX1_coolField_6 : decode cX1_coolField 6 = .ok (.ifCond .ne 46, 3) := by decide +kernel
theorem dX1_coolField_9 : decode cX1_coolField 9 = .ok (.aload_n 2, 1) := by decide +kernel
theorem dX1_coolField_10 : decode cX1_coolField 10 = .ok (.iload_n 3, 1) := by decide +kernel
theorem dX1_coolField_11 : decode cX1_coolField 11 = .ok (.invokevirtual 89, 3) := by decide +kernel
theorem dX1_coolField_14 : decode cX1_coolField 14 = .ok (.ifCond .eq 38, 3) := by decide +kernel
theorem dX1_coolField_17 : decode cX1_coolField 17 = .ok (.aload_n 2, 1) := by decide +kernel
theorem dX1_coolField_18 : decode cX1_coolField 18 = .ok (.iload_n 3, 1) := by decide +kernel
theorem dX1_coolField_19 : decode cX1_coolField 19 = .ok (.aload_n 1, 1) := by decide +kernel
theorem dX1_coolField_20 : decode cX1_coolField 20 = .ok (.getfield 61, 3) := by decide +kernel
theorem dX1_coolField_23 : decode cX1_coolField 23 = .ok (.invokevirtual 92, 3) := by decide +kernel
theorem dX1_coolField_26 : decode cX1_coolField 26 = .ok (.aload_n 1, 1) := by decide +kernel
theorem dX1_coolField_27 : decode cX1_coolField 27 = .ok (.getfield 31, 3) := by decide +kernel
theorem dX1_coolField_30 : decode cX1_coolField 30 = .ok (.iconst 2, 1) := by decide +kernel
theorem dX1_coolField_31 : decode cX1_coolField 31 = .ok (.iaload, 1) := by decide +kernel
theorem dX1_coolField_32 : decode cX1_coolField 32 = .ok (.if_icmp .le 20, 3) := by decide +kernel
theorem dX1_coolField_35 : decode cX1_coolField 35 = .ok (.aload_n 2, 1) := by decide +kernel
theorem dX1_coolField_36 : decode cX1_coolField 36 = .ok (.getfield 87, 3) := by decide +kernel
theorem dX1_coolField_39 : decode cX1_coolField 39 = .ok (.iload_n 3, 1) := by decide +kernel
theorem dX1_coolField_40 : decode cX1_coolField 40 = .ok (.iconst 1, 1) := by decide +kernel
theorem dX1_coolField_41 : decode cX1_coolField 41 = .ok (.iastore, 1) := by decide +kernel
theorem dX1_coolField_42 : decode cX1_coolField 42 = .ok (.aload_n 0, 1) := by decide +kernel
theorem dX1_coolField_43 : decode cX1_coolField 43 = .ok (.dup, 1) := by decide +kernel
theorem dX1_coolField_44 : decode cX1_coolField 44 = .ok (.getfield 25, 3) := by decide +kernel
theorem dX1_coolField_47 : decode cX1_coolField 47 = .ok (.iconst 1, 1) := by decide +kernel
theorem dX1_coolField_48 : decode cX1_coolField 48 = .ok (.iadd, 1) := by decide +kernel
theorem dX1_coolField_49 : decode cX1_coolField 49 = .ok (.putfield 25, 3) := by decide +kernel
theorem dX1_coolField_52 : decode cX1_coolField 52 = .ok (.return_, 1) := by decide +kernel
theorem dX2_init_0 : decode cX2_init 0 = .ok (.aload_n 0, 1) := by decide +kernel
theorem dX2_init_1 : decode cX2_init 1 = .ok (.invokespecial 3, 3) := by decide +kernel
theorem dX2_init_4 : decode cX2_init 4 = .ok (.aload_n 0, 1) := by decide +kernel
theorem dX2_init_5 : decode cX2_init 5 = .ok (.iconst 4, 1) := by decide +kernel
theorem dX2_init_6 : decode cX2_init 6 = .ok (.anewarray 9, 3) := by decide +kernel
theorem dX2_init_9 : decode cX2_init 9 = .ok (.dup, 1) := by decide +kernel
theorem dX2_init_10 : decode cX2_init 10 = .ok (.iconst 0, 1) := by decide +kernel
theorem dX2_init_11 : decode cX2_init 11 = .ok (.new 9, 3) := by decide +kernel
theorem dX2_init_14 : decode cX2_init 14 = .ok (.dup, 1) := by decide +kernel
theorem dX2_init_15 : decode cX2_init 15 = .ok (.invokespecial 11, 3) := by decide +kernel
theorem dX2_init_18 : decode cX2_init 18 = .ok (.aastore, 1) := by decide +kernel
theorem dX2_init_19 : decode cX2_init 19 = .ok (.dup, 1) := by decide +kernel
theorem dX2_init_20 : decode cX2_init 20 = .ok (.iconst 1, 1) := by decide +kernel
theorem dX2_init_21 : decode cX2_init 21 = .ok (.new 9, 3) := by decide +kernel
theorem dX2_init_24 : decode cX2_init 24 = .ok (.dup, 1) := by decide +kernel
theorem dX2_init_25 : decode cX2_init 25 = .ok (.invokespecial 11, 3) := by decide +kernel
theorem dX2_init_28 : decode cX2_init 28 = .ok (.aastore, 1) := by decide +kernel
theorem dX2_init_29 : decode cX2_init 29 = .ok (.dup, 1) := by decide +kernel
theorem dX2_init_30 : decode cX2_init 30 = .ok (.iconst 2, 1) := by decide +kernel
theorem dX2_init_31 : decode cX2_init 31 = .ok (.new 9, 3) := by decide +kernel
theorem dX2_init_34 : decode cX2_init 34 = .ok (.dup, 1) := by decide +kernel
theorem dX2_init_35 : decode cX2_init 35 = .ok (.invokespecial 11, 3) := by decide +kernel
theorem dX2_init_38 : decode cX2_init 38 = .ok (.aastore, 1) := by decide +kernel
theorem dX2_init_39 : decode cX2_init 39 = .ok (.dup, 1) := by decide +kernel
theorem dX2_init_40 : decode cX2_init 40 = .ok (.iconst 3, 1) := by decide +kernel
theorem dX2_init_41 : decode cX2_init 41 = .ok (.new 9, 3) := by decide +kernel
theorem dX2_init_44 : decode cX2_init 44 = .ok (.dup, 1) := by decide +kernel
theorem dX2_init_45 : decode cX2_init 45 = .ok (.invokespecial 11, 3) := by decide +kernel
theorem dX2_init_48 : decode cX2_init 48 = .ok (.aastore, 1) := by decide +kernel
theorem dX2_init_49 : decode cX2_init 49 = .ok (.putfield 12, 3) := by decide +kernel
theorem dX2_init_52 : decode cX2_init 52 = .ok (.aload_n 0, 1) := by decide +kernel
theorem dX2_init_53 : decode cX2_init 53 = .ok (.iconst 0, 1) := by decide +kernel
theorem dX2_init_54 : decode cX2_init 54 = .ok (.putfield 18, 3) := by decide +kernel
theorem dX2_init_57 : decode cX2_init 57 = .ok (.aload_n 0, 1) := by decide +kernel
theorem dX2_init_58 : decode cX2_init 58 = .ok (.iconst 0, 1) := by decide +kernel
theorem dX2_init_59 : decode cX2_init 59 = .ok (.putfield 22, 3) := by decide +kernel
theorem dX2_init_62 : decode cX2_init 62 = .ok (.return_, 1) := by decide +kernel
theorem dX2_keep_0 : decode cX2_keep 0 = .ok (.aload_n 0, 1) := by decide +kernel
theorem dX2_keep_1 : decode cX2_keep 1 = .ok (.getfield 12, 3) := by decide +kernel
theorem dX2_keep_4 : decode cX2_keep 4 = .ok (.aload_n 0, 1) := by decide +kernel
theorem dX2_keep_5 : decode cX2_keep 5 = .ok (.getfield 18, 3) := by decide +kernel
theorem dX2_keep_8 : decode cX2_keep 8 = .ok (.aaload, 1) := by decide +kernel
theorem dX2_keep_9 : decode cX2_keep 9 = .ok (.aload_n 1, 1) := by decide +kernel
theorem dX2_keep_10 : decode cX2_keep 10 = .ok (.invokevirtual 25, 3) := by decide +kernel
theorem dX2_keep_13 : decode cX2_keep 13 = .ok (.aload_n 0, 1) := by decide +kernel
theorem dX2_keep_14 : decode cX2_keep 14 = .ok (.aload_n 0, 1) := by decide +kernel
theorem dX2_keep_15 : decode cX2_keep 15 = .ok (.getfield 18, 3) := by decide +kernel
theorem dX2_keep_18 : decode cX2_keep 18 = .ok (.iconst 1, 1) := by decide +kernel
theorem dX2_keep_19 : decode cX2_keep 19 = .ok (.iadd, 1) := by decide +kernel
theorem dX2_keep_20 : decode cX2_keep 20 = .ok (.iconst 4, 1) := by decide +kernel
theorem dX2_keep_21 : decode cX2_keep 21 = .ok (.irem, 1) := by decide +kernel
theorem dX2_keep_22 : decode cX2_keep 22 = .ok (.putfield 18, 3) := by decide +kernel
theorem dX2_keep_25 : decode cX2_keep 25 = .ok (.aload_n 0, 1) := by decide +kernel
theorem dX2_keep_26 : decode cX2_keep 26 = .ok (.aload_n 0, 1) := by decide +kernel
theorem dX2_keep_27 : decode cX2_keep 27 = .ok (.getfield 22, 3) := by decide +kernel
theorem dX2_keep_30 : decode cX2_keep 30 = .ok (.iconst 1, 1) := by decide +kernel
theorem dX2_keep_31 : decode cX2_keep 31 = .ok (.iadd, 1) := by decide +kernel
theorem dX2_keep_32 : decode cX2_keep 32 = .ok (.iconst 4, 1) := by decide +kernel
theorem dX2_keep_33 : decode cX2_keep 33 = .ok (.invokestatic 29, 3) := by decide +kernel
theorem dX2_keep_36 : decode cX2_keep 36 = .ok (.putfield 22, 3) := by decide +kernel
theorem dX2_keep_39 : decode cX2_keep 39 = .ok (.return_, 1) := by decide +kernel
theorem dX2_restore_0 : decode cX2_restore 0 = .ok (.aload_n 0, 1) := by decide +kernel
theorem dX2_restore_1 : decode cX2_restore 1 = .ok (.aload_n 0, 1) := by decide +kernel
theorem dX2_restore_2 : decode cX2_restore 2 = .ok (.getfield 18, 3) := by decide +kernel
theorem dX2_restore_5 : decode cX2_restore 5 = .ok (.iconst 4, 1) := by decide +kernel
theorem dX2_restore_6 : decode cX2_restore 6 = .ok (.iadd, 1) := by decide +kernel
theorem dX2_restore_7 : decode cX2_restore 7 = .ok (.iconst 1, 1) := by decide +kernel
theorem dX2_restore_8 : decode cX2_restore 8 = .ok (.isub, 1) := by decide +kernel
theorem dX2_restore_9 : decode cX2_restore 9 = .ok (.iconst 4, 1) := by decide +kernel
theorem dX2_restore_10 : decode cX2_restore 10 = .ok (.irem, 1) := by decide +kernel
theorem dX2_restore_11 : decode cX2_restore 11 = .ok (.putfield 18, 3) := by decide +kernel
theorem dX2_restore_14 : decode cX2_restore 14 = .ok (.aload_n 0, 1) := by decide +kernel
theorem dX2_restore_15 : decode cX2_restore 15 = .ok (.dup, 1) := by decide +kernel
theorem dX2_restore_16 : decode cX2_restore 16 = .ok (.getfield 22, 3) := by decide +kernel
theorem dX2_restore_19 : decode cX2_restore 19 = .ok (.iconst 1, 1) := by decide +kernel
theorem dX2_restore_20 : decode cX2_restore 20 = .ok (.isub, 1) := by decide +kernel
theorem dX2_restore_21 : decode cX2_restore 21 = .ok (.putfield 22, 3) := by decide +kernel
theorem dX2_restore_24 : decode cX2_restore 24 = .ok (.aload_n 1, 1) := by decide +kernel
theorem dX2_restore_25 : decode cX2_restore 25 = .ok (.aload_n 0, 1) := by decide +kernel
theorem dX2_restore_26 : decode cX2_restore 26 = .ok (.getfield 12, 3) := by decide +kernel
theorem dX2_restore_29 : decode cX2_restore 29 = .ok (.aload_n 0, 1) := by decide +kernel
theorem dX2_restore_30 : decode cX2_restore 30 = .ok (.getfield 18, 3) := by decide +kernel
theorem dX2_restore_33 : decode cX2_restore 33 = .ok (.aaload, 1) := by decide +kernel
theorem dX2_restore_34 : decode cX2_restore 34 = .ok (.invokevirtual 25, 3) := by decide +kernel
theorem dX2_restore_37 : decode cX2_restore 37 = .ok (.return_, 1) := by decide +kernel
theorem dX3_init_0 : decode cX3_init 0 = .ok (.aload_n 0, 1) := by decide +kernel
theorem dX3_init_1 : decode cX3_init 1 = .ok (.invokespecial 3, 3) := by decide +kernel
theorem dX3_init_4 : decode cX3_init 4 = .ok (.aload_n 0, 1) := by decide +kernel
theorem dX3_init_5 : decode cX3_init 5 = .ok (.bipush 12, 2) := by decide +kernel
theorem dX3_init_7 : decode cX3_init 7 = .ok (.newarray .int, 2) := by decide +kernel
theorem dX3_init_9 : decode cX3_init 9 = .ok (.putfield 9, 3) := by decide +kernel
theorem dX3_init_12 : decode cX3_init 12 = .ok (.aload_n 0, 1) := by decide +kernel
theorem dX3_init_13 : decode cX3_init 13 = .ok (.bipush 12, 2) := by decide +kernel
theorem dX3_init_15 : decode cX3_init 15 = .ok (.newarray .int, 2) := by decide +kernel
theorem dX3_init_17 : decode cX3_init 17 = .ok (.putfield 15, 3) := by decide +kernel
theorem dX3_init_20 : decode cX3_init 20 = .ok (.aload_n 0, 1) := by decide +kernel
theorem dX3_init_21 : decode cX3_init 21 = .ok (.bipush 12, 2) := by decide +kernel
theorem dX3_init_23 : decode cX3_init 23 = .ok (.newarray .int, 2) := by decide +kernel
theorem dX3_init_25 : decode cX3_init 25 = .ok (.putfield 18, 3) := by decide +kernel
theorem dX3_init_28 : decode cX3_init 28 = .ok (.aload_n 0, 1) := by decide +kernel
theorem dX3_init_29 : decode cX3_init 29 = .ok (.iconst 0, 1) := by decide +kernel
theorem dX3_init_30 : decode cX3_init 30 = .ok (.putfield 21, 3) := by decide +kernel
theorem dX3_init_33 : decode cX3_init 33 = .ok (.return_, 1) := by decide +kernel
theorem dX3_append_0 : decode cX3_append 0 = .ok (.aload_n 0, 1) := by decide +kernel
theorem dX3_append_1 : decode cX3_append 1 = .ok (.getfield 9, 3) := by decide +kernel
theorem dX3_append_4 : decode cX3_append 4 = .ok (.aload_n 0, 1) := by decide +kernel
theorem dX3_append_5 : decode cX3_append 5 = .ok (.getfield 21, 3) := by decide +kernel
theorem dX3_append_8 : decode cX3_append 8 = .ok (.iload_n 1, 1) := by decide +kernel
theorem dX3_append_9 : decode cX3_append 9 = .ok (.iastore, 1) := by decide +kernel
theorem dX3_append_10 : decode cX3_append 10 = .ok (.aload_n 0, 1) := by decide +kernel
theorem dX3_append_11 : decode cX3_append 11 = .ok (.getfield 15, 3) := by decide +kernel
theorem dX3_append_14 : decode cX3_append 14 = .ok (.aload_n 0, 1) := by decide +kernel
theorem dX3_append_15 : decode cX3_append 15 = .ok (.getfield 21, 3) := by decide +kernel
theorem dX3_append_18 : decode cX3_append 18 = .ok (.iload_n 2, 1) := by decide +kernel
theorem dX3_append_19 : decode cX3_append 19 = .ok (.iastore, 1) := by decide +kernel
theorem dX3_append_20 : decode cX3_append 20 = .ok (.aload_n 0, 1) := by decide +kernel
theorem dX3_append_21 : decode cX3_append 21 = .ok (.getfield 18, 3) := by decide +kernel
theorem dX3_append_24 : decode cX3_append 24 = .ok (.aload_n 0, 1) := by decide +kernel
theorem dX3_append_25 : decode cX3_append 25 = .ok (.getfield 21, 3) := by decide +kernel
theorem dX3_append_28 : decode cX3_append 28 = .ok (.iload_n 3, 1) := by decide +kernel
theorem dX3_append_29 : decode cX3_append 29 = .ok (.iastore, 1) := by decide +kernel
theorem dX3_append_30 : decode cX3_append 30 = .ok (.aload_n 0, 1) := by decide +kernel
theorem dX3_append_31 : decode cX3_append 31 = .ok (.dup, 1) := by decide +kernel
theorem dX3_append_32 : decode cX3_append 32 = .ok (.getfield 21, 3) := by decide +kernel
theorem dX3_append_35 : decode cX3_append 35 = .ok (.iconst 1, 1) := by decide +kernel
theorem dX3_append_36 : decode cX3_append 36 = .ok (.iadd, 1) := by decide +kernel
theorem dX3_append_37 : decode cX3_append 37 = .ok (.putfield 21, 3) := by decide +kernel
theorem dX3_append_40 : decode cX3_append 40 = .ok (.aload_n 0, 1) := by decide +kernel
theorem dX3_append_41 : decode cX3_append 41 = .ok (.getfield 21, 3) := by decide +kernel
theorem dX3_append_44 : decode cX3_append 44 = .ok (.iconst 1, 1) := by decide +kernel
theorem dX3_append_45 : decode cX3_append 45 = .ok (.isub, 1) := by decide +kernel
theorem dX3_append_46 : decode cX3_append 46 = .ok (.ireturn, 1) := by decide +kernel
theorem dX3_pullOf_0 : decode cX3_pullOf 0 = .ok (.sipush 170, 3) := by decide +kernel
theorem dX3_pullOf_3 : decode cX3_pullOf 3 = .ok (.aload_n 0, 1) := by decide +kernel
theorem dX3_pullOf_4 : decode cX3_pullOf 4 = .ok (.getfield 18, 3) := by decide +kernel
theorem dX3_pullOf_7 : decode cX3_pullOf 7 = .ok (.iload_n 1, 1) := by decide +kernel
theorem dX3_pullOf_8 : decode cX3_pullOf 8 = .ok (.iaload, 1) := by decide +kernel
theorem dX3_pullOf_9 : decode cX3_pullOf 9 = .ok (.isub, 1) := by decide +kernel
theorem dX3_pullOf_10 : decode cX3_pullOf 10 = .ok (.ireturn, 1) := by decide +kernel
theorem dX3_copyFrom_0 : decode cX3_copyFrom 0 = .ok (.aload_n 1, 1) := by decide +kernel
theorem dX3_copyFrom_1 : decode cX3_copyFrom 1 = .ok (.getfield 9, 3) := by decide +kernel
theorem dX3_copyFrom_4 : decode cX3_copyFrom 4 = .ok (.aload_n 0, 1) := by decide +kernel
theorem dX3_copyFrom_5 : decode cX3_copyFrom 5 = .ok (.getfield 9, 3) := by decide +kernel
theorem dX3_copyFrom_8 : decode cX3_copyFrom 8 = .ok (.invokestatic 25, 3) := by decide +kernel
theorem dX3_copyFrom_11 : decode cX3_copyFrom 11 = .ok (.aload_n 1, 1) := by decide +kernel
theorem dX3_copyFrom_12 : decode cX3_copyFrom 12 = .ok (.getfield 15, 3) := by decide +kernel
theorem dX3_copyFrom_15 : decode cX3_copyFrom 15 = .ok (.aload_n 0, 1) := by decide +kernel
theorem dX3_copyFrom_16 : decode cX3_copyFrom 16 = .ok (.getfield 15, 3) := by decide +kernel
theorem dX3_copyFrom_19 : decode cX3_copyFrom 19 = .ok (.invokestatic 25, 3) := by decide +kernel
theorem dX3_copyFrom_22 : decode cX3_copyFrom 22 = .ok (.aload_n 1, 1) := by decide +kernel
theorem dX3_copyFrom_23 : decode cX3_copyFrom 23 = .ok (.getfield 18, 3) := by decide +kernel
theorem dX3_copyFrom_26 : decode cX3_copyFrom 26 = .ok (.aload_n 0, 1) := by decide +kernel
theorem dX3_copyFrom_27 : decode cX3_copyFrom 27 = .ok (.getfield 18, 3) := by decide +kernel
theorem dX3_copyFrom_30 : decode cX3_copyFrom 30 = .ok (.invokestatic 25, 3) := by decide +kernel
theorem dX3_copyFrom_33 : decode cX3_copyFrom 33 = .ok (.aload_n 0, 1) := by decide +kernel
theorem dX3_copyFrom_34 : decode cX3_copyFrom 34 = .ok (.aload_n 1, 1) := by decide +kernel
theorem dX3_copyFrom_35 : decode cX3_copyFrom 35 = .ok (.getfield 21, 3) := by decide +kernel
theorem dX3_copyFrom_38 : decode cX3_copyFrom 38 = .ok (.putfield 21, 3) := by decide +kernel
theorem dX3_copyFrom_41 : decode cX3_copyFrom 41 = .ok (.return_, 1) := by decide +kernel
theorem dX4_init_0 : decode cX4_init 0 = .ok (.aload_n 0, 1) := by decide +kernel
theorem dX4_init_1 : decode cX4_init 1 = .ok (.invokespecial 5, 3) := by decide +kernel
theorem dX4_init_4 : decode cX4_init 4 = .ok (.aload_n 0, 1) := by decide +kernel
theorem dX4_init_5 : decode cX4_init 5 = .ok (.sipush 4096, 3) := by decide +kernel
theorem dX4_init_8 : decode cX4_init 8 = .ok (.newarray .int, 2) := by decide +kernel
theorem dX4_init_10 : decode cX4_init 10 = .ok (.putfield 11, 3) := by decide +kernel
theorem dX4_init_13 : decode cX4_init 13 = .ok (.aload_n 0, 1) := by decide +kernel
theorem dX4_init_14 : decode cX4_init 14 = .ok (.bipush 64, 2) := by decide +kernel
theorem dX4_init_16 : decode cX4_init 16 = .ok (.newarray .int, 2) := by decide +kernel
theorem dX4_init_18 : decode cX4_init 18 = .ok (.putfield 15, 3) := by decide +kernel
theorem dX4_init_21 : decode cX4_init 21 = .ok (.aload_n 0, 1) := by decide +kernel
theorem dX4_init_22 : decode cX4_init 22 = .ok (.bipush 64, 2) := by decide +kernel
theorem dX4_init_24 : decode cX4_init 24 = .ok (.newarray .int, 2) := by decide +kernel
theorem dX4_init_26 : decode cX4_init 26 = .ok (.putfield 18, 3) := by decide +kernel
theorem dX4_init_29 : decode cX4_init 29 = .ok (.aload_n 0, 1) := by decide +kernel
theorem dX4_init_30 : decode cX4_init 30 = .ok (.bipush 64, 2) := by decide +kernel
theorem dX4_init_32 : decode cX4_init 32 = .ok (.newarray .int, 2) := by decide +kernel
theorem dX4_init_34 : decode cX4_init 34 = .ok (.putfield 21, 3) := by decide +kernel
theorem dX4_init_37 : decode cX4_init 37 = .ok (.aload_n 0, 1) := by decide +kernel
theorem dX4_init_38 : decode cX4_init 38 = .ok (.bipush 18, 2) := by decide +kernel
theorem dX4_init_40 : decode cX4_init 40 = .ok (.newarray .int, 2) := by decide +kernel
theorem dX4_init_42 : decode cX4_init 42 = .ok (.putfield 24, 3) := by decide +kernel
theorem dX4_init_45 : decode cX4_init 45 = .ok (.aload_n 0, 1) := by decide +kernel
theorem dX4_init_46 : decode cX4_init 46 = .ok (.bipush 18, 2) := by decide +kernel
theorem dX4_init_48 : decode cX4_init 48 = .ok (.newarray .int, 2) := by decide +kernel
theorem dX4_init_50 : decode cX4_init 50 = .ok (.putfield 27, 3) := by decide +kernel
theorem dX4_init_53 : decode cX4_init 53 = .ok (.aload_n 0, 1) := by decide +kernel
theorem dX4_init_54 : decode cX4_init 54 = .ok (.iconst 0, 1) := by decide +kernel
theorem dX4_init_55 : decode cX4_init 55 = .ok (.putfield 30, 3) := by decide +kernel
theorem dX4_init_58 : decode cX4_init 58 = .ok (.aload_n 0, 1) := by decide +kernel
theorem dX4_init_59 : decode cX4_init 59 = .ok (.iconst 0, 1) := by decide +kernel
theorem dX4_init_60 : decode cX4_init 60 = .ok (.putfield 34, 3) := by decide +kernel
theorem dX4_init_63 : decode cX4_init 63 = .ok (.iconst 1, 1) := by decide +kernel
theorem dX4_init_64 : decode cX4_init 64 = .ok (.istore_n 1, 1) := by decide +kernel
theorem dX4_init_65 : decode cX4_init 65 = .ok (.iload_n 1, 1) := by decide +kernel
theorem dX4_init_66 : decode cX4_init 66 = .ok (.bipush 64, 2) := by decide +kernel
theorem dX4_init_68 : decode cX4_init 68 = .ok (.if_icmp .ge 45, 3) := by decide +kernel
theorem dX4_init_71 : decode cX4_init 71 = .ok (.iconst 0, 1) := by decide +kernel
theorem dX4_init_72 : decode cX4_init 72 = .ok (.istore_n 2, 1) := by decide +kernel
theorem dX4_init_73 : decode cX4_init 73 = .ok (.iload_n 2, 1) := by decide +kernel
theorem dX4_init_74 : decode cX4_init 74 = .ok (.bipush 6, 2) := by decide +kernel
theorem dX4_init_76 : decode cX4_init 76 = .ok (.if_icmp .ge 31, 3) := by decide +kernel
theorem dX4_init_79 : decode cX4_init 79 = .ok (.iload_n 1, 1) := by decide +kernel
theorem dX4_init_80 : decode cX4_init 80 = .ok (.iconst 1, 1) := by decide +kernel
theorem dX4_init_81 : decode cX4_init 81 = .ok (.iload_n 2, 1) := by decide +kernel
theorem dX4_init_82 : decode cX4_init 82 = .ok (.ishl, 1) := by decide +kernel
theorem dX4_init_83 : decode cX4_init 83 = .ok (.iand, 1) := by decide +kernel
theorem dX4_init_84 : decode cX4_init 84 = .ok (.ifCond .eq 17, 3) := by decide +kernel
theorem dX4_init_87 : decode cX4_init 87 = .ok (.aload_n 0, 1) := by decide +kernel
theorem dX4_init_88 : decode cX4_init 88 = .ok (.getfield 15, 3) := by decide +kernel
theorem dX4_init_91 : decode cX4_init 91 = .ok (.iload_n 1, 1) := by decide +kernel
theorem dX4_init_92 : decode cX4_init 92 = .ok (.dup2, 1) := by decide +kernel
theorem dX4_init_93 : decode cX4_init 93 = .ok (.iaload, 1) := by decide +kernel
theorem dX4_init_94 : decode cX4_init 94 = .ok (.iconst 1, 1) := by decide +kernel
theorem dX4_init_95 : decode cX4_init 95 = .ok (.iconst 2, 1) := by decide +kernel
theorem dX4_init_96 : decode cX4_init 96 = .ok (.iload_n 2, 1) := by decide +kernel
theorem dX4_init_97 : decode cX4_init 97 = .ok (.imul, 1) := by decide +kernel
theorem dX4_init_98 : decode cX4_init 98 = .ok (.ishl, 1) := by decide +kernel
theorem dX4_init_99 : decode cX4_init 99 = .ok (.iadd, 1) := by decide +kernel
theorem dX4_init_100 : decode cX4_init 100 = .ok (.iastore, 1) := by decide +kernel
theorem dX4_init_101 : decode cX4_init 101 = .ok (.iinc 2 1, 3) := by decide +kernel
theorem dX4_init_104 : decode cX4_init 104 = .ok (.goto (-31), 3) := by decide +kernel
theorem dX4_init_107 : decode cX4_init 107 = .ok (.iinc 1 1, 3) := by decide +kernel
theorem dX4_init_110 : decode cX4_init 110 = .ok (.goto (-45), 3) := by decide +kernel
theorem dX4_init_113 : decode cX4_init 113 = .ok (.return_, 1) := by decide +kernel
theorem dX4_search_0 : decode cX4_search 0 = .ok (.aload_n 1, 1) := by decide +kernel
theorem dX4_search_1 : decode cX4_search 1 = .ok (.invokestatic 38, 3) := by decide +kernel
theorem dX4_search_4 : decode cX4_search 4 = .ok (.istore_n 3, 1) := by decide +kernel
theorem dX4_search_5 : decode cX4_search 5 = .ok (.aload_n 0, 1) := by decide +kernel
theorem dX4_search_6 : decode cX4_search 6 = .ok (.getfield 11, 3) := by decide +kernel
theorem dX4_search_9 : decode cX4_search 9 = .ok (.iload_n 3, 1) := by decide +kernel
theorem dX4_search_10 : decode cX4_search 10 = .ok (.iconst 0, 1) := by decide +kernel
theorem dX4_search_11 : decode cX4_search 11 = .ok (.iastore, 1) := by decide +kernel
theorem dX4_search_12 : decode cX4_search 12 = .ok (.iload_n 3, 1) := by decide +kernel
theorem dX4_search_13 : decode cX4_search 13 = .ok (.iconst 1, 1) := by decide +kernel
theorem dX4_search_14 : decode cX4_search 14 = .ok (.isub, 1) := by decide +kernel
theorem dX4_search_15 : decode cX4_search 15 = .ok (.istore 4, 2) := by decide +kernel
theorem dX4_search_17 : decode cX4_search 17 = .ok (.iload 4, 2) := by decide +kernel
theorem dX4_search_19 : decode cX4_search 19 = .ok (.ifCond .lt 66, 3) := by decide +kernel
theorem dX4_search_22 : decode cX4_search 22 = .ok (.iload 4, 2) := by decide +kernel
theorem dX4_search_24 : decode cX4_search 24 = .ok (.aload_n 1, 1) := by decide +kernel
theorem dX4_search_25 : decode cX4_search 25 = .ok (.invokestatic 42, 3) := by decide +kernel
theorem dX4_search_28 : decode cX4_search 28 = .ok (.ifCond .eq 14, 3) := by decide +kernel
theorem dX4_search_31 : decode cX4_search 31 = .ok (.aload_n 0, 1) := by decide +kernel
theorem dX4_search_32 : decode cX4_search 32 = .ok (.iload 4, 2) := by decide +kernel
theorem dX4_search_34 : decode cX4_search 34 = .ok (.aload_n 1, 1) := by decide +kernel
theorem dX4_search_35 : decode cX4_search 35 = .ok (.aload_n 2, 1) := by decide +kernel
theorem dX4_search_36 : decode cX4_search 36 = .ok (.invokevirtual 46, 3) := by decide +kernel
theorem dX4_search_39 : decode cX4_search 39 = .ok (.goto 4, 3) := by decide +kernel
theorem dX4_search_42 : decode cX4_search 42 = .ok (.iconst 0, 1) := by decide +kernel
theorem dX4_search_43 : decode cX4_search 43 = .ok (.istore 5, 2) := by decide +kernel
theorem dX4_search_45 : decode cX4_search 45 = .ok (.aload_n 0, 1) := by decide +kernel
theorem dX4_search_46 : decode cX4_search 46 = .ok (.getfield 11, 3) := by decide +kernel
theorem dX4_search_49 : decode cX4_search 49 = .ok (.iload 4, 2) := by decide +kernel
theorem dX4_search_51 : decode cX4_search 51 = .ok (.iload 5, 2) := by decide +kernel
theorem dX4_search_53 : decode cX4_search 53 = .ok (.ifCond .ne 8, 3) := by decide +kernel
theorem dX4_search_56 : decode cX4_search 56 = .ok (.bipush 19, 2) := by decide +kernel
theorem dX4_search_58 : decode cX4_search 58 = .ok (.goto 20, 3) := by decide +kernel
theorem dX4_search_61 : decode cX4_search 61 = .ok (.aload_n 0, 1) := by decide +kernel
theorem dX4_search_62 : decode cX4_search 62 = .ok (.getfield 11, 3) := by decide +kernel
theorem dX4_search_65 : decode cX4_search 65 = .ok (.iload 4, 2) := by decide +kernel
theorem dX4_search_67 : decode cX4_search 67 = .ok (.aload_n 0, 1) := by decide +kernel
theorem dX4_search_68 : decode cX4_search 68 = .ok (.getfield 15, 3) := by decide +kernel
theorem dX4_search_71 : decode cX4_search 71 = .ok (.iload 5, 2) := by decide +kernel
theorem dX4_search_73 : decode cX4_search 73 = .ok (.iaload, 1) := by decide +kernel
theorem dX4_search_74 : decode cX4_search 74 = .ok (.iadd, 1) := by decide +kernel
theorem dX4_search_75 : decode cX4_search 75 = .ok (.iaload, 1) := by decide +kernel
theorem dX4_search_76 : decode cX4_search 76 = .ok (.iconst 1, 1) := by decide +kernel
theorem dX4_search_77 : decode cX4_search 77 = .ok (.iadd, 1) := by decide +kernel
theorem dX4_search_78 : decode cX4_search 78 = .ok (.iastore, 1) := by decide +kernel
theorem dX4_search_79 : decode cX4_search 79 = .ok (.iinc 4 (-1), 3) := by decide +kernel
theorem dX4_search_82 : decode cX4_search 82 = .ok (.goto (-65), 3) := by decide +kernel
theorem dX4_search_85 : decode cX4_search 85 = .ok (.aload_n 0, 1) := by decide +kernel
theorem dX4_search_86 : decode cX4_search 86 = .ok (.aload_n 0, 1) := by decide +kernel
theorem dX4_search_87 : decode cX4_search 87 = .ok (.getfield 11, 3) := by decide +kernel
theorem dX4_search_90 : decode cX4_search 90 = .ok (.iconst 0, 1) := by decide +kernel
theorem dX4_search_91 : decode cX4_search 91 = .ok (.iaload, 1) := by decide +kernel
theorem dX4_search_92 : decode cX4_search 92 = .ok (.bipush 19, 2) := by decide +kernel
theorem dX4_search_94 : decode cX4_search 94 = .ok (.if_icmp .ge 7, 3) := by decide +kernel
theorem dX4_search_97 : decode cX4_search 97 = .ok (.iconst 1, 1) := by decide +kernel
theorem dX4_search_98 : decode cX4_search 98 = .ok (.goto 4, 3) := by decide +kernel
theorem dX4_search_101 : decode cX4_search 101 = .ok (.iconst 0, 1) := by decide +kernel
theorem dX4_search_102 : decode cX4_search 102 = .ok (.putfield 34, 3) := by decide +kernel
theorem dX4_search_105 : decode cX4_search 105 = .ok (.aload_n 0, 1) := by decide +kernel
theorem dX4_search_106 : decode cX4_search 106 = .ok (.aload_n 0, 1) := by decide +kernel
theorem dX4_search_107 : decode cX4_search 107 = .ok (.getfield 34, 3) := by decide +kernel
theorem dX4_search_110 : decode cX4_search 110 = .ok (.ifCond .eq 12, 3) := by decide +kernel
theorem dX4_search_113 : decode cX4_search 113 = .ok (.aload_n 0, 1) := by decide +kernel
theorem dX4_search_114 : decode cX4_search 114 = .ok (.getfield 11, 3) := by decide +kernel
theorem dX4_search_117 : decode cX4_search 117 = .ok (.iconst 0, 1) := by decide +kernel
theorem dX4_search_118 : decode cX4_search 118 = .ok (.iaload, 1) := by decide +kernel
theorem dX4_search_119 : decode cX4_search 119 = .ok (.goto 4, 3) := by decide +kernel
theorem dX4_search_122 : decode cX4_search 122 = .ok (.iconst 0, 1) := by decide +kernel
theorem dX4_search_123 : decode cX4_search 123 = .ok (.putfield 30, 3) := by decide +kernel
theorem dX4_search_126 : decode cX4_search 126 = .ok (.iconst 0, 1) := by decide +kernel
theorem dX4_search_127 : decode cX4_search 127 = .ok (.istore 4, 2) := by decide +kernel
theorem dX4_search_129 : decode cX4_search 129 = .ok (.iconst 0, 1) := by decide +kernel
theorem dX4_search_130 : decode cX4_search 130 = .ok (.istore 5, 2) := by decide +kernel
theorem dX4_search_132 : decode cX4_search 132 = .ok (.iload 5, 2) := by decide +kernel
theorem dX4_search_134 : decode cX4_search 134 = .ok (.aload_n 0, 1) := by decide +kernel
theorem dX4_search_135 : decode cX4_search 135 = .ok (.getfield 30, 3) := by decide +kernel
theorem dX4_search_138 : decode cX4_search 138 = .ok (.if_icmp .ge 60, 3) := by decide +kernel
theorem dX4_search_141 : decode cX4_search 141 = .ok (.aload_n 0, 1) := by decide +kernel
theorem dX4_search_142 : decode cX4_search 142 = .ok (.getfield 24, 3) := by decide +kernel
theorem dX4_search_145 : decode cX4_search 145 = .ok (.iload 5, 2) := by decide +kernel
theorem dX4_search_147 : decode cX4_search 147 = .ok (.aload_n 0, 1) := by decide +kernel
theorem dX4_search_148 : decode cX4_search 148 = .ok (.iload 4, 2) := by decide +kernel
theorem dX4_search_150 : decode cX4_search 150 = .ok (.aload_n 1, 1) := by decide +kernel
theorem dX4_search_151 : decode cX4_search 151 = .ok (.aload_n 2, 1) := by decide +kernel
theorem dX4_search_152 : decode cX4_search 152 = .ok (.invokevirtual 46, 3) := by decide +kernel
theorem dX4_search_155 : decode cX4_search 155 = .ok (.iastore, 1) := by decide +kernel
theorem dX4_search_156 : decode cX4_search 156 = .ok (.aload_n 0, 1) := by decide +kernel
theorem dX4_search_157 : decode cX4_search 157 = .ok (.getfield 27, 3) := by decide +kernel
theorem dX4_search_160 : decode cX4_search 160 = .ok (.iload 5, 2) := by decide +kernel
theorem dX4_search_162 : decode cX4_search 162 = .ok (.aload_n 0, 1) := by decide +kernel
theorem dX4_search_163 : decode cX4_search 163 = .ok (.getfield 18, 3) := by decide +kernel
theorem dX4_search_166 : decode cX4_search 166 = .ok (.aload_n 0, 1) := by decide +kernel
theorem dX4_search_167 : decode cX4_search 167 = .ok (.getfield 24, 3) := by decide +kernel
theorem dX4_search_170 : decode cX4_search 170 = .ok (.iload 5, 2) := by decide +kernel
theorem dX4_search_172 : decode cX4_search 172 = .ok (.iaload, 1) := by decide +kernel
theorem dX4_search_173 : decode cX4_search 173 = .ok (.iaload, 1) := by decide +kernel
theorem dX4_search_174 : decode cX4_search 174 = .ok (.iastore, 1) := by decide +kernel
theorem dX4_search_175 : decode cX4_search 175 = .ok (.iload 4, 2) := by decide +kernel
theorem dX4_search_177 : decode cX4_search 177 = .ok (.aload_n 0, 1) := by decide +kernel
theorem dX4_search_178 : decode cX4_search 178 = .ok (.getfield 15, 3) := by decide +kernel
theorem dX4_search_181 : decode cX4_search 181 = .ok (.aload_n 0, 1) := by decide +kernel
theorem dX4_search_182 : decode cX4_search 182 = .ok (.getfield 24, 3) := by decide +kernel
theorem dX4_search_185 : decode cX4_search 185 = .ok (.iload 5, 2) := by decide +kernel
theorem dX4_search_187 : decode cX4_search 187 = .ok (.iaload, 1) := by decide +kernel
theorem dX4_search_188 : decode cX4_search 188 = .ok (.iaload, 1) := by decide +kernel
theorem dX4_search_189 : decode cX4_search 189 = .ok (.iadd, 1) := by decide +kernel
theorem dX4_search_190 : decode cX4_search 190 = .ok (.istore 4, 2) := by decide +kernel
theorem dX4_search_192 : decode cX4_search 192 = .ok (.iinc 5 1, 3) := by decide +kernel
theorem dX4_search_195 : decode cX4_search 195 = .ok (.goto (-63), 3) := by decide +kernel
theorem dX4_search_198 : decode cX4_search 198 = .ok (.return_, 1) := by decide +kernel
theorem dX4_layersAt_0 : decode cX4_layersAt 0 = .ok (.iload_n 0, 1) := by decide +kernel
theorem dX4_layersAt_1 : decode cX4_layersAt 1 = .ok (.iconst 2, 1) := by decide +kernel
theorem dX4_layersAt_2 : decode cX4_layersAt 2 = .ok (.iload_n 1, 1) := by decide +kernel
theorem dX4_layersAt_3 : decode cX4_layersAt 3 = .ok (.imul, 1) := by decide +kernel
theorem dX4_layersAt_4 : decode cX4_layersAt 4 = .ok (.ishr, 1) := by decide +kernel
theorem dX4_layersAt_5 : decode cX4_layersAt 5 = .ok (.iconst 3, 1) := by decide +kernel
theorem dX4_layersAt_6 : decode cX4_layersAt 6 = .ok (.iand, 1) := by decide +kernel
theorem dX4_layersAt_7 : decode cX4_layersAt 7 = .ok (.ireturn, 1) := by decide +kernel
theorem dX4_lastStage_0 : decode cX4_lastStage 0 = .ok (.iconst 0, 1) := by decide +kernel
theorem dX4_lastStage_1 : decode cX4_lastStage 1 = .ok (.istore_n 1, 1) := by decide +kernel
theorem dX4_lastStage_2 : decode cX4_lastStage 2 = .ok (.iconst 0, 1) := by decide +kernel
theorem dX4_lastStage_3 : decode cX4_lastStage 3 = .ok (.istore_n 2, 1) := by decide +kernel
theorem dX4_lastStage_4 : decode cX4_lastStage 4 = .ok (.iload_n 2, 1) := by decide +kernel
theorem dX4_lastStage_5 : decode cX4_lastStage 5 = .ok (.bipush 6, 2) := by decide +kernel
theorem dX4_lastStage_7 : decode cX4_lastStage 7 = .ok (.if_icmp .ge 22, 3) := by decide +kernel
theorem dX4_lastStage_10 : decode cX4_lastStage 10 = .ok (.iload_n 1, 1) := by decide +kernel
theorem dX4_lastStage_11 : decode cX4_lastStage 11 = .ok (.aload_n 0, 1) := by decide +kernel
theorem dX4_lastStage_12 : decode cX4_lastStage 12 = .ok (.getfield 50, 3) := by decide +kernel
theorem dX4_lastStage_15 : decode cX4_lastStage 15 = .ok (.iload_n 2, 1) := by decide +kernel
theorem dX4_lastStage_16 : decode cX4_lastStage 16 = .ok (.iaload, 1) := by decide +kernel
theorem dX4_lastStage_17 : decode cX4_lastStage 17 = .ok (.iconst 2, 1) := by decide +kernel
theorem dX4_lastStage_18 : decode cX4_lastStage 18 = .ok (.iload_n 2, 1) := by decide +kernel
theorem dX4_lastStage_19 : decode cX4_lastStage 19 = .ok (.imul, 1) := by decide +kernel
theorem dX4_lastStage_20 : decode cX4_lastStage 20 = .ok (.ishl, 1) := by decide +kernel
theorem dX4_lastStage_21 : decode cX4_lastStage 21 = .ok (.ior, 1) := by decide +kernel
theorem dX4_lastStage_22 : decode cX4_lastStage 22 = .ok (.istore_n 1, 1) := by decide +kernel
theorem dX4_lastStage_23 : decode cX4_lastStage 23 = .ok (.iinc 2 1, 3) := by decide +kernel
theorem dX4_lastStage_26 : decode cX4_lastStage 26 = .ok (.goto (-22), 3) := by decide +kernel
theorem dX4_lastStage_29 : decode cX4_lastStage 29 = .ok (.iload_n 1, 1) := by decide +kernel
theorem dX4_lastStage_30 : decode cX4_lastStage 30 = .ok (.ireturn, 1) := by decide +kernel
theorem dX4_isStage_0 : decode cX4_isStage 0 = .ok (.iconst 0, 1) := by decide +kernel
theorem dX4_isStage_1 : decode cX4_isStage 1 = .ok (.istore_n 2, 1) := by decide +kernel
theorem dX4_isStage_2 : decode cX4_isStage 2 = .ok (.iload_n 2, 1) := by decide +kernel
theorem dX4_isStage_3 : decode cX4_isStage 3 = .ok (.bipush 6, 2) := by decide +kernel
theorem dX4_isStage_5 : decode cX4_isStage 5 = .ok (.if_icmp .ge 25, 3) := by decide +kernel
theorem dX4_isStage_8 : decode cX4_isStage 8 = .ok (.iload_n 0, 1) := by decide +kernel
theorem dX4_isStage_9 : decode cX4_isStage 9 = .ok (.iload_n 2, 1) := by decide +kernel
theorem dX4_isStage_10 : decode cX4_isStage 10 = .ok (.invokestatic 55, 3) := by decide +kernel
theorem dX4_isStage_13 : decode cX4_isStage 13 = .ok (.aload_n 1, 1) := by decide +kernel
theorem dX4_isStage_14 : decode cX4_isStage 14 = .ok (.getfield 50, 3) := by decide +kernel
theorem dX4_isStage_17 : decode cX4_isStage 17 = .ok (.iload_n 2, 1) := by decide +kernel
theorem dX4_isStage_18 : decode cX4_isStage 18 = .ok (.iaload, 1) := by decide +kernel
theorem dX4_isStage_19 : decode cX4_isStage 19 = .ok (.if_icmp .le 5, 3) := by decide +kernel
theorem dX4_isStage_22 : decode cX4_isStage 22 = .ok (.iconst 0, 1) := by decide +kernel
theorem dX4_isStage_23 : decode cX4_isStage 23 = .ok (.ireturn, 1) := by decide +kernel
theorem dX4_isStage_24 : decode cX4_isStage 24 = .ok (.iinc 2 1, 3) := by decide +kernel
theorem dX4_isStage_27 : decode cX4_isStage 27 = .ok (.goto (-25), 3) := by decide +kernel
theorem dX4_isStage_30 : decode cX4_isStage 30 = .ok (.iconst 1, 1) := by decide +kernel
theorem dX4_isStage_31 : decode cX4_isStage 31 = .ok (.ireturn, 1) := by decide +kernel
theorem dX4_bestSet_0 : decode cX4_bestSet 0 = .ok (.aload_n 0, 1) := by decide +kernel
theorem dX4_bestSet_1 : decode cX4_bestSet 1 = .ok (.iload_n 1, 1) := by decide +kernel
theorem dX4_bestSet_2 : decode cX4_bestSet 2 = .ok (.aload_n 2, 1) := by decide +kernel
theorem dX4_bestSet_3 : decode cX4_bestSet 3 = .ok (.aload_n 3, 1) := by decide +kernel
theorem dX4_bestSet_4 : decode cX4_bestSet 4 = .ok (.invokevirtual 59, 3) := by decide +kernel
theorem dX4_bestSet_7 : decode cX4_bestSet 7 = .ok (.istore 4, 2) := by decide +kernel
theorem dX4_bestSet_9 : decode cX4_bestSet 9 = .ok (.aload_n 0, 1) := by decide +kernel
theorem dX4_bestSet_10 : decode cX4_bestSet 10 = .ok (.getfield 18, 3) := by decide +kernel
theorem dX4_bestSet_13 : decode cX4_bestSet 13 = .ok (.iconst 0, 1) := by decide +kernel
theorem dX4_bestSet_14 : decode cX4_bestSet 14 = .ok (.iconst 0, 1) := by decide +kernel
theorem dX4_bestSet_15 : decode cX4_bestSet 15 = .ok (.iastore, 1) := by decide +kernel
theorem dX4_bestSet_16 : decode cX4_bestSet 16 = .ok (.aload_n 0, 1) := by decide +kernel
theorem dX4_bestSet_17 : decode cX4_bestSet 17 = .ok (.getfield 21, 3) := by decide +kernel
theorem dX4_bestSet_20 : decode cX4_bestSet 20 = .ok (.iconst 0, 1) := by decide +kernel
theorem dX4_bestSet_21 : decode cX4_bestSet 21 = .ok (.iload_n 1, 1) := by decide +kernel
theorem dX4_bestSet_22 : decode cX4_bestSet 22 = .ok (.aload_n 2, 1) := by decide +kernel
theorem dX4_bestSet_23 : decode cX4_bestSet 23 = .ok (.aload_n 3, 1) := by decide +kernel
theorem dX4_bestSet_24 : decode cX4_bestSet 24 = .ok (.invokestatic 62, 3) := by decide +kernel
theorem dX4_bestSet_27 : decode cX4_bestSet 27 = .ok (.iastore, 1) := by decide +kernel
theorem dX4_bestSet_28 : decode cX4_bestSet 28 = .ok (.iconst 0, 1) := by decide +kernel
theorem dX4_bestSet_29 : decode cX4_bestSet 29 = .ok (.istore 5, 2) := by decide +kernel
theorem dX4_bestSet_31 : decode cX4_bestSet 31 = .ok (.bipush 19, 2) := by decide +kernel
theorem dX4_bestSet_33 : decode cX4_bestSet 33 = .ok (.istore 6, 2) := by decide +kernel
theorem dX4_bestSet_35 : decode cX4_bestSet 35 = .ok (.iconst 1, 1) := by decide +kernel
theorem dX4_bestSet_36 : decode cX4_bestSet 36 = .ok (.istore 7, 2) := by decide +kernel
theorem dX4_bestSet_38 : decode cX4_bestSet 38 = .ok (.iload 7, 2) := by decide +kernel
theorem dX4_bestSet_40 : decode cX4_bestSet 40 = .ok (.bipush 64, 2) := by decide +kernel
theorem dX4_bestSet_42 : decode cX4_bestSet 42 = .ok (.if_icmp .ge 142, 3) := by decide +kernel
theorem dX4_bestSet_45 : decode cX4_bestSet 45 = .ok (.iload 7, 2) := by decide +kernel
theorem dX4_bestSet_47 : decode cX4_bestSet 47 = .ok (.iload 4, 2) := by decide +kernel
theorem dX4_bestSet_49 : decode cX4_bestSet 49 = .ok (.iconst (-1), 1) := by decide +kernel
theorem dX4_bestSet_50 : decode cX4_bestSet 50 = .ok (.ixor, 1) := by decide +kernel
theorem dX4_bestSet_51 : decode cX4_bestSet 51 = .ok (.iand, 1) := by decide +kernel
theorem dX4_bestSet_52 : decode cX4_bestSet 52 = .ok (.ifCond .eq 6, 3) := by decide +kernel
theorem dX4_bestSet_55 : decode cX4_bestSet 55 = .ok (.goto 123, 3) := by decide +kernel
theorem dX4_bestSet_58 : decode cX4_bestSet 58 = .ok (.iload 7, 2) := by decide +kernel
theorem dX4_bestSet_60 : decode cX4_bestSet 60 = .ok (.iload 7, 2) := by decide +kernel
theorem dX4_bestSet_62 : decode cX4_bestSet 62 = .ok (.iconst 1, 1) := by decide +kernel
theorem dX4_bestSet_63 : decode cX4_bestSet 63 = .ok (.isub, 1) := by decide +kernel
theorem dX4_bestSet_64 : decode cX4_bestSet 64 = .ok (.iand, 1) := by decide +kernel
theorem dX4_bestSet_65 : decode cX4_bestSet 65 = .ok (.istore 8, 2) := by decide +kernel
theorem dX4_bestSet_67 : decode cX4_bestSet 67 = .ok (.iload 7, 2) := by decide +kernel
theorem dX4_bestSet_69 : decode cX4_bestSet 69 = .ok (.iload 8, 2) := by decide +kernel
theorem dX4_bestSet_71 : decode cX4_bestSet 71 = .ok (.ixor, 1) := by decide +kernel
theorem dX4_bestSet_72 : decode cX4_bestSet 72 = .ok (.istore 9, 2) := by decide +kernel
theorem dX4_bestSet_74 : decode cX4_bestSet 74 = .ok (.aload_n 0, 1) := by decide +kernel
theorem dX4_bestSet_75 : decode cX4_bestSet 75 = .ok (.getfield 18, 3) := by decide +kernel
theorem dX4_bestSet_78 : decode cX4_bestSet 78 = .ok (.iload 7, 2) := by decide +kernel
theorem dX4_bestSet_80 : decode cX4_bestSet 80 = .ok (.aload_n 0, 1) := by decide +kernel
theorem dX4_bestSet_81 : decode cX4_bestSet 81 = .ok (.getfield 18, 3) := by decide +kernel
theorem dX4_bestSet_84 : decode cX4_bestSet 84 = .ok (.iload 8, 2) := by decide +kernel
theorem dX4_bestSet_86 : decode cX4_bestSet 86 = .ok (.iaload, 1) := by decide +kernel
theorem dX4_bestSet_87 : decode cX4_bestSet 87 = .ok (.aload_n 0, 1) := by decide +kernel
theorem dX4_bestSet_88 : decode cX4_bestSet 88 = .ok (.getfield 18, 3) := by decide +kernel
theorem dX4_bestSet_91 : decode cX4_bestSet 91 = .ok (.iload 9, 2) := by decide +kernel
theorem dX4_bestSet_93 : decode cX4_bestSet 93 = .ok (.iaload, 1) := by decide +kernel
theorem dX4_bestSet_94 : decode cX4_bestSet 94 = .ok (.invokestatic 65, 3) := by decide +kernel
theorem dX4_bestSet_97 : decode cX4_bestSet 97 = .ok (.iastore, 1) := by decide +kernel
theorem dX4_bestSet_98 : decode cX4_bestSet 98 = .ok (.aload_n 0, 1) := by decide +kernel
theorem dX4_bestSet_99 : decode cX4_bestSet 99 = .ok (.getfield 21, 3) := by decide +kernel
theorem dX4_bestSet_102 : decode cX4_bestSet 102 = .ok (.iload 7, 2) := by decide +kernel
theorem dX4_bestSet_104 : decode cX4_bestSet 104 = .ok (.aload_n 0, 1) := by decide +kernel
theorem dX4_bestSet_105 : decode cX4_bestSet 105 = .ok (.getfield 21, 3) := by decide +kernel
theorem dX4_bestSet_108 : decode cX4_bestSet 108 = .ok (.iload 8, 2) := by decide +kernel
theorem dX4_bestSet_110 : decode cX4_bestSet 110 = .ok (.iaload, 1) := by decide +kernel
theorem dX4_bestSet_111 : decode cX4_bestSet 111 = .ok (.aload_n 0, 1) := by decide +kernel
theorem dX4_bestSet_112 : decode cX4_bestSet 112 = .ok (.getfield 21, 3) := by decide +kernel
theorem dX4_bestSet_115 : decode cX4_bestSet 115 = .ok (.iload 9, 2) := by decide +kernel
theorem dX4_bestSet_117 : decode cX4_bestSet 117 = .ok (.iaload, 1) := by decide +kernel
theorem dX4_bestSet_118 : decode cX4_bestSet 118 = .ok (.invokestatic 70, 3) := by decide +kernel
theorem dX4_bestSet_121 : decode cX4_bestSet 121 = .ok (.iastore, 1) := by decide +kernel
theorem dX4_bestSet_122 : decode cX4_bestSet 122 = .ok (.aload_n 0, 1) := by decide +kernel
theorem dX4_bestSet_123 : decode cX4_bestSet 123 = .ok (.getfield 18, 3) := by decide +kernel
theorem dX4_bestSet_126 : decode cX4_bestSet 126 = .ok (.iload 7, 2) := by decide +kernel
theorem dX4_bestSet_128 : decode cX4_bestSet 128 = .ok (.iaload, 1) := by decide +kernel
theorem dX4_bestSet_129 : decode cX4_bestSet 129 = .ok (.aload_n 0, 1) := by decide +kernel
theorem dX4_bestSet_130 : decode cX4_bestSet 130 = .ok (.getfield 21, 3) := by decide +kernel
theorem dX4_bestSet_133 : decode cX4_bestSet 133 = .ok (.iload 7, 2) := by decide +kernel
theorem dX4_bestSet_135 : decode cX4_bestSet 135 = .ok (.iaload, 1) := by decide +kernel
theorem dX4_bestSet_136 : decode cX4_bestSet 136 = .ok (.if_icmp .gt 42, 3) := by decide +kernel
theorem dX4_bestSet_139 : decode cX4_bestSet 139 = .ok (.aload_n 0, 1) := by decide +kernel
theorem dX4_bestSet_140 : decode cX4_bestSet 140 = .ok (.getfield 11, 3) := by decide +kernel
theorem dX4_bestSet_143 : decode cX4_bestSet 143 = .ok (.iload_n 1, 1) := by decide +kernel
theorem dX4_bestSet_144 : decode cX4_bestSet 144 = .ok (.aload_n 0, 1) := by decide +kernel
theorem dX4_bestSet_145 : decode cX4_bestSet 145 = .ok (.getfield 15, 3) := by decide +kernel
theorem dX4_bestSet_148 : decode cX4_bestSet 148 = .ok (.iload 7, 2) := by decide +kernel
theorem dX4_bestSet_150 : decode cX4_bestSet 150 = .ok (.iaload, 1) := by decide +kernel
theorem dX4_bestSet_151 : decode cX4_bestSet 151 = .ok (.iadd, 1) := by decide +kernel
theorem dX4_bestSet_152 : decode cX4_bestSet 152 = .ok (.iaload, 1) := by decide +kernel
theorem dX4_bestSet_153 : decode cX4_bestSet 153 = .ok (.iload 6, 2) := by decide +kernel
theorem dX4_bestSet_155 : decode cX4_bestSet 155 = .ok (.if_icmp .ge 23, 3) := by decide +kernel
theorem dX4_bestSet_158 : decode cX4_bestSet 158 = .ok (.iload 7, 2) := by decide +kernel
theorem dX4_bestSet_160 : decode cX4_bestSet 160 = .ok (.istore 5, 2) := by decide +kernel
theorem dX4_bestSet_162 : decode cX4_bestSet 162 = .ok (.aload_n 0, 1) := by decide +kernel
theorem dX4_bestSet_163 : decode cX4_bestSet 163 = .ok (.getfield 11, 3) := by decide +kernel
theorem dX4_bestSet_166 : decode cX4_bestSet 166 = .ok (.iload_n 1, 1) := by decide +kernel
theorem dX4_bestSet_167 : decode cX4_bestSet 167 = .ok (.aload_n 0, 1) := by decide +kernel
theorem dX4_bestSet_168 : decode cX4_bestSet 168 = .ok (.getfield 15, 3) := by decide +kernel
theorem dX4_bestSet_171 : decode cX4_bestSet 171 = .ok (.iload 7, 2) := by decide +kernel
theorem dX4_bestSet_173 : decode cX4_bestSet 173 = .ok (.iaload, 1) := by decide +kernel
theorem dX4_bestSet_174 : decode cX4_bestSet 174 = .ok (.iadd, 1) := by decide +kernel
theorem dX4_bestSet_175 : decode cX4_bestSet 175 = .ok (.iaload, 1) := by decide +kernel
theorem dX4_bestSet_176 : decode cX4_bestSet 176 = .ok (.istore 6, 2) := by decide +kernel
theorem dX4_bestSet_178 : decode cX4_bestSet 178 = .ok (.iinc 7 1, 3) := by decide +kernel
theorem dX4_bestSet_181 : decode cX4_bestSet 181 = .ok (.goto (-143), 3) := by decide +kernel
theorem dX4_bestSet_184 : decode cX4_bestSet 184 = .ok (.iload 5, 2) := by decide +kernel
theorem dX4_bestSet_186 : decode cX4_bestSet 186 = .ok (.ireturn, 1) := by decide +kernel
theorem dX4_lookAtNext_0 : decode cX4_lookAtNext 0 = .ok (.iconst 0, 1) := by decide +kernel
theorem dX4_lookAtNext_1 : decode cX4_lookAtNext 1 = .ok (.istore 4, 2) := by decide +kernel
theorem dX4_lookAtNext_3 : decode cX4_lookAtNext 3 = .ok (.iconst 0, 1) := by decide +kernel
theorem dX4_lookAtNext_4 : decode cX4_lookAtNext 4 = .ok (.istore 5, 2) := by decide +kernel
theorem dX4_lookAtNext_6 : decode cX4_lookAtNext 6 = .ok (.iload 5, 2) := by decide +kernel
theorem dX4_lookAtNext_8 : decode cX4_lookAtNext 8 = .ok (.bipush 6, 2) := by decide +kernel
theorem dX4_lookAtNext_10 : decode cX4_lookAtNext 10 = .ok (.if_icmp .ge 84, 3) := by decide +kernel
theorem dX4_lookAtNext_13 : decode cX4_lookAtNext 13 = .ok (.iload_n 1, 1) := by decide +kernel
theorem dX4_lookAtNext_14 : decode cX4_lookAtNext 14 = .ok (.iload 5, 2) := by decide +kernel
theorem dX4_lookAtNext_16 : decode cX4_lookAtNext 16 = .ok (.invokestatic 55, 3) := by decide +kernel
theorem dX4_lookAtNext_19 : decode cX4_lookAtNext 19 = .ok (.istore 6, 2) := by decide +kernel
theorem dX4_lookAtNext_21 : decode cX4_lookAtNext 21 = .ok (.iload 6, 2) := by decide +kernel
theorem dX4_lookAtNext_23 : decode cX4_lookAtNext 23 = .ok (.aload_n 2, 1) := by decide +kernel
theorem dX4_lookAtNext_24 : decode cX4_lookAtNext 24 = .ok (.getfield 50, 3) := by decide +kernel
theorem dX4_lookAtNext_27 : decode cX4_lookAtNext 27 = .ok (.iload 5, 2) := by decide +kernel
theorem dX4_lookAtNext_29 : decode cX4_lookAtNext 29 = .ok (.iaload, 1) := by decide +kernel
theorem dX4_lookAtNext_30 : decode cX4_lookAtNext 30 = .ok (.if_icmp .ge 58, 3) := by decide +kernel
theorem dX4_lookAtNext_33 : decode cX4_lookAtNext 33 = .ok (.aload_n 2, 1) := by decide +kernel
theorem dX4_lookAtNext_34 : decode cX4_lookAtNext 34 = .ok (.getfield 73, 3) := by decide +kernel
theorem dX4_lookAtNext_37 : decode cX4_lookAtNext 37 = .ok (.iload 5, 2) := by decide +kernel
theorem dX4_lookAtNext_39 : decode cX4_lookAtNext 39 = .ok (.iload 6, 2) := by decide +kernel
theorem dX4_lookAtNext_41 : decode cX4_lookAtNext 41 = .ok (.invokestatic 76, 3) := by decide +kernel
theorem dX4_lookAtNext_44 : decode cX4_lookAtNext 44 = .ok (.iaload, 1) := by decide +kernel
theorem dX4_lookAtNext_45 : decode cX4_lookAtNext 45 = .ok (.istore 7, 2) := by decide +kernel
theorem dX4_lookAtNext_47 : decode cX4_lookAtNext 47 = .ok (.aload_n 0, 1) := by decide +kernel
theorem dX4_lookAtNext_48 : decode cX4_lookAtNext 48 = .ok (.getfield 18, 3) := by decide +kernel
theorem dX4_lookAtNext_51 : decode cX4_lookAtNext 51 = .ok (.iconst 1, 1) := by decide +kernel
theorem dX4_lookAtNext_52 : decode cX4_lookAtNext 52 = .ok (.iload 5, 2) := by decide +kernel
theorem dX4_lookAtNext_54 : decode cX4_lookAtNext 54 = .ok (.ishl, 1) := by decide +kernel
theorem dX4_lookAtNext_55 : decode cX4_lookAtNext 55 = .ok (.aload_n 3, 1) := by decide +kernel
theorem dX4_lookAtNext_56 : decode cX4_lookAtNext 56 = .ok (.getfield 79, 3) := by decide +kernel
theorem dX4_lookAtNext_59 : decode cX4_lookAtNext 59 = .ok (.iload 7, 2) := by decide +kernel
theorem dX4_lookAtNext_61 : decode cX4_lookAtNext 61 = .ok (.iaload, 1) := by decide +kernel
theorem dX4_lookAtNext_62 : decode cX4_lookAtNext 62 = .ok (.iastore, 1) := by decide +kernel
theorem dX4_lookAtNext_63 : decode cX4_lookAtNext 63 = .ok (.aload_n 0, 1) := by decide +kernel
theorem dX4_lookAtNext_64 : decode cX4_lookAtNext 64 = .ok (.getfield 21, 3) := by decide +kernel
theorem dX4_lookAtNext_67 : decode cX4_lookAtNext 67 = .ok (.iconst 1, 1) := by decide +kernel
theorem dX4_lookAtNext_68 : decode cX4_lookAtNext 68 = .ok (.iload 5, 2) := by decide +kernel
theorem dX4_lookAtNext_70 : decode cX4_lookAtNext 70 = .ok (.ishl, 1) := by decide +kernel
theorem dX4_lookAtNext_71 : decode cX4_lookAtNext 71 = .ok (.aload_n 3, 1) := by decide +kernel
theorem dX4_lookAtNext_72 : decode cX4_lookAtNext 72 = .ok (.getfield 84, 3) := by decide +kernel
theorem dX4_lookAtNext_75 : decode cX4_lookAtNext 75 = .ok (.iload 7, 2) := by decide +kernel
theorem dX4_lookAtNext_77 : decode cX4_lookAtNext 77 = .ok (.iaload, 1) := by decide +kernel
theorem dX4_lookAtNext_78 : decode cX4_lookAtNext 78 = .ok (.iastore, 1) := by decide +kernel
theorem dX4_lookAtNext_79 : decode cX4_lookAtNext 79 = .ok (.iload 4, 2) := by decide +kernel
theorem dX4_lookAtNext_81 : decode cX4_lookAtNext 81 = .ok (.iconst 1, 1) := by decide +kernel
theorem dX4_lookAtNext_82 : decode cX4_lookAtNext 82 = .ok (.iload 5, 2) := by decide +kernel
theorem dX4_lookAtNext_84 : decode cX4_lookAtNext 84 = .ok (.ishl, 1) := by decide +kernel
theorem dX4_lookAtNext_85 : decode cX4_lookAtNext 85 = .ok (.ior, 1) := by decide +kernel
theorem dX4_lookAtNext_86 : decode cX4_lookAtNext 86 = .ok (.istore 4, 2) := by decide +kernel
theorem dX4_lookAtNext_88 : decode cX4_lookAtNext 88 = .ok (.iinc 5 1, 3) := by decide +kernel
theorem dX4_lookAtNext_91 : decode cX4_lookAtNext 91 = .ok (.goto (-85), 3) := by decide +kernel
theorem dX4_lookAtNext_94 : decode cX4_lookAtNext 94 = .ok (.iload 4, 2) := by decide +kernel
theorem dX4_lookAtNext_96 : decode cX4_lookAtNext 96 = .ok (.ireturn, 1) := by decide +kernel
theorem dX4_burningOfPut_0 : decode cX4_burningOfPut 0 = .ok (.sipush 1200, 3) := by decide +kernel
theorem dX4_burningOfPut_3 : decode cX4_burningOfPut 3 = .ok (.istore_n 3, 1) := by decide +kernel
theorem dX4_burningOfPut_4 : decode cX4_burningOfPut 4 = .ok (.iconst 0, 1) := by decide +kernel
theorem dX4_burningOfPut_5 : decode cX4_burningOfPut 5 = .ok (.istore 4, 2) := by decide +kernel
theorem dX4_burningOfPut_7 : decode cX4_burningOfPut 7 = .ok (.iload 4, 2) := by decide +kernel
theorem dX4_burningOfPut_9 : decode cX4_burningOfPut 9 = .ok (.bipush 6, 2) := by decide +kernel
theorem dX4_burningOfPut_11 : decode cX4_burningOfPut 11 = .ok (.if_icmp .ge 55, 3) := by decide +kernel
theorem dX4_burningOfPut_14 : decode cX4_burningOfPut 14 = .ok (.iconst 0, 1) := by decide +kernel
theorem dX4_burningOfPut_15 : decode cX4_burningOfPut 15 = .ok (.istore 5, 2) := by decide +kernel
theorem dX4_burningOfPut_17 : decode cX4_burningOfPut 17 = .ok (.iload 5, 2) := by decide +kernel
theorem dX4_burningOfPut_19 : decode cX4_burningOfPut 19 = .ok (.iload_n 0, 1) := by decide +kernel
theorem dX4_burningOfPut_20 : decode cX4_burningOfPut 20 = .ok (.iload 4, 2) := by decide +kernel
theorem dX4_burningOfPut_22 : decode cX4_burningOfPut 22 = .ok (.invokestatic 55, 3) := by decide +kernel
theorem dX4_burningOfPut_25 : decode cX4_burningOfPut 25 = .ok (.if_icmp .ge 35, 3) := by decide +kernel
theorem dX4_burningOfPut_28 : decode cX4_burningOfPut 28 = .ok (.aload_n 1, 1) := by decide +kernel
theorem dX4_burningOfPut_29 : decode cX4_burningOfPut 29 = .ok (.getfield 73, 3) := by decide +kernel
theorem dX4_burningOfPut_32 : decode cX4_burningOfPut 32 = .ok (.iload 4, 2) := by decide +kernel
theorem dX4_burningOfPut_34 : decode cX4_burningOfPut 34 = .ok (.iload 5, 2) := by decide +kernel
theorem dX4_burningOfPut_36 : decode cX4_burningOfPut 36 = .ok (.invokestatic 76, 3) := by decide +kernel
theorem dX4_burningOfPut_39 : decode cX4_burningOfPut 39 = .ok (.iaload, 1) := by decide +kernel
theorem dX4_burningOfPut_40 : decode cX4_burningOfPut 40 = .ok (.istore 6, 2) := by decide +kernel
theorem dX4_burningOfPut_42 : decode cX4_burningOfPut 42 = .ok (.iload_n 3, 1) := by decide +kernel
theorem dX4_burningOfPut_43 : decode cX4_burningOfPut 43 = .ok (.aload_n 2, 1) := by decide +kernel
theorem dX4_burningOfPut_44 : decode cX4_burningOfPut 44 = .ok (.getfield 84, 3) := by decide +kernel
theorem dX4_burningOfPut_47 : decode cX4_burningOfPut 47 = .ok (.iload 6, 2) := by decide +kernel
theorem dX4_burningOfPut_49 : decode cX4_burningOfPut 49 = .ok (.iaload, 1) := by decide +kernel
theorem dX4_burningOfPut_50 : decode cX4_burningOfPut 50 = .ok (.invokestatic 70, 3) := by decide +kernel
theorem dX4_burningOfPut_53 : decode cX4_burningOfPut 53 = .ok (.istore_n 3, 1) := by decide +kernel
theorem dX4_burningOfPut_54 : decode cX4_burningOfPut 54 = .ok (.iinc 5 1, 3) := by decide +kernel
theorem dX4_burningOfPut_57 : decode cX4_burningOfPut 57 = .ok (.goto (-40), 3) := by decide +kernel
theorem dX4_burningOfPut_60 : decode cX4_burningOfPut 60 = .ok (.iinc 4 1, 3) := by decide +kernel
theorem dX4_burningOfPut_63 : decode cX4_burningOfPut 63 = .ok (.goto (-56), 3) := by decide +kernel
theorem dX4_burningOfPut_66 : decode cX4_burningOfPut 66 = .ok (.iload_n 3, 1) := by decide +kernel
theorem dX4_burningOfPut_67 : decode cX4_burningOfPut 67 = .ok (.ireturn, 1) := by decide +kernel
theorem dX5_init_0 : decode cX5_init 0 = .ok (.aload_n 0, 1) := by decide +kernel
theorem dX5_init_1 : decode cX5_init 1 = .ok (.invokespecial 3, 3) := by decide +kernel
theorem dX5_init_4 : decode cX5_init 4 = .ok (.aload_n 0, 1) := by decide +kernel
theorem dX5_init_5 : decode cX5_init 5 = .ok (.bipush 7, 2) := by decide +kernel
theorem dX5_init_7 : decode cX5_init 7 = .ok (.newarray .int, 2) := by decide +kernel
theorem dX5_init_9 : decode cX5_init 9 = .ok (.putfield 9, 3) := by decide +kernel
theorem dX5_init_12 : decode cX5_init 12 = .ok (.aload_n 0, 1) := by decide +kernel
theorem dX5_init_13 : decode cX5_init 13 = .ok (.bipush 21, 2) := by decide +kernel
theorem dX5_init_15 : decode cX5_init 15 = .ok (.newarray .int, 2) := by decide +kernel
theorem dX5_init_17 : decode cX5_init 17 = .ok (.putfield 15, 3) := by decide +kernel
theorem dX5_init_20 : decode cX5_init 20 = .ok (.aload_n 0, 1) := by decide +kernel
theorem dX5_init_21 : decode cX5_init 21 = .ok (.bipush 21, 2) := by decide +kernel
theorem dX5_init_23 : decode cX5_init 23 = .ok (.newarray .int, 2) := by decide +kernel
theorem dX5_init_25 : decode cX5_init 25 = .ok (.putfield 18, 3) := by decide +kernel
theorem dX5_init_28 : decode cX5_init 28 = .ok (.aload_n 0, 1) := by decide +kernel
theorem dX5_init_29 : decode cX5_init 29 = .ok (.bipush 21, 2) := by decide +kernel
theorem dX5_init_31 : decode cX5_init 31 = .ok (.newarray .int, 2) := by decide +kernel
theorem dX5_init_33 : decode cX5_init 33 = .ok (.putfield 21, 3) := by decide +kernel
theorem dX5_init_36 : decode cX5_init 36 = .ok (.aload_n 0, 1) := by decide +kernel
theorem dX5_init_37 : decode cX5_init 37 = .ok (.bipush 6, 2) := by decide +kernel
theorem dX5_init_39 : decode cX5_init 39 = .ok (.newarray .int, 2) := by decide +kernel
theorem dX5_init_41 : decode cX5_init 41 = .ok (.putfield 24, 3) := by decide +kernel
theorem dX5_init_44 : decode cX5_init 44 = .ok (.return_, 1) := by decide +kernel
theorem dX5_append_0 : decode cX5_append 0 = .ok (.aload_n 0, 1) := by decide +kernel
theorem dX5_append_1 : decode cX5_append 1 = .ok (.getfield 9, 3) := by decide +kernel
theorem dX5_append_4 : decode cX5_append 4 = .ok (.iload_n 1, 1) := by decide +kernel
theorem dX5_append_5 : decode cX5_append 5 = .ok (.iaload, 1) := by decide +kernel
theorem dX5_append_6 : decode cX5_append 6 = .ok (.istore_n 3, 1) := by decide +kernel
theorem dX5_append_7 : decode cX5_append 7 = .ok (.iload_n 1, 1) := by decide +kernel
theorem dX5_append_8 : decode cX5_append 8 = .ok (.iload_n 3, 1) := by decide +kernel
theorem dX5_append_9 : decode cX5_append 9 = .ok (.invokestatic 27, 3) := by decide +kernel
theorem dX5_append_12 : decode cX5_append 12 = .ok (.istore 4, 2) := by decide +kernel
theorem dX5_append_14 : decode cX5_append 14 = .ok (.aload_n 0, 1) := by decide +kernel
theorem dX5_append_15 : decode cX5_append 15 = .ok (.getfield 15, 3) := by decide +kernel
theorem dX5_append_18 : decode cX5_append 18 = .ok (.iload 4, 2) := by decide +kernel
theorem dX5_append_20 : decode cX5_append 20 = .ok (.iload_n 2, 1) := by decide +kernel
theorem dX5_append_21 : decode cX5_append 21 = .ok (.iastore, 1) := by decide +kernel
theorem dX5_append_22 : decode cX5_append 22 = .ok (.aload_n 0, 1) := by decide +kernel
theorem dX5_append_23 : decode cX5_append 23 = .ok (.getfield 18, 3) := by decide +kernel
theorem dX5_append_26 : decode cX5_append 26 = .ok (.iload 4, 2) := by decide +kernel
theorem dX5_append_28 : decode cX5_append 28 = .ok (.iconst 0, 1) := by decide +kernel
theorem dX5_append_29 : decode cX5_append 29 = .ok (.iastore, 1) := by decide +kernel
theorem dX5_append_30 : decode cX5_append 30 = .ok (.aload_n 0, 1) := by decide +kernel
theorem dX5_append_31 : decode cX5_append 31 = .ok (.getfield 21, 3) := by decide +kernel
theorem dX5_append_34 : decode cX5_append 34 = .ok (.iload 4, 2) := by decide +kernel
theorem dX5_append_36 : decode cX5_append 36 = .ok (.iconst 0, 1) := by decide +kernel
theorem dX5_append_37 : decode cX5_append 37 = .ok (.iastore, 1) := by decide +kernel
theorem dX5_append_38 : decode cX5_append 38 = .ok (.aload_n 0, 1) := by decide +kernel
theorem dX5_append_39 : decode cX5_append 39 = .ok (.getfield 9, 3) := by decide +kernel
theorem dX5_append_42 : decode cX5_append 42 = .ok (.iload_n 1, 1) := by decide +kernel
theorem dX5_append_43 : decode cX5_append 43 = .ok (.dup2, 1) := by decide +kernel
theorem dX5_append_44 : decode cX5_append 44 = .ok (.iaload, 1) := by decide +kernel
theorem dX5_append_45 : decode cX5_append 45 = .ok (.iconst 1, 1) := by decide +kernel
theorem dX5_append_46 : decode cX5_append 46 = .ok (.iadd, 1) := by decide +kernel
theorem dX5_append_47 : decode cX5_append 47 = .ok (.iastore, 1) := by decide +kernel
theorem dX5_append_48 : decode cX5_append 48 = .ok (.iload_n 3, 1) := by decide +kernel
theorem dX5_append_49 : decode cX5_append 49 = .ok (.ireturn, 1) := by decide +kernel
theorem dX5_removeOutermost_0 : decode cX5_removeOutermost 0 = .ok (.aload_n 0, 1) := by decide +kernel
theorem dX5_removeOutermost_1 : decode cX5_removeOutermost 1 = .ok (.getfield 9, 3) := by decide +kernel
theorem dX5_removeOutermost_4 : decode cX5_removeOutermost 4 = .ok (.iload_n 1, 1) := by decide +kernel
theorem dX5_removeOutermost_5 : decode cX5_removeOutermost 5 = .ok (.dup2, 1) := by decide +kernel
theorem dX5_removeOutermost_6 : decode cX5_removeOutermost 6 = .ok (.iaload, 1) := by decide +kernel
theorem dX5_removeOutermost_7 : decode cX5_removeOutermost 7 = .ok (.iconst 1, 1) := by decide +kernel
theorem dX5_removeOutermost_8 : decode cX5_removeOutermost 8 = .ok (.isub, 1) := by decide +kernel
theorem dX5_removeOutermost_9 : decode cX5_removeOutermost 9 = .ok (.iastore, 1) := by decide +kernel
theorem dX5_removeOutermost_10 : decode cX5_removeOutermost 10 = .ok (.aload_n 0, 1) := by decide +kernel
theorem dX5_removeOutermost_11 : decode cX5_removeOutermost 11 = .ok (.getfield 15, 3) := by decide +kernel
theorem dX5_removeOutermost_14 : decode cX5_removeOutermost 14 = .ok (.iload_n 1, 1) := by decide +kernel
theorem dX5_removeOutermost_15 : decode cX5_removeOutermost 15 = .ok (.aload_n 0, 1) := by decide +kernel
theorem dX5_removeOutermost_16 : decode cX5_removeOutermost 16 = .ok (.getfield 9, 3) := by decide +kernel
theorem dX5_removeOutermost_19 : decode cX5_removeOutermost 19 = .ok (.iload_n 1, 1) := by decide +kernel
theorem dX5_removeOutermost_20 : decode cX5_removeOutermost 20 = .ok (.iaload, 1) := by decide +kernel
theorem dX5_removeOutermost_21 : decode cX5_removeOutermost 21 = .ok (.invokestatic 27, 3) := by decide +kernel
theorem dX5_removeOutermost_24 : decode cX5_removeOutermost 24 = .ok (.iaload, 1) := by decide +kernel
theorem dX5_removeOutermost_25 : decode cX5_removeOutermost 25 = .ok (.ireturn, 1) := by decide +kernel
theorem dX5_outermostIsRaw_0 : decode cX5_outermostIsRaw 0 = .ok (.aload_n 0, 1) := by decide +kernel
theorem dX5_outermostIsRaw_1 : decode cX5_outermostIsRaw 1 = .ok (.getfield 9, 3) := by decide +kernel
theorem dX5_outermostIsRaw_4 : decode cX5_outermostIsRaw 4 = .ok (.iload_n 1, 1) := by decide +kernel
theorem dX5_outermostIsRaw_5 : decode cX5_outermostIsRaw 5 = .ok (.iaload, 1) := by decide +kernel
theorem dX5_outermostIsRaw_6 : decode cX5_outermostIsRaw 6 = .ok (.ifCond .le 27, 3) := by decide +kernel
theorem dX5_outermostIsRaw_9 : decode cX5_outermostIsRaw 9 = .ok (.aload_n 0, 1) := by decide +kernel
theorem dX5_outermostIsRaw_10 : decode cX5_outermostIsRaw 10 = .ok (.getfield 18, 3) := by decide +kernel
theorem dX5_outermostIsRaw_13 : decode cX5_outermostIsRaw 13 = .ok (.iload_n 1, 1) := by decide +kernel
theorem dX5_outermostIsRaw_14 : decode cX5_outermostIsRaw 14 = .ok (.aload_n 0, 1) := by decide +kernel
theorem dX5_outermostIsRaw_15 : decode cX5_outermostIsRaw 15 = .ok (.getfield 9, 3) := by decide +kernel
theorem dX5_outermostIsRaw_18 : decode cX5_outermostIsRaw 18 = .ok (.iload_n 1, 1) := by decide +kernel
theorem dX5_outermostIsRaw_19 : decode cX5_outermostIsRaw 19 = .ok (.iaload, 1) := by decide +kernel
theorem dX5_outermostIsRaw_20 : decode cX5_outermostIsRaw 20 = .ok (.iconst 1, 1) := by decide +kernel
theorem dX5_outermostIsRaw_21 : decode cX5_outermostIsRaw 21 = .ok (.isub, 1) := by decide +kernel
theorem dX5_outermostIsRaw_22 : decode cX5_outermostIsRaw 22 = .ok (.invokestatic 27, 3) := by decide +kernel
theorem dX5_outermostIsRaw_25 : decode cX5_outermostIsRaw 25 = .ok (.iaload, 1) := by decide +kernel
theorem dX5_outermostIsRaw_26 : decode cX5_outermostIsRaw 26 = .ok (.ifCond .ne 7, 3) := by decide +kernel
theorem dX5_outermostIsRaw_29 : decode cX5_outermostIsRaw 29 = .ok (.iconst 1, 1) := by decide +kernel
theorem dX5_outermostIsRaw_30 : decode cX5_outermostIsRaw 30 = .ok (.goto 4, 3) := by decide +kernel
theorem dX5_outermostIsRaw_33 : decode cX5_outermostIsRaw 33 = .ok (.iconst 0, 1) := by decide +kernel
theorem dX5_outermostIsRaw_34 : decode cX5_outermostIsRaw 34 = .ok (.ireturn, 1) := by decide +kernel
theorem dX5_makeBare_0 : decode cX5_makeBare 0 = .ok (.iconst 0, 1) := by decide +kernel
theorem dX5_makeBare_1 : decode cX5_makeBare 1 = .ok (.istore_n 1, 1) := by decide +kernel
theorem dX5_makeBare_2 : decode cX5_makeBare 2 = .ok (.iload_n 1, 1) := by decide +kernel
theorem dX5_makeBare_3 : decode cX5_makeBare 3 = .ok (.bipush 7, 2) := by decide +kernel
theorem dX5_makeBare_5 : decode cX5_makeBare 5 = .ok (.if_icmp .ge 16, 3) := by decide +kernel
theorem dX5_makeBare_8 : decode cX5_makeBare 8 = .ok (.aload_n 0, 1) := by decide +kernel
theorem dX5_makeBare_9 : decode cX5_makeBare 9 = .ok (.getfield 9, 3) := by decide +kernel
theorem dX5_makeBare_12 : decode cX5_makeBare 12 = .ok (.iload_n 1, 1) := by decide +kernel
theorem dX5_makeBare_13 : decode cX5_makeBare 13 = .ok (.iconst 0, 1) := by decide +kernel
theorem dX5_makeBare_14 : decode cX5_makeBare 14 = .ok (.iastore, 1) := by decide +kernel
theorem dX5_makeBare_15 : decode cX5_makeBare 15 = .ok (.iinc 1 1, 3) := by decide +kernel
theorem dX5_makeBare_18 : decode cX5_makeBare 18 = .ok (.goto (-16), 3) := by decide +kernel
theorem dX5_makeBare_21 : decode cX5_makeBare 21 = .ok (.iconst 0, 1) := by decide +kernel
theorem dX5_makeBare_22 : decode cX5_makeBare 22 = .ok (.istore_n 1, 1) := by decide +kernel
theorem dX5_makeBare_23 : decode cX5_makeBare 23 = .ok (.iload_n 1, 1) := by decide +kernel
theorem dX5_makeBare_24 : decode cX5_makeBare 24 = .ok (.bipush 6, 2) := by decide +kernel
theorem dX5_makeBare_26 : decode cX5_makeBare 26 = .ok (.if_icmp .ge 16, 3) := by decide +kernel
theorem dX5_makeBare_29 : decode cX5_makeBare 29 = .ok (.aload_n 0, 1) := by decide +kernel
theorem dX5_makeBare_30 : decode cX5_makeBare 30 = .ok (.getfield 24, 3) := by decide +kernel
theorem dX5_makeBare_33 : decode cX5_makeBare 33 = .ok (.iload_n 1, 1) := by decide +kernel
theorem dX5_makeBare_34 : decode cX5_makeBare 34 = .ok (.iconst 0, 1) := by decide +kernel
theorem dX5_makeBare_35 : decode cX5_makeBare 35 = .ok (.iastore, 1) := by decide +kernel
theorem dX5_makeBare_36 : decode cX5_makeBare 36 = .ok (.iinc 1 1, 3) := by decide +kernel
theorem dX5_makeBare_39 : decode cX5_makeBare 39 = .ok (.goto (-16), 3) := by decide +kernel
theorem dX5_makeBare_42 : decode cX5_makeBare 42 = .ok (.return_, 1) := by decide +kernel
theorem dX5_layers_0 : decode cX5_layers 0 = .ok (.iconst 0, 1) := by decide +kernel
theorem dX5_layers_1 : decode cX5_layers 1 = .ok (.istore_n 1, 1) := by decide +kernel
theorem dX5_layers_2 : decode cX5_layers 2 = .ok (.iconst 0, 1) := by decide +kernel
theorem dX5_layers_3 : decode cX5_layers 3 = .ok (.istore_n 2, 1) := by decide +kernel
theorem dX5_layers_4 : decode cX5_layers 4 = .ok (.iload_n 2, 1) := by decide +kernel
theorem dX5_layers_5 : decode cX5_layers 5 = .ok (.bipush 7, 2) := by decide +kernel
theorem dX5_layers_7 : decode cX5_layers 7 = .ok (.if_icmp .ge 18, 3) := by decide +kernel
theorem dX5_layers_10 : decode cX5_layers 10 = .ok (.iload_n 1, 1) := by decide +kernel
theorem dX5_layers_11 : decode cX5_layers 11 = .ok (.aload_n 0, 1) := by decide +kernel
theorem dX5_layers_12 : decode cX5_layers 12 = .ok (.getfield 9, 3) := by decide +kernel
theorem dX5_layers_15 : decode cX5_layers 15 = .ok (.iload_n 2, 1) := by decide +kernel
theorem dX5_layers_16 : decode cX5_layers 16 = .ok (.iaload, 1) := by decide +kernel
theorem dX5_layers_17 : decode cX5_layers 17 = .ok (.iadd, 1) := by decide +kernel
theorem dX5_layers_18 : decode cX5_layers 18 = .ok (.istore_n 1, 1) := by decide +kernel
theorem dX5_layers_19 : decode cX5_layers 19 = .ok (.iinc 2 1, 3) := by decide +kernel
theorem dX5_layers_22 : decode cX5_layers 22 = .ok (.goto (-18), 3) := by decide +kernel
theorem dX5_layers_25 : decode cX5_layers 25 = .ok (.iload_n 1, 1) := by decide +kernel
theorem dX5_layers_26 : decode cX5_layers 26 = .ok (.ireturn, 1) := by decide +kernel
theorem dX5_layersOfColor_0 : decode cX5_layersOfColor 0 = .ok (.aload_n 0, 1) := by decide +kernel
theorem dX5_layersOfColor_1 : decode cX5_layersOfColor 1 = .ok (.aload_n 0, 1) := by decide +kernel
theorem dX5_layersOfColor_2 : decode cX5_layersOfColor 2 = .ok (.getfield 15, 3) := by decide +kernel
theorem dX5_layersOfColor_5 : decode cX5_layersOfColor 5 = .ok (.iload_n 1, 1) := by decide +kernel
theorem dX5_layersOfColor_6 : decode cX5_layersOfColor 6 = .ok (.invokevirtual 31, 3) := by decide +kernel
theorem dX5_layersOfColor_9 : decode cX5_layersOfColor 9 = .ok (.ireturn, 1) := by decide +kernel
theorem dX5_layersOfState_0 : decode cX5_layersOfState 0 = .ok (.aload_n 0, 1) := by decide +kernel
theorem dX5_layersOfState_1 : decode cX5_layersOfState 1 = .ok (.aload_n 0, 1) := by decide +kernel
theorem dX5_layersOfState_2 : decode cX5_layersOfState 2 = .ok (.getfield 18, 3) := by decide +kernel
theorem dX5_layersOfState_5 : decode cX5_layersOfState 5 = .ok (.iload_n 1, 1) := by decide +kernel
theorem dX5_layersOfState_6 : decode cX5_layersOfState 6 = .ok (.invokevirtual 31, 3) := by decide +kernel
theorem dX5_layersOfState_9 : decode cX5_layersOfState 9 = .ok (.ireturn, 1) := by decide +kernel
theorem dX5_layersWith_0 : decode cX5_layersWith 0 = .ok (.iconst 0, 1) := by decide +kernel
theorem dX5_layersWith_1 : decode cX5_layersWith 1 = .ok (.istore_n 3, 1) := by decide +kernel
theorem dX5_layersWith_2 : decode cX5_layersWith 2 = .ok (.iconst 0, 1) := by decide +kernel
theorem dX5_layersWith_3 : decode cX5_layersWith 3 = .ok (.istore 4, 2) := by decide +kernel
theorem dX5_layersWith_5 : decode cX5_layersWith 5 = .ok (.iload 4, 2) := by decide +kernel
theorem dX5_layersWith_7 : decode cX5_layersWith 7 = .ok (.bipush 7, 2) := by decide +kernel
theorem dX5_layersWith_9 : decode cX5_layersWith 9 = .ok (.if_icmp .ge 46, 3) := by decide +kernel
theorem dX5_layersWith_12 : decode cX5_layersWith 12 = .ok (.iconst 0, 1) := by decide +kernel
theorem dX5_layersWith_13 : decode cX5_layersWith 13 = .ok (.istore 5, 2) := by decide +kernel
theorem dX5_layersWith_15 : decode cX5_layersWith 15 = .ok (.iload 5, 2) := by decide +kernel
theorem dX5_layersWith_17 : decode cX5_layersWith 17 = .ok (.aload_n 0, 1) := by decide +kernel
theorem dX5_layersWith_18 : decode cX5_layersWith 18 = .ok (.getfield 9, 3) := by decide +kernel
theorem dX5_layersWith_21 : decode cX5_layersWith 21 = .ok (.iload 4, 2) := by decide +kernel
theorem dX5_layersWith_23 : decode cX5_layersWith 23 = .ok (.iaload, 1) := by decide +kernel
theorem dX5_layersWith_24 : decode cX5_layersWith 24 = .ok (.if_icmp .ge 25, 3) := by decide +kernel
theorem dX5_layersWith_27 : decode cX5_layersWith 27 = .ok (.aload_n 1, 1) := by decide +kernel
theorem dX5_layersWith_28 : decode cX5_layersWith 28 = .ok (.iload 4, 2) := by decide +kernel
theorem dX5_layersWith_30 : decode cX5_layersWith 30 = .ok (.iload 5, 2) := by decide +kernel
theorem dX5_layersWith_32 : decode cX5_layersWith 32 = .ok (.invokestatic 27, 3) := by decide +kernel
theorem dX5_layersWith_35 : decode cX5_layersWith 35 = .ok (.iaload, 1) := by decide +kernel
theorem dX5_layersWith_36 : decode cX5_layersWith 36 = .ok (.iload_n 2, 1) := by decide +kernel
theorem dX5_layersWith_37 : decode cX5_layersWith 37 = .ok (.if_icmp .ne 6, 3) := by decide +kernel
theorem dX5_layersWith_40 : decode cX5_layersWith 40 = .ok (.iinc 3 1, 3) := by decide +kernel
theorem dX5_layersWith_43 : decode cX5_layersWith 43 = .ok (.iinc 5 1, 3) := by decide +kernel
theorem dX5_layersWith_46 : decode cX5_layersWith 46 = .ok (.goto (-31), 3) := by decide +kernel
theorem dX5_layersWith_49 : decode cX5_layersWith 49 = .ok (.iinc 4 1, 3) := by decide +kernel
theorem dX5_layersWith_52 : decode cX5_layersWith 52 = .ok (.goto (-47), 3) := by decide +kernel
theorem dX5_layersWith_55 : decode cX5_layersWith 55 = .ok (.iload_n 3, 1) := by decide +kernel
theorem dX5_layersWith_56 : decode cX5_layersWith 56 = .ok (.ireturn, 1) := by decide +kernel
theorem dX5_crackedFields_0 : decode cX5_crackedFields 0 = .ok (.iconst 0, 1) := by decide +kernel
theorem dX5_crackedFields_1 : decode cX5_crackedFields 1 = .ok (.istore_n 1, 1) := by decide +kernel
theorem dX5_crackedFields_2 : decode cX5_crackedFields 2 = .ok (.iconst 0, 1) := by decide +kernel
theorem dX5_crackedFields_3 : decode cX5_crackedFields 3 = .ok (.istore_n 2, 1) := by decide +kernel
theorem dX5_crackedFields_4 : decode cX5_crackedFields 4 = .ok (.iload_n 2, 1) := by decide +kernel
theorem dX5_crackedFields_5 : decode cX5_crackedFields 5 = .ok (.bipush 6, 2) := by decide +kernel
theorem dX5_crackedFields_7 : decode cX5_crackedFields 7 = .ok (.if_icmp .ge 18, 3) := by decide +kernel
theorem dX5_crackedFields_10 : decode cX5_crackedFields 10 = .ok (.iload_n 1, 1) := by decide +kernel
theorem dX5_crackedFields_11 : decode cX5_crackedFields 11 = .ok (.aload_n 0, 1) := by decide +kernel
theorem dX5_crackedFields_12 : decode cX5_crackedFields 12 = .ok (.getfield 24, 3) := by decide +kernel
theorem dX5_crackedFields_15 : decode cX5_crackedFields 15 = .ok (.iload_n 2, 1) := by decide +kernel
theorem dX5_crackedFields_16 : decode cX5_crackedFields 16 = .ok (.iaload, 1) := by decide +kernel
theorem dX5_crackedFields_17 : decode cX5_crackedFields 17 = .ok (.iadd, 1) := by decide +kernel
theorem dX5_crackedFields_18 : decode cX5_crackedFields 18 = .ok (.istore_n 1, 1) := by decide +kernel
theorem dX5_crackedFields_19 : decode cX5_crackedFields 19 = .ok (.iinc 2 1, 3) := by decide +kernel
theorem dX5_crackedFields_22 : decode cX5_crackedFields 22 = .ok (.goto (-18), 3) := by decide +kernel
theorem dX5_crackedFields_25 : decode cX5_crackedFields 25 = .ok (.iload_n 1, 1) := by decide +kernel
theorem dX5_crackedFields_26 : decode cX5_crackedFields 26 = .ok (.ireturn, 1) := by decide +kernel
theorem dX5_holdsOn_0 : decode cX5_holdsOn 0 = .ok (.aload_n 0, 1) := by decide +kernel
theorem dX5_holdsOn_1 : decode cX5_holdsOn 1 = .ok (.getfield 18, 3) := by decide +kernel
theorem dX5_holdsOn_4 : decode cX5_holdsOn 4 = .ok (.iload_n 1, 1) := by decide +kernel
theorem dX5_holdsOn_5 : decode cX5_holdsOn 5 = .ok (.iaload, 1) := by decide +kernel
theorem dX5_holdsOn_6 : decode cX5_holdsOn 6 = .ok (.iconst 2, 1) := by decide +kernel
theorem dX5_holdsOn_7 : decode cX5_holdsOn 7 = .ok (.if_icmp .eq 13, 3) := by decide +kernel
theorem dX5_holdsOn_10 : decode cX5_holdsOn 10 = .ok (.aload_n 0, 1) := by decide +kernel
theorem dX5_holdsOn_11 : decode cX5_holdsOn 11 = .ok (.getfield 18, 3) := by decide +kernel
theorem dX5_holdsOn_14 : decode cX5_holdsOn 14 = .ok (.iload_n 1, 1) := by decide +kernel
theorem dX5_holdsOn_15 : decode cX5_holdsOn 15 = .ok (.iaload, 1) := by decide +kernel
theorem dX5_holdsOn_16 : decode cX5_holdsOn 16 = .ok (.iconst 3, 1) := by decide +kernel
theorem dX5_holdsOn_17 : decode cX5_holdsOn 17 = .ok (.if_icmp .ne 7, 3) := by decide +kernel
theorem dX5_holdsOn_20 : decode cX5_holdsOn 20 = .ok (.iconst 1, 1) := by decide +kernel
theorem dX5_holdsOn_21 : decode cX5_holdsOn 21 = .ok (.goto 4, 3) := by decide +kernel
theorem dX5_holdsOn_24 : decode cX5_holdsOn 24 = .ok (.iconst 0, 1) := by decide +kernel
theorem dX5_holdsOn_25 : decode cX5_holdsOn 25 = .ok (.ireturn, 1) := by decide +kernel
theorem dX5_hasHold_0 : decode cX5_hasHold 0 = .ok (.iconst 0, 1) := by decide +kernel
theorem dX5_hasHold_1 : decode cX5_hasHold 1 = .ok (.istore_n 2, 1) := by decide +kernel
theorem dX5_hasHold_2 : decode cX5_hasHold 2 = .ok (.iload_n 2, 1) := by decide +kernel
theorem dX5_hasHold_3 : decode cX5_hasHold 3 = .ok (.aload_n 0, 1) := by decide +kernel
theorem dX5_hasHold_4 : decode cX5_hasHold 4 = .ok (.getfield 9, 3) := by decide +kernel
theorem dX5_hasHold_7 : decode cX5_hasHold 7 = .ok (.iload_n 1, 1) := by decide +kernel
theorem dX5_hasHold_8 : decode cX5_hasHold 8 = .ok (.iaload, 1) := by decide +kernel
theorem dX5_hasHold_9 : decode cX5_hasHold 9 = .ok (.if_icmp .ge 23, 3) := by decide +kernel
theorem dX5_hasHold_12 : decode cX5_hasHold 12 = .ok (.aload_n 0, 1) := by decide +kernel
theorem dX5_hasHold_13 : decode cX5_hasHold 13 = .ok (.iload_n 1, 1) := by decide +kernel
theorem dX5_hasHold_14 : decode cX5_hasHold 14 = .ok (.iload_n 2, 1) := by decide +kernel
theorem dX5_hasHold_15 : decode cX5_hasHold 15 = .ok (.invokestatic 27, 3) := by decide +kernel
theorem dX5_hasHold_18 : decode cX5_hasHold 18 = .ok (.invokevirtual 35, 3) := by decide +kernel
theorem dX5_hasHold_21 : decode cX5_hasHold 21 = .ok (.ifCond .eq 5, 3) := by decide +kernel
theorem dX5_hasHold_24 : decode cX5_hasHold 24 = .ok (.iconst 1, 1) := by decide +kernel
theorem dX5_hasHold_25 : decode cX5_hasHold 25 = .ok (.ireturn, 1) := by decide +kernel
theorem dX5_hasHold_26 : decode cX5_hasHold 26 = .ok (.iinc 2 1, 3) := by decide +kernel
theorem dX5_hasHold_29 : decode cX5_hasHold 29 = .ok (.goto (-27), 3) := by decide +kernel
theorem dX5_hasHold_32 : decode cX5_hasHold 32 = .ok (.iconst 0, 1) := by decide +kernel
theorem dX5_hasHold_33 : decode cX5_hasHold 33 = .ok (.ireturn, 1) := by decide +kernel
theorem dX5_pullOf_0 : decode cX5_pullOf 0 = .ok (.iconst 0, 1) := by decide +kernel
theorem dX5_pullOf_1 : decode cX5_pullOf 1 = .ok (.istore_n 3, 1) := by decide +kernel
theorem dX5_pullOf_2 : decode cX5_pullOf 2 = .ok (.iconst 0, 1) := by decide +kernel
theorem dX5_pullOf_3 : decode cX5_pullOf 3 = .ok (.istore 4, 2) := by decide +kernel
theorem dX5_pullOf_5 : decode cX5_pullOf 5 = .ok (.iload 4, 2) := by decide +kernel
theorem dX5_pullOf_7 : decode cX5_pullOf 7 = .ok (.aload_n 0, 1) := by decide +kernel
theorem dX5_pullOf_8 : decode cX5_pullOf 8 = .ok (.getfield 9, 3) := by decide +kernel
theorem dX5_pullOf_11 : decode cX5_pullOf 11 = .ok (.iload_n 1, 1) := by decide +kernel
theorem dX5_pullOf_12 : decode cX5_pullOf 12 = .ok (.iaload, 1) := by decide +kernel
theorem dX5_pullOf_13 : decode cX5_pullOf 13 = .ok (.if_icmp .ge 40, 3) := by decide +kernel
theorem dX5_pullOf_16 : decode cX5_pullOf 16 = .ok (.iload_n 1, 1) := by decide +kernel
theorem dX5_pullOf_17 : decode cX5_pullOf 17 = .ok (.iload 4, 2) := by decide +kernel
theorem dX5_pullOf_19 : decode cX5_pullOf 19 = .ok (.invokestatic 27, 3) := by decide +kernel
theorem dX5_pullOf_22 : decode cX5_pullOf 22 = .ok (.istore 5, 2) := by decide +kernel
theorem dX5_pullOf_24 : decode cX5_pullOf 24 = .ok (.aload_n 0, 1) := by decide +kernel
theorem dX5_pullOf_25 : decode cX5_pullOf 25 = .ok (.iload 5, 2) := by decide +kernel
theorem dX5_pullOf_27 : decode cX5_pullOf 27 = .ok (.invokevirtual 35, 3) := by decide +kernel
theorem dX5_pullOf_30 : decode cX5_pullOf 30 = .ok (.ifCond .eq 17, 3) := by decide +kernel
theorem dX5_pullOf_33 : decode cX5_pullOf 33 = .ok (.iload_n 3, 1) := by decide +kernel
theorem dX5_pullOf_34 : decode cX5_pullOf 34 = .ok (.aload_n 2, 1) := by decide +kernel
theorem dX5_pullOf_35 : decode cX5_pullOf 35 = .ok (.aload_n 0, 1) := by decide +kernel
theorem dX5_pullOf_36 : decode cX5_pullOf 36 = .ok (.getfield 15, 3) := by decide +kernel
theorem dX5_pullOf_39 : decode cX5_pullOf 39 = .ok (.iload 5, 2) := by decide +kernel
theorem dX5_pullOf_41 : decode cX5_pullOf 41 = .ok (.iaload, 1) := by decide +kernel
theorem dX5_pullOf_42 : decode cX5_pullOf 42 = .ok (.invokevirtual 39, 3) := by decide +kernel
theorem dX5_pullOf_45 : decode cX5_pullOf 45 = .ok (.iadd, 1) := by decide +kernel
theorem dX5_pullOf_46 : decode cX5_pullOf 46 = .ok (.istore_n 3, 1) := by decide +kernel
theorem dX5_pullOf_47 : decode cX5_pullOf 47 = .ok (.iinc 4 1, 3) := by decide +kernel
theorem dX5_pullOf_50 : decode cX5_pullOf 50 = .ok (.goto (-45), 3) := by decide +kernel
theorem dX5_pullOf_53 : decode cX5_pullOf 53 = .ok (.iload_n 3, 1) := by decide +kernel
theorem dX5_pullOf_54 : decode cX5_pullOf 54 = .ok (.ireturn, 1) := by decide +kernel
theorem dX5_strainOf_0 : decode cX5_strainOf 0 = .ok (.aload_n 0, 1) := by decide +kernel
theorem dX5_strainOf_1 : decode cX5_strainOf 1 = .ok (.iload_n 1, 1) := by decide +kernel
theorem dX5_strainOf_2 : decode cX5_strainOf 2 = .ok (.aload_n 2, 1) := by decide +kernel
theorem dX5_strainOf_3 : decode cX5_strainOf 3 = .ok (.invokevirtual 45, 3) := by decide +kernel
theorem dX5_strainOf_6 : decode cX5_strainOf 6 = .ok (.aload_n 0, 1) := by decide +kernel
theorem dX5_strainOf_7 : decode cX5_strainOf 7 = .ok (.bipush 6, 2) := by decide +kernel
theorem dX5_strainOf_9 : decode cX5_strainOf 9 = .ok (.aload_n 2, 1) := by decide +kernel
theorem dX5_strainOf_10 : decode cX5_strainOf 10 = .ok (.invokevirtual 45, 3) := by decide +kernel
theorem dX5_strainOf_13 : decode cX5_strainOf 13 = .ok (.isub, 1) := by decide +kernel
theorem dX5_strainOf_14 : decode cX5_strainOf 14 = .ok (.invokestatic 48, 3) := by decide +kernel
theorem dX5_strainOf_17 : decode cX5_strainOf 17 = .ok (.ireturn, 1) := by decide +kernel
theorem dX5_greatestStrainWith_0 : decode cX5_greatestStrainWith 0 = .ok (.aload_n 0, 1) := by decide +kernel
theorem dX5_greatestStrainWith_1 : decode cX5_greatestStrainWith 1 = .ok (.bipush 6, 2) := by decide +kernel
theorem dX5_greatestStrainWith_3 : decode cX5_greatestStrainWith 3 = .ok (.aload_n 2, 1) := by decide +kernel
theorem dX5_greatestStrainWith_4 : decode cX5_greatestStrainWith 4 = .ok (.invokevirtual 45, 3) := by decide +kernel
theorem dX5_greatestStrainWith_7 : decode cX5_greatestStrainWith 7 = .ok (.aload_n 2, 1) := by decide +kernel
theorem dX5_greatestStrainWith_8 : decode cX5_greatestStrainWith 8 = .ok (.iload_n 1, 1) := by decide +kernel
theorem dX5_greatestStrainWith_9 : decode cX5_greatestStrainWith 9 = .ok (.invokevirtual 39, 3) := by decide +kernel
theorem dX5_greatestStrainWith_12 : decode cX5_greatestStrainWith 12 = .ok (.iadd, 1) := by decide +kernel
theorem dX5_greatestStrainWith_13 : decode cX5_greatestStrainWith 13 = .ok (.istore_n 3, 1) := by decide +kernel
theorem dX5_greatestStrainWith_14 : decode cX5_greatestStrainWith 14 = .ok (.iconst 0, 1) := by decide +kernel
theorem dX5_greatestStrainWith_15 : decode cX5_greatestStrainWith 15 = .ok (.istore 4, 2) := by decide +kernel
theorem dX5_greatestStrainWith_17 : decode cX5_greatestStrainWith 17 = .ok (.iconst 0, 1) := by decide +kernel
theorem dX5_greatestStrainWith_18 : decode cX5_greatestStrainWith 18 = .ok (.istore 5, 2) := by decide +kernel
theorem dX5_greatestStrainWith_20 : decode cX5_greatestStrainWith 20 = .ok (.iload 5, 2) := by decide +kernel
theorem dX5_greatestStrainWith_22 : decode cX5_greatestStrainWith 22 = .ok (.bipush 6, 2) := by decide +kernel
theorem dX5_greatestStrainWith_24 : decode cX5_greatestStrainWith 24 = .ok (.if_icmp .ge 28, 3) := by decide +kernel
theorem dX5_greatestStrainWith_27 : decode cX5_greatestStrainWith 27 = .ok (.iload 4, 2) := by decide +kernel
theorem dX5_greatestStrainWith_29 : decode cX5_greatestStrainWith 29 = .ok (.aload_n 0, 1) := by decide +kernel
theorem dX5_greatestStrainWith_30 : decode cX5_greatestStrainWith 30 = .ok (.iload 5, 2) := by decide +kernel
theorem dX5_greatestStrainWith_32 : decode cX5_greatestStrainWith 32 = .ok (.aload_n 2, 1) := by decide +kernel
theorem dX5_greatestStrainWith_33 : decode cX5_greatestStrainWith 33 = .ok (.invokevirtual 45, 3) := by decide +kernel
theorem dX5_greatestStrainWith_36 : decode cX5_greatestStrainWith 36 = .ok (.iload_n 3, 1) := by decide +kernel
theorem dX5_greatestStrainWith_37 : decode cX5_greatestStrainWith 37 = .ok (.isub, 1) := by decide +kernel
theorem dX5_greatestStrainWith_38 : decode cX5_greatestStrainWith 38 = .ok (.invokestatic 48, 3) := by decide +kernel
theorem dX5_greatestStrainWith_41 : decode cX5_greatestStrainWith 41 = .ok (.invokestatic 53, 3) := by decide +kernel
theorem dX5_greatestStrainWith_44 : decode cX5_greatestStrainWith 44 = .ok (.istore 4, 2) := by decide +kernel
theorem dX5_greatestStrainWith_46 : decode cX5_greatestStrainWith 46 = .ok (.iinc 5 1, 3) := by decide +kernel
theorem dX5_greatestStrainWith_49 : decode cX5_greatestStrainWith 49 = .ok (.goto (-29), 3) := by decide +kernel
theorem dX5_greatestStrainWith_52 : decode cX5_greatestStrainWith 52 = .ok (.iload 4, 2) := by decide +kernel
theorem dX5_greatestStrainWith_54 : decode cX5_greatestStrainWith 54 = .ok (.ireturn, 1) := by decide +kernel
theorem dX5_heatThatMelts_0 : decode cX5_heatThatMelts 0 = .ok (.bipush (-4), 2) := by decide +kernel
theorem dX5_heatThatMelts_2 : decode cX5_heatThatMelts 2 = .ok (.istore_n 3, 1) := by decide +kernel
theorem dX5_heatThatMelts_3 : decode cX5_heatThatMelts 3 = .ok (.iconst 0, 1) := by decide +kernel
theorem dX5_heatThatMelts_4 : decode cX5_heatThatMelts 4 = .ok (.istore 4, 2) := by decide +kernel
theorem dX5_heatThatMelts_6 : decode cX5_heatThatMelts 6 = .ok (.iload 4, 2) := by decide +kernel
theorem dX5_heatThatMelts_8 : decode cX5_heatThatMelts 8 = .ok (.aload_n 0, 1) := by decide +kernel
theorem dX5_heatThatMelts_9 : decode cX5_heatThatMelts 9 = .ok (.getfield 9, 3) := by decide +kernel
theorem dX5_heatThatMelts_12 : decode cX5_heatThatMelts 12 = .ok (.iload_n 1, 1) := by decide +kernel
theorem dX5_heatThatMelts_13 : decode cX5_heatThatMelts 13 = .ok (.iaload, 1) := by decide +kernel
theorem dX5_heatThatMelts_14 : decode cX5_heatThatMelts 14 = .ok (.if_icmp .ge 30, 3) := by decide +kernel
theorem dX5_heatThatMelts_17 : decode cX5_heatThatMelts 17 = .ok (.iload_n 3, 1) := by decide +kernel
theorem dX5_heatThatMelts_18 : decode cX5_heatThatMelts 18 = .ok (.aload_n 2, 1) := by decide +kernel
theorem dX5_heatThatMelts_19 : decode cX5_heatThatMelts 19 = .ok (.getfield 56, 3) := by decide +kernel
theorem dX5_heatThatMelts_22 : decode cX5_heatThatMelts 22 = .ok (.aload_n 0, 1) := by decide +kernel
theorem dX5_heatThatMelts_23 : decode cX5_heatThatMelts 23 = .ok (.getfield 15, 3) := by decide +kernel
theorem dX5_heatThatMelts_26 : decode cX5_heatThatMelts 26 = .ok (.iload_n 1, 1) := by decide +kernel
theorem dX5_heatThatMelts_27 : decode cX5_heatThatMelts 27 = .ok (.iload 4, 2) := by decide +kernel
theorem dX5_heatThatMelts_29 : decode cX5_heatThatMelts 29 = .ok (.invokestatic 27, 3) := by decide +kernel
theorem dX5_heatThatMelts_32 : decode cX5_heatThatMelts 32 = .ok (.iaload, 1) := by decide +kernel
theorem dX5_heatThatMelts_33 : decode cX5_heatThatMelts 33 = .ok (.iaload, 1) := by decide +kernel
theorem dX5_heatThatMelts_34 : decode cX5_heatThatMelts 34 = .ok (.invokestatic 53, 3) := by decide +kernel
theorem dX5_heatThatMelts_37 : decode cX5_heatThatMelts 37 = .ok (.istore_n 3, 1) := by decide +kernel
theorem dX5_heatThatMelts_38 : decode cX5_heatThatMelts 38 = .ok (.iinc 4 1, 3) := by decide +kernel
theorem dX5_heatThatMelts_41 : decode cX5_heatThatMelts 41 = .ok (.goto (-35), 3) := by decide +kernel
theorem dX5_heatThatMelts_44 : decode cX5_heatThatMelts 44 = .ok (.iload_n 3, 1) := by decide +kernel
theorem dX5_heatThatMelts_45 : decode cX5_heatThatMelts 45 = .ok (.ireturn, 1) := by decide +kernel
theorem dX5_heatThatSpares_0 : decode cX5_heatThatSpares 0 = .ok (.bipush (-4), 2) := by decide +kernel
theorem dX5_heatThatSpares_2 : decode cX5_heatThatSpares 2 = .ok (.istore_n 3, 1) := by decide +kernel
theorem dX5_heatThatSpares_3 : decode cX5_heatThatSpares 3 = .ok (.iconst 0, 1) := by decide +kernel
theorem dX5_heatThatSpares_4 : decode cX5_heatThatSpares 4 = .ok (.istore 4, 2) := by decide +kernel
theorem dX5_heatThatSpares_6 : decode cX5_heatThatSpares 6 = .ok (.iload 4, 2) := by decide +kernel
theorem dX5_heatThatSpares_8 : decode cX5_heatThatSpares 8 = .ok (.aload_n 0, 1) := by decide +kernel
theorem dX5_heatThatSpares_9 : decode cX5_heatThatSpares 9 = .ok (.getfield 9, 3) := by decide +kernel
theorem dX5_heatThatSpares_12 : decode cX5_heatThatSpares 12 = .ok (.iload_n 1, 1) := by decide +kernel
theorem dX5_heatThatSpares_13 : decode cX5_heatThatSpares 13 = .ok (.iaload, 1) := by decide +kernel
theorem dX5_heatThatSpares_14 : decode cX5_heatThatSpares 14 = .ok (.if_icmp .ge 60, 3) := by decide +kernel
theorem dX5_heatThatSpares_17 : decode cX5_heatThatSpares 17 = .ok (.iload_n 1, 1) := by decide +kernel
theorem dX5_heatThatSpares_18 : decode cX5_heatThatSpares 18 = .ok (.iload 4, 2) := by decide +kernel
theorem dX5_heatThatSpares_20 : decode cX5_heatThatSpares 20 = .ok (.invokestatic 27, 3) := by decide +kernel
theorem dX5_heatThatSpares_23 : decode cX5_heatThatSpares 23 = .ok (.istore 5, 2) := by decide +kernel
theorem dX5_heatThatSpares_25 : decode cX5_heatThatSpares 25 = .ok (.aload_n 0, 1) := by decide +kernel
theorem dX5_heatThatSpares_26 : decode cX5_heatThatSpares 26 = .ok (.getfield 18, 3) := by decide +kernel
theorem dX5_heatThatSpares_29 : decode cX5_heatThatSpares 29 = .ok (.iload 5, 2) := by decide +kernel
theorem dX5_heatThatSpares_31 : decode cX5_heatThatSpares 31 = .ok (.iaload, 1) := by decide +kernel
theorem dX5_heatThatSpares_32 : decode cX5_heatThatSpares 32 = .ok (.iconst 4, 1) := by decide +kernel
theorem dX5_heatThatSpares_33 : decode cX5_heatThatSpares 33 = .ok (.if_icmp .eq 35, 3) := by decide +kernel
theorem dX5_heatThatSpares_36 : decode cX5_heatThatSpares 36 = .ok (.aload_n 2, 1) := by decide +kernel
theorem dX5_heatThatSpares_37 : decode cX5_heatThatSpares 37 = .ok (.getfield 59, 3) := by decide +kernel
theorem dX5_heatThatSpares_40 : decode cX5_heatThatSpares 40 = .ok (.aload_n 0, 1) := by decide +kernel
theorem dX5_heatThatSpares_41 : decode cX5_heatThatSpares 41 = .ok (.getfield 15, 3) := by decide +kernel
theorem dX5_heatThatSpares_44 : decode cX5_heatThatSpares 44 = .ok (.iload 5, 2) := by decide +kernel
theorem dX5_heatThatSpares_46 : decode cX5_heatThatSpares 46 = .ok (.iaload, 1) := by decide +kernel
theorem dX5_heatThatSpares_47 : decode cX5_heatThatSpares 47 = .ok (.iaload, 1) := by decide +kernel
theorem dX5_heatThatSpares_48 : decode cX5_heatThatSpares 48 = .ok (.istore 6, 2) := by decide +kernel
theorem dX5_heatThatSpares_50 : decode cX5_heatThatSpares 50 = .ok (.iload_n 3, 1) := by decide +kernel
theorem dX5_heatThatSpares_51 : decode cX5_heatThatSpares 51 = .ok (.bipush (-4), 2) := by decide +kernel
theorem dX5_heatThatSpares_53 : decode cX5_heatThatSpares 53 = .ok (.if_icmp .ne 8, 3) := by decide +kernel
theorem dX5_heatThatSpares_56 : decode cX5_heatThatSpares 56 = .ok (.iload 6, 2) := by decide +kernel
theorem dX5_heatThatSpares_58 : decode cX5_heatThatSpares 58 = .ok (.goto 9, 3) := by decide +kernel
theorem dX5_heatThatSpares_61 : decode cX5_heatThatSpares 61 = .ok (.iload_n 3, 1) := by decide +kernel
theorem dX5_heatThatSpares_62 : decode cX5_heatThatSpares 62 = .ok (.iload 6, 2) := by decide +kernel
theorem dX5_heatThatSpares_64 : decode cX5_heatThatSpares 64 = .ok (.invokestatic 62, 3) := by decide +kernel
theorem dX5_heatThatSpares_67 : decode cX5_heatThatSpares 67 = .ok (.istore_n 3, 1) := by decide +kernel
theorem dX5_heatThatSpares_68 : decode cX5_heatThatSpares 68 = .ok (.iinc 4 1, 3) := by decide +kernel
theorem dX5_heatThatSpares_71 : decode cX5_heatThatSpares 71 = .ok (.goto (-65), 3) := by decide +kernel
theorem dX5_heatThatSpares_74 : decode cX5_heatThatSpares 74 = .ok (.iload_n 3, 1) := by decide +kernel
theorem dX5_heatThatSpares_75 : decode cX5_heatThatSpares 75 = .ok (.ireturn, 1) := by decide +kernel
theorem dX5_copyFrom_0 : decode cX5_copyFrom 0 = .ok (.aload_n 1, 1) := by decide +kernel
theorem dX5_copyFrom_1 : decode cX5_copyFrom 1 = .ok (.getfield 9, 3) := by decide +kernel
theorem dX5_copyFrom_4 : decode cX5_copyFrom 4 = .ok (.aload_n 0, 1) := by decide +kernel
theorem dX5_copyFrom_5 : decode cX5_copyFrom 5 = .ok (.getfield 9, 3) := by decide +kernel
theorem dX5_copyFrom_8 : decode cX5_copyFrom 8 = .ok (.invokestatic 65, 3) := by decide +kernel
theorem dX5_copyFrom_11 : decode cX5_copyFrom 11 = .ok (.aload_n 1, 1) := by decide +kernel
theorem dX5_copyFrom_12 : decode cX5_copyFrom 12 = .ok (.getfield 15, 3) := by decide +kernel
theorem dX5_copyFrom_15 : decode cX5_copyFrom 15 = .ok (.aload_n 0, 1) := by decide +kernel
theorem dX5_copyFrom_16 : decode cX5_copyFrom 16 = .ok (.getfield 15, 3) := by decide +kernel
theorem dX5_copyFrom_19 : decode cX5_copyFrom 19 = .ok (.invokestatic 65, 3) := by decide +kernel
theorem dX5_copyFrom_22 : decode cX5_copyFrom 22 = .ok (.aload_n 1, 1) := by decide +kernel
theorem dX5_copyFrom_23 : decode cX5_copyFrom 23 = .ok (.getfield 18, 3) := by decide +kernel
theorem dX5_copyFrom_26 : decode cX5_copyFrom 26 = .ok (.aload_n 0, 1) := by decide +kernel
theorem dX5_copyFrom_27 : decode cX5_copyFrom 27 = .ok (.getfield 18, 3) := by decide +kernel
theorem dX5_copyFrom_30 : decode cX5_copyFrom 30 = .ok (.invokestatic 65, 3) := by decide +kernel
theorem dX5_copyFrom_33 : decode cX5_copyFrom 33 = .ok (.aload_n 1, 1) := by decide +kernel
theorem dX5_copyFrom_34 : decode cX5_copyFrom 34 = .ok (.getfield 21, 3) := by decide +kernel
theorem dX5_copyFrom_37 : decode cX5_copyFrom 37 = .ok (.aload_n 0, 1) := by decide +kernel
theorem dX5_copyFrom_38 : decode cX5_copyFrom 38 = .ok (.getfield 21, 3) := by decide +kernel
theorem dX5_copyFrom_41 : decode cX5_copyFrom 41 = .ok (.invokestatic 65, 3) := by decide +kernel
theorem dX5_copyFrom_44 : decode cX5_copyFrom 44 = .ok (.aload_n 1, 1) := by decide +kernel
theorem dX5_copyFrom_45 : decode cX5_copyFrom 45 = .ok (.getfield 24, 3) := by decide +kernel
theorem dX5_copyFrom_48 : decode cX5_copyFrom 48 = .ok (.aload_n 0, 1) := by decide +kernel
theorem dX5_copyFrom_49 : decode cX5_copyFrom 49 = .ok (.getfield 24, 3) := by decide +kernel
theorem dX5_copyFrom_52 : decode cX5_copyFrom 52 = .ok (.invokestatic 65, 3) := by decide +kernel
theorem dX5_copyFrom_55 : decode cX5_copyFrom 55 = .ok (.return_, 1) := by decide +kernel
theorem dX6_init_0 : decode cX6_init 0 = .ok (.aload_n 0, 1) := by decide +kernel
theorem dX6_init_1 : decode cX6_init 1 = .ok (.invokespecial 3, 3) := by decide +kernel
theorem dX6_init_4 : decode cX6_init 4 = .ok (.aload_n 0, 1) := by decide +kernel
theorem dX6_init_5 : decode cX6_init 5 = .ok (.bipush 80, 2) := by decide +kernel
theorem dX6_init_7 : decode cX6_init 7 = .ok (.newarray .char, 2) := by decide +kernel
theorem dX6_init_9 : decode cX6_init 9 = .ok (.putfield 9, 3) := by decide +kernel
theorem dX6_init_12 : decode cX6_init 12 = .ok (.aload_n 0, 1) := by decide +kernel
theorem dX6_init_13 : decode cX6_init 13 = .ok (.iconst 0, 1) := by decide +kernel
theorem dX6_init_14 : decode cX6_init 14 = .ok (.putfield 15, 3) := by decide +kernel
theorem dX6_init_17 : decode cX6_init 17 = .ok (.aload_n 0, 1) := by decide +kernel
theorem dX6_init_18 : decode cX6_init 18 = .ok (.iconst 0, 1) := by decide +kernel
theorem dX6_init_19 : decode cX6_init 19 = .ok (.putfield 19, 3) := by decide +kernel
theorem dX6_init_22 : decode cX6_init 22 = .ok (.aload_n 0, 1) := by decide +kernel
theorem dX6_init_23 : decode cX6_init 23 = .ok (.iconst 0, 1) := by decide +kernel
theorem dX6_init_24 : decode cX6_init 24 = .ok (.putfield 22, 3) := by decide +kernel
theorem dX6_init_27 : decode cX6_init 27 = .ok (.return_, 1) := by decide +kernel
theorem dX6_append_0 : decode cX6_append 0 = .ok (.aload_n 0, 1) := by decide +kernel
theorem dX6_append_1 : decode cX6_append 1 = .ok (.getfield 9, 3) := by decide +kernel
theorem dX6_append_4 : decode cX6_append 4 = .ok (.aload_n 0, 1) := by decide +kernel
theorem dX6_append_5 : decode cX6_append 5 = .ok (.getfield 15, 3) := by decide +kernel
theorem dX6_append_8 : decode cX6_append 8 = .ok (.iload_n 1, 1) := by decide +kernel
theorem dX6_append_9 : decode cX6_append 9 = .ok (.castore, 1) := by decide +kernel
theorem dX6_append_10 : decode cX6_append 10 = .ok (.aload_n 0, 1) := by decide +kernel
theorem dX6_append_11 : decode cX6_append 11 = .ok (.dup, 1) := by decide +kernel
theorem dX6_append_12 : decode cX6_append 12 = .ok (.getfield 15, 3) := by decide +kernel
theorem dX6_append_15 : decode cX6_append 15 = .ok (.iconst 1, 1) := by decide +kernel
theorem dX6_append_16 : decode cX6_append 16 = .ok (.iadd, 1) := by decide +kernel
theorem dX6_append_17 : decode cX6_append 17 = .ok (.putfield 15, 3) := by decide +kernel
theorem dX6_append_20 : decode cX6_append 20 = .ok (.aload_n 0, 1) := by decide +kernel
theorem dX6_append_21 : decode cX6_append 21 = .ok (.getfield 15, 3) := by decide +kernel
theorem dX6_append_24 : decode cX6_append 24 = .ok (.ireturn, 1) := by decide +kernel
theorem dX6_hasFault_0 : decode cX6_hasFault 0 = .ok (.aload_n 0, 1) := by decide +kernel
theorem dX6_hasFault_1 : decode cX6_hasFault 1 = .ok (.getfield 22, 3) := by decide +kernel
theorem dX6_hasFault_4 : decode cX6_hasFault 4 = .ok (.ifCond .eq 7, 3) := by decide +kernel
theorem dX6_hasFault_7 : decode cX6_hasFault 7 = .ok (.iconst 1, 1) := by decide +kernel
theorem dX6_hasFault_8 : decode cX6_hasFault 8 = .ok (.goto 4, 3) := by decide +kernel
theorem dX6_hasFault_11 : decode cX6_hasFault 11 = .ok (.iconst 0, 1) := by decide +kernel
theorem dX6_hasFault_12 : decode cX6_hasFault 12 = .ok (.ireturn, 1) := by decide +kernel
theorem dX6_lookForFault_0 : decode cX6_lookForFault 0 = .ok (.iconst 0, 1) := by decide +kernel
theorem dX6_lookForFault_1 : decode cX6_lookForFault 1 = .ok (.istore_n 2, 1) := by decide +kernel
theorem dX6_lookForFault_2 : decode cX6_lookForFault 2 = .ok (.iconst 0, 1) := by decide +kernel
theorem dX6_lookForFault_3 : decode cX6_lookForFault 3 = .ok (.istore_n 3, 1) := by decide +kernel
theorem dX6_lookForFault_4 : decode cX6_lookForFault 4 = .ok (.iload_n 3, 1) := by decide +kernel
theorem dX6_lookForFault_5 : decode cX6_lookForFault 5 = .ok (.aload_n 0, 1) := by decide +kernel
theorem dX6_lookForFault_6 : decode cX6_lookForFault 6 = .ok (.getfield 15, 3) := by decide +kernel
theorem dX6_lookForFault_9 : decode cX6_lookForFault 9 = .ok (.if_icmp .ge 56, 3) := by decide +kernel
theorem dX6_lookForFault_12 : decode cX6_lookForFault 12 = .ok (.aload_n 0, 1) := by decide +kernel
theorem dX6_lookForFault_13 : decode cX6_lookForFault 13 = .ok (.getfield 9, 3) := by decide +kernel
theorem dX6_lookForFault_16 : decode cX6_lookForFault 16 = .ok (.iload_n 3, 1) := by decide +kernel
theorem dX6_lookForFault_17 : decode cX6_lookForFault 17 = .ok (.caload, 1) := by decide +kernel
theorem dX6_lookForFault_18 : decode cX6_lookForFault 18 = .ok (.istore 4, 2) := by decide +kernel
theorem dX6_lookForFault_20 : decode cX6_lookForFault 20 = .ok (.aload_n 0, 1) := by decide +kernel
theorem dX6_lookForFault_21 : decode cX6_lookForFault 21 = .ok (.iload 4, 2) := by decide +kernel
theorem dX6_lookForFault_23 : decode cX6_lookForFault 23 = .ok (.iload_n 2, 1) := by decide +kernel
theorem dX6_lookForFault_24 : decode cX6_lookForFault 24 = .ok (.iload_n 1, 1) := by decide +kernel
theorem dX6_lookForFault_25 : decode cX6_lookForFault 25 = .ok (.invokestatic 25, 3) := by decide +kernel
theorem dX6_lookForFault_28 : decode cX6_lookForFault 28 = .ok (.putfield 22, 3) := by decide +kernel
theorem dX6_lookForFault_31 : decode cX6_lookForFault 31 = .ok (.aload_n 0, 1) := by decide +kernel
theorem dX6_lookForFault_32 : decode cX6_lookForFault 32 = .ok (.invokevirtual 29, 3) := by decide +kernel
theorem dX6_lookForFault_35 : decode cX6_lookForFault 35 = .ok (.ifCond .eq 9, 3) := by decide +kernel
theorem dX6_lookForFault_38 : decode cX6_lookForFault 38 = .ok (.aload_n 0, 1) := by decide +kernel
theorem dX6_lookForFault_39 : decode cX6_lookForFault 39 = .ok (.iload_n 3, 1) := by decide +kernel
theorem dX6_lookForFault_40 : decode cX6_lookForFault 40 = .ok (.putfield 19, 3) := by decide +kernel
theorem dX6_lookForFault_43 : decode cX6_lookForFault 43 = .ok (.return_, 1) := by decide +kernel
theorem dX6_lookForFault_44 : decode cX6_lookForFault 44 = .ok (.iload 4, 2) := by decide +kernel
theorem dX6_lookForFault_46 : decode cX6_lookForFault 46 = .ok (.bipush 59, 2) := by decide +kernel
theorem dX6_lookForFault_48 : decode cX6_lookForFault 48 = .ok (.if_icmp .ne 7, 3) := by decide +kernel
theorem dX6_lookForFault_51 : decode cX6_lookForFault 51 = .ok (.iconst 0, 1) := by decide +kernel
theorem dX6_lookForFault_52 : decode cX6_lookForFault 52 = .ok (.goto 6, 3) := by decide +kernel
theorem dX6_lookForFault_55 : decode cX6_lookForFault 55 = .ok (.iload_n 2, 1) := by decide +kernel
theorem dX6_lookForFault_56 : decode cX6_lookForFault 56 = .ok (.iconst 1, 1) := by decide +kernel
theorem dX6_lookForFault_57 : decode cX6_lookForFault 57 = .ok (.iadd, 1) := by decide +kernel
theorem dX6_lookForFault_58 : decode cX6_lookForFault 58 = .ok (.istore_n 2, 1) := by decide +kernel
theorem dX6_lookForFault_59 : decode cX6_lookForFault 59 = .ok (.iinc 3 1, 3) := by decide +kernel
theorem dX6_lookForFault_62 : decode cX6_lookForFault 62 = .ok (.goto (-58), 3) := by decide +kernel
theorem dX6_lookForFault_65 : decode cX6_lookForFault 65 = .ok (.aload_n 0, 1) := by decide +kernel
theorem dX6_lookForFault_66 : decode cX6_lookForFault 66 = .ok (.iload_n 2, 1) := by decide +kernel
theorem dX6_lookForFault_67 : decode cX6_lookForFault 67 = .ok (.ifCond .ne 7, 3) := by decide +kernel
theorem dX6_lookForFault_70 : decode cX6_lookForFault 70 = .ok (.iconst 0, 1) := by decide +kernel
theorem dX6_lookForFault_71 : decode cX6_lookForFault 71 = .ok (.goto 4, 3) := by decide +kernel
theorem dX6_lookForFault_74 : decode cX6_lookForFault 74 = .ok (.iconst 4, 1) := by decide +kernel
theorem dX6_lookForFault_75 : decode cX6_lookForFault 75 = .ok (.putfield 22, 3) := by decide +kernel
theorem dX6_lookForFault_78 : decode cX6_lookForFault 78 = .ok (.aload_n 0, 1) := by decide +kernel
theorem dX6_lookForFault_79 : decode cX6_lookForFault 79 = .ok (.aload_n 0, 1) := by decide +kernel
theorem dX6_lookForFault_80 : decode cX6_lookForFault 80 = .ok (.getfield 15, 3) := by decide +kernel
theorem dX6_lookForFault_83 : decode cX6_lookForFault 83 = .ok (.putfield 19, 3) := by decide +kernel
theorem dX6_lookForFault_86 : decode cX6_lookForFault 86 = .ok (.return_, 1) := by decide +kernel
theorem dX6_reasonOf_0 : decode cX6_reasonOf 0 = .ok (.iload_n 1, 1) := by decide +kernel
theorem dX6_reasonOf_1 : decode cX6_reasonOf 1 = .ok (.ifCond .ne 16, 3) := by decide +kernel
theorem dX6_reasonOf_4 : decode cX6_reasonOf 4 = .ok (.iload_n 0, 1) := by decide +kernel
theorem dX6_reasonOf_5 : decode cX6_reasonOf 5 = .ok (.invokestatic 33, 3) := by decide +kernel
theorem dX6_reasonOf_8 : decode cX6_reasonOf 8 = .ok (.ifCond .eq 7, 3) := by decide +kernel
theorem dX6_reasonOf_11 : decode cX6_reasonOf 11 = .ok (.iconst 0, 1) := by decide +kernel
theorem dX6_reasonOf_12 : decode cX6_reasonOf 12 = .ok (.goto 4, 3) := by decide +kernel
theorem dX6_reasonOf_15 : decode cX6_reasonOf 15 = .ok (.iconst 1, 1) := by decide +kernel
theorem dX6_reasonOf_16 : decode cX6_reasonOf 16 = .ok (.ireturn, 1) := by decide +kernel
theorem dX6_reasonOf_17 : decode cX6_reasonOf 17 = .ok (.iload_n 1, 1) := by decide +kernel
theorem dX6_reasonOf_18 : decode cX6_reasonOf 18 = .ok (.iconst 1, 1) := by decide +kernel
theorem dX6_reasonOf_19 : decode cX6_reasonOf 19 = .ok (.if_icmp .ne 15, 3) := by decide +kernel
theorem dX6_reasonOf_22 : decode cX6_reasonOf 22 = .ok (.iload_n 0, 1) := by decide +kernel
end
section
theorem dX6_reasonOf_23 : decode cX6_reasonOf 23 = .ok (.bipush 61, 2) := by decide +kernel
theorem dX6_reasonOf_25 : decode cX6_reasonOf 25 = .ok (.if_icmp .ne 7, 3) := by decide +kernel
theorem dX6_reasonOf_28 : decode cX6_reasonOf 28 = .ok (.iconst 0, 1) := by decide +kernel
theorem dX6_reasonOf_29 : decode cX6_reasonOf 29 = .ok (.goto 4, 3) := by decide +kernel
theorem dX6_reasonOf_32 : decode cX6_reasonOf 32 = .ok (.iconst 1, 1) := by decide +kernel
theorem dX6_reasonOf_33 : decode cX6_reasonOf 33 = .ok (.ireturn, 1) := by decide +kernel
theorem dX6_reasonOf_34 : decode cX6_reasonOf 34 = .ok (.iload_n 0, 1) := by decide +kernel
theorem dX6_reasonOf_35 : decode cX6_reasonOf 35 = .ok (.bipush 59, 2) := by decide +kernel
theorem dX6_reasonOf_37 : decode cX6_reasonOf 37 = .ok (.if_icmp .ne 5, 3) := by decide +kernel
theorem dX6_reasonOf_40 : decode cX6_reasonOf 40 = .ok (.iconst 0, 1) := by decide +kernel
theorem dX6_reasonOf_41 : decode cX6_reasonOf 41 = .ok (.ireturn, 1) := by decide +kernel
theorem dX6_reasonOf_42 : decode cX6_reasonOf 42 = .ok (.iload_n 0, 1) := by decide +kernel
theorem dX6_reasonOf_43 : decode cX6_reasonOf 43 = .ok (.invokestatic 37, 3) := by decide +kernel
theorem dX6_reasonOf_46 : decode cX6_reasonOf 46 = .ok (.ifCond .ne 5, 3) := by decide +kernel
theorem dX6_reasonOf_49 : decode cX6_reasonOf 49 = .ok (.iconst 1, 1) := by decide +kernel
theorem dX6_reasonOf_50 : decode cX6_reasonOf 50 = .ok (.ireturn, 1) := by decide +kernel
theorem dX6_reasonOf_51 : decode cX6_reasonOf 51 = .ok (.iload_n 0, 1) := by decide +kernel
theorem dX6_reasonOf_52 : decode cX6_reasonOf 52 = .ok (.bipush 97, 2) := by decide +kernel
theorem dX6_reasonOf_54 : decode cX6_reasonOf 54 = .ok (.isub, 1) := by decide +kernel
theorem dX6_reasonOf_55 : decode cX6_reasonOf 55 = .ok (.iload_n 2, 1) := by decide +kernel
theorem dX6_reasonOf_56 : decode cX6_reasonOf 56 = .ok (.if_icmp .lt 5, 3) := by decide +kernel
theorem dX6_reasonOf_59 : decode cX6_reasonOf 59 = .ok (.iconst 2, 1) := by decide +kernel
theorem dX6_reasonOf_60 : decode cX6_reasonOf 60 = .ok (.ireturn, 1) := by decide +kernel
theorem dX6_reasonOf_61 : decode cX6_reasonOf 61 = .ok (.iload_n 1, 1) := by decide +kernel
theorem dX6_reasonOf_62 : decode cX6_reasonOf 62 = .ok (.iconst 5, 1) := by decide +kernel
theorem dX6_reasonOf_63 : decode cX6_reasonOf 63 = .ok (.if_icmp .ne 7, 3) := by decide +kernel
theorem dX6_reasonOf_66 : decode cX6_reasonOf 66 = .ok (.iconst 3, 1) := by decide +kernel
theorem dX6_reasonOf_67 : decode cX6_reasonOf 67 = .ok (.goto 4, 3) := by decide +kernel
theorem dX6_reasonOf_70 : decode cX6_reasonOf 70 = .ok (.iconst 0, 1) := by decide +kernel
theorem dX6_reasonOf_71 : decode cX6_reasonOf 71 = .ok (.ireturn, 1) := by decide +kernel
theorem dX6_isFieldDigit_0 : decode cX6_isFieldDigit 0 = .ok (.iload_n 0, 1) := by decide +kernel
theorem dX6_isFieldDigit_1 : decode cX6_isFieldDigit 1 = .ok (.bipush 48, 2) := by decide +kernel
theorem dX6_isFieldDigit_3 : decode cX6_isFieldDigit 3 = .ok (.bipush 53, 2) := by decide +kernel
theorem dX6_isFieldDigit_5 : decode cX6_isFieldDigit 5 = .ok (.invokestatic 40, 3) := by decide +kernel
theorem dX6_isFieldDigit_8 : decode cX6_isFieldDigit 8 = .ok (.ireturn, 1) := by decide +kernel
theorem dX6_isLetter_0 : decode cX6_isLetter 0 = .ok (.iload_n 0, 1) := by decide +kernel
theorem dX6_isLetter_1 : decode cX6_isLetter 1 = .ok (.bipush 97, 2) := by decide +kernel
theorem dX6_isLetter_3 : decode cX6_isLetter 3 = .ok (.bipush 108, 2) := by decide +kernel
theorem dX6_isLetter_5 : decode cX6_isLetter 5 = .ok (.invokestatic 40, 3) := by decide +kernel
theorem dX6_isLetter_8 : decode cX6_isLetter 8 = .ok (.ireturn, 1) := by decide +kernel
theorem dX7_init_0 : decode cX7_init 0 = .ok (.aload_n 0, 1) := by decide +kernel
theorem dX7_init_1 : decode cX7_init 1 = .ok (.invokespecial 3, 3) := by decide +kernel
theorem dX7_init_4 : decode cX7_init 4 = .ok (.aload_n 0, 1) := by decide +kernel
theorem dX7_init_5 : decode cX7_init 5 = .ok (.bipush 6, 2) := by decide +kernel
theorem dX7_init_7 : decode cX7_init 7 = .ok (.newarray .int, 2) := by decide +kernel
theorem dX7_init_9 : decode cX7_init 9 = .ok (.putfield 9, 3) := by decide +kernel
theorem dX7_init_12 : decode cX7_init 12 = .ok (.aload_n 0, 1) := by decide +kernel
theorem dX7_init_13 : decode cX7_init 13 = .ok (.bipush 18, 2) := by decide +kernel
theorem dX7_init_15 : decode cX7_init 15 = .ok (.newarray .int, 2) := by decide +kernel
theorem dX7_init_17 : decode cX7_init 17 = .ok (.putfield 15, 3) := by decide +kernel
theorem dX7_init_20 : decode cX7_init 20 = .ok (.return_, 1) := by decide +kernel
theorem dX7_append_0 : decode cX7_append 0 = .ok (.aload_n 0, 1) := by decide +kernel
theorem dX7_append_1 : decode cX7_append 1 = .ok (.getfield 15, 3) := by decide +kernel
theorem dX7_append_4 : decode cX7_append 4 = .ok (.iload_n 1, 1) := by decide +kernel
theorem dX7_append_5 : decode cX7_append 5 = .ok (.aload_n 0, 1) := by decide +kernel
theorem dX7_append_6 : decode cX7_append 6 = .ok (.getfield 9, 3) := by decide +kernel
theorem dX7_append_9 : decode cX7_append 9 = .ok (.iload_n 1, 1) := by decide +kernel
theorem dX7_append_10 : decode cX7_append 10 = .ok (.iaload, 1) := by decide +kernel
theorem dX7_append_11 : decode cX7_append 11 = .ok (.invokestatic 18, 3) := by decide +kernel
theorem dX7_append_14 : decode cX7_append 14 = .ok (.iload_n 2, 1) := by decide +kernel
theorem dX7_append_15 : decode cX7_append 15 = .ok (.iastore, 1) := by decide +kernel
theorem dX7_append_16 : decode cX7_append 16 = .ok (.aload_n 0, 1) := by decide +kernel
theorem dX7_append_17 : decode cX7_append 17 = .ok (.getfield 9, 3) := by decide +kernel
theorem dX7_append_20 : decode cX7_append 20 = .ok (.iload_n 1, 1) := by decide +kernel
theorem dX7_append_21 : decode cX7_append 21 = .ok (.dup2, 1) := by decide +kernel
theorem dX7_append_22 : decode cX7_append 22 = .ok (.iaload, 1) := by decide +kernel
theorem dX7_append_23 : decode cX7_append 23 = .ok (.iconst 1, 1) := by decide +kernel
theorem dX7_append_24 : decode cX7_append 24 = .ok (.iadd, 1) := by decide +kernel
theorem dX7_append_25 : decode cX7_append 25 = .ok (.iastore, 1) := by decide +kernel
theorem dX7_append_26 : decode cX7_append 26 = .ok (.return_, 1) := by decide +kernel
theorem dX7_colorsTogether_0 : decode cX7_colorsTogether 0 = .ok (.iconst 0, 1) := by decide +kernel
theorem dX7_colorsTogether_1 : decode cX7_colorsTogether 1 = .ok (.istore_n 1, 1) := by decide +kernel
theorem dX7_colorsTogether_2 : decode cX7_colorsTogether 2 = .ok (.iconst 0, 1) := by decide +kernel
theorem dX7_colorsTogether_3 : decode cX7_colorsTogether 3 = .ok (.istore_n 2, 1) := by decide +kernel
theorem dX7_colorsTogether_4 : decode cX7_colorsTogether 4 = .ok (.iload_n 2, 1) := by decide +kernel
theorem dX7_colorsTogether_5 : decode cX7_colorsTogether 5 = .ok (.bipush 6, 2) := by decide +kernel
theorem dX7_colorsTogether_7 : decode cX7_colorsTogether 7 = .ok (.if_icmp .ge 18, 3) := by decide +kernel
theorem dX7_colorsTogether_10 : decode cX7_colorsTogether 10 = .ok (.iload_n 1, 1) := by decide +kernel
theorem dX7_colorsTogether_11 : decode cX7_colorsTogether 11 = .ok (.aload_n 0, 1) := by decide +kernel
theorem dX7_colorsTogether_12 : decode cX7_colorsTogether 12 = .ok (.getfield 9, 3) := by decide +kernel
theorem dX7_colorsTogether_15 : decode cX7_colorsTogether 15 = .ok (.iload_n 2, 1) := by decide +kernel
theorem dX7_colorsTogether_16 : decode cX7_colorsTogether 16 = .ok (.iaload, 1) := by decide +kernel
theorem dX7_colorsTogether_17 : decode cX7_colorsTogether 17 = .ok (.iadd, 1) := by decide +kernel
theorem dX7_colorsTogether_18 : decode cX7_colorsTogether 18 = .ok (.istore_n 1, 1) := by decide +kernel
theorem dX7_colorsTogether_19 : decode cX7_colorsTogether 19 = .ok (.iinc 2 1, 3) := by decide +kernel
theorem dX7_colorsTogether_22 : decode cX7_colorsTogether 22 = .ok (.goto (-18), 3) := by decide +kernel
theorem dX7_colorsTogether_25 : decode cX7_colorsTogether 25 = .ok (.iload_n 1, 1) := by decide +kernel
theorem dX7_colorsTogether_26 : decode cX7_colorsTogether 26 = .ok (.ireturn, 1) := by decide +kernel
theorem dX7_timesOfColor_0 : decode cX7_timesOfColor 0 = .ok (.iconst 0, 1) := by decide +kernel
theorem dX7_timesOfColor_1 : decode cX7_timesOfColor 1 = .ok (.istore_n 2, 1) := by decide +kernel
theorem dX7_timesOfColor_2 : decode cX7_timesOfColor 2 = .ok (.iconst 0, 1) := by decide +kernel
theorem dX7_timesOfColor_3 : decode cX7_timesOfColor 3 = .ok (.istore_n 3, 1) := by decide +kernel
theorem dX7_timesOfColor_4 : decode cX7_timesOfColor 4 = .ok (.iload_n 3, 1) := by decide +kernel
theorem dX7_timesOfColor_5 : decode cX7_timesOfColor 5 = .ok (.bipush 6, 2) := by decide +kernel
theorem dX7_timesOfColor_7 : decode cX7_timesOfColor 7 = .ok (.if_icmp .ge 47, 3) := by decide +kernel
theorem dX7_timesOfColor_10 : decode cX7_timesOfColor 10 = .ok (.iconst 0, 1) := by decide +kernel
theorem dX7_timesOfColor_11 : decode cX7_timesOfColor 11 = .ok (.istore 4, 2) := by decide +kernel
theorem dX7_timesOfColor_13 : decode cX7_timesOfColor 13 = .ok (.iload 4, 2) := by decide +kernel
theorem dX7_timesOfColor_15 : decode cX7_timesOfColor 15 = .ok (.aload_n 0, 1) := by decide +kernel
theorem dX7_timesOfColor_16 : decode cX7_timesOfColor 16 = .ok (.getfield 9, 3) := by decide +kernel
theorem dX7_timesOfColor_19 : decode cX7_timesOfColor 19 = .ok (.iload_n 3, 1) := by decide +kernel
theorem dX7_timesOfColor_20 : decode cX7_timesOfColor 20 = .ok (.iaload, 1) := by decide +kernel
theorem dX7_timesOfColor_21 : decode cX7_timesOfColor 21 = .ok (.if_icmp .ge 27, 3) := by decide +kernel
theorem dX7_timesOfColor_24 : decode cX7_timesOfColor 24 = .ok (.aload_n 0, 1) := by decide +kernel
theorem dX7_timesOfColor_25 : decode cX7_timesOfColor 25 = .ok (.getfield 15, 3) := by decide +kernel
theorem dX7_timesOfColor_28 : decode cX7_timesOfColor 28 = .ok (.iload_n 3, 1) := by decide +kernel
theorem dX7_timesOfColor_29 : decode cX7_timesOfColor 29 = .ok (.iload 4, 2) := by decide +kernel
theorem dX7_timesOfColor_31 : decode cX7_timesOfColor 31 = .ok (.invokestatic 18, 3) := by decide +kernel
theorem dX7_timesOfColor_34 : decode cX7_timesOfColor 34 = .ok (.iaload, 1) := by decide +kernel
theorem dX7_timesOfColor_35 : decode cX7_timesOfColor 35 = .ok (.iload_n 1, 1) := by decide +kernel
theorem dX7_timesOfColor_36 : decode cX7_timesOfColor 36 = .ok (.if_icmp .ne 6, 3) := by decide +kernel
theorem dX7_timesOfColor_39 : decode cX7_timesOfColor 39 = .ok (.iinc 2 1, 3) := by decide +kernel
theorem dX7_timesOfColor_42 : decode cX7_timesOfColor 42 = .ok (.iinc 4 1, 3) := by decide +kernel
theorem dX7_timesOfColor_45 : decode cX7_timesOfColor 45 = .ok (.goto (-32), 3) := by decide +kernel
theorem dX7_timesOfColor_48 : decode cX7_timesOfColor 48 = .ok (.iinc 3 1, 3) := by decide +kernel
theorem dX7_timesOfColor_51 : decode cX7_timesOfColor 51 = .ok (.goto (-47), 3) := by decide +kernel
theorem dX7_timesOfColor_54 : decode cX7_timesOfColor 54 = .ok (.iload_n 2, 1) := by decide +kernel
theorem dX7_timesOfColor_55 : decode cX7_timesOfColor 55 = .ok (.ireturn, 1) := by decide +kernel
theorem dX7_copyFrom_0 : decode cX7_copyFrom 0 = .ok (.aload_n 1, 1) := by decide +kernel
theorem dX7_copyFrom_1 : decode cX7_copyFrom 1 = .ok (.getfield 9, 3) := by decide +kernel
theorem dX7_copyFrom_4 : decode cX7_copyFrom 4 = .ok (.aload_n 0, 1) := by decide +kernel
theorem dX7_copyFrom_5 : decode cX7_copyFrom 5 = .ok (.getfield 9, 3) := by decide +kernel
theorem dX7_copyFrom_8 : decode cX7_copyFrom 8 = .ok (.invokestatic 22, 3) := by decide +kernel
theorem dX7_copyFrom_11 : decode cX7_copyFrom 11 = .ok (.aload_n 1, 1) := by decide +kernel
theorem dX7_copyFrom_12 : decode cX7_copyFrom 12 = .ok (.getfield 15, 3) := by decide +kernel
theorem dX7_copyFrom_15 : decode cX7_copyFrom 15 = .ok (.aload_n 0, 1) := by decide +kernel
theorem dX7_copyFrom_16 : decode cX7_copyFrom 16 = .ok (.getfield 15, 3) := by decide +kernel
theorem dX7_copyFrom_19 : decode cX7_copyFrom 19 = .ok (.invokestatic 22, 3) := by decide +kernel
theorem dX7_copyFrom_22 : decode cX7_copyFrom 22 = .ok (.return_, 1) := by decide +kernel
theorem dX8_init_0 : decode cX8_init 0 = .ok (.aload_n 0, 1) := by decide +kernel
theorem dX8_init_1 : decode cX8_init 1 = .ok (.invokespecial 1, 3) := by decide +kernel
theorem dX8_init_4 : decode cX8_init 4 = .ok (.aload_n 0, 1) := by decide +kernel
theorem dX8_init_5 : decode cX8_init 5 = .ok (.new 7, 3) := by decide +kernel
theorem dX8_init_8 : decode cX8_init 8 = .ok (.dup, 1) := by decide +kernel
theorem dX8_init_9 : decode cX8_init 9 = .ok (.invokespecial 9, 3) := by decide +kernel
theorem dX8_init_12 : decode cX8_init 12 = .ok (.putfield 10, 3) := by decide +kernel
theorem dX8_init_15 : decode cX8_init 15 = .ok (.aload_n 0, 1) := by decide +kernel
theorem dX8_init_16 : decode cX8_init 16 = .ok (.new 16, 3) := by decide +kernel
theorem dX8_init_19 : decode cX8_init 19 = .ok (.dup, 1) := by decide +kernel
theorem dX8_init_20 : decode cX8_init 20 = .ok (.invokespecial 18, 3) := by decide +kernel
theorem dX8_init_23 : decode cX8_init 23 = .ok (.putfield 19, 3) := by decide +kernel
theorem dX8_init_26 : decode cX8_init 26 = .ok (.aload_n 0, 1) := by decide +kernel
theorem dX8_init_27 : decode cX8_init 27 = .ok (.new 23, 3) := by decide +kernel
theorem dX8_init_30 : decode cX8_init 30 = .ok (.dup, 1) := by decide +kernel
theorem dX8_init_31 : decode cX8_init 31 = .ok (.invokespecial 25, 3) := by decide +kernel
theorem dX8_init_34 : decode cX8_init 34 = .ok (.putfield 26, 3) := by decide +kernel
theorem dX8_init_37 : decode cX8_init 37 = .ok (.aload_n 0, 1) := by decide +kernel
theorem dX8_init_38 : decode cX8_init 38 = .ok (.new 30, 3) := by decide +kernel
theorem dX8_init_41 : decode cX8_init 41 = .ok (.dup, 1) := by decide +kernel
theorem dX8_init_42 : decode cX8_init 42 = .ok (.invokespecial 32, 3) := by decide +kernel
theorem dX8_init_45 : decode cX8_init 45 = .ok (.putfield 33, 3) := by decide +kernel
theorem dX8_init_48 : decode cX8_init 48 = .ok (.aload_n 0, 1) := by decide +kernel
theorem dX8_init_49 : decode cX8_init 49 = .ok (.new 37, 3) := by decide +kernel
theorem dX8_init_52 : decode cX8_init 52 = .ok (.dup, 1) := by decide +kernel
theorem dX8_init_53 : decode cX8_init 53 = .ok (.invokespecial 39, 3) := by decide +kernel
theorem dX8_init_56 : decode cX8_init 56 = .ok (.putfield 40, 3) := by decide +kernel
theorem dX8_init_59 : decode cX8_init 59 = .ok (.aload_n 0, 1) := by decide +kernel
theorem dX8_init_60 : decode cX8_init 60 = .ok (.new 44, 3) := by decide +kernel
theorem dX8_init_63 : decode cX8_init 63 = .ok (.dup, 1) := by decide +kernel
theorem dX8_init_64 : decode cX8_init 64 = .ok (.invokespecial 46, 3) := by decide +kernel
theorem dX8_init_67 : decode cX8_init 67 = .ok (.putfield 47, 3) := by decide +kernel
theorem dX8_init_70 : decode cX8_init 70 = .ok (.aload_n 0, 1) := by decide +kernel
theorem dX8_init_71 : decode cX8_init 71 = .ok (.iconst 1, 1) := by decide +kernel
theorem dX8_init_72 : decode cX8_init 72 = .ok (.putfield 51, 3) := by decide +kernel
theorem dX8_init_75 : decode cX8_init 75 = .ok (.return_, 1) := by decide +kernel
theorem dX8_color_0 : decode cX8_color 0 = .ok (.iload_n 1, 1) := by decide +kernel
theorem dX8_color_1 : decode cX8_color 1 = .ok (.sipush 600, 3) := by decide +kernel
theorem dX8_color_4 : decode cX8_color 4 = .ok (.sipush 900, 3) := by decide +kernel
theorem dX8_color_7 : decode cX8_color 7 = .ok (.invokestatic 55, 3) := by decide +kernel
theorem dX8_color_10 : decode cX8_color 10 = .ok (.ifCond .eq 31, 3) := by decide +kernel
theorem dX8_color_13 : decode cX8_color 13 = .ok (.iload_n 2, 1) := by decide +kernel
theorem dX8_color_14 : decode cX8_color 14 = .ok (.iload_n 1, 1) := by decide +kernel
theorem dX8_color_15 : decode cX8_color 15 = .ok (.bipush 10, 2) := by decide +kernel
theorem dX8_color_17 : decode cX8_color 17 = .ok (.iadd, 1) := by decide +kernel
theorem dX8_color_18 : decode cX8_color 18 = .ok (.iload_n 1, 1) := by decide +kernel
theorem dX8_color_19 : decode cX8_color 19 = .ok (.sipush 200, 3) := by decide +kernel
theorem dX8_color_22 : decode cX8_color 22 = .ok (.iadd, 1) := by decide +kernel
theorem dX8_color_23 : decode cX8_color 23 = .ok (.invokestatic 55, 3) := by decide +kernel
theorem dX8_color_26 : decode cX8_color 26 = .ok (.ifCond .eq 15, 3) := by decide +kernel
theorem dX8_color_29 : decode cX8_color 29 = .ok (.iload_n 3, 1) := by decide +kernel
theorem dX8_color_30 : decode cX8_color 30 = .ok (.bipush 60, 2) := by decide +kernel
theorem dX8_color_32 : decode cX8_color 32 = .ok (.sipush 160, 3) := by decide +kernel
theorem dX8_color_35 : decode cX8_color 35 = .ok (.invokestatic 55, 3) := by decide +kernel
theorem dX8_color_38 : decode cX8_color 38 = .ok (.ifCond .ne 5, 3) := by decide +kernel
theorem dX8_color_41 : decode cX8_color 41 = .ok (.iconst (-1), 1) := by decide +kernel
theorem dX8_color_42 : decode cX8_color 42 = .ok (.ireturn, 1) := by decide +kernel
theorem dX8_color_43 : decode cX8_color 43 = .ok (.aload_n 0, 1) := by decide +kernel
theorem dX8_color_44 : decode cX8_color 44 = .ok (.getfield 10, 3) := by decide +kernel
theorem dX8_color_47 : decode cX8_color 47 = .ok (.getfield 59, 3) := by decide +kernel
theorem dX8_color_50 : decode cX8_color 50 = .ok (.getfield 63, 3) := by decide +kernel
theorem dX8_color_53 : decode cX8_color 53 = .ok (.bipush 12, 2) := by decide +kernel
theorem dX8_color_55 : decode cX8_color 55 = .ok (.if_icmp .lt 6, 3) := by decide +kernel
theorem dX8_color_58 : decode cX8_color 58 = .ok (.bipush (-3), 2) := by decide +kernel
theorem dX8_color_60 : decode cX8_color 60 = .ok (.ireturn, 1) := by decide +kernel
theorem dX8_color_61 : decode cX8_color 61 = .ok (.aload_n 0, 1) := by decide +kernel
theorem dX8_color_62 : decode cX8_color 62 = .ok (.getfield 19, 3) := by decide +kernel
theorem dX8_color_65 : decode cX8_color 65 = .ok (.aload_n 0, 1) := by decide +kernel
theorem dX8_color_66 : decode cX8_color 66 = .ok (.getfield 10, 3) := by decide +kernel
theorem dX8_color_69 : decode cX8_color 69 = .ok (.invokevirtual 69, 3) := by decide +kernel
theorem dX8_color_72 : decode cX8_color 72 = .ok (.aload_n 0, 1) := by decide +kernel
theorem dX8_color_73 : decode cX8_color 73 = .ok (.getfield 10, 3) := by decide +kernel
theorem dX8_color_76 : decode cX8_color 76 = .ok (.getfield 59, 3) := by decide +kernel
theorem dX8_color_79 : decode cX8_color 79 = .ok (.iload_n 1, 1) := by decide +kernel
theorem dX8_color_80 : decode cX8_color 80 = .ok (.iload_n 2, 1) := by decide +kernel
theorem dX8_color_81 : decode cX8_color 81 = .ok (.iload_n 3, 1) := by decide +kernel
theorem dX8_color_82 : decode cX8_color 82 = .ok (.invokevirtual 73, 3) := by decide +kernel
theorem dX8_color_85 : decode cX8_color 85 = .ok (.ireturn, 1) := by decide +kernel
theorem dX8_colorInfo_0 : decode cX8_colorInfo 0 = .ok (.aload_n 0, 1) := by decide +kernel
theorem dX8_colorInfo_1 : decode cX8_colorInfo 1 = .ok (.iload_n 1, 1) := by decide +kernel
theorem dX8_colorInfo_2 : decode cX8_colorInfo 2 = .ok (.invokevirtual 77, 3) := by decide +kernel
theorem dX8_colorInfo_5 : decode cX8_colorInfo 5 = .ok (.ifCond .ne 5, 3) := by decide +kernel
theorem dX8_colorInfo_8 : decode cX8_colorInfo 8 = .ok (.iconst (-1), 1) := by decide +kernel
theorem dX8_colorInfo_9 : decode cX8_colorInfo 9 = .ok (.ireturn, 1) := by decide +kernel
theorem dX8_colorInfo_10 : decode cX8_colorInfo 10 = .ok (.iload_n 2, 1) := by decide +kernel
theorem dX8_colorInfo_11 : decode cX8_colorInfo 11 = .ok (.tableswitch 112 0 5 #[37, 50, 63, 76, 88, 100], 37) := by decide +kernel
theorem dX8_colorInfo_48 : decode cX8_colorInfo 48 = .ok (.aload_n 0, 1) := by decide +kernel
theorem dX8_colorInfo_49 : decode cX8_colorInfo 49 = .ok (.getfield 10, 3) := by decide +kernel
theorem dX8_colorInfo_52 : decode cX8_colorInfo 52 = .ok (.getfield 59, 3) := by decide +kernel
theorem dX8_colorInfo_55 : decode cX8_colorInfo 55 = .ok (.getfield 81, 3) := by decide +kernel
theorem dX8_colorInfo_58 : decode cX8_colorInfo 58 = .ok (.iload_n 1, 1) := by decide +kernel
theorem dX8_colorInfo_59 : decode cX8_colorInfo 59 = .ok (.iaload, 1) := by decide +kernel
theorem dX8_colorInfo_60 : decode cX8_colorInfo 60 = .ok (.ireturn, 1) := by decide +kernel
theorem dX8_colorInfo_61 : decode cX8_colorInfo 61 = .ok (.aload_n 0, 1) := by decide +kernel
theorem dX8_colorInfo_62 : decode cX8_colorInfo 62 = .ok (.getfield 10, 3) := by decide +kernel
theorem dX8_colorInfo_65 : decode cX8_colorInfo 65 = .ok (.getfield 59, 3) := by decide +kernel
theorem dX8_colorInfo_68 : decode cX8_colorInfo 68 = .ok (.getfield 85, 3) := by decide +kernel
theorem dX8_colorInfo_71 : decode cX8_colorInfo 71 = .ok (.iload_n 1, 1) := by decide +kernel
theorem dX8_colorInfo_72 : decode cX8_colorInfo 72 = .ok (.iaload, 1) := by decide +kernel
theorem dX8_colorInfo_73 : decode cX8_colorInfo 73 = .ok (.ireturn, 1) := by decide +kernel
theorem dX8_colorInfo_74 : decode cX8_colorInfo 74 = .ok (.aload_n 0, 1) := by decide +kernel
theorem dX8_colorInfo_75 : decode cX8_colorInfo 75 = .ok (.getfield 10, 3) := by decide +kernel
theorem dX8_colorInfo_78 : decode cX8_colorInfo 78 = .ok (.getfield 59, 3) := by decide +kernel
theorem dX8_colorInfo_81 : decode cX8_colorInfo 81 = .ok (.getfield 88, 3) := by decide +kernel
theorem dX8_colorInfo_84 : decode cX8_colorInfo 84 = .ok (.iload_n 1, 1) := by decide +kernel
theorem dX8_colorInfo_85 : decode cX8_colorInfo 85 = .ok (.iaload, 1) := by decide +kernel
theorem dX8_colorInfo_86 : decode cX8_colorInfo 86 = .ok (.ireturn, 1) := by decide +kernel
theorem dX8_colorInfo_87 : decode cX8_colorInfo 87 = .ok (.aload_n 0, 1) := by decide +kernel
theorem dX8_colorInfo_88 : decode cX8_colorInfo 88 = .ok (.getfield 10, 3) := by decide +kernel
theorem dX8_colorInfo_91 : decode cX8_colorInfo 91 = .ok (.getfield 59, 3) := by decide +kernel
theorem dX8_colorInfo_94 : decode cX8_colorInfo 94 = .ok (.iload_n 1, 1) := by decide +kernel
theorem dX8_colorInfo_95 : decode cX8_colorInfo 95 = .ok (.invokevirtual 91, 3) := by decide +kernel
theorem dX8_colorInfo_98 : decode cX8_colorInfo 98 = .ok (.ireturn, 1) := by decide +kernel
theorem dX8_colorInfo_99 : decode cX8_colorInfo 99 = .ok (.aload_n 0, 1) := by decide +kernel
theorem dX8_colorInfo_100 : decode cX8_colorInfo 100 = .ok (.getfield 10, 3) := by decide +kernel
theorem dX8_colorInfo_103 : decode cX8_colorInfo 103 = .ok (.getfield 95, 3) := by decide +kernel
theorem dX8_colorInfo_106 : decode cX8_colorInfo 106 = .ok (.iload_n 1, 1) := by decide +kernel
theorem dX8_colorInfo_107 : decode cX8_colorInfo 107 = .ok (.invokevirtual 98, 3) := by decide +kernel
theorem dX8_colorInfo_110 : decode cX8_colorInfo 110 = .ok (.ireturn, 1) := by decide +kernel
theorem dX8_colorInfo_111 : decode cX8_colorInfo 111 = .ok (.aload_n 0, 1) := by decide +kernel
theorem dX8_colorInfo_112 : decode cX8_colorInfo 112 = .ok (.getfield 10, 3) := by decide +kernel
theorem dX8_colorInfo_115 : decode cX8_colorInfo 115 = .ok (.getfield 101, 3) := by decide +kernel
theorem dX8_colorInfo_118 : decode cX8_colorInfo 118 = .ok (.iload_n 1, 1) := by decide +kernel
theorem dX8_colorInfo_119 : decode cX8_colorInfo 119 = .ok (.invokevirtual 105, 3) := by decide +kernel
theorem dX8_colorInfo_122 : decode cX8_colorInfo 122 = .ok (.ireturn, 1) := by decide +kernel
theorem dX8_colorInfo_123 : decode cX8_colorInfo 123 = .ok (.iconst (-1), 1) := by decide +kernel
theorem dX8_colorInfo_124 : decode cX8_colorInfo 124 = .ok (.ireturn, 1) := by decide +kernel
theorem dX8_put_0 : decode cX8_put 0 = .ok (.iload_n 1, 1) := by decide +kernel
theorem dX8_put_1 : decode cX8_put 1 = .ok (.invokestatic 110, 3) := by decide +kernel
theorem dX8_put_4 : decode cX8_put 4 = .ok (.ifCond .eq 11, 3) := by decide +kernel
theorem dX8_put_7 : decode cX8_put 7 = .ok (.aload_n 0, 1) := by decide +kernel
theorem dX8_put_8 : decode cX8_put 8 = .ok (.iload_n 2, 1) := by decide +kernel
theorem dX8_put_9 : decode cX8_put 9 = .ok (.invokevirtual 77, 3) := by decide +kernel
theorem dX8_put_12 : decode cX8_put 12 = .ok (.ifCond .ne 5, 3) := by decide +kernel
theorem dX8_put_15 : decode cX8_put 15 = .ok (.iconst (-1), 1) := by decide +kernel
theorem dX8_put_16 : decode cX8_put 16 = .ok (.ireturn, 1) := by decide +kernel
theorem dX8_put_17 : decode cX8_put 17 = .ok (.aload_n 0, 1) := by decide +kernel
theorem dX8_put_18 : decode cX8_put 18 = .ok (.getfield 10, 3) := by decide +kernel
theorem dX8_put_21 : decode cX8_put 21 = .ok (.getfield 95, 3) := by decide +kernel
theorem dX8_put_24 : decode cX8_put 24 = .ok (.iload_n 1, 1) := by decide +kernel
theorem dX8_put_25 : decode cX8_put 25 = .ok (.invokevirtual 113, 3) := by decide +kernel
theorem dX8_put_28 : decode cX8_put 28 = .ok (.ifCond .eq 6, 3) := by decide +kernel
theorem dX8_put_31 : decode cX8_put 31 = .ok (.bipush (-2), 2) := by decide +kernel
theorem dX8_put_33 : decode cX8_put 33 = .ok (.ireturn, 1) := by decide +kernel
theorem dX8_put_34 : decode cX8_put 34 = .ok (.aload_n 0, 1) := by decide +kernel
theorem dX8_put_35 : decode cX8_put 35 = .ok (.getfield 10, 3) := by decide +kernel
theorem dX8_put_38 : decode cX8_put 38 = .ok (.getfield 95, 3) := by decide +kernel
theorem dX8_put_41 : decode cX8_put 41 = .ok (.getfield 116, 3) := by decide +kernel
theorem dX8_put_44 : decode cX8_put 44 = .ok (.iload_n 1, 1) := by decide +kernel
theorem dX8_put_45 : decode cX8_put 45 = .ok (.iaload, 1) := by decide +kernel
theorem dX8_put_46 : decode cX8_put 46 = .ok (.iconst 3, 1) := by decide +kernel
theorem dX8_put_47 : decode cX8_put 47 = .ok (.if_icmp .lt 6, 3) := by decide +kernel
theorem dX8_put_50 : decode cX8_put 50 = .ok (.bipush (-3), 2) := by decide +kernel
theorem dX8_put_52 : decode cX8_put 52 = .ok (.ireturn, 1) := by decide +kernel
theorem dX8_put_53 : decode cX8_put 53 = .ok (.aload_n 0, 1) := by decide +kernel
theorem dX8_put_54 : decode cX8_put 54 = .ok (.getfield 19, 3) := by decide +kernel
theorem dX8_put_57 : decode cX8_put 57 = .ok (.aload_n 0, 1) := by decide +kernel
theorem dX8_put_58 : decode cX8_put 58 = .ok (.getfield 10, 3) := by decide +kernel
theorem dX8_put_61 : decode cX8_put 61 = .ok (.invokevirtual 69, 3) := by decide +kernel
theorem dX8_put_64 : decode cX8_put 64 = .ok (.aload_n 0, 1) := by decide +kernel
theorem dX8_put_65 : decode cX8_put 65 = .ok (.getfield 10, 3) := by decide +kernel
theorem dX8_put_68 : decode cX8_put 68 = .ok (.getfield 119, 3) := by decide +kernel
theorem dX8_put_71 : decode cX8_put 71 = .ok (.iconst 2, 1) := by decide +kernel
theorem dX8_put_72 : decode cX8_put 72 = .ok (.dup2, 1) := by decide +kernel
theorem dX8_put_73 : decode cX8_put 73 = .ok (.iaload, 1) := by decide +kernel
theorem dX8_put_74 : decode cX8_put 74 = .ok (.iconst 1, 1) := by decide +kernel
theorem dX8_put_75 : decode cX8_put 75 = .ok (.iadd, 1) := by decide +kernel
theorem dX8_put_76 : decode cX8_put 76 = .ok (.iastore, 1) := by decide +kernel
theorem dX8_put_77 : decode cX8_put 77 = .ok (.aload_n 0, 1) := by decide +kernel
theorem dX8_put_78 : decode cX8_put 78 = .ok (.getfield 10, 3) := by decide +kernel
theorem dX8_put_81 : decode cX8_put 81 = .ok (.getfield 95, 3) := by decide +kernel
theorem dX8_put_84 : decode cX8_put 84 = .ok (.iload_n 1, 1) := by decide +kernel
theorem dX8_put_85 : decode cX8_put 85 = .ok (.iload_n 2, 1) := by decide +kernel
theorem dX8_put_86 : decode cX8_put 86 = .ok (.invokevirtual 122, 3) := by decide +kernel
theorem dX8_put_89 : decode cX8_put 89 = .ok (.ireturn, 1) := by decide +kernel
theorem dX8_takeOff_0 : decode cX8_takeOff 0 = .ok (.iload_n 1, 1) := by decide +kernel
theorem dX8_takeOff_1 : decode cX8_takeOff 1 = .ok (.invokestatic 110, 3) := by decide +kernel
theorem dX8_takeOff_4 : decode cX8_takeOff 4 = .ok (.ifCond .ne 5, 3) := by decide +kernel
theorem dX8_takeOff_7 : decode cX8_takeOff 7 = .ok (.iconst (-1), 1) := by decide +kernel
theorem dX8_takeOff_8 : decode cX8_takeOff 8 = .ok (.ireturn, 1) := by decide +kernel
theorem dX8_takeOff_9 : decode cX8_takeOff 9 = .ok (.aload_n 0, 1) := by decide +kernel
theorem dX8_takeOff_10 : decode cX8_takeOff 10 = .ok (.getfield 10, 3) := by decide +kernel
theorem dX8_takeOff_13 : decode cX8_takeOff 13 = .ok (.getfield 95, 3) := by decide +kernel
theorem dX8_takeOff_16 : decode cX8_takeOff 16 = .ok (.iload_n 1, 1) := by decide +kernel
theorem dX8_takeOff_17 : decode cX8_takeOff 17 = .ok (.invokevirtual 113, 3) := by decide +kernel
theorem dX8_takeOff_20 : decode cX8_takeOff 20 = .ok (.ifCond .ne 6, 3) := by decide +kernel
theorem dX8_takeOff_23 : decode cX8_takeOff 23 = .ok (.bipush (-2), 2) := by decide +kernel
theorem dX8_takeOff_25 : decode cX8_takeOff 25 = .ok (.ireturn, 1) := by decide +kernel
theorem dX8_takeOff_26 : decode cX8_takeOff 26 = .ok (.aload_n 0, 1) := by decide +kernel
theorem dX8_takeOff_27 : decode cX8_takeOff 27 = .ok (.getfield 19, 3) := by decide +kernel
theorem dX8_takeOff_30 : decode cX8_takeOff 30 = .ok (.aload_n 0, 1) := by decide +kernel
theorem dX8_takeOff_31 : decode cX8_takeOff 31 = .ok (.getfield 10, 3) := by decide +kernel
theorem dX8_takeOff_34 : decode cX8_takeOff 34 = .ok (.invokevirtual 69, 3) := by decide +kernel
theorem dX8_takeOff_37 : decode cX8_takeOff 37 = .ok (.aload_n 0, 1) := by decide +kernel
theorem dX8_takeOff_38 : decode cX8_takeOff 38 = .ok (.getfield 10, 3) := by decide +kernel
theorem dX8_takeOff_41 : decode cX8_takeOff 41 = .ok (.getfield 119, 3) := by decide +kernel
theorem dX8_takeOff_44 : decode cX8_takeOff 44 = .ok (.iconst 3, 1) := by decide +kernel
theorem dX8_takeOff_45 : decode cX8_takeOff 45 = .ok (.dup2, 1) := by decide +kernel
theorem dX8_takeOff_46 : decode cX8_takeOff 46 = .ok (.iaload, 1) := by decide +kernel
theorem dX8_takeOff_47 : decode cX8_takeOff 47 = .ok (.iconst 1, 1) := by decide +kernel
theorem dX8_takeOff_48 : decode cX8_takeOff 48 = .ok (.iadd, 1) := by decide +kernel
theorem dX8_takeOff_49 : decode cX8_takeOff 49 = .ok (.iastore, 1) := by decide +kernel
theorem dX8_takeOff_50 : decode cX8_takeOff 50 = .ok (.aload_n 0, 1) := by decide +kernel
theorem dX8_takeOff_51 : decode cX8_takeOff 51 = .ok (.getfield 10, 3) := by decide +kernel
theorem dX8_takeOff_54 : decode cX8_takeOff 54 = .ok (.getfield 95, 3) := by decide +kernel
theorem dX8_takeOff_57 : decode cX8_takeOff 57 = .ok (.iload_n 1, 1) := by decide +kernel
theorem dX8_takeOff_58 : decode cX8_takeOff 58 = .ok (.invokevirtual 125, 3) := by decide +kernel
theorem dX8_takeOff_61 : decode cX8_takeOff 61 = .ok (.ireturn, 1) := by decide +kernel
theorem dX8_clean_0 : decode cX8_clean 0 = .ok (.aload_n 0, 1) := by decide +kernel
theorem dX8_clean_1 : decode cX8_clean 1 = .ok (.getfield 10, 3) := by decide +kernel
theorem dX8_clean_4 : decode cX8_clean 4 = .ok (.getfield 95, 3) := by decide +kernel
theorem dX8_clean_7 : decode cX8_clean 7 = .ok (.invokevirtual 128, 3) := by decide +kernel
theorem dX8_clean_10 : decode cX8_clean 10 = .ok (.istore_n 1, 1) := by decide +kernel
theorem dX8_clean_11 : decode cX8_clean 11 = .ok (.aload_n 0, 1) := by decide +kernel
theorem dX8_clean_12 : decode cX8_clean 12 = .ok (.getfield 19, 3) := by decide +kernel
theorem dX8_clean_15 : decode cX8_clean 15 = .ok (.aload_n 0, 1) := by decide +kernel
theorem dX8_clean_16 : decode cX8_clean 16 = .ok (.getfield 10, 3) := by decide +kernel
theorem dX8_clean_19 : decode cX8_clean 19 = .ok (.invokevirtual 69, 3) := by decide +kernel
theorem dX8_clean_22 : decode cX8_clean 22 = .ok (.aload_n 0, 1) := by decide +kernel
theorem dX8_clean_23 : decode cX8_clean 23 = .ok (.getfield 10, 3) := by decide +kernel
theorem dX8_clean_26 : decode cX8_clean 26 = .ok (.getfield 95, 3) := by decide +kernel
theorem dX8_clean_29 : decode cX8_clean 29 = .ok (.invokevirtual 132, 3) := by decide +kernel
theorem dX8_clean_32 : decode cX8_clean 32 = .ok (.aload_n 0, 1) := by decide +kernel
theorem dX8_clean_33 : decode cX8_clean 33 = .ok (.getfield 10, 3) := by decide +kernel
theorem dX8_clean_36 : decode cX8_clean 36 = .ok (.getfield 119, 3) := by decide +kernel
theorem dX8_clean_39 : decode cX8_clean 39 = .ok (.iconst 2, 1) := by decide +kernel
theorem dX8_clean_40 : decode cX8_clean 40 = .ok (.iconst 0, 1) := by decide +kernel
theorem dX8_clean_41 : decode cX8_clean 41 = .ok (.iastore, 1) := by decide +kernel
theorem dX8_clean_42 : decode cX8_clean 42 = .ok (.aload_n 0, 1) := by decide +kernel
theorem dX8_clean_43 : decode cX8_clean 43 = .ok (.getfield 10, 3) := by decide +kernel
theorem dX8_clean_46 : decode cX8_clean 46 = .ok (.getfield 119, 3) := by decide +kernel
theorem dX8_clean_49 : decode cX8_clean 49 = .ok (.iconst 3, 1) := by decide +kernel
theorem dX8_clean_50 : decode cX8_clean 50 = .ok (.iconst 0, 1) := by decide +kernel
theorem dX8_clean_51 : decode cX8_clean 51 = .ok (.iastore, 1) := by decide +kernel
theorem dX8_clean_52 : decode cX8_clean 52 = .ok (.iload_n 1, 1) := by decide +kernel
theorem dX8_clean_53 : decode cX8_clean 53 = .ok (.ireturn, 1) := by decide +kernel
theorem dX8_layer_0 : decode cX8_layer 0 = .ok (.iload_n 1, 1) := by decide +kernel
theorem dX8_layer_1 : decode cX8_layer 1 = .ok (.invokestatic 110, 3) := by decide +kernel
theorem dX8_layer_4 : decode cX8_layer 4 = .ok (.ifCond .eq 16, 3) := by decide +kernel
theorem dX8_layer_7 : decode cX8_layer 7 = .ok (.iload_n 2, 1) := by decide +kernel
theorem dX8_layer_8 : decode cX8_layer 8 = .ok (.ifCond .lt 12, 3) := by decide +kernel
theorem dX8_layer_11 : decode cX8_layer 11 = .ok (.iload_n 3, 1) := by decide +kernel
theorem dX8_layer_12 : decode cX8_layer 12 = .ok (.iconst 0, 1) := by decide +kernel
theorem dX8_layer_13 : decode cX8_layer 13 = .ok (.iconst 2, 1) := by decide +kernel
theorem dX8_layer_14 : decode cX8_layer 14 = .ok (.invokestatic 55, 3) := by decide +kernel
theorem dX8_layer_17 : decode cX8_layer 17 = .ok (.ifCond .ne 5, 3) := by decide +kernel
theorem dX8_layer_20 : decode cX8_layer 20 = .ok (.iconst (-1), 1) := by decide +kernel
theorem dX8_layer_21 : decode cX8_layer 21 = .ok (.ireturn, 1) := by decide +kernel
theorem dX8_layer_22 : decode cX8_layer 22 = .ok (.iload_n 2, 1) := by decide +kernel
theorem dX8_layer_23 : decode cX8_layer 23 = .ok (.aload_n 0, 1) := by decide +kernel
theorem dX8_layer_24 : decode cX8_layer 24 = .ok (.getfield 10, 3) := by decide +kernel
theorem dX8_layer_27 : decode cX8_layer 27 = .ok (.getfield 95, 3) := by decide +kernel
theorem dX8_layer_30 : decode cX8_layer 30 = .ok (.getfield 116, 3) := by decide +kernel
theorem dX8_layer_33 : decode cX8_layer 33 = .ok (.iload_n 1, 1) := by decide +kernel
theorem dX8_layer_34 : decode cX8_layer 34 = .ok (.iaload, 1) := by decide +kernel
theorem dX8_layer_35 : decode cX8_layer 35 = .ok (.if_icmp .lt 6, 3) := by decide +kernel
theorem dX8_layer_38 : decode cX8_layer 38 = .ok (.bipush (-4), 2) := by decide +kernel
theorem dX8_layer_40 : decode cX8_layer 40 = .ok (.ireturn, 1) := by decide +kernel
theorem dX8_layer_41 : decode cX8_layer 41 = .ok (.iload_n 1, 1) := by decide +kernel
theorem dX8_layer_42 : decode cX8_layer 42 = .ok (.iload_n 2, 1) := by decide +kernel
theorem dX8_layer_43 : decode cX8_layer 43 = .ok (.invokestatic 135, 3) := by decide +kernel
theorem dX8_layer_46 : decode cX8_layer 46 = .ok (.istore 4, 2) := by decide +kernel
theorem dX8_layer_48 : decode cX8_layer 48 = .ok (.iload_n 3, 1) := by decide +kernel
theorem dX8_layer_49 : decode cX8_layer 49 = .ok (.ifCond .ne 17, 3) := by decide +kernel
theorem dX8_layer_52 : decode cX8_layer 52 = .ok (.aload_n 0, 1) := by decide +kernel
theorem dX8_layer_53 : decode cX8_layer 53 = .ok (.getfield 10, 3) := by decide +kernel
theorem dX8_layer_56 : decode cX8_layer 56 = .ok (.getfield 95, 3) := by decide +kernel
theorem dX8_layer_59 : decode cX8_layer 59 = .ok (.getfield 138, 3) := by decide +kernel
theorem dX8_layer_62 : decode cX8_layer 62 = .ok (.iload 4, 2) := by decide +kernel
theorem dX8_layer_64 : decode cX8_layer 64 = .ok (.iaload, 1) := by decide +kernel
theorem dX8_layer_65 : decode cX8_layer 65 = .ok (.ireturn, 1) := by decide +kernel
theorem dX8_layer_66 : decode cX8_layer 66 = .ok (.iload_n 3, 1) := by decide +kernel
theorem dX8_layer_67 : decode cX8_layer 67 = .ok (.iconst 1, 1) := by decide +kernel
theorem dX8_layer_68 : decode cX8_layer 68 = .ok (.if_icmp .ne 19, 3) := by decide +kernel
theorem dX8_layer_71 : decode cX8_layer 71 = .ok (.aload_n 0, 1) := by decide +kernel
theorem dX8_layer_72 : decode cX8_layer 72 = .ok (.getfield 10, 3) := by decide +kernel
theorem dX8_layer_75 : decode cX8_layer 75 = .ok (.getfield 95, 3) := by decide +kernel
theorem dX8_layer_78 : decode cX8_layer 78 = .ok (.getfield 141, 3) := by decide +kernel
theorem dX8_layer_81 : decode cX8_layer 81 = .ok (.iload 4, 2) := by decide +kernel
theorem dX8_layer_83 : decode cX8_layer 83 = .ok (.iaload, 1) := by decide +kernel
theorem dX8_layer_84 : decode cX8_layer 84 = .ok (.goto 16, 3) := by decide +kernel
theorem dX8_layer_87 : decode cX8_layer 87 = .ok (.aload_n 0, 1) := by decide +kernel
theorem dX8_layer_88 : decode cX8_layer 88 = .ok (.getfield 10, 3) := by decide +kernel
theorem dX8_layer_91 : decode cX8_layer 91 = .ok (.getfield 95, 3) := by decide +kernel
theorem dX8_layer_94 : decode cX8_layer 94 = .ok (.getfield 144, 3) := by decide +kernel
theorem dX8_layer_97 : decode cX8_layer 97 = .ok (.iload 4, 2) := by decide +kernel
theorem dX8_layer_99 : decode cX8_layer 99 = .ok (.iaload, 1) := by decide +kernel
theorem dX8_layer_100 : decode cX8_layer 100 = .ok (.ireturn, 1) := by decide +kernel
theorem dX8_field_0 : decode cX8_field 0 = .ok (.iload_n 1, 1) := by decide +kernel
theorem dX8_field_1 : decode cX8_field 1 = .ok (.invokestatic 110, 3) := by decide +kernel
theorem dX8_field_4 : decode cX8_field 4 = .ok (.ifCond .ne 5, 3) := by decide +kernel
theorem dX8_field_7 : decode cX8_field 7 = .ok (.iconst (-1), 1) := by decide +kernel
theorem dX8_field_8 : decode cX8_field 8 = .ok (.ireturn, 1) := by decide +kernel
theorem dX8_field_9 : decode cX8_field 9 = .ok (.iload_n 2, 1) := by decide +kernel
theorem dX8_field_10 : decode cX8_field 10 = .ok (.tableswitch 162 0 5 #[38, 51, 70, 100, 124, 143], 38) := by decide +kernel
theorem dX8_field_48 : decode cX8_field 48 = .ok (.aload_n 0, 1) := by decide +kernel
theorem dX8_field_49 : decode cX8_field 49 = .ok (.getfield 10, 3) := by decide +kernel
theorem dX8_field_52 : decode cX8_field 52 = .ok (.getfield 95, 3) := by decide +kernel
theorem dX8_field_55 : decode cX8_field 55 = .ok (.getfield 116, 3) := by decide +kernel
theorem dX8_field_58 : decode cX8_field 58 = .ok (.iload_n 1, 1) := by decide +kernel
theorem dX8_field_59 : decode cX8_field 59 = .ok (.iaload, 1) := by decide +kernel
theorem dX8_field_60 : decode cX8_field 60 = .ok (.ireturn, 1) := by decide +kernel
theorem dX8_field_61 : decode cX8_field 61 = .ok (.aload_n 0, 1) := by decide +kernel
theorem dX8_field_62 : decode cX8_field 62 = .ok (.getfield 10, 3) := by decide +kernel
theorem dX8_field_65 : decode cX8_field 65 = .ok (.getfield 95, 3) := by decide +kernel
theorem dX8_field_68 : decode cX8_field 68 = .ok (.iload_n 1, 1) := by decide +kernel
theorem dX8_field_69 : decode cX8_field 69 = .ok (.aload_n 0, 1) := by decide +kernel
theorem dX8_field_70 : decode cX8_field 70 = .ok (.getfield 10, 3) := by decide +kernel
theorem dX8_field_73 : decode cX8_field 73 = .ok (.getfield 59, 3) := by decide +kernel
theorem dX8_field_76 : decode cX8_field 76 = .ok (.invokevirtual 147, 3) := by decide +kernel
theorem dX8_field_79 : decode cX8_field 79 = .ok (.ireturn, 1) := by decide +kernel
theorem dX8_field_80 : decode cX8_field 80 = .ok (.iload_n 1, 1) := by decide +kernel
theorem dX8_field_81 : decode cX8_field 81 = .ok (.bipush 6, 2) := by decide +kernel
theorem dX8_field_83 : decode cX8_field 83 = .ok (.if_icmp .ne 8, 3) := by decide +kernel
theorem dX8_field_86 : decode cX8_field 86 = .ok (.bipush (-4), 2) := by decide +kernel
theorem dX8_field_88 : decode cX8_field 88 = .ok (.goto 21, 3) := by decide +kernel
theorem dX8_field_91 : decode cX8_field 91 = .ok (.aload_n 0, 1) := by decide +kernel
theorem dX8_field_92 : decode cX8_field 92 = .ok (.getfield 10, 3) := by decide +kernel
theorem dX8_field_95 : decode cX8_field 95 = .ok (.getfield 95, 3) := by decide +kernel
theorem dX8_field_98 : decode cX8_field 98 = .ok (.iload_n 1, 1) := by decide +kernel
theorem dX8_field_99 : decode cX8_field 99 = .ok (.aload_n 0, 1) := by decide +kernel
theorem dX8_field_100 : decode cX8_field 100 = .ok (.getfield 10, 3) := by decide +kernel
theorem dX8_field_103 : decode cX8_field 103 = .ok (.getfield 59, 3) := by decide +kernel
theorem dX8_field_106 : decode cX8_field 106 = .ok (.invokevirtual 150, 3) := by decide +kernel
theorem dX8_field_109 : decode cX8_field 109 = .ok (.ireturn, 1) := by decide +kernel
theorem dX8_field_110 : decode cX8_field 110 = .ok (.iload_n 1, 1) := by decide +kernel
theorem dX8_field_111 : decode cX8_field 111 = .ok (.bipush 6, 2) := by decide +kernel
theorem dX8_field_113 : decode cX8_field 113 = .ok (.if_icmp .ne 8, 3) := by decide +kernel
theorem dX8_field_116 : decode cX8_field 116 = .ok (.bipush (-4), 2) := by decide +kernel
theorem dX8_field_118 : decode cX8_field 118 = .ok (.goto 15, 3) := by decide +kernel
theorem dX8_field_121 : decode cX8_field 121 = .ok (.aload_n 0, 1) := by decide +kernel
theorem dX8_field_122 : decode cX8_field 122 = .ok (.getfield 10, 3) := by decide +kernel
theorem dX8_field_125 : decode cX8_field 125 = .ok (.getfield 95, 3) := by decide +kernel
theorem dX8_field_128 : decode cX8_field 128 = .ok (.getfield 153, 3) := by decide +kernel
theorem dX8_field_131 : decode cX8_field 131 = .ok (.iload_n 1, 1) := by decide +kernel
theorem dX8_field_132 : decode cX8_field 132 = .ok (.iaload, 1) := by decide +kernel
theorem dX8_field_133 : decode cX8_field 133 = .ok (.ireturn, 1) := by decide +kernel
theorem dX8_field_134 : decode cX8_field 134 = .ok (.aload_n 0, 1) := by decide +kernel
theorem dX8_field_135 : decode cX8_field 135 = .ok (.getfield 10, 3) := by decide +kernel
theorem dX8_field_138 : decode cX8_field 138 = .ok (.getfield 95, 3) := by decide +kernel
theorem dX8_field_141 : decode cX8_field 141 = .ok (.iload_n 1, 1) := by decide +kernel
theorem dX8_field_142 : decode cX8_field 142 = .ok (.aload_n 0, 1) := by decide +kernel
theorem dX8_field_143 : decode cX8_field 143 = .ok (.getfield 10, 3) := by decide +kernel
theorem dX8_field_146 : decode cX8_field 146 = .ok (.getfield 59, 3) := by decide +kernel
theorem dX8_field_149 : decode cX8_field 149 = .ok (.invokevirtual 156, 3) := by decide +kernel
theorem dX8_field_152 : decode cX8_field 152 = .ok (.ireturn, 1) := by decide +kernel
theorem dX8_field_153 : decode cX8_field 153 = .ok (.aload_n 0, 1) := by decide +kernel
theorem dX8_field_154 : decode cX8_field 154 = .ok (.getfield 10, 3) := by decide +kernel
theorem dX8_field_157 : decode cX8_field 157 = .ok (.getfield 95, 3) := by decide +kernel
theorem dX8_field_160 : decode cX8_field 160 = .ok (.iload_n 1, 1) := by decide +kernel
theorem dX8_field_161 : decode cX8_field 161 = .ok (.aload_n 0, 1) := by decide +kernel
theorem dX8_field_162 : decode cX8_field 162 = .ok (.getfield 10, 3) := by decide +kernel
theorem dX8_field_165 : decode cX8_field 165 = .ok (.getfield 59, 3) := by decide +kernel
theorem dX8_field_168 : decode cX8_field 168 = .ok (.invokevirtual 159, 3) := by decide +kernel
theorem dX8_field_171 : decode cX8_field 171 = .ok (.ireturn, 1) := by decide +kernel
theorem dX8_field_172 : decode cX8_field 172 = .ok (.iconst (-1), 1) := by decide +kernel
theorem dX8_field_173 : decode cX8_field 173 = .ok (.ireturn, 1) := by decide +kernel
theorem dX8_set_0 : decode cX8_set 0 = .ok (.iload_n 1, 1) := by decide +kernel
theorem dX8_set_1 : decode cX8_set 1 = .ok (.iconst 0, 1) := by decide +kernel
theorem dX8_set_2 : decode cX8_set 2 = .ok (.iconst 2, 1) := by decide +kernel
theorem dX8_set_3 : decode cX8_set 3 = .ok (.invokestatic 55, 3) := by decide +kernel
theorem dX8_set_6 : decode cX8_set 6 = .ok (.ifCond .eq 20, 3) := by decide +kernel
theorem dX8_set_9 : decode cX8_set 9 = .ok (.iload_n 2, 1) := by decide +kernel
theorem dX8_set_10 : decode cX8_set 10 = .ok (.getstatic 162, 3) := by decide +kernel
theorem dX8_set_13 : decode cX8_set 13 = .ok (.iload_n 1, 1) := by decide +kernel
theorem dX8_set_14 : decode cX8_set 14 = .ok (.iaload, 1) := by decide +kernel
theorem dX8_set_15 : decode cX8_set 15 = .ok (.getstatic 165, 3) := by decide +kernel
theorem dX8_set_18 : decode cX8_set 18 = .ok (.iload_n 1, 1) := by decide +kernel
theorem dX8_set_19 : decode cX8_set 19 = .ok (.iaload, 1) := by decide +kernel
theorem dX8_set_20 : decode cX8_set 20 = .ok (.invokestatic 55, 3) := by decide +kernel
theorem dX8_set_23 : decode cX8_set 23 = .ok (.ifCond .ne 5, 3) := by decide +kernel
theorem dX8_set_26 : decode cX8_set 26 = .ok (.iconst (-1), 1) := by decide +kernel
theorem dX8_set_27 : decode cX8_set 27 = .ok (.ireturn, 1) := by decide +kernel
theorem dX8_set_28 : decode cX8_set 28 = .ok (.aload_n 0, 1) := by decide +kernel
theorem dX8_set_29 : decode cX8_set 29 = .ok (.getfield 19, 3) := by decide +kernel
theorem dX8_set_32 : decode cX8_set 32 = .ok (.aload_n 0, 1) := by decide +kernel
theorem dX8_set_33 : decode cX8_set 33 = .ok (.getfield 10, 3) := by decide +kernel
theorem dX8_set_36 : decode cX8_set 36 = .ok (.invokevirtual 69, 3) := by decide +kernel
theorem dX8_set_39 : decode cX8_set 39 = .ok (.aload_n 0, 1) := by decide +kernel
theorem dX8_set_40 : decode cX8_set 40 = .ok (.getfield 10, 3) := by decide +kernel
theorem dX8_set_43 : decode cX8_set 43 = .ok (.getfield 168, 3) := by decide +kernel
theorem dX8_set_46 : decode cX8_set 46 = .ok (.iload_n 1, 1) := by decide +kernel
theorem dX8_set_47 : decode cX8_set 47 = .ok (.iaload, 1) := by decide +kernel
theorem dX8_set_48 : decode cX8_set 48 = .ok (.istore_n 3, 1) := by decide +kernel
theorem dX8_set_49 : decode cX8_set 49 = .ok (.aload_n 0, 1) := by decide +kernel
theorem dX8_set_50 : decode cX8_set 50 = .ok (.getfield 10, 3) := by decide +kernel
theorem dX8_set_53 : decode cX8_set 53 = .ok (.getfield 168, 3) := by decide +kernel
theorem dX8_set_56 : decode cX8_set 56 = .ok (.iload_n 1, 1) := by decide +kernel
theorem dX8_set_57 : decode cX8_set 57 = .ok (.iload_n 2, 1) := by decide +kernel
theorem dX8_set_58 : decode cX8_set 58 = .ok (.iastore, 1) := by decide +kernel
theorem dX8_set_59 : decode cX8_set 59 = .ok (.iload_n 3, 1) := by decide +kernel
theorem dX8_set_60 : decode cX8_set 60 = .ok (.ireturn, 1) := by decide +kernel
theorem dX8_count_0 : decode cX8_count 0 = .ok (.iload_n 1, 1) := by decide +kernel
theorem dX8_count_1 : decode cX8_count 1 = .ok (.iconst 2, 1) := by decide +kernel
theorem dX8_count_2 : decode cX8_count 2 = .ok (.bipush 6, 2) := by decide +kernel
theorem dX8_count_4 : decode cX8_count 4 = .ok (.invokestatic 55, 3) := by decide +kernel
theorem dX8_count_7 : decode cX8_count 7 = .ok (.ifCond .eq 17, 3) := by decide +kernel
theorem dX8_count_10 : decode cX8_count 10 = .ok (.aload_n 0, 1) := by decide +kernel
theorem dX8_count_11 : decode cX8_count 11 = .ok (.getfield 10, 3) := by decide +kernel
theorem dX8_count_14 : decode cX8_count 14 = .ok (.getfield 95, 3) := by decide +kernel
theorem dX8_count_17 : decode cX8_count 17 = .ok (.iload_n 1, 1) := by decide +kernel
theorem dX8_count_18 : decode cX8_count 18 = .ok (.iconst 2, 1) := by decide +kernel
theorem dX8_count_19 : decode cX8_count 19 = .ok (.isub, 1) := by decide +kernel
theorem dX8_count_20 : decode cX8_count 20 = .ok (.invokevirtual 171, 3) := by decide +kernel
theorem dX8_count_23 : decode cX8_count 23 = .ok (.ireturn, 1) := by decide +kernel
theorem dX8_count_24 : decode cX8_count 24 = .ok (.iload_n 1, 1) := by decide +kernel
theorem dX8_count_25 : decode cX8_count 25 = .ok (.bipush 8, 2) := by decide +kernel
theorem dX8_count_27 : decode cX8_count 27 = .ok (.bipush 10, 2) := by decide +kernel
theorem dX8_count_29 : decode cX8_count 29 = .ok (.invokestatic 55, 3) := by decide +kernel
theorem dX8_count_32 : decode cX8_count 32 = .ok (.ifCond .eq 16, 3) := by decide +kernel
theorem dX8_count_35 : decode cX8_count 35 = .ok (.aload_n 0, 1) := by decide +kernel
theorem dX8_count_36 : decode cX8_count 36 = .ok (.getfield 10, 3) := by decide +kernel
theorem dX8_count_39 : decode cX8_count 39 = .ok (.getfield 168, 3) := by decide +kernel
theorem dX8_count_42 : decode cX8_count 42 = .ok (.iload_n 1, 1) := by decide +kernel
theorem dX8_count_43 : decode cX8_count 43 = .ok (.bipush 8, 2) := by decide +kernel
theorem dX8_count_45 : decode cX8_count 45 = .ok (.isub, 1) := by decide +kernel
theorem dX8_count_46 : decode cX8_count 46 = .ok (.iaload, 1) := by decide +kernel
theorem dX8_count_47 : decode cX8_count 47 = .ok (.ireturn, 1) := by decide +kernel
theorem dX8_count_48 : decode cX8_count 48 = .ok (.iload_n 1, 1) := by decide +kernel
theorem dX8_count_49 : decode cX8_count 49 = .ok (.bipush 11, 2) := by decide +kernel
theorem dX8_count_51 : decode cX8_count 51 = .ok (.bipush 19, 2) := by decide +kernel
theorem dX8_count_53 : decode cX8_count 53 = .ok (.invokestatic 55, 3) := by decide +kernel
theorem dX8_count_56 : decode cX8_count 56 = .ok (.ifCond .eq 16, 3) := by decide +kernel
theorem dX8_count_59 : decode cX8_count 59 = .ok (.aload_n 0, 1) := by decide +kernel
theorem dX8_count_60 : decode cX8_count 60 = .ok (.getfield 10, 3) := by decide +kernel
theorem dX8_count_63 : decode cX8_count 63 = .ok (.getfield 119, 3) := by decide +kernel
theorem dX8_count_66 : decode cX8_count 66 = .ok (.iload_n 1, 1) := by decide +kernel
theorem dX8_count_67 : decode cX8_count 67 = .ok (.bipush 11, 2) := by decide +kernel
theorem dX8_count_69 : decode cX8_count 69 = .ok (.isub, 1) := by decide +kernel
theorem dX8_count_70 : decode cX8_count 70 = .ok (.iaload, 1) := by decide +kernel
theorem dX8_count_71 : decode cX8_count 71 = .ok (.ireturn, 1) := by decide +kernel
theorem dX8_count_72 : decode cX8_count 72 = .ok (.iload_n 1, 1) := by decide +kernel
theorem dX8_count_73 : decode cX8_count 73 = .ok (.lookupswitch 119 #[(0, 59), (1, 70), (7, 81), (20, 92), (21, 103), (22, 111)], 59) := by decide +kernel
theorem dX8_count_132 : decode cX8_count 132 = .ok (.aload_n 0, 1) := by decide +kernel
theorem dX8_count_133 : decode cX8_count 133 = .ok (.getfield 10, 3) := by decide +kernel
theorem dX8_count_136 : decode cX8_count 136 = .ok (.getfield 59, 3) := by decide +kernel
theorem dX8_count_139 : decode cX8_count 139 = .ok (.getfield 63, 3) := by decide +kernel
theorem dX8_count_142 : decode cX8_count 142 = .ok (.ireturn, 1) := by decide +kernel
theorem dX8_count_143 : decode cX8_count 143 = .ok (.aload_n 0, 1) := by decide +kernel
theorem dX8_count_144 : decode cX8_count 144 = .ok (.getfield 10, 3) := by decide +kernel
theorem dX8_count_147 : decode cX8_count 147 = .ok (.getfield 95, 3) := by decide +kernel
theorem dX8_count_150 : decode cX8_count 150 = .ok (.invokevirtual 128, 3) := by decide +kernel
theorem dX8_count_153 : decode cX8_count 153 = .ok (.ireturn, 1) := by decide +kernel
theorem dX8_count_154 : decode cX8_count 154 = .ok (.aload_n 0, 1) := by decide +kernel
theorem dX8_count_155 : decode cX8_count 155 = .ok (.getfield 10, 3) := by decide +kernel
theorem dX8_count_158 : decode cX8_count 158 = .ok (.getfield 95, 3) := by decide +kernel
theorem dX8_count_161 : decode cX8_count 161 = .ok (.invokevirtual 174, 3) := by decide +kernel
theorem dX8_count_164 : decode cX8_count 164 = .ok (.ireturn, 1) := by decide +kernel
theorem dX8_count_165 : decode cX8_count 165 = .ok (.aload_n 0, 1) := by decide +kernel
theorem dX8_count_166 : decode cX8_count 166 = .ok (.getfield 10, 3) := by decide +kernel
theorem dX8_count_169 : decode cX8_count 169 = .ok (.getfield 101, 3) := by decide +kernel
theorem dX8_count_172 : decode cX8_count 172 = .ok (.invokevirtual 177, 3) := by decide +kernel
theorem dX8_count_175 : decode cX8_count 175 = .ok (.ireturn, 1) := by decide +kernel
theorem dX8_count_176 : decode cX8_count 176 = .ok (.aload_n 0, 1) := by decide +kernel
theorem dX8_count_177 : decode cX8_count 177 = .ok (.getfield 19, 3) := by decide +kernel
theorem dX8_count_180 : decode cX8_count 180 = .ok (.getfield 180, 3) := by decide +kernel
theorem dX8_count_183 : decode cX8_count 183 = .ok (.ireturn, 1) := by decide +kernel
theorem dX8_count_184 : decode cX8_count 184 = .ok (.aload_n 0, 1) := by decide +kernel
theorem dX8_count_185 : decode cX8_count 185 = .ok (.getfield 47, 3) := by decide +kernel
theorem dX8_count_188 : decode cX8_count 188 = .ok (.getfield 181, 3) := by decide +kernel
theorem dX8_count_191 : decode cX8_count 191 = .ok (.ireturn, 1) := by decide +kernel
theorem dX8_count_192 : decode cX8_count 192 = .ok (.iconst (-1), 1) := by decide +kernel
theorem dX8_count_193 : decode cX8_count 193 = .ok (.ireturn, 1) := by decide +kernel
theorem dX8_fire_0 : decode cX8_fire 0 = .ok (.iload_n 1, 1) := by decide +kernel
theorem dX8_fire_1 : decode cX8_fire 1 = .ok (.sipush 500, 3) := by decide +kernel
theorem dX8_fire_4 : decode cX8_fire 4 = .ok (.sipush 1200, 3) := by decide +kernel
theorem dX8_fire_7 : decode cX8_fire 7 = .ok (.invokestatic 55, 3) := by decide +kernel
theorem dX8_fire_10 : decode cX8_fire 10 = .ok (.ifCond .eq 13, 3) := by decide +kernel
theorem dX8_fire_13 : decode cX8_fire 13 = .ok (.iload_n 2, 1) := by decide +kernel
theorem dX8_fire_14 : decode cX8_fire 14 = .ok (.iconst 1, 1) := by decide +kernel
theorem dX8_fire_15 : decode cX8_fire 15 = .ok (.bipush 20, 2) := by decide +kernel
theorem dX8_fire_17 : decode cX8_fire 17 = .ok (.invokestatic 55, 3) := by decide +kernel
theorem dX8_fire_20 : decode cX8_fire 20 = .ok (.ifCond .ne 5, 3) := by decide +kernel
theorem dX8_fire_23 : decode cX8_fire 23 = .ok (.iconst (-1), 1) := by decide +kernel
theorem dX8_fire_24 : decode cX8_fire 24 = .ok (.ireturn, 1) := by decide +kernel
theorem dX8_fire_25 : decode cX8_fire 25 = .ok (.aload_n 0, 1) := by decide +kernel
theorem dX8_fire_26 : decode cX8_fire 26 = .ok (.getfield 10, 3) := by decide +kernel
theorem dX8_fire_29 : decode cX8_fire 29 = .ok (.getfield 119, 3) := by decide +kernel
theorem dX8_fire_32 : decode cX8_fire 32 = .ok (.iconst 0, 1) := by decide +kernel
theorem dX8_fire_33 : decode cX8_fire 33 = .ok (.iaload, 1) := by decide +kernel
theorem dX8_fire_34 : decode cX8_fire 34 = .ok (.sipush 1000, 3) := by decide +kernel
theorem dX8_fire_37 : decode cX8_fire 37 = .ok (.if_icmp .lt 6, 3) := by decide +kernel
theorem dX8_fire_40 : decode cX8_fire 40 = .ok (.bipush (-3), 2) := by decide +kernel
theorem dX8_fire_42 : decode cX8_fire 42 = .ok (.ireturn, 1) := by decide +kernel
theorem dX8_fire_43 : decode cX8_fire 43 = .ok (.aload_n 0, 1) := by decide +kernel
theorem dX8_fire_44 : decode cX8_fire 44 = .ok (.getfield 19, 3) := by decide +kernel
theorem dX8_fire_47 : decode cX8_fire 47 = .ok (.aload_n 0, 1) := by decide +kernel
theorem dX8_fire_48 : decode cX8_fire 48 = .ok (.getfield 10, 3) := by decide +kernel
theorem dX8_fire_51 : decode cX8_fire 51 = .ok (.invokevirtual 69, 3) := by decide +kernel
theorem dX8_fire_54 : decode cX8_fire 54 = .ok (.aload_n 0, 1) := by decide +kernel
theorem dX8_fire_55 : decode cX8_fire 55 = .ok (.getfield 26, 3) := by decide +kernel
theorem dX8_fire_58 : decode cX8_fire 58 = .ok (.aload_n 0, 1) := by decide +kernel
theorem dX8_fire_59 : decode cX8_fire 59 = .ok (.getfield 10, 3) := by decide +kernel
theorem dX8_fire_62 : decode cX8_fire 62 = .ok (.aload_n 0, 1) := by decide +kernel
theorem dX8_fire_63 : decode cX8_fire 63 = .ok (.getfield 10, 3) := by decide +kernel
theorem dX8_fire_66 : decode cX8_fire 66 = .ok (.getfield 95, 3) := by decide +kernel
theorem dX8_fire_69 : decode cX8_fire 69 = .ok (.iload_n 1, 1) := by decide +kernel
theorem dX8_fire_70 : decode cX8_fire 70 = .ok (.iload_n 2, 1) := by decide +kernel
theorem dX8_fire_71 : decode cX8_fire 71 = .ok (.invokevirtual 184, 3) := by decide +kernel
theorem dX8_fire_74 : decode cX8_fire 74 = .ok (.aload_n 0, 1) := by decide +kernel
theorem dX8_fire_75 : decode cX8_fire 75 = .ok (.getfield 10, 3) := by decide +kernel
theorem dX8_fire_78 : decode cX8_fire 78 = .ok (.getfield 119, 3) := by decide +kernel
theorem dX8_fire_81 : decode cX8_fire 81 = .ok (.iconst 0, 1) := by decide +kernel
theorem dX8_fire_82 : decode cX8_fire 82 = .ok (.dup2, 1) := by decide +kernel
theorem dX8_fire_83 : decode cX8_fire 83 = .ok (.iaload, 1) := by decide +kernel
theorem dX8_fire_84 : decode cX8_fire 84 = .ok (.iconst 1, 1) := by decide +kernel
theorem dX8_fire_85 : decode cX8_fire 85 = .ok (.iadd, 1) := by decide +kernel
theorem dX8_fire_86 : decode cX8_fire 86 = .ok (.iastore, 1) := by decide +kernel
theorem dX8_fire_87 : decode cX8_fire 87 = .ok (.aload_n 0, 1) := by decide +kernel
theorem dX8_fire_88 : decode cX8_fire 88 = .ok (.getfield 10, 3) := by decide +kernel
theorem dX8_fire_91 : decode cX8_fire 91 = .ok (.getfield 119, 3) := by decide +kernel
theorem dX8_fire_94 : decode cX8_fire 94 = .ok (.iconst 1, 1) := by decide +kernel
theorem dX8_fire_95 : decode cX8_fire 95 = .ok (.dup2, 1) := by decide +kernel
theorem dX8_fire_96 : decode cX8_fire 96 = .ok (.iaload, 1) := by decide +kernel
theorem dX8_fire_97 : decode cX8_fire 97 = .ok (.iload_n 2, 1) := by decide +kernel
theorem dX8_fire_98 : decode cX8_fire 98 = .ok (.iadd, 1) := by decide +kernel
theorem dX8_fire_99 : decode cX8_fire 99 = .ok (.iastore, 1) := by decide +kernel
theorem dX8_fire_100 : decode cX8_fire 100 = .ok (.aload_n 0, 1) := by decide +kernel
theorem dX8_fire_101 : decode cX8_fire 101 = .ok (.getfield 10, 3) := by decide +kernel
theorem dX8_fire_104 : decode cX8_fire 104 = .ok (.getfield 119, 3) := by decide +kernel
theorem dX8_fire_107 : decode cX8_fire 107 = .ok (.iconst 4, 1) := by decide +kernel
theorem dX8_fire_108 : decode cX8_fire 108 = .ok (.dup2, 1) := by decide +kernel
theorem dX8_fire_109 : decode cX8_fire 109 = .ok (.iaload, 1) := by decide +kernel
theorem dX8_fire_110 : decode cX8_fire 110 = .ok (.aload_n 0, 1) := by decide +kernel
theorem dX8_fire_111 : decode cX8_fire 111 = .ok (.getfield 26, 3) := by decide +kernel
theorem dX8_fire_114 : decode cX8_fire 114 = .ok (.getfield 188, 3) := by decide +kernel
theorem dX8_fire_117 : decode cX8_fire 117 = .ok (.iadd, 1) := by decide +kernel
theorem dX8_fire_118 : decode cX8_fire 118 = .ok (.iastore, 1) := by decide +kernel
theorem dX8_fire_119 : decode cX8_fire 119 = .ok (.aload_n 0, 1) := by decide +kernel
theorem dX8_fire_120 : decode cX8_fire 120 = .ok (.getfield 10, 3) := by decide +kernel
theorem dX8_fire_123 : decode cX8_fire 123 = .ok (.getfield 119, 3) := by decide +kernel
theorem dX8_fire_126 : decode cX8_fire 126 = .ok (.iconst 5, 1) := by decide +kernel
theorem dX8_fire_127 : decode cX8_fire 127 = .ok (.dup2, 1) := by decide +kernel
theorem dX8_fire_128 : decode cX8_fire 128 = .ok (.iaload, 1) := by decide +kernel
theorem dX8_fire_129 : decode cX8_fire 129 = .ok (.aload_n 0, 1) := by decide +kernel
theorem dX8_fire_130 : decode cX8_fire 130 = .ok (.getfield 26, 3) := by decide +kernel
theorem dX8_fire_133 : decode cX8_fire 133 = .ok (.getfield 191, 3) := by decide +kernel
theorem dX8_fire_136 : decode cX8_fire 136 = .ok (.iadd, 1) := by decide +kernel
theorem dX8_fire_137 : decode cX8_fire 137 = .ok (.iastore, 1) := by decide +kernel
theorem dX8_fire_138 : decode cX8_fire 138 = .ok (.aload_n 0, 1) := by decide +kernel
theorem dX8_fire_139 : decode cX8_fire 139 = .ok (.getfield 10, 3) := by decide +kernel
theorem dX8_fire_142 : decode cX8_fire 142 = .ok (.getfield 119, 3) := by decide +kernel
theorem dX8_fire_145 : decode cX8_fire 145 = .ok (.bipush 6, 2) := by decide +kernel
theorem dX8_fire_147 : decode cX8_fire 147 = .ok (.dup2, 1) := by decide +kernel
theorem dX8_fire_148 : decode cX8_fire 148 = .ok (.iaload, 1) := by decide +kernel
theorem dX8_fire_149 : decode cX8_fire 149 = .ok (.aload_n 0, 1) := by decide +kernel
theorem dX8_fire_150 : decode cX8_fire 150 = .ok (.getfield 26, 3) := by decide +kernel
theorem dX8_fire_153 : decode cX8_fire 153 = .ok (.getfield 194, 3) := by decide +kernel
theorem dX8_fire_156 : decode cX8_fire 156 = .ok (.iadd, 1) := by decide +kernel
theorem dX8_fire_157 : decode cX8_fire 157 = .ok (.iastore, 1) := by decide +kernel
theorem dX8_fire_158 : decode cX8_fire 158 = .ok (.aload_n 0, 1) := by decide +kernel
theorem dX8_fire_159 : decode cX8_fire 159 = .ok (.getfield 10, 3) := by decide +kernel
theorem dX8_fire_162 : decode cX8_fire 162 = .ok (.getfield 119, 3) := by decide +kernel
theorem dX8_fire_165 : decode cX8_fire 165 = .ok (.bipush 7, 2) := by decide +kernel
theorem dX8_fire_167 : decode cX8_fire 167 = .ok (.dup2, 1) := by decide +kernel
theorem dX8_fire_168 : decode cX8_fire 168 = .ok (.iaload, 1) := by decide +kernel
theorem dX8_fire_169 : decode cX8_fire 169 = .ok (.aload_n 0, 1) := by decide +kernel
theorem dX8_fire_170 : decode cX8_fire 170 = .ok (.getfield 26, 3) := by decide +kernel
theorem dX8_fire_173 : decode cX8_fire 173 = .ok (.getfield 197, 3) := by decide +kernel
theorem dX8_fire_176 : decode cX8_fire 176 = .ok (.iadd, 1) := by decide +kernel
theorem dX8_fire_177 : decode cX8_fire 177 = .ok (.iastore, 1) := by decide +kernel
theorem dX8_fire_178 : decode cX8_fire 178 = .ok (.aload_n 0, 1) := by decide +kernel
theorem dX8_fire_179 : decode cX8_fire 179 = .ok (.getfield 10, 3) := by decide +kernel
theorem dX8_fire_182 : decode cX8_fire 182 = .ok (.getfield 119, 3) := by decide +kernel
theorem dX8_fire_185 : decode cX8_fire 185 = .ok (.bipush 8, 2) := by decide +kernel
theorem dX8_fire_187 : decode cX8_fire 187 = .ok (.dup2, 1) := by decide +kernel
theorem dX8_fire_188 : decode cX8_fire 188 = .ok (.iaload, 1) := by decide +kernel
theorem dX8_fire_189 : decode cX8_fire 189 = .ok (.aload_n 0, 1) := by decide +kernel
theorem dX8_fire_190 : decode cX8_fire 190 = .ok (.getfield 26, 3) := by decide +kernel
theorem dX8_fire_193 : decode cX8_fire 193 = .ok (.getfield 199, 3) := by decide +kernel
theorem dX8_fire_196 : decode cX8_fire 196 = .ok (.iadd, 1) := by decide +kernel
theorem dX8_fire_197 : decode cX8_fire 197 = .ok (.iastore, 1) := by decide +kernel
theorem dX8_fire_198 : decode cX8_fire 198 = .ok (.aload_n 0, 1) := by decide +kernel
theorem dX8_fire_199 : decode cX8_fire 199 = .ok (.getfield 26, 3) := by decide +kernel
theorem dX8_fire_202 : decode cX8_fire 202 = .ok (.getfield 188, 3) := by decide +kernel
theorem dX8_fire_205 : decode cX8_fire 205 = .ok (.ireturn, 1) := by decide +kernel
theorem dX8_ifFired_0 : decode cX8_ifFired 0 = .ok (.iload_n 1, 1) := by decide +kernel
theorem dX8_ifFired_1 : decode cX8_ifFired 1 = .ok (.sipush 500, 3) := by decide +kernel
theorem dX8_ifFired_4 : decode cX8_ifFired 4 = .ok (.sipush 1200, 3) := by decide +kernel
theorem dX8_ifFired_7 : decode cX8_ifFired 7 = .ok (.invokestatic 55, 3) := by decide +kernel
theorem dX8_ifFired_10 : decode cX8_ifFired 10 = .ok (.ifCond .eq 12, 3) := by decide +kernel
theorem dX8_ifFired_13 : decode cX8_ifFired 13 = .ok (.iload_n 2, 1) := by decide +kernel
theorem dX8_ifFired_14 : decode cX8_ifFired 14 = .ok (.iconst 0, 1) := by decide +kernel
theorem dX8_ifFired_15 : decode cX8_ifFired 15 = .ok (.iconst 4, 1) := by decide +kernel
theorem dX8_ifFired_16 : decode cX8_ifFired 16 = .ok (.invokestatic 55, 3) := by decide +kernel
theorem dX8_ifFired_19 : decode cX8_ifFired 19 = .ok (.ifCond .ne 5, 3) := by decide +kernel
theorem dX8_ifFired_22 : decode cX8_ifFired 22 = .ok (.iconst (-1), 1) := by decide +kernel
theorem dX8_ifFired_23 : decode cX8_ifFired 23 = .ok (.ireturn, 1) := by decide +kernel
theorem dX8_ifFired_24 : decode cX8_ifFired 24 = .ok (.aload_n 0, 1) := by decide +kernel
theorem dX8_ifFired_25 : decode cX8_ifFired 25 = .ok (.iload_n 1, 1) := by decide +kernel
theorem dX8_ifFired_26 : decode cX8_ifFired 26 = .ok (.invokevirtual 202, 3) := by decide +kernel
theorem dX8_ifFired_29 : decode cX8_ifFired 29 = .ok (.iload_n 2, 1) := by decide +kernel
theorem dX8_ifFired_30 : decode cX8_ifFired 30 = .ok (.tableswitch 62 0 3 #[30, 38, 46, 54], 30) := by decide +kernel
theorem dX8_ifFired_60 : decode cX8_ifFired 60 = .ok (.aload_n 0, 1) := by decide +kernel
theorem dX8_ifFired_61 : decode cX8_ifFired 61 = .ok (.getfield 26, 3) := by decide +kernel
theorem dX8_ifFired_64 : decode cX8_ifFired 64 = .ok (.getfield 188, 3) := by decide +kernel
theorem dX8_ifFired_67 : decode cX8_ifFired 67 = .ok (.ireturn, 1) := by decide +kernel
theorem dX8_ifFired_68 : decode cX8_ifFired 68 = .ok (.aload_n 0, 1) := by decide +kernel
theorem dX8_ifFired_69 : decode cX8_ifFired 69 = .ok (.getfield 26, 3) := by decide +kernel
theorem dX8_ifFired_72 : decode cX8_ifFired 72 = .ok (.getfield 194, 3) := by decide +kernel
theorem dX8_ifFired_75 : decode cX8_ifFired 75 = .ok (.ireturn, 1) := by decide +kernel
theorem dX8_ifFired_76 : decode cX8_ifFired 76 = .ok (.aload_n 0, 1) := by decide +kernel
theorem dX8_ifFired_77 : decode cX8_ifFired 77 = .ok (.getfield 26, 3) := by decide +kernel
theorem dX8_ifFired_80 : decode cX8_ifFired 80 = .ok (.getfield 191, 3) := by decide +kernel
theorem dX8_ifFired_83 : decode cX8_ifFired 83 = .ok (.ireturn, 1) := by decide +kernel
theorem dX8_ifFired_84 : decode cX8_ifFired 84 = .ok (.aload_n 0, 1) := by decide +kernel
theorem dX8_ifFired_85 : decode cX8_ifFired 85 = .ok (.getfield 26, 3) := by decide +kernel
theorem dX8_ifFired_88 : decode cX8_ifFired 88 = .ok (.getfield 197, 3) := by decide +kernel
theorem dX8_ifFired_91 : decode cX8_ifFired 91 = .ok (.ireturn, 1) := by decide +kernel
theorem dX8_ifFired_92 : decode cX8_ifFired 92 = .ok (.aload_n 0, 1) := by decide +kernel
theorem dX8_ifFired_93 : decode cX8_ifFired 93 = .ok (.getfield 26, 3) := by decide +kernel
theorem dX8_ifFired_96 : decode cX8_ifFired 96 = .ok (.getfield 199, 3) := by decide +kernel
theorem dX8_ifFired_99 : decode cX8_ifFired 99 = .ok (.ireturn, 1) := by decide +kernel
theorem dX8_bestHeat_0 : decode cX8_bestHeat 0 = .ok (.aload_n 0, 1) := by decide +kernel
theorem dX8_bestHeat_1 : decode cX8_bestHeat 1 = .ok (.sipush 500, 3) := by decide +kernel
theorem dX8_bestHeat_4 : decode cX8_bestHeat 4 = .ok (.invokevirtual 202, 3) := by decide +kernel
theorem dX8_bestHeat_7 : decode cX8_bestHeat 7 = .ok (.sipush 500, 3) := by decide +kernel
theorem dX8_bestHeat_10 : decode cX8_bestHeat 10 = .ok (.istore_n 1, 1) := by decide +kernel
theorem dX8_bestHeat_11 : decode cX8_bestHeat 11 = .ok (.aload_n 0, 1) := by decide +kernel
theorem dX8_bestHeat_12 : decode cX8_bestHeat 12 = .ok (.getfield 26, 3) := by decide +kernel
theorem dX8_bestHeat_15 : decode cX8_bestHeat 15 = .ok (.getfield 188, 3) := by decide +kernel
theorem dX8_bestHeat_18 : decode cX8_bestHeat 18 = .ok (.istore_n 2, 1) := by decide +kernel
theorem dX8_bestHeat_19 : decode cX8_bestHeat 19 = .ok (.iconst 0, 1) := by decide +kernel
theorem dX8_bestHeat_20 : decode cX8_bestHeat 20 = .ok (.istore_n 3, 1) := by decide +kernel
theorem dX8_bestHeat_21 : decode cX8_bestHeat 21 = .ok (.iload_n 3, 1) := by decide +kernel
theorem dX8_bestHeat_22 : decode cX8_bestHeat 22 = .ok (.aload_n 0, 1) := by decide +kernel
theorem dX8_bestHeat_23 : decode cX8_bestHeat 23 = .ok (.getfield 10, 3) := by decide +kernel
theorem dX8_bestHeat_26 : decode cX8_bestHeat 26 = .ok (.getfield 59, 3) := by decide +kernel
theorem dX8_bestHeat_29 : decode cX8_bestHeat 29 = .ok (.getfield 63, 3) := by decide +kernel
theorem dX8_bestHeat_32 : decode cX8_bestHeat 32 = .ok (.if_icmp .ge 78, 3) := by decide +kernel
theorem dX8_bestHeat_35 : decode cX8_bestHeat 35 = .ok (.aload_n 0, 1) := by decide +kernel
theorem dX8_bestHeat_36 : decode cX8_bestHeat 36 = .ok (.getfield 10, 3) := by decide +kernel
theorem dX8_bestHeat_39 : decode cX8_bestHeat 39 = .ok (.getfield 59, 3) := by decide +kernel
theorem dX8_bestHeat_42 : decode cX8_bestHeat 42 = .ok (.getfield 81, 3) := by decide +kernel
theorem dX8_bestHeat_45 : decode cX8_bestHeat 45 = .ok (.iload_n 3, 1) := by decide +kernel
theorem dX8_bestHeat_46 : decode cX8_bestHeat 46 = .ok (.iaload, 1) := by decide +kernel
theorem dX8_bestHeat_47 : decode cX8_bestHeat 47 = .ok (.istore 4, 2) := by decide +kernel
theorem dX8_bestHeat_49 : decode cX8_bestHeat 49 = .ok (.aload_n 0, 1) := by decide +kernel
theorem dX8_bestHeat_50 : decode cX8_bestHeat 50 = .ok (.iload 4, 2) := by decide +kernel
theorem dX8_bestHeat_52 : decode cX8_bestHeat 52 = .ok (.invokevirtual 202, 3) := by decide +kernel
theorem dX8_bestHeat_55 : decode cX8_bestHeat 55 = .ok (.aload_n 0, 1) := by decide +kernel
theorem dX8_bestHeat_56 : decode cX8_bestHeat 56 = .ok (.getfield 26, 3) := by decide +kernel
theorem dX8_bestHeat_59 : decode cX8_bestHeat 59 = .ok (.getfield 194, 3) := by decide +kernel
theorem dX8_bestHeat_62 : decode cX8_bestHeat 62 = .ok (.ifCond .ne 42, 3) := by decide +kernel
theorem dX8_bestHeat_65 : decode cX8_bestHeat 65 = .ok (.aload_n 0, 1) := by decide +kernel
theorem dX8_bestHeat_66 : decode cX8_bestHeat 66 = .ok (.getfield 26, 3) := by decide +kernel
theorem dX8_bestHeat_69 : decode cX8_bestHeat 69 = .ok (.getfield 188, 3) := by decide +kernel
theorem dX8_bestHeat_72 : decode cX8_bestHeat 72 = .ok (.iload_n 2, 1) := by decide +kernel
theorem dX8_bestHeat_73 : decode cX8_bestHeat 73 = .ok (.if_icmp .gt 20, 3) := by decide +kernel
theorem dX8_bestHeat_76 : decode cX8_bestHeat 76 = .ok (.aload_n 0, 1) := by decide +kernel
theorem dX8_bestHeat_77 : decode cX8_bestHeat 77 = .ok (.getfield 26, 3) := by decide +kernel
theorem dX8_bestHeat_80 : decode cX8_bestHeat 80 = .ok (.getfield 188, 3) := by decide +kernel
theorem dX8_bestHeat_83 : decode cX8_bestHeat 83 = .ok (.iload_n 2, 1) := by decide +kernel
theorem dX8_bestHeat_84 : decode cX8_bestHeat 84 = .ok (.if_icmp .ne 20, 3) := by decide +kernel
theorem dX8_bestHeat_87 : decode cX8_bestHeat 87 = .ok (.iload 4, 2) := by decide +kernel
theorem dX8_bestHeat_89 : decode cX8_bestHeat 89 = .ok (.iload_n 1, 1) := by decide +kernel
theorem dX8_bestHeat_90 : decode cX8_bestHeat 90 = .ok (.if_icmp .ge 14, 3) := by decide +kernel
theorem dX8_bestHeat_93 : decode cX8_bestHeat 93 = .ok (.iload 4, 2) := by decide +kernel
theorem dX8_bestHeat_95 : decode cX8_bestHeat 95 = .ok (.istore_n 1, 1) := by decide +kernel
theorem dX8_bestHeat_96 : decode cX8_bestHeat 96 = .ok (.aload_n 0, 1) := by decide +kernel
theorem dX8_bestHeat_97 : decode cX8_bestHeat 97 = .ok (.getfield 26, 3) := by decide +kernel
theorem dX8_bestHeat_100 : decode cX8_bestHeat 100 = .ok (.getfield 188, 3) := by decide +kernel
theorem dX8_bestHeat_103 : decode cX8_bestHeat 103 = .ok (.istore_n 2, 1) := by decide +kernel
theorem dX8_bestHeat_104 : decode cX8_bestHeat 104 = .ok (.iinc 3 1, 3) := by decide +kernel
theorem dX8_bestHeat_107 : decode cX8_bestHeat 107 = .ok (.goto (-86), 3) := by decide +kernel
theorem dX8_bestHeat_110 : decode cX8_bestHeat 110 = .ok (.iload_n 1, 1) := by decide +kernel
theorem dX8_bestHeat_111 : decode cX8_bestHeat 111 = .ok (.ireturn, 1) := by decide +kernel
theorem dX8_wish_0 : decode cX8_wish 0 = .ok (.iload_n 1, 1) := by decide +kernel
theorem dX8_wish_1 : decode cX8_wish 1 = .ok (.invokestatic 206, 3) := by decide +kernel
theorem dX8_wish_4 : decode cX8_wish 4 = .ok (.ifCond .eq 16, 3) := by decide +kernel
theorem dX8_wish_7 : decode cX8_wish 7 = .ok (.iload_n 2, 1) := by decide +kernel
theorem dX8_wish_8 : decode cX8_wish 8 = .ok (.iconst (-1), 1) := by decide +kernel
theorem dX8_wish_9 : decode cX8_wish 9 = .ok (.if_icmp .eq 13, 3) := by decide +kernel
theorem dX8_wish_12 : decode cX8_wish 12 = .ok (.aload_n 0, 1) := by decide +kernel
theorem dX8_wish_13 : decode cX8_wish 13 = .ok (.iload_n 2, 1) := by decide +kernel
theorem dX8_wish_14 : decode cX8_wish 14 = .ok (.invokevirtual 77, 3) := by decide +kernel
theorem dX8_wish_17 : decode cX8_wish 17 = .ok (.ifCond .ne 5, 3) := by decide +kernel
theorem dX8_wish_20 : decode cX8_wish 20 = .ok (.iconst (-1), 1) := by decide +kernel
theorem dX8_wish_21 : decode cX8_wish 21 = .ok (.ireturn, 1) := by decide +kernel
theorem dX8_wish_22 : decode cX8_wish 22 = .ok (.iload_n 2, 1) := by decide +kernel
theorem dX8_wish_23 : decode cX8_wish 23 = .ok (.iconst (-1), 1) := by decide +kernel
theorem dX8_wish_24 : decode cX8_wish 24 = .ok (.if_icmp .eq 22, 3) := by decide +kernel
theorem dX8_wish_27 : decode cX8_wish 27 = .ok (.aload_n 0, 1) := by decide +kernel
theorem dX8_wish_28 : decode cX8_wish 28 = .ok (.getfield 10, 3) := by decide +kernel
theorem dX8_wish_31 : decode cX8_wish 31 = .ok (.getfield 101, 3) := by decide +kernel
theorem dX8_wish_34 : decode cX8_wish 34 = .ok (.getfield 209, 3) := by decide +kernel
theorem dX8_wish_37 : decode cX8_wish 37 = .ok (.iload_n 1, 1) := by decide +kernel
theorem dX8_wish_38 : decode cX8_wish 38 = .ok (.iaload, 1) := by decide +kernel
theorem dX8_wish_39 : decode cX8_wish 39 = .ok (.iconst 3, 1) := by decide +kernel
theorem dX8_wish_40 : decode cX8_wish 40 = .ok (.if_icmp .lt 6, 3) := by decide +kernel
theorem dX8_wish_43 : decode cX8_wish 43 = .ok (.bipush (-3), 2) := by decide +kernel
theorem dX8_wish_45 : decode cX8_wish 45 = .ok (.ireturn, 1) := by decide +kernel
theorem dX8_wish_46 : decode cX8_wish 46 = .ok (.aload_n 0, 1) := by decide +kernel
theorem dX8_wish_47 : decode cX8_wish 47 = .ok (.getfield 19, 3) := by decide +kernel
theorem dX8_wish_50 : decode cX8_wish 50 = .ok (.aload_n 0, 1) := by decide +kernel
theorem dX8_wish_51 : decode cX8_wish 51 = .ok (.getfield 10, 3) := by decide +kernel
theorem dX8_wish_54 : decode cX8_wish 54 = .ok (.invokevirtual 69, 3) := by decide +kernel
theorem dX8_wish_57 : decode cX8_wish 57 = .ok (.aload_n 0, 1) := by decide +kernel
theorem dX8_wish_58 : decode cX8_wish 58 = .ok (.iconst 1, 1) := by decide +kernel
theorem dX8_wish_59 : decode cX8_wish 59 = .ok (.putfield 51, 3) := by decide +kernel
theorem dX8_wish_62 : decode cX8_wish 62 = .ok (.iload_n 2, 1) := by decide +kernel
theorem dX8_wish_63 : decode cX8_wish 63 = .ok (.iconst (-1), 1) := by decide +kernel
theorem dX8_wish_64 : decode cX8_wish 64 = .ok (.if_icmp .ne 19, 3) := by decide +kernel
theorem dX8_wish_67 : decode cX8_wish 67 = .ok (.aload_n 0, 1) := by decide +kernel
theorem dX8_wish_68 : decode cX8_wish 68 = .ok (.getfield 10, 3) := by decide +kernel
theorem dX8_wish_71 : decode cX8_wish 71 = .ok (.getfield 101, 3) := by decide +kernel
theorem dX8_wish_74 : decode cX8_wish 74 = .ok (.getfield 209, 3) := by decide +kernel
theorem dX8_wish_77 : decode cX8_wish 77 = .ok (.iload_n 1, 1) := by decide +kernel
theorem dX8_wish_78 : decode cX8_wish 78 = .ok (.iconst 0, 1) := by decide +kernel
theorem dX8_wish_79 : decode cX8_wish 79 = .ok (.iastore, 1) := by decide +kernel
theorem dX8_wish_80 : decode cX8_wish 80 = .ok (.goto 15, 3) := by decide +kernel
theorem dX8_wish_83 : decode cX8_wish 83 = .ok (.aload_n 0, 1) := by decide +kernel
theorem dX8_wish_84 : decode cX8_wish 84 = .ok (.getfield 10, 3) := by decide +kernel
theorem dX8_wish_87 : decode cX8_wish 87 = .ok (.getfield 101, 3) := by decide +kernel
theorem dX8_wish_90 : decode cX8_wish 90 = .ok (.iload_n 1, 1) := by decide +kernel
theorem dX8_wish_91 : decode cX8_wish 91 = .ok (.iload_n 2, 1) := by decide +kernel
theorem dX8_wish_92 : decode cX8_wish 92 = .ok (.invokevirtual 210, 3) := by decide +kernel
theorem dX8_wish_95 : decode cX8_wish 95 = .ok (.aload_n 0, 1) := by decide +kernel
theorem dX8_wish_96 : decode cX8_wish 96 = .ok (.getfield 10, 3) := by decide +kernel
theorem dX8_wish_99 : decode cX8_wish 99 = .ok (.getfield 101, 3) := by decide +kernel
theorem dX8_wish_102 : decode cX8_wish 102 = .ok (.getfield 209, 3) := by decide +kernel
theorem dX8_wish_105 : decode cX8_wish 105 = .ok (.iload_n 1, 1) := by decide +kernel
theorem dX8_wish_106 : decode cX8_wish 106 = .ok (.iaload, 1) := by decide +kernel
theorem dX8_wish_107 : decode cX8_wish 107 = .ok (.ireturn, 1) := by decide +kernel
theorem dX8_wished_0 : decode cX8_wished 0 = .ok (.iload_n 1, 1) := by decide +kernel
theorem dX8_wished_1 : decode cX8_wished 1 = .ok (.invokestatic 206, 3) := by decide +kernel
theorem dX8_wished_4 : decode cX8_wished 4 = .ok (.ifCond .eq 7, 3) := by decide +kernel
theorem dX8_wished_7 : decode cX8_wished 7 = .ok (.iload_n 2, 1) := by decide +kernel
theorem dX8_wished_8 : decode cX8_wished 8 = .ok (.ifCond .ge 5, 3) := by decide +kernel
theorem dX8_wished_11 : decode cX8_wished 11 = .ok (.iconst (-1), 1) := by decide +kernel
theorem dX8_wished_12 : decode cX8_wished 12 = .ok (.ireturn, 1) := by decide +kernel
theorem dX8_wished_13 : decode cX8_wished 13 = .ok (.iload_n 2, 1) := by decide +kernel
theorem dX8_wished_14 : decode cX8_wished 14 = .ok (.aload_n 0, 1) := by decide +kernel
theorem dX8_wished_15 : decode cX8_wished 15 = .ok (.getfield 10, 3) := by decide +kernel
theorem dX8_wished_18 : decode cX8_wished 18 = .ok (.getfield 101, 3) := by decide +kernel
theorem dX8_wished_21 : decode cX8_wished 21 = .ok (.getfield 209, 3) := by decide +kernel
theorem dX8_wished_24 : decode cX8_wished 24 = .ok (.iload_n 1, 1) := by decide +kernel
theorem dX8_wished_25 : decode cX8_wished 25 = .ok (.iaload, 1) := by decide +kernel
theorem dX8_wished_26 : decode cX8_wished 26 = .ok (.if_icmp .lt 6, 3) := by decide +kernel
theorem dX8_wished_29 : decode cX8_wished 29 = .ok (.bipush (-4), 2) := by decide +kernel
theorem dX8_wished_31 : decode cX8_wished 31 = .ok (.ireturn, 1) := by decide +kernel
theorem dX8_wished_32 : decode cX8_wished 32 = .ok (.aload_n 0, 1) := by decide +kernel
theorem dX8_wished_33 : decode cX8_wished 33 = .ok (.getfield 10, 3) := by decide +kernel
theorem dX8_wished_36 : decode cX8_wished 36 = .ok (.getfield 101, 3) := by decide +kernel
theorem dX8_wished_39 : decode cX8_wished 39 = .ok (.getfield 213, 3) := by decide +kernel
theorem dX8_wished_42 : decode cX8_wished 42 = .ok (.iload_n 1, 1) := by decide +kernel
theorem dX8_wished_43 : decode cX8_wished 43 = .ok (.iload_n 2, 1) := by decide +kernel
theorem dX8_wished_44 : decode cX8_wished 44 = .ok (.invokestatic 135, 3) := by decide +kernel
theorem dX8_wished_47 : decode cX8_wished 47 = .ok (.iaload, 1) := by decide +kernel
theorem dX8_wished_48 : decode cX8_wished 48 = .ok (.ireturn, 1) := by decide +kernel
theorem dX8_leastFirings_0 : decode cX8_leastFirings 0 = .ok (.aload_n 0, 1) := by decide +kernel
theorem dX8_leastFirings_1 : decode cX8_leastFirings 1 = .ok (.invokevirtual 214, 3) := by decide +kernel
theorem dX8_leastFirings_4 : decode cX8_leastFirings 4 = .ok (.aload_n 0, 1) := by decide +kernel
theorem dX8_leastFirings_5 : decode cX8_leastFirings 5 = .ok (.getfield 40, 3) := by decide +kernel
theorem dX8_leastFirings_8 : decode cX8_leastFirings 8 = .ok (.getfield 217, 3) := by decide +kernel
theorem dX8_leastFirings_11 : decode cX8_leastFirings 11 = .ok (.ifCond .eq 13, 3) := by decide +kernel
theorem dX8_leastFirings_14 : decode cX8_leastFirings 14 = .ok (.aload_n 0, 1) := by decide +kernel
theorem dX8_leastFirings_15 : decode cX8_leastFirings 15 = .ok (.getfield 40, 3) := by decide +kernel
theorem dX8_leastFirings_18 : decode cX8_leastFirings 18 = .ok (.getfield 220, 3) := by decide +kernel
theorem dX8_leastFirings_21 : decode cX8_leastFirings 21 = .ok (.goto 5, 3) := by decide +kernel
theorem dX8_leastFirings_24 : decode cX8_leastFirings 24 = .ok (.bipush (-4), 2) := by decide +kernel
theorem dX8_leastFirings_26 : decode cX8_leastFirings 26 = .ok (.ireturn, 1) := by decide +kernel
theorem dX8_planned_0 : decode cX8_planned 0 = .ok (.iload_n 1, 1) := by decide +kernel
theorem dX8_planned_1 : decode cX8_planned 1 = .ok (.ifCond .lt 12, 3) := by decide +kernel
theorem dX8_planned_4 : decode cX8_planned 4 = .ok (.iload_n 2, 1) := by decide +kernel
theorem dX8_planned_5 : decode cX8_planned 5 = .ok (.iconst 0, 1) := by decide +kernel
theorem dX8_planned_6 : decode cX8_planned 6 = .ok (.iconst 1, 1) := by decide +kernel
theorem dX8_planned_7 : decode cX8_planned 7 = .ok (.invokestatic 55, 3) := by decide +kernel
theorem dX8_planned_10 : decode cX8_planned 10 = .ok (.ifCond .ne 5, 3) := by decide +kernel
theorem dX8_planned_13 : decode cX8_planned 13 = .ok (.iconst (-1), 1) := by decide +kernel
theorem dX8_planned_14 : decode cX8_planned 14 = .ok (.ireturn, 1) := by decide +kernel
theorem dX8_planned_15 : decode cX8_planned 15 = .ok (.aload_n 0, 1) := by decide +kernel
theorem dX8_planned_16 : decode cX8_planned 16 = .ok (.invokevirtual 214, 3) := by decide +kernel
theorem dX8_planned_19 : decode cX8_planned 19 = .ok (.aload_n 0, 1) := by decide +kernel
theorem dX8_planned_20 : decode cX8_planned 20 = .ok (.getfield 40, 3) := by decide +kernel
theorem dX8_planned_23 : decode cX8_planned 23 = .ok (.getfield 217, 3) := by decide +kernel
theorem dX8_planned_26 : decode cX8_planned 26 = .ok (.ifCond .eq 14, 3) := by decide +kernel
theorem dX8_planned_29 : decode cX8_planned 29 = .ok (.iload_n 1, 1) := by decide +kernel
theorem dX8_planned_30 : decode cX8_planned 30 = .ok (.aload_n 0, 1) := by decide +kernel
theorem dX8_planned_31 : decode cX8_planned 31 = .ok (.getfield 40, 3) := by decide +kernel
theorem dX8_planned_34 : decode cX8_planned 34 = .ok (.getfield 220, 3) := by decide +kernel
theorem dX8_planned_37 : decode cX8_planned 37 = .ok (.if_icmp .lt 6, 3) := by decide +kernel
theorem dX8_planned_40 : decode cX8_planned 40 = .ok (.bipush (-4), 2) := by decide +kernel
theorem dX8_planned_42 : decode cX8_planned 42 = .ok (.ireturn, 1) := by decide +kernel
theorem dX8_planned_43 : decode cX8_planned 43 = .ok (.iload_n 2, 1) := by decide +kernel
theorem dX8_planned_44 : decode cX8_planned 44 = .ok (.ifCond .ne 15, 3) := by decide +kernel
theorem dX8_planned_47 : decode cX8_planned 47 = .ok (.aload_n 0, 1) := by decide +kernel
theorem dX8_planned_48 : decode cX8_planned 48 = .ok (.getfield 40, 3) := by decide +kernel
theorem dX8_planned_51 : decode cX8_planned 51 = .ok (.getfield 221, 3) := by decide +kernel
theorem dX8_planned_54 : decode cX8_planned 54 = .ok (.iload_n 1, 1) := by decide +kernel
theorem dX8_planned_55 : decode cX8_planned 55 = .ok (.iaload, 1) := by decide +kernel
theorem dX8_planned_56 : decode cX8_planned 56 = .ok (.goto 12, 3) := by decide +kernel
theorem dX8_planned_59 : decode cX8_planned 59 = .ok (.aload_n 0, 1) := by decide +kernel
theorem dX8_planned_60 : decode cX8_planned 60 = .ok (.getfield 40, 3) := by decide +kernel
theorem dX8_planned_63 : decode cX8_planned 63 = .ok (.getfield 224, 3) := by decide +kernel
theorem dX8_planned_66 : decode cX8_planned 66 = .ok (.iload_n 1, 1) := by decide +kernel
theorem dX8_planned_67 : decode cX8_planned 67 = .ok (.iaload, 1) := by decide +kernel
theorem dX8_planned_68 : decode cX8_planned 68 = .ok (.ireturn, 1) := by decide +kernel
theorem dX8_counter_0 : decode cX8_counter 0 = .ok (.bipush (-4), 2) := by decide +kernel
theorem dX8_counter_2 : decode cX8_counter 2 = .ok (.istore_n 1, 1) := by decide +kernel
theorem dX8_counter_3 : decode cX8_counter 3 = .ok (.iconst 0, 1) := by decide +kernel
theorem dX8_counter_4 : decode cX8_counter 4 = .ok (.istore_n 2, 1) := by decide +kernel
theorem dX8_counter_5 : decode cX8_counter 5 = .ok (.iconst 0, 1) := by decide +kernel
theorem dX8_counter_6 : decode cX8_counter 6 = .ok (.istore_n 3, 1) := by decide +kernel
theorem dX8_counter_7 : decode cX8_counter 7 = .ok (.iload_n 3, 1) := by decide +kernel
theorem dX8_counter_8 : decode cX8_counter 8 = .ok (.aload_n 0, 1) := by decide +kernel
theorem dX8_counter_9 : decode cX8_counter 9 = .ok (.getfield 10, 3) := by decide +kernel
theorem dX8_counter_12 : decode cX8_counter 12 = .ok (.getfield 59, 3) := by decide +kernel
theorem dX8_counter_15 : decode cX8_counter 15 = .ok (.getfield 63, 3) := by decide +kernel
theorem dX8_counter_18 : decode cX8_counter 18 = .ok (.if_icmp .ge 46, 3) := by decide +kernel
theorem dX8_counter_21 : decode cX8_counter 21 = .ok (.aload_n 0, 1) := by decide +kernel
theorem dX8_counter_22 : decode cX8_counter 22 = .ok (.getfield 10, 3) := by decide +kernel
theorem dX8_counter_25 : decode cX8_counter 25 = .ok (.getfield 95, 3) := by decide +kernel
theorem dX8_counter_28 : decode cX8_counter 28 = .ok (.iload_n 3, 1) := by decide +kernel
theorem dX8_counter_29 : decode cX8_counter 29 = .ok (.aload_n 0, 1) := by decide +kernel
theorem dX8_counter_30 : decode cX8_counter 30 = .ok (.getfield 10, 3) := by decide +kernel
theorem dX8_counter_33 : decode cX8_counter 33 = .ok (.getfield 59, 3) := by decide +kernel
theorem dX8_counter_36 : decode cX8_counter 36 = .ok (.invokevirtual 227, 3) := by decide +kernel
theorem dX8_counter_39 : decode cX8_counter 39 = .ok (.istore 4, 2) := by decide +kernel
theorem dX8_counter_41 : decode cX8_counter 41 = .ok (.iload_n 1, 1) := by decide +kernel
theorem dX8_counter_42 : decode cX8_counter 42 = .ok (.bipush (-4), 2) := by decide +kernel
theorem dX8_counter_44 : decode cX8_counter 44 = .ok (.if_icmp .eq 9, 3) := by decide +kernel
theorem dX8_counter_47 : decode cX8_counter 47 = .ok (.iload 4, 2) := by decide +kernel
theorem dX8_counter_49 : decode cX8_counter 49 = .ok (.iload_n 2, 1) := by decide +kernel
theorem dX8_counter_50 : decode cX8_counter 50 = .ok (.if_icmp .ge 8, 3) := by decide +kernel
theorem dX8_counter_53 : decode cX8_counter 53 = .ok (.iload_n 3, 1) := by decide +kernel
theorem dX8_counter_54 : decode cX8_counter 54 = .ok (.istore_n 1, 1) := by decide +kernel
theorem dX8_counter_55 : decode cX8_counter 55 = .ok (.iload 4, 2) := by decide +kernel
theorem dX8_counter_57 : decode cX8_counter 57 = .ok (.istore_n 2, 1) := by decide +kernel
theorem dX8_counter_58 : decode cX8_counter 58 = .ok (.iinc 3 1, 3) := by decide +kernel
theorem dX8_counter_61 : decode cX8_counter 61 = .ok (.goto (-54), 3) := by decide +kernel
theorem dX8_counter_64 : decode cX8_counter 64 = .ok (.iload_n 1, 1) := by decide +kernel
theorem dX8_counter_65 : decode cX8_counter 65 = .ok (.ireturn, 1) := by decide +kernel
theorem dX8_undo_0 : decode cX8_undo 0 = .ok (.aload_n 0, 1) := by decide +kernel
theorem dX8_undo_1 : decode cX8_undo 1 = .ok (.getfield 19, 3) := by decide +kernel
theorem dX8_undo_4 : decode cX8_undo 4 = .ok (.getfield 180, 3) := by decide +kernel
theorem dX8_undo_7 : decode cX8_undo 7 = .ok (.ifCond .ne 6, 3) := by decide +kernel
theorem dX8_undo_10 : decode cX8_undo 10 = .ok (.bipush (-2), 2) := by decide +kernel
theorem dX8_undo_12 : decode cX8_undo 12 = .ok (.ireturn, 1) := by decide +kernel
theorem dX8_undo_13 : decode cX8_undo 13 = .ok (.aload_n 0, 1) := by decide +kernel
theorem dX8_undo_14 : decode cX8_undo 14 = .ok (.getfield 19, 3) := by decide +kernel
theorem dX8_undo_17 : decode cX8_undo 17 = .ok (.aload_n 0, 1) := by decide +kernel
theorem dX8_undo_18 : decode cX8_undo 18 = .ok (.getfield 10, 3) := by decide +kernel
theorem dX8_undo_21 : decode cX8_undo 21 = .ok (.invokevirtual 230, 3) := by decide +kernel
theorem dX8_undo_24 : decode cX8_undo 24 = .ok (.aload_n 0, 1) := by decide +kernel
theorem dX8_undo_25 : decode cX8_undo 25 = .ok (.iconst 1, 1) := by decide +kernel
theorem dX8_undo_26 : decode cX8_undo 26 = .ok (.putfield 51, 3) := by decide +kernel
theorem dX8_undo_29 : decode cX8_undo 29 = .ok (.aload_n 0, 1) := by decide +kernel
theorem dX8_undo_30 : decode cX8_undo 30 = .ok (.getfield 19, 3) := by decide +kernel
theorem dX8_undo_33 : decode cX8_undo 33 = .ok (.getfield 180, 3) := by decide +kernel
theorem dX8_undo_36 : decode cX8_undo 36 = .ok (.ireturn, 1) := by decide +kernel
theorem dX8_type_0 : decode cX8_type 0 = .ok (.iload_n 1, 1) := by decide +kernel
theorem dX8_type_1 : decode cX8_type 1 = .ok (.bipush 32, 2) := by decide +kernel
theorem dX8_type_3 : decode cX8_type 3 = .ok (.bipush 126, 2) := by decide +kernel
theorem dX8_type_5 : decode cX8_type 5 = .ok (.invokestatic 55, 3) := by decide +kernel
theorem dX8_type_8 : decode cX8_type 8 = .ok (.ifCond .ne 5, 3) := by decide +kernel
theorem dX8_type_11 : decode cX8_type 11 = .ok (.iconst (-1), 1) := by decide +kernel
theorem dX8_type_12 : decode cX8_type 12 = .ok (.ireturn, 1) := by decide +kernel
theorem dX8_type_13 : decode cX8_type 13 = .ok (.aload_n 0, 1) := by decide +kernel
theorem dX8_type_14 : decode cX8_type 14 = .ok (.getfield 47, 3) := by decide +kernel
theorem dX8_type_17 : decode cX8_type 17 = .ok (.getfield 181, 3) := by decide +kernel
theorem dX8_type_20 : decode cX8_type 20 = .ok (.bipush 80, 2) := by decide +kernel
theorem dX8_type_22 : decode cX8_type 22 = .ok (.if_icmp .lt 6, 3) := by decide +kernel
theorem dX8_type_25 : decode cX8_type 25 = .ok (.bipush (-3), 2) := by decide +kernel
theorem dX8_type_27 : decode cX8_type 27 = .ok (.ireturn, 1) := by decide +kernel
theorem dX8_type_28 : decode cX8_type 28 = .ok (.aload_n 0, 1) := by decide +kernel
theorem dX8_type_29 : decode cX8_type 29 = .ok (.getfield 47, 3) := by decide +kernel
theorem dX8_type_32 : decode cX8_type 32 = .ok (.iload_n 1, 1) := by decide +kernel
theorem dX8_type_33 : decode cX8_type 33 = .ok (.i2c, 1) := by decide +kernel
theorem dX8_type_34 : decode cX8_type 34 = .ok (.invokevirtual 233, 3) := by decide +kernel
theorem dX8_type_37 : decode cX8_type 37 = .ok (.ireturn, 1) := by decide +kernel
theorem dX8_fault_0 : decode cX8_fault 0 = .ok (.iload_n 1, 1) := by decide +kernel
theorem dX8_fault_1 : decode cX8_fault 1 = .ok (.iconst 0, 1) := by decide +kernel
theorem dX8_fault_2 : decode cX8_fault 2 = .ok (.iconst 1, 1) := by decide +kernel
theorem dX8_fault_3 : decode cX8_fault 3 = .ok (.invokestatic 55, 3) := by decide +kernel
theorem dX8_fault_6 : decode cX8_fault 6 = .ok (.ifCond .ne 5, 3) := by decide +kernel
theorem dX8_fault_9 : decode cX8_fault 9 = .ok (.iconst (-1), 1) := by decide +kernel
theorem dX8_fault_10 : decode cX8_fault 10 = .ok (.ireturn, 1) := by decide +kernel
theorem dX8_fault_11 : decode cX8_fault 11 = .ok (.aload_n 0, 1) := by decide +kernel
theorem dX8_fault_12 : decode cX8_fault 12 = .ok (.getfield 47, 3) := by decide +kernel
theorem dX8_fault_15 : decode cX8_fault 15 = .ok (.aload_n 0, 1) := by decide +kernel
theorem dX8_fault_16 : decode cX8_fault 16 = .ok (.getfield 10, 3) := by decide +kernel
theorem dX8_fault_19 : decode cX8_fault 19 = .ok (.getfield 59, 3) := by decide +kernel
theorem dX8_fault_22 : decode cX8_fault 22 = .ok (.getfield 63, 3) := by decide +kernel
theorem dX8_fault_25 : decode cX8_fault 25 = .ok (.invokevirtual 236, 3) := by decide +kernel
theorem dX8_fault_28 : decode cX8_fault 28 = .ok (.aload_n 0, 1) := by decide +kernel
theorem dX8_fault_29 : decode cX8_fault 29 = .ok (.getfield 47, 3) := by decide +kernel
theorem dX8_fault_32 : decode cX8_fault 32 = .ok (.invokevirtual 239, 3) := by decide +kernel
theorem dX8_fault_35 : decode cX8_fault 35 = .ok (.ifCond .ne 6, 3) := by decide +kernel
theorem dX8_fault_38 : decode cX8_fault 38 = .ok (.bipush (-4), 2) := by decide +kernel
theorem dX8_fault_40 : decode cX8_fault 40 = .ok (.ireturn, 1) := by decide +kernel
theorem dX8_fault_41 : decode cX8_fault 41 = .ok (.iload_n 1, 1) := by decide +kernel
theorem dX8_fault_42 : decode cX8_fault 42 = .ok (.ifCond .ne 13, 3) := by decide +kernel
theorem dX8_fault_45 : decode cX8_fault 45 = .ok (.aload_n 0, 1) := by decide +kernel
theorem dX8_fault_46 : decode cX8_fault 46 = .ok (.getfield 47, 3) := by decide +kernel
theorem dX8_fault_49 : decode cX8_fault 49 = .ok (.getfield 243, 3) := by decide +kernel
theorem dX8_fault_52 : decode cX8_fault 52 = .ok (.goto 10, 3) := by decide +kernel
theorem dX8_fault_55 : decode cX8_fault 55 = .ok (.aload_n 0, 1) := by decide +kernel
theorem dX8_fault_56 : decode cX8_fault 56 = .ok (.getfield 47, 3) := by decide +kernel
theorem dX8_fault_59 : decode cX8_fault 59 = .ok (.getfield 246, 3) := by decide +kernel
theorem dX8_fault_62 : decode cX8_fault 62 = .ok (.ireturn, 1) := by decide +kernel
theorem dX8_within_0 : decode cX8_within 0 = .ok (.iload_n 0, 1) := by decide +kernel
theorem dX8_within_1 : decode cX8_within 1 = .ok (.iload_n 1, 1) := by decide +kernel
theorem dX8_within_2 : decode cX8_within 2 = .ok (.if_icmp .lt 12, 3) := by decide +kernel
theorem dX8_within_5 : decode cX8_within 5 = .ok (.iload_n 0, 1) := by decide +kernel
theorem dX8_within_6 : decode cX8_within 6 = .ok (.iload_n 2, 1) := by decide +kernel
theorem dX8_within_7 : decode cX8_within 7 = .ok (.if_icmp .gt 7, 3) := by decide +kernel
theorem dX8_within_10 : decode cX8_within 10 = .ok (.iconst 1, 1) := by decide +kernel
theorem dX8_within_11 : decode cX8_within 11 = .ok (.goto 4, 3) := by decide +kernel
theorem dX8_within_14 : decode cX8_within 14 = .ok (.iconst 0, 1) := by decide +kernel
theorem dX8_within_15 : decode cX8_within 15 = .ok (.ireturn, 1) := by decide +kernel
theorem dX8_placeOf_0 : decode cX8_placeOf 0 = .ok (.iload_n 0, 1) := by decide +kernel
theorem dX8_placeOf_1 : decode cX8_placeOf 1 = .ok (.iconst 3, 1) := by decide +kernel
theorem dX8_placeOf_2 : decode cX8_placeOf 2 = .ok (.imul, 1) := by decide +kernel
theorem dX8_placeOf_3 : decode cX8_placeOf 3 = .ok (.iload_n 1, 1) := by decide +kernel
theorem dX8_placeOf_4 : decode cX8_placeOf 4 = .ok (.iadd, 1) := by decide +kernel
theorem dX8_placeOf_5 : decode cX8_placeOf 5 = .ok (.ireturn, 1) := by decide +kernel
theorem dX8_isField_0 : decode cX8_isField 0 = .ok (.iload_n 0, 1) := by decide +kernel
theorem dX8_isField_1 : decode cX8_isField 1 = .ok (.iconst 0, 1) := by decide +kernel
theorem dX8_isField_2 : decode cX8_isField 2 = .ok (.bipush 6, 2) := by decide +kernel
theorem dX8_isField_4 : decode cX8_isField 4 = .ok (.invokestatic 55, 3) := by decide +kernel
theorem dX8_isField_7 : decode cX8_isField 7 = .ok (.ireturn, 1) := by decide +kernel
theorem dX8_isFrontField_0 : decode cX8_isFrontField 0 = .ok (.iload_n 0, 1) := by decide +kernel
theorem dX8_isFrontField_1 : decode cX8_isFrontField 1 = .ok (.iconst 0, 1) := by decide +kernel
theorem dX8_isFrontField_2 : decode cX8_isFrontField 2 = .ok (.iconst 5, 1) := by decide +kernel
theorem dX8_isFrontField_3 : decode cX8_isFrontField 3 = .ok (.invokestatic 55, 3) := by decide +kernel
theorem dX8_isFrontField_6 : decode cX8_isFrontField 6 = .ok (.ireturn, 1) := by decide +kernel
theorem dX8_isColor_0 : decode cX8_isColor 0 = .ok (.iload_n 1, 1) := by decide +kernel
theorem dX8_isColor_1 : decode cX8_isColor 1 = .ok (.iconst 0, 1) := by decide +kernel
theorem dX8_isColor_2 : decode cX8_isColor 2 = .ok (.aload_n 0, 1) := by decide +kernel
theorem dX8_isColor_3 : decode cX8_isColor 3 = .ok (.getfield 10, 3) := by decide +kernel
theorem dX8_isColor_6 : decode cX8_isColor 6 = .ok (.getfield 59, 3) := by decide +kernel
theorem dX8_isColor_9 : decode cX8_isColor 9 = .ok (.getfield 63, 3) := by decide +kernel
theorem dX8_isColor_12 : decode cX8_isColor 12 = .ok (.iconst 1, 1) := by decide +kernel
theorem dX8_isColor_13 : decode cX8_isColor 13 = .ok (.isub, 1) := by decide +kernel
theorem dX8_isColor_14 : decode cX8_isColor 14 = .ok (.invokestatic 55, 3) := by decide +kernel
theorem dX8_isColor_17 : decode cX8_isColor 17 = .ok (.ireturn, 1) := by decide +kernel
theorem dX8_tryHeat_0 : decode cX8_tryHeat 0 = .ok (.aload_n 0, 1) := by decide +kernel
theorem dX8_tryHeat_1 : decode cX8_tryHeat 1 = .ok (.getfield 33, 3) := by decide +kernel
theorem dX8_tryHeat_4 : decode cX8_tryHeat 4 = .ok (.aload_n 0, 1) := by decide +kernel
theorem dX8_tryHeat_5 : decode cX8_tryHeat 5 = .ok (.getfield 10, 3) := by decide +kernel
theorem dX8_tryHeat_8 : decode cX8_tryHeat 8 = .ok (.getfield 95, 3) := by decide +kernel
theorem dX8_tryHeat_11 : decode cX8_tryHeat 11 = .ok (.invokevirtual 253, 3) := by decide +kernel
theorem dX8_tryHeat_14 : decode cX8_tryHeat 14 = .ok (.aload_n 0, 1) := by decide +kernel
theorem dX8_tryHeat_15 : decode cX8_tryHeat 15 = .ok (.getfield 26, 3) := by decide +kernel
theorem dX8_tryHeat_18 : decode cX8_tryHeat 18 = .ok (.aload_n 0, 1) := by decide +kernel
theorem dX8_tryHeat_19 : decode cX8_tryHeat 19 = .ok (.getfield 10, 3) := by decide +kernel
theorem dX8_tryHeat_22 : decode cX8_tryHeat 22 = .ok (.aload_n 0, 1) := by decide +kernel
theorem dX8_tryHeat_23 : decode cX8_tryHeat 23 = .ok (.getfield 33, 3) := by decide +kernel
theorem dX8_tryHeat_26 : decode cX8_tryHeat 26 = .ok (.iload_n 1, 1) := by decide +kernel
theorem dX8_tryHeat_27 : decode cX8_tryHeat 27 = .ok (.aload_n 0, 1) := by decide +kernel
theorem dX8_tryHeat_28 : decode cX8_tryHeat 28 = .ok (.getfield 10, 3) := by decide +kernel
theorem dX8_tryHeat_31 : decode cX8_tryHeat 31 = .ok (.getfield 168, 3) := by decide +kernel
theorem dX8_tryHeat_34 : decode cX8_tryHeat 34 = .ok (.iconst 0, 1) := by decide +kernel
theorem dX8_tryHeat_35 : decode cX8_tryHeat 35 = .ok (.iaload, 1) := by decide +kernel
theorem dX8_tryHeat_36 : decode cX8_tryHeat 36 = .ok (.invokevirtual 184, 3) := by decide +kernel
theorem dX8_tryHeat_39 : decode cX8_tryHeat 39 = .ok (.return_, 1) := by decide +kernel
theorem dX8_bringPlanUpToDate_0 : decode cX8_bringPlanUpToDate 0 = .ok (.aload_n 0, 1) := by decide +kernel
theorem dX8_bringPlanUpToDate_1 : decode cX8_bringPlanUpToDate 1 = .ok (.getfield 51, 3) := by decide +kernel
theorem dX8_bringPlanUpToDate_4 : decode cX8_bringPlanUpToDate 4 = .ok (.ifCond .eq 29, 3) := by decide +kernel
theorem dX8_bringPlanUpToDate_7 : decode cX8_bringPlanUpToDate 7 = .ok (.aload_n 0, 1) := by decide +kernel
theorem dX8_bringPlanUpToDate_8 : decode cX8_bringPlanUpToDate 8 = .ok (.getfield 40, 3) := by decide +kernel
theorem dX8_bringPlanUpToDate_11 : decode cX8_bringPlanUpToDate 11 = .ok (.aload_n 0, 1) := by decide +kernel
theorem dX8_bringPlanUpToDate_12 : decode cX8_bringPlanUpToDate 12 = .ok (.getfield 10, 3) := by decide +kernel
theorem dX8_bringPlanUpToDate_15 : decode cX8_bringPlanUpToDate 15 = .ok (.getfield 101, 3) := by decide +kernel
theorem dX8_bringPlanUpToDate_18 : decode cX8_bringPlanUpToDate 18 = .ok (.aload_n 0, 1) := by decide +kernel
theorem dX8_bringPlanUpToDate_19 : decode cX8_bringPlanUpToDate 19 = .ok (.getfield 10, 3) := by decide +kernel
theorem dX8_bringPlanUpToDate_22 : decode cX8_bringPlanUpToDate 22 = .ok (.getfield 59, 3) := by decide +kernel
theorem dX8_bringPlanUpToDate_25 : decode cX8_bringPlanUpToDate 25 = .ok (.invokevirtual 257, 3) := by decide +kernel
theorem dX8_bringPlanUpToDate_28 : decode cX8_bringPlanUpToDate 28 = .ok (.aload_n 0, 1) := by decide +kernel
theorem dX8_bringPlanUpToDate_29 : decode cX8_bringPlanUpToDate 29 = .ok (.iconst 0, 1) := by decide +kernel
theorem dX8_bringPlanUpToDate_30 : decode cX8_bringPlanUpToDate 30 = .ok (.putfield 51, 3) := by decide +kernel
theorem dX8_bringPlanUpToDate_33 : decode cX8_bringPlanUpToDate 33 = .ok (.return_, 1) := by decide +kernel
theorem dX8_copyRow_0 : decode cX8_copyRow 0 = .ok (.aload_n 0, 1) := by decide +kernel
theorem dX8_copyRow_1 : decode cX8_copyRow 1 = .ok (.iconst 0, 1) := by decide +kernel
theorem dX8_copyRow_2 : decode cX8_copyRow 2 = .ok (.aload_n 1, 1) := by decide +kernel
theorem dX8_copyRow_3 : decode cX8_copyRow 3 = .ok (.iconst 0, 1) := by decide +kernel
theorem dX8_copyRow_4 : decode cX8_copyRow 4 = .ok (.aload_n 0, 1) := by decide +kernel
theorem dX8_copyRow_5 : decode cX8_copyRow 5 = .ok (.arraylength, 1) := by decide +kernel
theorem dX8_copyRow_6 : decode cX8_copyRow 6 = .ok (.aload_n 1, 1) := by decide +kernel
theorem dX8_copyRow_7 : decode cX8_copyRow 7 = .ok (.arraylength, 1) := by decide +kernel
theorem dX8_copyRow_8 : decode cX8_copyRow 8 = .ok (.invokestatic 261, 3) := by decide +kernel
theorem dX8_copyRow_11 : decode cX8_copyRow 11 = .ok (.invokestatic 266, 3) := by decide +kernel
theorem dX8_copyRow_14 : decode cX8_copyRow 14 = .ok (.return_, 1) := by decide +kernel
theorem dL_cell_0 : decode cL_cell 0 = .ok (.iload_n 1, 1) := by decide +kernel
theorem dL_cell_1 : decode cL_cell 1 = .ok (.aload_n 0, 1) := by decide +kernel
theorem dL_cell_2 : decode cL_cell 2 = .ok (.arraylength, 1) := by decide +kernel
theorem dL_cell_3 : decode cL_cell 3 = .ok (.if_icmp .ge 9, 3) := by decide +kernel
theorem dL_cell_6 : decode cL_cell 6 = .ok (.aload_n 0, 1) := by decide +kernel
theorem dL_cell_7 : decode cL_cell 7 = .ok (.iload_n 1, 1) := by decide +kernel
theorem dL_cell_8 : decode cL_cell 8 = .ok (.iaload, 1) := by decide +kernel
theorem dL_cell_9 : decode cL_cell 9 = .ok (.goto 9, 3) := by decide +kernel
theorem dL_cell_12 : decode cL_cell 12 = .ok (.ldc 7, 2) := by decide +kernel
theorem dL_cell_14 : decode cL_cell 14 = .ok (.iload_n 1, 1) := by decide +kernel
theorem dL_cell_15 : decode cL_cell 15 = .ok (.iconst 3, 1) := by decide +kernel
theorem dL_cell_16 : decode cL_cell 16 = .ok (.iadd, 1) := by decide +kernel
theorem dL_cell_17 : decode cL_cell 17 = .ok (.imul, 1) := by decide +kernel
theorem dL_cell_18 : decode cL_cell 18 = .ok (.istore_n 2, 1) := by decide +kernel
theorem dL_cell_19 : decode cL_cell 19 = .ok (.iload_n 2, 1) := by decide +kernel
theorem dL_cell_20 : decode cL_cell 20 = .ok (.iload_n 2, 1) := by decide +kernel
theorem dL_cell_21 : decode cL_cell 21 = .ok (.bipush 15, 2) := by decide +kernel
theorem dL_cell_23 : decode cL_cell 23 = .ok (.iushr, 1) := by decide +kernel
theorem dL_cell_24 : decode cL_cell 24 = .ok (.ixor, 1) := by decide +kernel
theorem dL_cell_25 : decode cL_cell 25 = .ok (.ireturn, 1) := by decide +kernel
theorem dL_low_0 : decode cL_low 0 = .ok (.iload_n 0, 1) := by decide +kernel
theorem dL_low_1 : decode cL_low 1 = .ok (.ldc 8, 2) := by decide +kernel
theorem dL_low_3 : decode cL_low 3 = .ok (.iand, 1) := by decide +kernel
theorem dL_low_4 : decode cL_low 4 = .ok (.iload_n 1, 1) := by decide +kernel
theorem dL_low_5 : decode cL_low 5 = .ok (.irem, 1) := by decide +kernel
theorem dL_low_6 : decode cL_low 6 = .ok (.ireturn, 1) := by decide +kernel
theorem dL_print_0 : decode cL_print 0 = .ok (.ldc2_w 9, 3) := by decide +kernel
theorem dL_print_3 : decode cL_print 3 = .ok (.lstore_n 1, 1) := by decide +kernel
theorem dL_print_4 : decode cL_print 4 = .ok (.iconst 0, 1) := by decide +kernel
theorem dL_print_5 : decode cL_print 5 = .ok (.istore_n 3, 1) := by decide +kernel
theorem dL_print_6 : decode cL_print 6 = .ok (.iload_n 3, 1) := by decide +kernel
theorem dL_print_7 : decode cL_print 7 = .ok (.bipush 21, 2) := by decide +kernel
theorem dL_print_9 : decode cL_print 9 = .ok (.if_icmp .ge 22, 3) := by decide +kernel
theorem dL_print_12 : decode cL_print 12 = .ok (.ldc2_w 11, 3) := by decide +kernel
theorem dL_print_15 : decode cL_print 15 = .ok (.lload_n 1, 1) := by decide +kernel
theorem dL_print_16 : decode cL_print 16 = .ok (.lmul, 1) := by decide +kernel
theorem dL_print_17 : decode cL_print 17 = .ok (.aload_n 0, 1) := by decide +kernel
theorem dL_print_18 : decode cL_print 18 = .ok (.iload_n 3, 1) := by decide +kernel
theorem dL_print_19 : decode cL_print 19 = .ok (.invokevirtual 13, 3) := by decide +kernel
theorem dL_print_22 : decode cL_print 22 = .ok (.i2l, 1) := by decide +kernel
theorem dL_print_23 : decode cL_print 23 = .ok (.ladd, 1) := by decide +kernel
theorem dL_print_24 : decode cL_print 24 = .ok (.lstore_n 1, 1) := by decide +kernel
theorem dL_print_25 : decode cL_print 25 = .ok (.iinc 3 1, 3) := by decide +kernel
theorem dL_print_28 : decode cL_print 28 = .ok (.goto (-22), 3) := by decide +kernel
theorem dL_print_31 : decode cL_print 31 = .ok (.iconst 0, 1) := by decide +kernel
theorem dL_print_32 : decode cL_print 32 = .ok (.istore_n 3, 1) := by decide +kernel
theorem dL_print_33 : decode cL_print 33 = .ok (.iload_n 3, 1) := by decide +kernel
theorem dL_print_34 : decode cL_print 34 = .ok (.bipush 7, 2) := by decide +kernel
theorem dL_print_36 : decode cL_print 36 = .ok (.if_icmp .ge 92, 3) := by decide +kernel
theorem dL_print_39 : decode cL_print 39 = .ok (.iconst 0, 1) := by decide +kernel
theorem dL_print_40 : decode cL_print 40 = .ok (.istore 4, 2) := by decide +kernel
theorem dL_print_42 : decode cL_print 42 = .ok (.iload 4, 2) := by decide +kernel
theorem dL_print_44 : decode cL_print 44 = .ok (.bipush 9, 2) := by decide +kernel
theorem dL_print_46 : decode cL_print 46 = .ok (.if_icmp .ge 30, 3) := by decide +kernel
theorem dL_print_49 : decode cL_print 49 = .ok (.ldc2_w 11, 3) := by decide +kernel
theorem dL_print_52 : decode cL_print 52 = .ok (.lload_n 1, 1) := by decide +kernel
theorem dL_print_53 : decode cL_print 53 = .ok (.lmul, 1) := by decide +kernel
theorem dL_print_54 : decode cL_print 54 = .ok (.aload_n 0, 1) := by decide +kernel
theorem dL_print_55 : decode cL_print 55 = .ok (.iload_n 3, 1) := by decide +kernel
theorem dL_print_56 : decode cL_print 56 = .ok (.iload 4, 2) := by decide +kernel
theorem dL_print_58 : decode cL_print 58 = .ok (.iconst 3, 1) := by decide +kernel
theorem dL_print_59 : decode cL_print 59 = .ok (.idiv, 1) := by decide +kernel
theorem dL_print_60 : decode cL_print 60 = .ok (.iload 4, 2) := by decide +kernel
theorem dL_print_62 : decode cL_print 62 = .ok (.iconst 3, 1) := by decide +kernel
theorem dL_print_63 : decode cL_print 63 = .ok (.irem, 1) := by decide +kernel
theorem dL_print_64 : decode cL_print 64 = .ok (.invokevirtual 19, 3) := by decide +kernel
theorem dL_print_67 : decode cL_print 67 = .ok (.i2l, 1) := by decide +kernel
theorem dL_print_68 : decode cL_print 68 = .ok (.ladd, 1) := by decide +kernel
theorem dL_print_69 : decode cL_print 69 = .ok (.lstore_n 1, 1) := by decide +kernel
theorem dL_print_70 : decode cL_print 70 = .ok (.iinc 4 1, 3) := by decide +kernel
theorem dL_print_73 : decode cL_print 73 = .ok (.goto (-31), 3) := by decide +kernel
theorem dL_print_76 : decode cL_print 76 = .ok (.iconst 0, 1) := by decide +kernel
theorem dL_print_77 : decode cL_print 77 = .ok (.istore 4, 2) := by decide +kernel
theorem dL_print_79 : decode cL_print 79 = .ok (.iload 4, 2) := by decide +kernel
theorem dL_print_81 : decode cL_print 81 = .ok (.bipush 6, 2) := by decide +kernel
theorem dL_print_83 : decode cL_print 83 = .ok (.if_icmp .ge 39, 3) := by decide +kernel
theorem dL_print_86 : decode cL_print 86 = .ok (.ldc2_w 11, 3) := by decide +kernel
theorem dL_print_89 : decode cL_print 89 = .ok (.ldc2_w 11, 3) := by decide +kernel
theorem dL_print_92 : decode cL_print 92 = .ok (.lload_n 1, 1) := by decide +kernel
theorem dL_print_93 : decode cL_print 93 = .ok (.lmul, 1) := by decide +kernel
theorem dL_print_94 : decode cL_print 94 = .ok (.aload_n 0, 1) := by decide +kernel
theorem dL_print_95 : decode cL_print 95 = .ok (.iload_n 3, 1) := by decide +kernel
theorem dL_print_96 : decode cL_print 96 = .ok (.iload 4, 2) := by decide +kernel
theorem dL_print_98 : decode cL_print 98 = .ok (.invokevirtual 23, 3) := by decide +kernel
theorem dL_print_101 : decode cL_print 101 = .ok (.i2l, 1) := by decide +kernel
theorem dL_print_102 : decode cL_print 102 = .ok (.ladd, 1) := by decide +kernel
theorem dL_print_103 : decode cL_print 103 = .ok (.lmul, 1) := by decide +kernel
theorem dL_print_104 : decode cL_print 104 = .ok (.aload_n 0, 1) := by decide +kernel
theorem dL_print_105 : decode cL_print 105 = .ok (.iload_n 3, 1) := by decide +kernel
theorem dL_print_106 : decode cL_print 106 = .ok (.iload 4, 2) := by decide +kernel
theorem dL_print_108 : decode cL_print 108 = .ok (.iconst 3, 1) := by decide +kernel
theorem dL_print_109 : decode cL_print 109 = .ok (.irem, 1) := by decide +kernel
theorem dL_print_110 : decode cL_print 110 = .ok (.invokevirtual 27, 3) := by decide +kernel
theorem dL_print_113 : decode cL_print 113 = .ok (.i2l, 1) := by decide +kernel
theorem dL_print_114 : decode cL_print 114 = .ok (.ladd, 1) := by decide +kernel
theorem dL_print_115 : decode cL_print 115 = .ok (.lstore_n 1, 1) := by decide +kernel
theorem dL_print_116 : decode cL_print 116 = .ok (.iinc 4 1, 3) := by decide +kernel
theorem dL_print_119 : decode cL_print 119 = .ok (.goto (-40), 3) := by decide +kernel
theorem dL_print_122 : decode cL_print 122 = .ok (.iinc 3 1, 3) := by decide +kernel
theorem dL_print_125 : decode cL_print 125 = .ok (.goto (-92), 3) := by decide +kernel
theorem dL_print_128 : decode cL_print 128 = .ok (.iconst 0, 1) := by decide +kernel
theorem dL_print_129 : decode cL_print 129 = .ok (.istore_n 3, 1) := by decide +kernel
theorem dL_print_130 : decode cL_print 130 = .ok (.iload_n 3, 1) := by decide +kernel
theorem dL_print_131 : decode cL_print 131 = .ok (.bipush 72, 2) := by decide +kernel
theorem dL_print_133 : decode cL_print 133 = .ok (.if_icmp .ge 29, 3) := by decide +kernel
theorem dL_print_136 : decode cL_print 136 = .ok (.ldc2_w 11, 3) := by decide +kernel
theorem dL_print_139 : decode cL_print 139 = .ok (.lload_n 1, 1) := by decide +kernel
theorem dL_print_140 : decode cL_print 140 = .ok (.lmul, 1) := by decide +kernel
theorem dL_print_141 : decode cL_print 141 = .ok (.aload_n 0, 1) := by decide +kernel
theorem dL_print_142 : decode cL_print 142 = .ok (.iload_n 3, 1) := by decide +kernel
theorem dL_print_143 : decode cL_print 143 = .ok (.bipush 6, 2) := by decide +kernel
theorem dL_print_145 : decode cL_print 145 = .ok (.idiv, 1) := by decide +kernel
theorem dL_print_146 : decode cL_print 146 = .ok (.iload_n 3, 1) := by decide +kernel
theorem dL_print_147 : decode cL_print 147 = .ok (.bipush 6, 2) := by decide +kernel
theorem dL_print_149 : decode cL_print 149 = .ok (.irem, 1) := by decide +kernel
theorem dL_print_150 : decode cL_print 150 = .ok (.invokevirtual 30, 3) := by decide +kernel
theorem dL_print_153 : decode cL_print 153 = .ok (.i2l, 1) := by decide +kernel
theorem dL_print_154 : decode cL_print 154 = .ok (.ladd, 1) := by decide +kernel
theorem dL_print_155 : decode cL_print 155 = .ok (.lstore_n 1, 1) := by decide +kernel
theorem dL_print_156 : decode cL_print 156 = .ok (.iinc 3 1, 3) := by decide +kernel
theorem dL_print_159 : decode cL_print 159 = .ok (.goto (-29), 3) := by decide +kernel
theorem dL_print_162 : decode cL_print 162 = .ok (.lload_n 1, 1) := by decide +kernel
theorem dL_print_163 : decode cL_print 163 = .ok (.lreturn, 1) := by decide +kernel
theorem dL_refused_0 : decode cL_refused 0 = .ok (.aload_n 0, 1) := by decide +kernel
theorem dL_refused_1 : decode cL_refused 1 = .ok (.invokestatic 33, 3) := by decide +kernel
theorem dL_refused_4 : decode cL_refused 4 = .ok (.lstore_n 1, 1) := by decide +kernel
theorem dL_refused_5 : decode cL_refused 5 = .ok (.aload_n 0, 1) := by decide +kernel
theorem dL_refused_6 : decode cL_refused 6 = .ok (.bipush 21, 2) := by decide +kernel
theorem dL_refused_8 : decode cL_refused 8 = .ok (.invokevirtual 13, 3) := by decide +kernel
theorem dL_refused_11 : decode cL_refused 11 = .ok (.istore_n 3, 1) := by decide +kernel
theorem dL_refused_12 : decode cL_refused 12 = .ok (.aload_n 0, 1) := by decide +kernel
theorem dL_refused_13 : decode cL_refused 13 = .ok (.iconst 0, 1) := by decide +kernel
theorem dL_refused_14 : decode cL_refused 14 = .ok (.invokevirtual 13, 3) := by decide +kernel
theorem dL_refused_17 : decode cL_refused 17 = .ok (.istore 4, 2) := by decide +kernel
theorem dL_refused_19 : decode cL_refused 19 = .ok (.aload_n 0, 1) := by decide +kernel
theorem dL_refused_20 : decode cL_refused 20 = .ok (.sipush 599, 3) := by decide +kernel
theorem dL_refused_23 : decode cL_refused 23 = .ok (.sipush 650, 3) := by decide +kernel
theorem dL_refused_26 : decode cL_refused 26 = .ok (.bipush 100, 2) := by decide +kernel
theorem dL_refused_28 : decode cL_refused 28 = .ok (.invokevirtual 39, 3) := by decide +kernel
theorem dL_refused_31 : decode cL_refused 31 = .ok (.iconst (-1), 1) := by decide +kernel
theorem dL_refused_32 : decode cL_refused 32 = .ok (.if_icmp .ne 184, 3) := by decide +kernel
theorem dL_refused_35 : decode cL_refused 35 = .ok (.aload_n 0, 1) := by decide +kernel
theorem dL_refused_36 : decode cL_refused 36 = .ok (.sipush 700, 3) := by decide +kernel
theorem dL_refused_39 : decode cL_refused 39 = .ok (.sipush 700, 3) := by decide +kernel
theorem dL_refused_42 : decode cL_refused 42 = .ok (.bipush 100, 2) := by decide +kernel
theorem dL_refused_44 : decode cL_refused 44 = .ok (.invokevirtual 39, 3) := by decide +kernel
theorem dL_refused_47 : decode cL_refused 47 = .ok (.iconst (-1), 1) := by decide +kernel
theorem dL_refused_48 : decode cL_refused 48 = .ok (.if_icmp .ne 168, 3) := by decide +kernel
theorem dL_refused_51 : decode cL_refused 51 = .ok (.aload_n 0, 1) := by decide +kernel
theorem dL_refused_52 : decode cL_refused 52 = .ok (.sipush 700, 3) := by decide +kernel
theorem dL_refused_55 : decode cL_refused 55 = .ok (.sipush 750, 3) := by decide +kernel
theorem dL_refused_58 : decode cL_refused 58 = .ok (.sipush 200, 3) := by decide +kernel
theorem dL_refused_61 : decode cL_refused 61 = .ok (.invokevirtual 39, 3) := by decide +kernel
theorem dL_refused_64 : decode cL_refused 64 = .ok (.iconst (-1), 1) := by decide +kernel
theorem dL_refused_65 : decode cL_refused 65 = .ok (.if_icmp .ne 151, 3) := by decide +kernel
theorem dL_refused_68 : decode cL_refused 68 = .ok (.aload_n 0, 1) := by decide +kernel
theorem dL_refused_69 : decode cL_refused 69 = .ok (.iload 4, 2) := by decide +kernel
theorem dL_refused_71 : decode cL_refused 71 = .ok (.iconst 0, 1) := by decide +kernel
theorem dL_refused_72 : decode cL_refused 72 = .ok (.invokevirtual 30, 3) := by decide +kernel
theorem dL_refused_75 : decode cL_refused 75 = .ok (.iconst (-1), 1) := by decide +kernel
theorem dL_refused_76 : decode cL_refused 76 = .ok (.if_icmp .ne 140, 3) := by decide +kernel
theorem dL_refused_79 : decode cL_refused 79 = .ok (.aload_n 0, 1) := by decide +kernel
theorem dL_refused_80 : decode cL_refused 80 = .ok (.iconst (-1), 1) := by decide +kernel
theorem dL_refused_81 : decode cL_refused 81 = .ok (.iconst 0, 1) := by decide +kernel
theorem dL_refused_82 : decode cL_refused 82 = .ok (.invokevirtual 42, 3) := by decide +kernel
theorem dL_refused_85 : decode cL_refused 85 = .ok (.iconst (-1), 1) := by decide +kernel
theorem dL_refused_86 : decode cL_refused 86 = .ok (.if_icmp .ne 130, 3) := by decide +kernel
theorem dL_refused_89 : decode cL_refused 89 = .ok (.aload_n 0, 1) := by decide +kernel
theorem dL_refused_90 : decode cL_refused 90 = .ok (.iconst 0, 1) := by decide +kernel
theorem dL_refused_91 : decode cL_refused 91 = .ok (.iload 4, 2) := by decide +kernel
theorem dL_refused_93 : decode cL_refused 93 = .ok (.invokevirtual 42, 3) := by decide +kernel
theorem dL_refused_96 : decode cL_refused 96 = .ok (.iconst (-1), 1) := by decide +kernel
theorem dL_refused_97 : decode cL_refused 97 = .ok (.if_icmp .ne 119, 3) := by decide +kernel
theorem dL_refused_100 : decode cL_refused 100 = .ok (.aload_n 0, 1) := by decide +kernel
theorem dL_refused_101 : decode cL_refused 101 = .ok (.bipush 7, 2) := by decide +kernel
theorem dL_refused_103 : decode cL_refused 103 = .ok (.invokevirtual 45, 3) := by decide +kernel
theorem dL_refused_106 : decode cL_refused 106 = .ok (.iconst (-1), 1) := by decide +kernel
theorem dL_refused_107 : decode cL_refused 107 = .ok (.if_icmp .ne 109, 3) := by decide +kernel
theorem dL_refused_110 : decode cL_refused 110 = .ok (.aload_n 0, 1) := by decide +kernel
theorem dL_refused_111 : decode cL_refused 111 = .ok (.iconst 0, 1) := by decide +kernel
theorem dL_refused_112 : decode cL_refused 112 = .ok (.iconst 0, 1) := by decide +kernel
theorem dL_refused_113 : decode cL_refused 113 = .ok (.iconst (-1), 1) := by decide +kernel
theorem dL_refused_114 : decode cL_refused 114 = .ok (.invokevirtual 19, 3) := by decide +kernel
theorem dL_refused_117 : decode cL_refused 117 = .ok (.iconst (-1), 1) := by decide +kernel
theorem dL_refused_118 : decode cL_refused 118 = .ok (.if_icmp .ne 98, 3) := by decide +kernel
theorem dL_refused_121 : decode cL_refused 121 = .ok (.aload_n 0, 1) := by decide +kernel
theorem dL_refused_122 : decode cL_refused 122 = .ok (.bipush 7, 2) := by decide +kernel
theorem dL_refused_124 : decode cL_refused 124 = .ok (.iconst 0, 1) := by decide +kernel
theorem dL_refused_125 : decode cL_refused 125 = .ok (.iconst 0, 1) := by decide +kernel
theorem dL_refused_126 : decode cL_refused 126 = .ok (.invokevirtual 19, 3) := by decide +kernel
theorem dL_refused_129 : decode cL_refused 129 = .ok (.iconst (-1), 1) := by decide +kernel
theorem dL_refused_130 : decode cL_refused 130 = .ok (.if_icmp .ne 86, 3) := by decide +kernel
theorem dL_refused_133 : decode cL_refused 133 = .ok (.aload_n 0, 1) := by decide +kernel
theorem dL_refused_134 : decode cL_refused 134 = .ok (.bipush 6, 2) := by decide +kernel
theorem dL_refused_136 : decode cL_refused 136 = .ok (.iconst 3, 1) := by decide +kernel
theorem dL_refused_137 : decode cL_refused 137 = .ok (.iconst 0, 1) := by decide +kernel
theorem dL_refused_138 : decode cL_refused 138 = .ok (.invokevirtual 19, 3) := by decide +kernel
theorem dL_refused_141 : decode cL_refused 141 = .ok (.bipush (-4), 2) := by decide +kernel
theorem dL_refused_143 : decode cL_refused 143 = .ok (.if_icmp .ne 73, 3) := by decide +kernel
theorem dL_refused_146 : decode cL_refused 146 = .ok (.aload_n 0, 1) := by decide +kernel
theorem dL_refused_147 : decode cL_refused 147 = .ok (.bipush 7, 2) := by decide +kernel
theorem dL_refused_149 : decode cL_refused 149 = .ok (.iconst 0, 1) := by decide +kernel
theorem dL_refused_150 : decode cL_refused 150 = .ok (.invokevirtual 23, 3) := by decide +kernel
theorem dL_refused_153 : decode cL_refused 153 = .ok (.iconst (-1), 1) := by decide +kernel
theorem dL_refused_154 : decode cL_refused 154 = .ok (.if_icmp .ne 62, 3) := by decide +kernel
theorem dL_refused_157 : decode cL_refused 157 = .ok (.aload_n 0, 1) := by decide +kernel
theorem dL_refused_158 : decode cL_refused 158 = .ok (.bipush 6, 2) := by decide +kernel
theorem dL_refused_160 : decode cL_refused 160 = .ok (.iconst 2, 1) := by decide +kernel
theorem dL_refused_161 : decode cL_refused 161 = .ok (.invokevirtual 23, 3) := by decide +kernel
theorem dL_refused_164 : decode cL_refused 164 = .ok (.bipush (-4), 2) := by decide +kernel
theorem dL_refused_166 : decode cL_refused 166 = .ok (.if_icmp .ne 50, 3) := by decide +kernel
theorem dL_refused_169 : decode cL_refused 169 = .ok (.aload_n 0, 1) := by decide +kernel
theorem dL_refused_170 : decode cL_refused 170 = .ok (.iconst (-1), 1) := by decide +kernel
theorem dL_refused_171 : decode cL_refused 171 = .ok (.iconst 2, 1) := by decide +kernel
theorem dL_refused_172 : decode cL_refused 172 = .ok (.invokevirtual 48, 3) := by decide +kernel
theorem dL_refused_175 : decode cL_refused 175 = .ok (.iconst (-1), 1) := by decide +kernel
theorem dL_refused_176 : decode cL_refused 176 = .ok (.if_icmp .ne 40, 3) := by decide +kernel
theorem dL_refused_179 : decode cL_refused 179 = .ok (.aload_n 0, 1) := by decide +kernel
theorem dL_refused_180 : decode cL_refused 180 = .ok (.iconst 2, 1) := by decide +kernel
theorem dL_refused_181 : decode cL_refused 181 = .ok (.sipush 401, 3) := by decide +kernel
theorem dL_refused_184 : decode cL_refused 184 = .ok (.invokevirtual 48, 3) := by decide +kernel
theorem dL_refused_187 : decode cL_refused 187 = .ok (.iconst (-1), 1) := by decide +kernel
theorem dL_refused_188 : decode cL_refused 188 = .ok (.if_icmp .ne 28, 3) := by decide +kernel
theorem dL_refused_191 : decode cL_refused 191 = .ok (.aload_n 0, 1) := by decide +kernel
theorem dL_refused_192 : decode cL_refused 192 = .ok (.iconst (-1), 1) := by decide +kernel
theorem dL_refused_193 : decode cL_refused 193 = .ok (.invokevirtual 13, 3) := by decide +kernel
theorem dL_refused_196 : decode cL_refused 196 = .ok (.iconst (-1), 1) := by decide +kernel
theorem dL_refused_197 : decode cL_refused 197 = .ok (.if_icmp .ne 19, 3) := by decide +kernel
theorem dL_refused_200 : decode cL_refused 200 = .ok (.aload_n 0, 1) := by decide +kernel
theorem dL_refused_201 : decode cL_refused 201 = .ok (.sipush 499, 3) := by decide +kernel
theorem dL_refused_204 : decode cL_refused 204 = .ok (.iconst 3, 1) := by decide +kernel
theorem dL_refused_205 : decode cL_refused 205 = .ok (.invokevirtual 51, 3) := by decide +kernel
theorem dL_refused_208 : decode cL_refused 208 = .ok (.iconst (-1), 1) := by decide +kernel
theorem dL_refused_209 : decode cL_refused 209 = .ok (.if_icmp .ne 7, 3) := by decide +kernel
theorem dL_refused_212 : decode cL_refused 212 = .ok (.iconst 1, 1) := by decide +kernel
theorem dL_refused_213 : decode cL_refused 213 = .ok (.goto 4, 3) := by decide +kernel
theorem dL_refused_216 : decode cL_refused 216 = .ok (.iconst 0, 1) := by decide +kernel
theorem dL_refused_217 : decode cL_refused 217 = .ok (.istore 5, 2) := by decide +kernel
theorem dL_refused_219 : decode cL_refused 219 = .ok (.iload 5, 2) := by decide +kernel
theorem dL_refused_221 : decode cL_refused 221 = .ok (.ifCond .eq 149, 3) := by decide +kernel
theorem dL_refused_224 : decode cL_refused 224 = .ok (.aload_n 0, 1) := by decide +kernel
theorem dL_refused_225 : decode cL_refused 225 = .ok (.sipush 700, 3) := by decide +kernel
theorem dL_refused_228 : decode cL_refused 228 = .ok (.iconst 0, 1) := by decide +kernel
theorem dL_refused_229 : decode cL_refused 229 = .ok (.invokevirtual 51, 3) := by decide +kernel
theorem dL_refused_232 : decode cL_refused 232 = .ok (.iconst (-1), 1) := by decide +kernel
theorem dL_refused_233 : decode cL_refused 233 = .ok (.if_icmp .ne 137, 3) := by decide +kernel
theorem dL_refused_236 : decode cL_refused 236 = .ok (.aload_n 0, 1) := by decide +kernel
theorem dL_refused_237 : decode cL_refused 237 = .ok (.sipush 1201, 3) := by decide +kernel
theorem dL_refused_240 : decode cL_refused 240 = .ok (.iconst 0, 1) := by decide +kernel
theorem dL_refused_241 : decode cL_refused 241 = .ok (.invokevirtual 54, 3) := by decide +kernel
theorem dL_refused_244 : decode cL_refused 244 = .ok (.iconst (-1), 1) := by decide +kernel
theorem dL_refused_245 : decode cL_refused 245 = .ok (.if_icmp .ne 125, 3) := by decide +kernel
theorem dL_refused_248 : decode cL_refused 248 = .ok (.aload_n 0, 1) := by decide +kernel
theorem dL_refused_249 : decode cL_refused 249 = .ok (.sipush 700, 3) := by decide +kernel
theorem dL_refused_252 : decode cL_refused 252 = .ok (.iconst 5, 1) := by decide +kernel
theorem dL_refused_253 : decode cL_refused 253 = .ok (.invokevirtual 54, 3) := by decide +kernel
theorem dL_refused_256 : decode cL_refused 256 = .ok (.iconst (-1), 1) := by decide +kernel
theorem dL_refused_257 : decode cL_refused 257 = .ok (.if_icmp .ne 113, 3) := by decide +kernel
theorem dL_refused_260 : decode cL_refused 260 = .ok (.aload_n 0, 1) := by decide +kernel
theorem dL_refused_261 : decode cL_refused 261 = .ok (.bipush 6, 2) := by decide +kernel
theorem dL_refused_263 : decode cL_refused 263 = .ok (.iconst 0, 1) := by decide +kernel
theorem dL_refused_264 : decode cL_refused 264 = .ok (.invokevirtual 57, 3) := by decide +kernel
theorem dL_refused_267 : decode cL_refused 267 = .ok (.iconst (-1), 1) := by decide +kernel
theorem dL_refused_268 : decode cL_refused 268 = .ok (.if_icmp .ne 102, 3) := by decide +kernel
theorem dL_refused_271 : decode cL_refused 271 = .ok (.aload_n 0, 1) := by decide +kernel
theorem dL_refused_272 : decode cL_refused 272 = .ok (.iconst 0, 1) := by decide +kernel
theorem dL_refused_273 : decode cL_refused 273 = .ok (.iload 4, 2) := by decide +kernel
theorem dL_refused_275 : decode cL_refused 275 = .ok (.invokevirtual 57, 3) := by decide +kernel
theorem dL_refused_278 : decode cL_refused 278 = .ok (.iconst (-1), 1) := by decide +kernel
theorem dL_refused_279 : decode cL_refused 279 = .ok (.if_icmp .ne 91, 3) := by decide +kernel
theorem dL_refused_282 : decode cL_refused 282 = .ok (.aload_n 0, 1) := by decide +kernel
theorem dL_refused_283 : decode cL_refused 283 = .ok (.iconst (-1), 1) := by decide +kernel
theorem dL_refused_284 : decode cL_refused 284 = .ok (.iconst 0, 1) := by decide +kernel
theorem dL_refused_285 : decode cL_refused 285 = .ok (.invokevirtual 27, 3) := by decide +kernel
theorem dL_refused_288 : decode cL_refused 288 = .ok (.iconst (-1), 1) := by decide +kernel
theorem dL_refused_289 : decode cL_refused 289 = .ok (.if_icmp .ne 81, 3) := by decide +kernel
theorem dL_refused_292 : decode cL_refused 292 = .ok (.aload_n 0, 1) := by decide +kernel
theorem dL_refused_293 : decode cL_refused 293 = .ok (.iconst 5, 1) := by decide +kernel
theorem dL_refused_294 : decode cL_refused 294 = .ok (.iconst 3, 1) := by decide +kernel
theorem dL_refused_295 : decode cL_refused 295 = .ok (.invokevirtual 27, 3) := by decide +kernel
theorem dL_refused_298 : decode cL_refused 298 = .ok (.bipush (-4), 2) := by decide +kernel
theorem dL_refused_300 : decode cL_refused 300 = .ok (.if_icmp .ne 70, 3) := by decide +kernel
theorem dL_refused_303 : decode cL_refused 303 = .ok (.aload_n 0, 1) := by decide +kernel
theorem dL_refused_304 : decode cL_refused 304 = .ok (.iconst (-1), 1) := by decide +kernel
theorem dL_refused_305 : decode cL_refused 305 = .ok (.iconst 0, 1) := by decide +kernel
theorem dL_refused_306 : decode cL_refused 306 = .ok (.invokevirtual 60, 3) := by decide +kernel
theorem dL_refused_309 : decode cL_refused 309 = .ok (.iconst (-1), 1) := by decide +kernel
theorem dL_refused_310 : decode cL_refused 310 = .ok (.if_icmp .ne 60, 3) := by decide +kernel
theorem dL_refused_313 : decode cL_refused 313 = .ok (.aload_n 0, 1) := by decide +kernel
theorem dL_refused_314 : decode cL_refused 314 = .ok (.iconst 0, 1) := by decide +kernel
theorem dL_refused_315 : decode cL_refused 315 = .ok (.iconst (-1), 1) := by decide +kernel
theorem dL_refused_316 : decode cL_refused 316 = .ok (.invokevirtual 60, 3) := by decide +kernel
theorem dL_refused_319 : decode cL_refused 319 = .ok (.iconst (-1), 1) := by decide +kernel
theorem dL_refused_320 : decode cL_refused 320 = .ok (.if_icmp .ne 50, 3) := by decide +kernel
theorem dL_refused_323 : decode cL_refused 323 = .ok (.aload_n 0, 1) := by decide +kernel
theorem dL_refused_324 : decode cL_refused 324 = .ok (.bipush 127, 2) := by decide +kernel
theorem dL_refused_326 : decode cL_refused 326 = .ok (.invokevirtual 63, 3) := by decide +kernel
theorem dL_refused_329 : decode cL_refused 329 = .ok (.iconst (-1), 1) := by decide +kernel
theorem dL_refused_330 : decode cL_refused 330 = .ok (.if_icmp .ne 40, 3) := by decide +kernel
theorem dL_refused_333 : decode cL_refused 333 = .ok (.aload_n 0, 1) := by decide +kernel
theorem dL_refused_334 : decode cL_refused 334 = .ok (.iconst 2, 1) := by decide +kernel
theorem dL_refused_335 : decode cL_refused 335 = .ok (.invokevirtual 66, 3) := by decide +kernel
theorem dL_refused_338 : decode cL_refused 338 = .ok (.iconst (-1), 1) := by decide +kernel
theorem dL_refused_339 : decode cL_refused 339 = .ok (.if_icmp .ne 31, 3) := by decide +kernel
theorem dL_refused_342 : decode cL_refused 342 = .ok (.iload 4, 2) := by decide +kernel
theorem dL_refused_344 : decode cL_refused 344 = .ok (.bipush 12, 2) := by decide +kernel
theorem dL_refused_346 : decode cL_refused 346 = .ok (.if_icmp .lt 20, 3) := by decide +kernel
theorem dL_refused_349 : decode cL_refused 349 = .ok (.aload_n 0, 1) := by decide +kernel
theorem dL_refused_350 : decode cL_refused 350 = .ok (.sipush 700, 3) := by decide +kernel
theorem dL_refused_353 : decode cL_refused 353 = .ok (.sipush 800, 3) := by decide +kernel
theorem dL_refused_356 : decode cL_refused 356 = .ok (.bipush 100, 2) := by decide +kernel
theorem dL_refused_358 : decode cL_refused 358 = .ok (.invokevirtual 39, 3) := by decide +kernel
theorem dL_refused_361 : decode cL_refused 361 = .ok (.bipush (-3), 2) := by decide +kernel
theorem dL_refused_363 : decode cL_refused 363 = .ok (.if_icmp .ne 7, 3) := by decide +kernel
theorem dL_refused_366 : decode cL_refused 366 = .ok (.iconst 1, 1) := by decide +kernel
end
section
theorem dL_refused_367 : decode cL_refused 367 = .ok (.goto 4, 3) := by decide +kernel
theorem dL_refused_370 : decode cL_refused 370 = .ok (.iconst 0, 1) := by decide +kernel
theorem dL_refused_371 : decode cL_refused 371 = .ok (.istore 5, 2) := by decide +kernel
theorem dL_refused_373 : decode cL_refused 373 = .ok (.iload 5, 2) := by decide +kernel
theorem dL_refused_375 : decode cL_refused 375 = .ok (.ifCond .eq 26, 3) := by decide +kernel
theorem dL_refused_378 : decode cL_refused 378 = .ok (.aload_n 0, 1) := by decide +kernel
theorem dL_refused_379 : decode cL_refused 379 = .ok (.invokestatic 33, 3) := by decide +kernel
theorem dL_refused_382 : decode cL_refused 382 = .ok (.lload_n 1, 1) := by decide +kernel
theorem dL_refused_383 : decode cL_refused 383 = .ok (.lcmp, 1) := by decide +kernel
theorem dL_refused_384 : decode cL_refused 384 = .ok (.ifCond .ne 17, 3) := by decide +kernel
theorem dL_refused_387 : decode cL_refused 387 = .ok (.aload_n 0, 1) := by decide +kernel
theorem dL_refused_388 : decode cL_refused 388 = .ok (.bipush 21, 2) := by decide +kernel
theorem dL_refused_390 : decode cL_refused 390 = .ok (.invokevirtual 13, 3) := by decide +kernel
theorem dL_refused_393 : decode cL_refused 393 = .ok (.iload_n 3, 1) := by decide +kernel
theorem dL_refused_394 : decode cL_refused 394 = .ok (.if_icmp .ne 7, 3) := by decide +kernel
theorem dL_refused_397 : decode cL_refused 397 = .ok (.iconst 1, 1) := by decide +kernel
theorem dL_refused_398 : decode cL_refused 398 = .ok (.goto 4, 3) := by decide +kernel
theorem dL_refused_401 : decode cL_refused 401 = .ok (.iconst 0, 1) := by decide +kernel
theorem dL_refused_402 : decode cL_refused 402 = .ok (.ireturn, 1) := by decide +kernel
theorem dL_size_0 : decode cL_size 0 = .ok (.iload_n 0, 1) := by decide +kernel
theorem dL_size_1 : decode cL_size 1 = .ok (.ifCond .ge 8, 3) := by decide +kernel
theorem dL_size_4 : decode cL_size 4 = .ok (.iload_n 0, 1) := by decide +kernel
theorem dL_size_5 : decode cL_size 5 = .ok (.ineg, 1) := by decide +kernel
theorem dL_size_6 : decode cL_size 6 = .ok (.goto 4, 3) := by decide +kernel
theorem dL_size_9 : decode cL_size 9 = .ok (.iload_n 0, 1) := by decide +kernel
theorem dL_size_10 : decode cL_size 10 = .ok (.ireturn, 1) := by decide +kernel
theorem dL_areLayers_0 : decode cL_areLayers 0 = .ok (.iconst 0, 1) := by decide +kernel
theorem dL_areLayers_1 : decode cL_areLayers 1 = .ok (.istore_n 1, 1) := by decide +kernel
theorem dL_areLayers_2 : decode cL_areLayers 2 = .ok (.iconst 0, 1) := by decide +kernel
theorem dL_areLayers_3 : decode cL_areLayers 3 = .ok (.istore_n 2, 1) := by decide +kernel
theorem dL_areLayers_4 : decode cL_areLayers 4 = .ok (.iconst 0, 1) := by decide +kernel
theorem dL_areLayers_5 : decode cL_areLayers 5 = .ok (.istore_n 3, 1) := by decide +kernel
theorem dL_areLayers_6 : decode cL_areLayers 6 = .ok (.aload_n 0, 1) := by decide +kernel
theorem dL_areLayers_7 : decode cL_areLayers 7 = .ok (.iconst 1, 1) := by decide +kernel
theorem dL_areLayers_8 : decode cL_areLayers 8 = .ok (.invokevirtual 13, 3) := by decide +kernel
theorem dL_areLayers_11 : decode cL_areLayers 11 = .ok (.aload_n 0, 1) := by decide +kernel
theorem dL_areLayers_12 : decode cL_areLayers 12 = .ok (.bipush 13, 2) := by decide +kernel
theorem dL_areLayers_14 : decode cL_areLayers 14 = .ok (.invokevirtual 13, 3) := by decide +kernel
theorem dL_areLayers_17 : decode cL_areLayers 17 = .ok (.aload_n 0, 1) := by decide +kernel
theorem dL_areLayers_18 : decode cL_areLayers 18 = .ok (.bipush 14, 2) := by decide +kernel
theorem dL_areLayers_20 : decode cL_areLayers 20 = .ok (.invokevirtual 13, 3) := by decide +kernel
theorem dL_areLayers_23 : decode cL_areLayers 23 = .ok (.isub, 1) := by decide +kernel
theorem dL_areLayers_24 : decode cL_areLayers 24 = .ok (.if_icmp .ne 67, 3) := by decide +kernel
theorem dL_areLayers_27 : decode cL_areLayers 27 = .ok (.aload_n 0, 1) := by decide +kernel
theorem dL_areLayers_28 : decode cL_areLayers 28 = .ok (.iconst 1, 1) := by decide +kernel
theorem dL_areLayers_29 : decode cL_areLayers 29 = .ok (.invokevirtual 13, 3) := by decide +kernel
theorem dL_areLayers_32 : decode cL_areLayers 32 = .ok (.aload_n 0, 1) := by decide +kernel
theorem dL_areLayers_33 : decode cL_areLayers 33 = .ok (.iconst 2, 1) := by decide +kernel
theorem dL_areLayers_34 : decode cL_areLayers 34 = .ok (.invokevirtual 13, 3) := by decide +kernel
theorem dL_areLayers_37 : decode cL_areLayers 37 = .ok (.aload_n 0, 1) := by decide +kernel
theorem dL_areLayers_38 : decode cL_areLayers 38 = .ok (.iconst 3, 1) := by decide +kernel
theorem dL_areLayers_39 : decode cL_areLayers 39 = .ok (.invokevirtual 13, 3) := by decide +kernel
theorem dL_areLayers_42 : decode cL_areLayers 42 = .ok (.iadd, 1) := by decide +kernel
theorem dL_areLayers_43 : decode cL_areLayers 43 = .ok (.aload_n 0, 1) := by decide +kernel
theorem dL_areLayers_44 : decode cL_areLayers 44 = .ok (.iconst 4, 1) := by decide +kernel
theorem dL_areLayers_45 : decode cL_areLayers 45 = .ok (.invokevirtual 13, 3) := by decide +kernel
theorem dL_areLayers_48 : decode cL_areLayers 48 = .ok (.iadd, 1) := by decide +kernel
theorem dL_areLayers_49 : decode cL_areLayers 49 = .ok (.aload_n 0, 1) := by decide +kernel
theorem dL_areLayers_50 : decode cL_areLayers 50 = .ok (.iconst 5, 1) := by decide +kernel
theorem dL_areLayers_51 : decode cL_areLayers 51 = .ok (.invokevirtual 13, 3) := by decide +kernel
theorem dL_areLayers_54 : decode cL_areLayers 54 = .ok (.iadd, 1) := by decide +kernel
theorem dL_areLayers_55 : decode cL_areLayers 55 = .ok (.aload_n 0, 1) := by decide +kernel
theorem dL_areLayers_56 : decode cL_areLayers 56 = .ok (.bipush 6, 2) := by decide +kernel
theorem dL_areLayers_58 : decode cL_areLayers 58 = .ok (.invokevirtual 13, 3) := by decide +kernel
theorem dL_areLayers_61 : decode cL_areLayers 61 = .ok (.iadd, 1) := by decide +kernel
theorem dL_areLayers_62 : decode cL_areLayers 62 = .ok (.if_icmp .ne 29, 3) := by decide +kernel
theorem dL_areLayers_65 : decode cL_areLayers 65 = .ok (.aload_n 0, 1) := by decide +kernel
theorem dL_areLayers_66 : decode cL_areLayers 66 = .ok (.bipush 18, 2) := by decide +kernel
theorem dL_areLayers_68 : decode cL_areLayers 68 = .ok (.invokevirtual 13, 3) := by decide +kernel
theorem dL_areLayers_71 : decode cL_areLayers 71 = .ok (.aload_n 0, 1) := by decide +kernel
theorem dL_areLayers_72 : decode cL_areLayers 72 = .ok (.bipush 19, 2) := by decide +kernel
theorem dL_areLayers_74 : decode cL_areLayers 74 = .ok (.invokevirtual 13, 3) := by decide +kernel
theorem dL_areLayers_77 : decode cL_areLayers 77 = .ok (.isub, 1) := by decide +kernel
theorem dL_areLayers_78 : decode cL_areLayers 78 = .ok (.aload_n 0, 1) := by decide +kernel
theorem dL_areLayers_79 : decode cL_areLayers 79 = .ok (.bipush 7, 2) := by decide +kernel
theorem dL_areLayers_81 : decode cL_areLayers 81 = .ok (.invokevirtual 13, 3) := by decide +kernel
theorem dL_areLayers_84 : decode cL_areLayers 84 = .ok (.if_icmp .lt 7, 3) := by decide +kernel
theorem dL_areLayers_87 : decode cL_areLayers 87 = .ok (.iconst 1, 1) := by decide +kernel
theorem dL_areLayers_88 : decode cL_areLayers 88 = .ok (.goto 4, 3) := by decide +kernel
theorem dL_areLayers_91 : decode cL_areLayers 91 = .ok (.iconst 0, 1) := by decide +kernel
theorem dL_areLayers_92 : decode cL_areLayers 92 = .ok (.istore 4, 2) := by decide +kernel
theorem dL_areLayers_94 : decode cL_areLayers 94 = .ok (.iconst 0, 1) := by decide +kernel
theorem dL_areLayers_95 : decode cL_areLayers 95 = .ok (.istore 5, 2) := by decide +kernel
theorem dL_areLayers_97 : decode cL_areLayers 97 = .ok (.iload 5, 2) := by decide +kernel
theorem dL_areLayers_99 : decode cL_areLayers 99 = .ok (.bipush 7, 2) := by decide +kernel
theorem dL_areLayers_101 : decode cL_areLayers 101 = .ok (.if_icmp .ge 407, 3) := by decide +kernel
theorem dL_areLayers_104 : decode cL_areLayers 104 = .ok (.iload 4, 2) := by decide +kernel
theorem dL_areLayers_106 : decode cL_areLayers 106 = .ok (.ifCond .eq 402, 3) := by decide +kernel
theorem dL_areLayers_109 : decode cL_areLayers 109 = .ok (.aload_n 0, 1) := by decide +kernel
theorem dL_areLayers_110 : decode cL_areLayers 110 = .ok (.iload 5, 2) := by decide +kernel
theorem dL_areLayers_112 : decode cL_areLayers 112 = .ok (.iconst 0, 1) := by decide +kernel
theorem dL_areLayers_113 : decode cL_areLayers 113 = .ok (.invokevirtual 23, 3) := by decide +kernel
theorem dL_areLayers_116 : decode cL_areLayers 116 = .ok (.istore 6, 2) := by decide +kernel
theorem dL_areLayers_118 : decode cL_areLayers 118 = .ok (.iconst 0, 1) := by decide +kernel
theorem dL_areLayers_119 : decode cL_areLayers 119 = .ok (.istore 7, 2) := by decide +kernel
theorem dL_areLayers_121 : decode cL_areLayers 121 = .ok (.iload_n 1, 1) := by decide +kernel
theorem dL_areLayers_122 : decode cL_areLayers 122 = .ok (.iload 6, 2) := by decide +kernel
theorem dL_areLayers_124 : decode cL_areLayers 124 = .ok (.iadd, 1) := by decide +kernel
theorem dL_areLayers_125 : decode cL_areLayers 125 = .ok (.istore_n 1, 1) := by decide +kernel
theorem dL_areLayers_126 : decode cL_areLayers 126 = .ok (.iconst 0, 1) := by decide +kernel
theorem dL_areLayers_127 : decode cL_areLayers 127 = .ok (.istore 8, 2) := by decide +kernel
theorem dL_areLayers_129 : decode cL_areLayers 129 = .ok (.iload 8, 2) := by decide +kernel
theorem dL_areLayers_131 : decode cL_areLayers 131 = .ok (.iload 6, 2) := by decide +kernel
theorem dL_areLayers_133 : decode cL_areLayers 133 = .ok (.if_icmp .ge 195, 3) := by decide +kernel
theorem dL_areLayers_136 : decode cL_areLayers 136 = .ok (.iload 4, 2) := by decide +kernel
theorem dL_areLayers_138 : decode cL_areLayers 138 = .ok (.ifCond .eq 190, 3) := by decide +kernel
theorem dL_areLayers_141 : decode cL_areLayers 141 = .ok (.aload_n 0, 1) := by decide +kernel
theorem dL_areLayers_142 : decode cL_areLayers 142 = .ok (.iload 5, 2) := by decide +kernel
theorem dL_areLayers_144 : decode cL_areLayers 144 = .ok (.iload 8, 2) := by decide +kernel
theorem dL_areLayers_146 : decode cL_areLayers 146 = .ok (.iconst 1, 1) := by decide +kernel
theorem dL_areLayers_147 : decode cL_areLayers 147 = .ok (.invokevirtual 19, 3) := by decide +kernel
theorem dL_areLayers_150 : decode cL_areLayers 150 = .ok (.istore 9, 2) := by decide +kernel
theorem dL_areLayers_152 : decode cL_areLayers 152 = .ok (.iload 7, 2) := by decide +kernel
theorem dL_areLayers_154 : decode cL_areLayers 154 = .ok (.iload 9, 2) := by decide +kernel
theorem dL_areLayers_156 : decode cL_areLayers 156 = .ok (.iconst 2, 1) := by decide +kernel
theorem dL_areLayers_157 : decode cL_areLayers 157 = .ok (.if_icmp .eq 9, 3) := by decide +kernel
theorem dL_areLayers_160 : decode cL_areLayers 160 = .ok (.iload 9, 2) := by decide +kernel
theorem dL_areLayers_162 : decode cL_areLayers 162 = .ok (.iconst 3, 1) := by decide +kernel
theorem dL_areLayers_163 : decode cL_areLayers 163 = .ok (.if_icmp .ne 20, 3) := by decide +kernel
theorem dL_areLayers_166 : decode cL_areLayers 166 = .ok (.aload_n 0, 1) := by decide +kernel
theorem dL_areLayers_167 : decode cL_areLayers 167 = .ok (.aload_n 0, 1) := by decide +kernel
theorem dL_areLayers_168 : decode cL_areLayers 168 = .ok (.iload 5, 2) := by decide +kernel
theorem dL_areLayers_170 : decode cL_areLayers 170 = .ok (.iload 8, 2) := by decide +kernel
theorem dL_areLayers_172 : decode cL_areLayers 172 = .ok (.iconst 0, 1) := by decide +kernel
theorem dL_areLayers_173 : decode cL_areLayers 173 = .ok (.invokevirtual 19, 3) := by decide +kernel
theorem dL_areLayers_176 : decode cL_areLayers 176 = .ok (.iconst 3, 1) := by decide +kernel
theorem dL_areLayers_177 : decode cL_areLayers 177 = .ok (.invokevirtual 30, 3) := by decide +kernel
theorem dL_areLayers_180 : decode cL_areLayers 180 = .ok (.goto 4, 3) := by decide +kernel
theorem dL_areLayers_183 : decode cL_areLayers 183 = .ok (.iconst 0, 1) := by decide +kernel
theorem dL_areLayers_184 : decode cL_areLayers 184 = .ok (.iadd, 1) := by decide +kernel
theorem dL_areLayers_185 : decode cL_areLayers 185 = .ok (.istore 7, 2) := by decide +kernel
theorem dL_areLayers_187 : decode cL_areLayers 187 = .ok (.iload 9, 2) := by decide +kernel
theorem dL_areLayers_189 : decode cL_areLayers 189 = .ok (.ifCond .lt 130, 3) := by decide +kernel
theorem dL_areLayers_192 : decode cL_areLayers 192 = .ok (.iload 9, 2) := by decide +kernel
theorem dL_areLayers_194 : decode cL_areLayers 194 = .ok (.iconst 5, 1) := by decide +kernel
theorem dL_areLayers_195 : decode cL_areLayers 195 = .ok (.if_icmp .ge 124, 3) := by decide +kernel
theorem dL_areLayers_198 : decode cL_areLayers 198 = .ok (.iload 9, 2) := by decide +kernel
theorem dL_areLayers_200 : decode cL_areLayers 200 = .ok (.ifCond .gt 12, 3) := by decide +kernel
theorem dL_areLayers_203 : decode cL_areLayers 203 = .ok (.iload 8, 2) := by decide +kernel
theorem dL_areLayers_205 : decode cL_areLayers 205 = .ok (.iload 6, 2) := by decide +kernel
theorem dL_areLayers_207 : decode cL_areLayers 207 = .ok (.iconst 1, 1) := by decide +kernel
theorem dL_areLayers_208 : decode cL_areLayers 208 = .ok (.isub, 1) := by decide +kernel
theorem dL_areLayers_209 : decode cL_areLayers 209 = .ok (.if_icmp .ne 110, 3) := by decide +kernel
theorem dL_areLayers_212 : decode cL_areLayers 212 = .ok (.aload_n 0, 1) := by decide +kernel
theorem dL_areLayers_213 : decode cL_areLayers 213 = .ok (.iload 5, 2) := by decide +kernel
theorem dL_areLayers_215 : decode cL_areLayers 215 = .ok (.iload 8, 2) := by decide +kernel
theorem dL_areLayers_217 : decode cL_areLayers 217 = .ok (.iconst 2, 1) := by decide +kernel
theorem dL_areLayers_218 : decode cL_areLayers 218 = .ok (.invokevirtual 19, 3) := by decide +kernel
theorem dL_areLayers_221 : decode cL_areLayers 221 = .ok (.ifCond .lt 98, 3) := by decide +kernel
theorem dL_areLayers_224 : decode cL_areLayers 224 = .ok (.iload 9, 2) := by decide +kernel
theorem dL_areLayers_226 : decode cL_areLayers 226 = .ok (.iconst 2, 1) := by decide +kernel
theorem dL_areLayers_227 : decode cL_areLayers 227 = .ok (.if_icmp .ne 16, 3) := by decide +kernel
theorem dL_areLayers_230 : decode cL_areLayers 230 = .ok (.aload_n 0, 1) := by decide +kernel
theorem dL_areLayers_231 : decode cL_areLayers 231 = .ok (.iload 5, 2) := by decide +kernel
theorem dL_areLayers_233 : decode cL_areLayers 233 = .ok (.iload 8, 2) := by decide +kernel
theorem dL_areLayers_235 : decode cL_areLayers 235 = .ok (.iconst 2, 1) := by decide +kernel
theorem dL_areLayers_236 : decode cL_areLayers 236 = .ok (.invokevirtual 19, 3) := by decide +kernel
theorem dL_areLayers_239 : decode cL_areLayers 239 = .ok (.iconst 5, 1) := by decide +kernel
theorem dL_areLayers_240 : decode cL_areLayers 240 = .ok (.if_icmp .gt 79, 3) := by decide +kernel
theorem dL_areLayers_243 : decode cL_areLayers 243 = .ok (.iload 9, 2) := by decide +kernel
theorem dL_areLayers_245 : decode cL_areLayers 245 = .ok (.iconst 1, 1) := by decide +kernel
theorem dL_areLayers_246 : decode cL_areLayers 246 = .ok (.if_icmp .gt 15, 3) := by decide +kernel
theorem dL_areLayers_249 : decode cL_areLayers 249 = .ok (.aload_n 0, 1) := by decide +kernel
theorem dL_areLayers_250 : decode cL_areLayers 250 = .ok (.iload 5, 2) := by decide +kernel
theorem dL_areLayers_252 : decode cL_areLayers 252 = .ok (.iload 8, 2) := by decide +kernel
theorem dL_areLayers_254 : decode cL_areLayers 254 = .ok (.iconst 2, 1) := by decide +kernel
theorem dL_areLayers_255 : decode cL_areLayers 255 = .ok (.invokevirtual 19, 3) := by decide +kernel
theorem dL_areLayers_258 : decode cL_areLayers 258 = .ok (.ifCond .ne 61, 3) := by decide +kernel
theorem dL_areLayers_261 : decode cL_areLayers 261 = .ok (.aload_n 0, 1) := by decide +kernel
theorem dL_areLayers_262 : decode cL_areLayers 262 = .ok (.iload 5, 2) := by decide +kernel
theorem dL_areLayers_264 : decode cL_areLayers 264 = .ok (.iconst 4, 1) := by decide +kernel
theorem dL_areLayers_265 : decode cL_areLayers 265 = .ok (.invokevirtual 23, 3) := by decide +kernel
theorem dL_areLayers_268 : decode cL_areLayers 268 = .ok (.aload_n 0, 1) := by decide +kernel
theorem dL_areLayers_269 : decode cL_areLayers 269 = .ok (.aload_n 0, 1) := by decide +kernel
theorem dL_areLayers_270 : decode cL_areLayers 270 = .ok (.iload 5, 2) := by decide +kernel
theorem dL_areLayers_272 : decode cL_areLayers 272 = .ok (.iload 8, 2) := by decide +kernel
theorem dL_areLayers_274 : decode cL_areLayers 274 = .ok (.iconst 0, 1) := by decide +kernel
theorem dL_areLayers_275 : decode cL_areLayers 275 = .ok (.invokevirtual 19, 3) := by decide +kernel
theorem dL_areLayers_278 : decode cL_areLayers 278 = .ok (.iconst 0, 1) := by decide +kernel
theorem dL_areLayers_279 : decode cL_areLayers 279 = .ok (.invokevirtual 30, 3) := by decide +kernel
theorem dL_areLayers_282 : decode cL_areLayers 282 = .ok (.if_icmp .lt 37, 3) := by decide +kernel
theorem dL_areLayers_285 : decode cL_areLayers 285 = .ok (.iload 9, 2) := by decide +kernel
theorem dL_areLayers_287 : decode cL_areLayers 287 = .ok (.iconst 4, 1) := by decide +kernel
theorem dL_areLayers_288 : decode cL_areLayers 288 = .ok (.if_icmp .eq 27, 3) := by decide +kernel
theorem dL_areLayers_291 : decode cL_areLayers 291 = .ok (.aload_n 0, 1) := by decide +kernel
theorem dL_areLayers_292 : decode cL_areLayers 292 = .ok (.iload 5, 2) := by decide +kernel
theorem dL_areLayers_294 : decode cL_areLayers 294 = .ok (.iconst 5, 1) := by decide +kernel
theorem dL_areLayers_295 : decode cL_areLayers 295 = .ok (.invokevirtual 23, 3) := by decide +kernel
theorem dL_areLayers_298 : decode cL_areLayers 298 = .ok (.aload_n 0, 1) := by decide +kernel
theorem dL_areLayers_299 : decode cL_areLayers 299 = .ok (.aload_n 0, 1) := by decide +kernel
theorem dL_areLayers_300 : decode cL_areLayers 300 = .ok (.iload 5, 2) := by decide +kernel
theorem dL_areLayers_302 : decode cL_areLayers 302 = .ok (.iload 8, 2) := by decide +kernel
theorem dL_areLayers_304 : decode cL_areLayers 304 = .ok (.iconst 0, 1) := by decide +kernel
theorem dL_areLayers_305 : decode cL_areLayers 305 = .ok (.invokevirtual 19, 3) := by decide +kernel
theorem dL_areLayers_308 : decode cL_areLayers 308 = .ok (.iconst 1, 1) := by decide +kernel
theorem dL_areLayers_309 : decode cL_areLayers 309 = .ok (.invokevirtual 30, 3) := by decide +kernel
theorem dL_areLayers_312 : decode cL_areLayers 312 = .ok (.if_icmp .gt 7, 3) := by decide +kernel
theorem dL_areLayers_315 : decode cL_areLayers 315 = .ok (.iconst 1, 1) := by decide +kernel
theorem dL_areLayers_316 : decode cL_areLayers 316 = .ok (.goto 4, 3) := by decide +kernel
theorem dL_areLayers_319 : decode cL_areLayers 319 = .ok (.iconst 0, 1) := by decide +kernel
theorem dL_areLayers_320 : decode cL_areLayers 320 = .ok (.istore 4, 2) := by decide +kernel
theorem dL_areLayers_322 : decode cL_areLayers 322 = .ok (.iinc 8 1, 3) := by decide +kernel
theorem dL_areLayers_325 : decode cL_areLayers 325 = .ok (.goto (-196), 3) := by decide +kernel
theorem dL_areLayers_328 : decode cL_areLayers 328 = .ok (.iload 4, 2) := by decide +kernel
theorem dL_areLayers_330 : decode cL_areLayers 330 = .ok (.ifCond .eq 68, 3) := by decide +kernel
theorem dL_areLayers_333 : decode cL_areLayers 333 = .ok (.iload 6, 2) := by decide +kernel
theorem dL_areLayers_335 : decode cL_areLayers 335 = .ok (.iconst 3, 1) := by decide +kernel
theorem dL_areLayers_336 : decode cL_areLayers 336 = .ok (.if_icmp .gt 62, 3) := by decide +kernel
theorem dL_areLayers_339 : decode cL_areLayers 339 = .ok (.aload_n 0, 1) := by decide +kernel
theorem dL_areLayers_340 : decode cL_areLayers 340 = .ok (.iload 5, 2) := by decide +kernel
theorem dL_areLayers_342 : decode cL_areLayers 342 = .ok (.iload 6, 2) := by decide +kernel
theorem dL_areLayers_344 : decode cL_areLayers 344 = .ok (.iconst 0, 1) := by decide +kernel
theorem dL_areLayers_345 : decode cL_areLayers 345 = .ok (.invokevirtual 19, 3) := by decide +kernel
theorem dL_areLayers_348 : decode cL_areLayers 348 = .ok (.bipush (-4), 2) := by decide +kernel
theorem dL_areLayers_350 : decode cL_areLayers 350 = .ok (.if_icmp .ne 48, 3) := by decide +kernel
theorem dL_areLayers_353 : decode cL_areLayers 353 = .ok (.aload_n 0, 1) := by decide +kernel
theorem dL_areLayers_354 : decode cL_areLayers 354 = .ok (.iload 5, 2) := by decide +kernel
theorem dL_areLayers_356 : decode cL_areLayers 356 = .ok (.iconst 1, 1) := by decide +kernel
theorem dL_areLayers_357 : decode cL_areLayers 357 = .ok (.invokevirtual 23, 3) := by decide +kernel
theorem dL_areLayers_360 : decode cL_areLayers 360 = .ok (.iload 7, 2) := by decide +kernel
theorem dL_areLayers_362 : decode cL_areLayers 362 = .ok (.if_icmp .ne 36, 3) := by decide +kernel
theorem dL_areLayers_365 : decode cL_areLayers 365 = .ok (.iload 6, 2) := by decide +kernel
theorem dL_areLayers_367 : decode cL_areLayers 367 = .ok (.ifCond .gt 27, 3) := by decide +kernel
theorem dL_areLayers_370 : decode cL_areLayers 370 = .ok (.aload_n 0, 1) := by decide +kernel
theorem dL_areLayers_371 : decode cL_areLayers 371 = .ok (.iload 5, 2) := by decide +kernel
theorem dL_areLayers_373 : decode cL_areLayers 373 = .ok (.iconst 4, 1) := by decide +kernel
theorem dL_areLayers_374 : decode cL_areLayers 374 = .ok (.invokevirtual 23, 3) := by decide +kernel
theorem dL_areLayers_377 : decode cL_areLayers 377 = .ok (.bipush (-4), 2) := by decide +kernel
theorem dL_areLayers_379 : decode cL_areLayers 379 = .ok (.if_icmp .ne 19, 3) := by decide +kernel
theorem dL_areLayers_382 : decode cL_areLayers 382 = .ok (.aload_n 0, 1) := by decide +kernel
theorem dL_areLayers_383 : decode cL_areLayers 383 = .ok (.iload 5, 2) := by decide +kernel
theorem dL_areLayers_385 : decode cL_areLayers 385 = .ok (.iconst 5, 1) := by decide +kernel
theorem dL_areLayers_386 : decode cL_areLayers 386 = .ok (.invokevirtual 23, 3) := by decide +kernel
theorem dL_areLayers_389 : decode cL_areLayers 389 = .ok (.bipush (-4), 2) := by decide +kernel
theorem dL_areLayers_391 : decode cL_areLayers 391 = .ok (.if_icmp .ne 7, 3) := by decide +kernel
theorem dL_areLayers_394 : decode cL_areLayers 394 = .ok (.iconst 1, 1) := by decide +kernel
theorem dL_areLayers_395 : decode cL_areLayers 395 = .ok (.goto 4, 3) := by decide +kernel
theorem dL_areLayers_398 : decode cL_areLayers 398 = .ok (.iconst 0, 1) := by decide +kernel
theorem dL_areLayers_399 : decode cL_areLayers 399 = .ok (.istore 4, 2) := by decide +kernel
theorem dL_areLayers_401 : decode cL_areLayers 401 = .ok (.iload 4, 2) := by decide +kernel
theorem dL_areLayers_403 : decode cL_areLayers 403 = .ok (.ifCond .eq 99, 3) := by decide +kernel
theorem dL_areLayers_406 : decode cL_areLayers 406 = .ok (.iload 5, 2) := by decide +kernel
theorem dL_areLayers_408 : decode cL_areLayers 408 = .ok (.bipush 6, 2) := by decide +kernel
theorem dL_areLayers_410 : decode cL_areLayers 410 = .ok (.if_icmp .ge 92, 3) := by decide +kernel
theorem dL_areLayers_413 : decode cL_areLayers 413 = .ok (.iload_n 2, 1) := by decide +kernel
theorem dL_areLayers_414 : decode cL_areLayers 414 = .ok (.aload_n 0, 1) := by decide +kernel
theorem dL_areLayers_415 : decode cL_areLayers 415 = .ok (.iload 5, 2) := by decide +kernel
theorem dL_areLayers_417 : decode cL_areLayers 417 = .ok (.iconst 3, 1) := by decide +kernel
theorem dL_areLayers_418 : decode cL_areLayers 418 = .ok (.invokevirtual 23, 3) := by decide +kernel
theorem dL_areLayers_421 : decode cL_areLayers 421 = .ok (.iadd, 1) := by decide +kernel
theorem dL_areLayers_422 : decode cL_areLayers 422 = .ok (.istore_n 2, 1) := by decide +kernel
theorem dL_areLayers_423 : decode cL_areLayers 423 = .ok (.aload_n 0, 1) := by decide +kernel
theorem dL_areLayers_424 : decode cL_areLayers 424 = .ok (.iload 5, 2) := by decide +kernel
theorem dL_areLayers_426 : decode cL_areLayers 426 = .ok (.iconst 2, 1) := by decide +kernel
theorem dL_areLayers_427 : decode cL_areLayers 427 = .ok (.invokevirtual 23, 3) := by decide +kernel
theorem dL_areLayers_430 : decode cL_areLayers 430 = .ok (.iload 7, 2) := by decide +kernel
theorem dL_areLayers_432 : decode cL_areLayers 432 = .ok (.aload_n 0, 1) := by decide +kernel
theorem dL_areLayers_433 : decode cL_areLayers 433 = .ok (.bipush 6, 2) := by decide +kernel
theorem dL_areLayers_435 : decode cL_areLayers 435 = .ok (.iconst 1, 1) := by decide +kernel
theorem dL_areLayers_436 : decode cL_areLayers 436 = .ok (.invokevirtual 23, 3) := by decide +kernel
theorem dL_areLayers_439 : decode cL_areLayers 439 = .ok (.isub, 1) := by decide +kernel
theorem dL_areLayers_440 : decode cL_areLayers 440 = .ok (.invokestatic 69, 3) := by decide +kernel
theorem dL_areLayers_443 : decode cL_areLayers 443 = .ok (.if_icmp .ne 22, 3) := by decide +kernel
theorem dL_areLayers_446 : decode cL_areLayers 446 = .ok (.aload_n 0, 1) := by decide +kernel
theorem dL_areLayers_447 : decode cL_areLayers 447 = .ok (.iload 5, 2) := by decide +kernel
theorem dL_areLayers_449 : decode cL_areLayers 449 = .ok (.iconst 3, 1) := by decide +kernel
theorem dL_areLayers_450 : decode cL_areLayers 450 = .ok (.invokevirtual 23, 3) := by decide +kernel
theorem dL_areLayers_453 : decode cL_areLayers 453 = .ok (.ifCond .eq 8, 3) := by decide +kernel
theorem dL_areLayers_456 : decode cL_areLayers 456 = .ok (.iload 6, 2) := by decide +kernel
theorem dL_areLayers_458 : decode cL_areLayers 458 = .ok (.ifCond .le 7, 3) := by decide +kernel
theorem dL_areLayers_461 : decode cL_areLayers 461 = .ok (.iconst 1, 1) := by decide +kernel
theorem dL_areLayers_462 : decode cL_areLayers 462 = .ok (.goto 4, 3) := by decide +kernel
theorem dL_areLayers_465 : decode cL_areLayers 465 = .ok (.iconst 0, 1) := by decide +kernel
theorem dL_areLayers_466 : decode cL_areLayers 466 = .ok (.istore 4, 2) := by decide +kernel
theorem dL_areLayers_468 : decode cL_areLayers 468 = .ok (.iconst 0, 1) := by decide +kernel
theorem dL_areLayers_469 : decode cL_areLayers 469 = .ok (.istore 8, 2) := by decide +kernel
theorem dL_areLayers_471 : decode cL_areLayers 471 = .ok (.iload 8, 2) := by decide +kernel
theorem dL_areLayers_473 : decode cL_areLayers 473 = .ok (.iconst 3, 1) := by decide +kernel
theorem dL_areLayers_474 : decode cL_areLayers 474 = .ok (.if_icmp .ge 28, 3) := by decide +kernel
theorem dL_areLayers_477 : decode cL_areLayers 477 = .ok (.iload_n 3, 1) := by decide +kernel
theorem dL_areLayers_478 : decode cL_areLayers 478 = .ok (.aload_n 0, 1) := by decide +kernel
theorem dL_areLayers_479 : decode cL_areLayers 479 = .ok (.iload 5, 2) := by decide +kernel
theorem dL_areLayers_481 : decode cL_areLayers 481 = .ok (.iload 8, 2) := by decide +kernel
theorem dL_areLayers_483 : decode cL_areLayers 483 = .ok (.invokevirtual 27, 3) := by decide +kernel
theorem dL_areLayers_486 : decode cL_areLayers 486 = .ok (.ifCond .lt 7, 3) := by decide +kernel
theorem dL_areLayers_489 : decode cL_areLayers 489 = .ok (.iconst 1, 1) := by decide +kernel
theorem dL_areLayers_490 : decode cL_areLayers 490 = .ok (.goto 4, 3) := by decide +kernel
theorem dL_areLayers_493 : decode cL_areLayers 493 = .ok (.iconst 0, 1) := by decide +kernel
theorem dL_areLayers_494 : decode cL_areLayers 494 = .ok (.iadd, 1) := by decide +kernel
theorem dL_areLayers_495 : decode cL_areLayers 495 = .ok (.istore_n 3, 1) := by decide +kernel
theorem dL_areLayers_496 : decode cL_areLayers 496 = .ok (.iinc 8 1, 3) := by decide +kernel
theorem dL_areLayers_499 : decode cL_areLayers 499 = .ok (.goto (-28), 3) := by decide +kernel
theorem dL_areLayers_502 : decode cL_areLayers 502 = .ok (.iinc 5 1, 3) := by decide +kernel
theorem dL_areLayers_505 : decode cL_areLayers 505 = .ok (.goto (-408), 3) := by decide +kernel
theorem dL_areLayers_508 : decode cL_areLayers 508 = .ok (.iconst 0, 1) := by decide +kernel
theorem dL_areLayers_509 : decode cL_areLayers 509 = .ok (.istore 5, 2) := by decide +kernel
theorem dL_areLayers_511 : decode cL_areLayers 511 = .ok (.iload 5, 2) := by decide +kernel
theorem dL_areLayers_513 : decode cL_areLayers 513 = .ok (.aload_n 0, 1) := by decide +kernel
theorem dL_areLayers_514 : decode cL_areLayers 514 = .ok (.iconst 0, 1) := by decide +kernel
theorem dL_areLayers_515 : decode cL_areLayers 515 = .ok (.invokevirtual 13, 3) := by decide +kernel
theorem dL_areLayers_518 : decode cL_areLayers 518 = .ok (.if_icmp .ge 82, 3) := by decide +kernel
theorem dL_areLayers_521 : decode cL_areLayers 521 = .ok (.iload 4, 2) := by decide +kernel
theorem dL_areLayers_523 : decode cL_areLayers 523 = .ok (.ifCond .eq 77, 3) := by decide +kernel
theorem dL_areLayers_526 : decode cL_areLayers 526 = .ok (.iload_n 1, 1) := by decide +kernel
theorem dL_areLayers_527 : decode cL_areLayers 527 = .ok (.aload_n 0, 1) := by decide +kernel
theorem dL_areLayers_528 : decode cL_areLayers 528 = .ok (.iload 5, 2) := by decide +kernel
theorem dL_areLayers_530 : decode cL_areLayers 530 = .ok (.iconst 4, 1) := by decide +kernel
theorem dL_areLayers_531 : decode cL_areLayers 531 = .ok (.invokevirtual 30, 3) := by decide +kernel
theorem dL_areLayers_534 : decode cL_areLayers 534 = .ok (.isub, 1) := by decide +kernel
theorem dL_areLayers_535 : decode cL_areLayers 535 = .ok (.istore_n 1, 1) := by decide +kernel
theorem dL_areLayers_536 : decode cL_areLayers 536 = .ok (.iload_n 3, 1) := by decide +kernel
theorem dL_areLayers_537 : decode cL_areLayers 537 = .ok (.aload_n 0, 1) := by decide +kernel
theorem dL_areLayers_538 : decode cL_areLayers 538 = .ok (.iload 5, 2) := by decide +kernel
theorem dL_areLayers_540 : decode cL_areLayers 540 = .ok (.iconst 5, 1) := by decide +kernel
theorem dL_areLayers_541 : decode cL_areLayers 541 = .ok (.invokevirtual 30, 3) := by decide +kernel
theorem dL_areLayers_544 : decode cL_areLayers 544 = .ok (.isub, 1) := by decide +kernel
theorem dL_areLayers_545 : decode cL_areLayers 545 = .ok (.istore_n 3, 1) := by decide +kernel
theorem dL_areLayers_546 : decode cL_areLayers 546 = .ok (.aload_n 0, 1) := by decide +kernel
theorem dL_areLayers_547 : decode cL_areLayers 547 = .ok (.iload 5, 2) := by decide +kernel
theorem dL_areLayers_549 : decode cL_areLayers 549 = .ok (.iconst 3, 1) := by decide +kernel
theorem dL_areLayers_550 : decode cL_areLayers 550 = .ok (.invokevirtual 30, 3) := by decide +kernel
theorem dL_areLayers_553 : decode cL_areLayers 553 = .ok (.sipush 170, 3) := by decide +kernel
theorem dL_areLayers_556 : decode cL_areLayers 556 = .ok (.aload_n 0, 1) := by decide +kernel
theorem dL_areLayers_557 : decode cL_areLayers 557 = .ok (.iload 5, 2) := by decide +kernel
theorem dL_areLayers_559 : decode cL_areLayers 559 = .ok (.iconst 2, 1) := by decide +kernel
theorem dL_areLayers_560 : decode cL_areLayers 560 = .ok (.invokevirtual 30, 3) := by decide +kernel
theorem dL_areLayers_563 : decode cL_areLayers 563 = .ok (.isub, 1) := by decide +kernel
theorem dL_areLayers_564 : decode cL_areLayers 564 = .ok (.if_icmp .ne 27, 3) := by decide +kernel
theorem dL_areLayers_567 : decode cL_areLayers 567 = .ok (.aload_n 0, 1) := by decide +kernel
theorem dL_areLayers_568 : decode cL_areLayers 568 = .ok (.iload 5, 2) := by decide +kernel
theorem dL_areLayers_570 : decode cL_areLayers 570 = .ok (.iconst 1, 1) := by decide +kernel
theorem dL_areLayers_571 : decode cL_areLayers 571 = .ok (.invokevirtual 30, 3) := by decide +kernel
theorem dL_areLayers_574 : decode cL_areLayers 574 = .ok (.aload_n 0, 1) := by decide +kernel
theorem dL_areLayers_575 : decode cL_areLayers 575 = .ok (.iload 5, 2) := by decide +kernel
theorem dL_areLayers_577 : decode cL_areLayers 577 = .ok (.iconst 0, 1) := by decide +kernel
theorem dL_areLayers_578 : decode cL_areLayers 578 = .ok (.invokevirtual 30, 3) := by decide +kernel
theorem dL_areLayers_581 : decode cL_areLayers 581 = .ok (.bipush 10, 2) := by decide +kernel
theorem dL_areLayers_583 : decode cL_areLayers 583 = .ok (.iadd, 1) := by decide +kernel
theorem dL_areLayers_584 : decode cL_areLayers 584 = .ok (.if_icmp .lt 7, 3) := by decide +kernel
theorem dL_areLayers_587 : decode cL_areLayers 587 = .ok (.iconst 1, 1) := by decide +kernel
theorem dL_areLayers_588 : decode cL_areLayers 588 = .ok (.goto 4, 3) := by decide +kernel
theorem dL_areLayers_591 : decode cL_areLayers 591 = .ok (.iconst 0, 1) := by decide +kernel
theorem dL_areLayers_592 : decode cL_areLayers 592 = .ok (.istore 4, 2) := by decide +kernel
theorem dL_areLayers_594 : decode cL_areLayers 594 = .ok (.iinc 5 1, 3) := by decide +kernel
theorem dL_areLayers_597 : decode cL_areLayers 597 = .ok (.goto (-86), 3) := by decide +kernel
theorem dL_areLayers_600 : decode cL_areLayers 600 = .ok (.iload 4, 2) := by decide +kernel
theorem dL_areLayers_602 : decode cL_areLayers 602 = .ok (.ifCond .eq 25, 3) := by decide +kernel
theorem dL_areLayers_605 : decode cL_areLayers 605 = .ok (.iload_n 1, 1) := by decide +kernel
theorem dL_areLayers_606 : decode cL_areLayers 606 = .ok (.ifCond .ne 21, 3) := by decide +kernel
theorem dL_areLayers_609 : decode cL_areLayers 609 = .ok (.iload_n 3, 1) := by decide +kernel
theorem dL_areLayers_610 : decode cL_areLayers 610 = .ok (.ifCond .ne 17, 3) := by decide +kernel
theorem dL_areLayers_613 : decode cL_areLayers 613 = .ok (.iload_n 2, 1) := by decide +kernel
theorem dL_areLayers_614 : decode cL_areLayers 614 = .ok (.aload_n 0, 1) := by decide +kernel
theorem dL_areLayers_615 : decode cL_areLayers 615 = .ok (.bipush 7, 2) := by decide +kernel
theorem dL_areLayers_617 : decode cL_areLayers 617 = .ok (.invokevirtual 13, 3) := by decide +kernel
theorem dL_areLayers_620 : decode cL_areLayers 620 = .ok (.if_icmp .ne 7, 3) := by decide +kernel
theorem dL_areLayers_623 : decode cL_areLayers 623 = .ok (.iconst 1, 1) := by decide +kernel
theorem dL_areLayers_624 : decode cL_areLayers 624 = .ok (.goto 4, 3) := by decide +kernel
theorem dL_areLayers_627 : decode cL_areLayers 627 = .ok (.iconst 0, 1) := by decide +kernel
theorem dL_areLayers_628 : decode cL_areLayers 628 = .ok (.ireturn, 1) := by decide +kernel
theorem dL_isFired_0 : decode cL_isFired 0 = .ok (.aload_n 0, 1) := by decide +kernel
theorem dL_isFired_1 : decode cL_isFired 1 = .ok (.invokestatic 33, 3) := by decide +kernel
theorem dL_isFired_4 : decode cL_isFired 4 = .ok (.lstore_n 2, 1) := by decide +kernel
theorem dL_isFired_5 : decode cL_isFired 5 = .ok (.aload_n 0, 1) := by decide +kernel
theorem dL_isFired_6 : decode cL_isFired 6 = .ok (.iload_n 1, 1) := by decide +kernel
theorem dL_isFired_7 : decode cL_isFired 7 = .ok (.iconst 0, 1) := by decide +kernel
theorem dL_isFired_8 : decode cL_isFired 8 = .ok (.invokevirtual 54, 3) := by decide +kernel
theorem dL_isFired_11 : decode cL_isFired 11 = .ok (.istore 4, 2) := by decide +kernel
theorem dL_isFired_13 : decode cL_isFired 13 = .ok (.aload_n 0, 1) := by decide +kernel
theorem dL_isFired_14 : decode cL_isFired 14 = .ok (.iload_n 1, 1) := by decide +kernel
theorem dL_isFired_15 : decode cL_isFired 15 = .ok (.iconst 1, 1) := by decide +kernel
theorem dL_isFired_16 : decode cL_isFired 16 = .ok (.invokevirtual 54, 3) := by decide +kernel
theorem dL_isFired_19 : decode cL_isFired 19 = .ok (.istore 5, 2) := by decide +kernel
theorem dL_isFired_21 : decode cL_isFired 21 = .ok (.aload_n 0, 1) := by decide +kernel
theorem dL_isFired_22 : decode cL_isFired 22 = .ok (.iload_n 1, 1) := by decide +kernel
theorem dL_isFired_23 : decode cL_isFired 23 = .ok (.iconst 2, 1) := by decide +kernel
theorem dL_isFired_24 : decode cL_isFired 24 = .ok (.invokevirtual 54, 3) := by decide +kernel
theorem dL_isFired_27 : decode cL_isFired 27 = .ok (.istore 6, 2) := by decide +kernel
theorem dL_isFired_29 : decode cL_isFired 29 = .ok (.aload_n 0, 1) := by decide +kernel
theorem dL_isFired_30 : decode cL_isFired 30 = .ok (.iload_n 1, 1) := by decide +kernel
theorem dL_isFired_31 : decode cL_isFired 31 = .ok (.iconst 3, 1) := by decide +kernel
theorem dL_isFired_32 : decode cL_isFired 32 = .ok (.invokevirtual 54, 3) := by decide +kernel
theorem dL_isFired_35 : decode cL_isFired 35 = .ok (.istore 7, 2) := by decide +kernel
theorem dL_isFired_37 : decode cL_isFired 37 = .ok (.aload_n 0, 1) := by decide +kernel
theorem dL_isFired_38 : decode cL_isFired 38 = .ok (.iload_n 1, 1) := by decide +kernel
theorem dL_isFired_39 : decode cL_isFired 39 = .ok (.iconst 4, 1) := by decide +kernel
theorem dL_isFired_40 : decode cL_isFired 40 = .ok (.invokevirtual 54, 3) := by decide +kernel
theorem dL_isFired_43 : decode cL_isFired 43 = .ok (.istore 8, 2) := by decide +kernel
theorem dL_isFired_45 : decode cL_isFired 45 = .ok (.aload_n 0, 1) := by decide +kernel
theorem dL_isFired_46 : decode cL_isFired 46 = .ok (.bipush 6, 2) := by decide +kernel
theorem dL_isFired_48 : decode cL_isFired 48 = .ok (.invokevirtual 13, 3) := by decide +kernel
theorem dL_isFired_51 : decode cL_isFired 51 = .ok (.istore 9, 2) := by decide +kernel
theorem dL_isFired_53 : decode cL_isFired 53 = .ok (.aload_n 0, 1) := by decide +kernel
theorem dL_isFired_54 : decode cL_isFired 54 = .ok (.bipush 7, 2) := by decide +kernel
theorem dL_isFired_56 : decode cL_isFired 56 = .ok (.invokevirtual 13, 3) := by decide +kernel
theorem dL_isFired_59 : decode cL_isFired 59 = .ok (.istore 10, 2) := by decide +kernel
theorem dL_isFired_61 : decode cL_isFired 61 = .ok (.aload_n 0, 1) := by decide +kernel
theorem dL_isFired_62 : decode cL_isFired 62 = .ok (.iconst 1, 1) := by decide +kernel
theorem dL_isFired_63 : decode cL_isFired 63 = .ok (.invokevirtual 13, 3) := by decide +kernel
theorem dL_isFired_66 : decode cL_isFired 66 = .ok (.istore 11, 2) := by decide +kernel
theorem dL_isFired_68 : decode cL_isFired 68 = .ok (.aload_n 0, 1) := by decide +kernel
theorem dL_isFired_69 : decode cL_isFired 69 = .ok (.invokestatic 33, 3) := by decide +kernel
theorem dL_isFired_72 : decode cL_isFired 72 = .ok (.lload_n 2, 1) := by decide +kernel
theorem dL_isFired_73 : decode cL_isFired 73 = .ok (.lcmp, 1) := by decide +kernel
theorem dL_isFired_74 : decode cL_isFired 74 = .ok (.ifCond .ne 7, 3) := by decide +kernel
theorem dL_isFired_77 : decode cL_isFired 77 = .ok (.iconst 1, 1) := by decide +kernel
theorem dL_isFired_78 : decode cL_isFired 78 = .ok (.goto 4, 3) := by decide +kernel
theorem dL_isFired_81 : decode cL_isFired 81 = .ok (.iconst 0, 1) := by decide +kernel
theorem dL_isFired_82 : decode cL_isFired 82 = .ok (.istore 12, 2) := by decide +kernel
theorem dL_isFired_84 : decode cL_isFired 84 = .ok (.aload_n 0, 1) := by decide +kernel
theorem dL_isFired_85 : decode cL_isFired 85 = .ok (.bipush 11, 2) := by decide +kernel
theorem dL_isFired_87 : decode cL_isFired 87 = .ok (.invokevirtual 13, 3) := by decide +kernel
theorem dL_isFired_90 : decode cL_isFired 90 = .ok (.sipush 1000, 3) := by decide +kernel
theorem dL_isFired_93 : decode cL_isFired 93 = .ok (.if_icmp .ne 25, 3) := by decide +kernel
theorem dL_isFired_96 : decode cL_isFired 96 = .ok (.iload 12, 2) := by decide +kernel
theorem dL_isFired_98 : decode cL_isFired 98 = .ok (.ifCond .eq 18, 3) := by decide +kernel
theorem dL_isFired_101 : decode cL_isFired 101 = .ok (.aload_n 0, 1) := by decide +kernel
theorem dL_isFired_102 : decode cL_isFired 102 = .ok (.iload_n 1, 1) := by decide +kernel
theorem dL_isFired_103 : decode cL_isFired 103 = .ok (.iconst 3, 1) := by decide +kernel
theorem dL_isFired_104 : decode cL_isFired 104 = .ok (.invokevirtual 51, 3) := by decide +kernel
theorem dL_isFired_107 : decode cL_isFired 107 = .ok (.bipush (-3), 2) := by decide +kernel
theorem dL_isFired_109 : decode cL_isFired 109 = .ok (.if_icmp .ne 7, 3) := by decide +kernel
theorem dL_isFired_112 : decode cL_isFired 112 = .ok (.iconst 1, 1) := by decide +kernel
theorem dL_isFired_113 : decode cL_isFired 113 = .ok (.goto 4, 3) := by decide +kernel
theorem dL_isFired_116 : decode cL_isFired 116 = .ok (.iconst 0, 1) := by decide +kernel
theorem dL_isFired_117 : decode cL_isFired 117 = .ok (.ireturn, 1) := by decide +kernel
theorem dL_isFired_118 : decode cL_isFired 118 = .ok (.aload_n 0, 1) := by decide +kernel
theorem dL_isFired_119 : decode cL_isFired 119 = .ok (.bipush 15, 2) := by decide +kernel
theorem dL_isFired_121 : decode cL_isFired 121 = .ok (.invokevirtual 13, 3) := by decide +kernel
theorem dL_isFired_124 : decode cL_isFired 124 = .ok (.istore 13, 2) := by decide +kernel
theorem dL_isFired_126 : decode cL_isFired 126 = .ok (.aload_n 0, 1) := by decide +kernel
theorem dL_isFired_127 : decode cL_isFired 127 = .ok (.bipush 16, 2) := by decide +kernel
theorem dL_isFired_129 : decode cL_isFired 129 = .ok (.invokevirtual 13, 3) := by decide +kernel
theorem dL_isFired_132 : decode cL_isFired 132 = .ok (.istore 14, 2) := by decide +kernel
theorem dL_isFired_134 : decode cL_isFired 134 = .ok (.aload_n 0, 1) := by decide +kernel
theorem dL_isFired_135 : decode cL_isFired 135 = .ok (.bipush 17, 2) := by decide +kernel
theorem dL_isFired_137 : decode cL_isFired 137 = .ok (.invokevirtual 13, 3) := by decide +kernel
theorem dL_isFired_140 : decode cL_isFired 140 = .ok (.istore 15, 2) := by decide +kernel
theorem dL_isFired_142 : decode cL_isFired 142 = .ok (.aload_n 0, 1) := by decide +kernel
theorem dL_isFired_143 : decode cL_isFired 143 = .ok (.bipush 18, 2) := by decide +kernel
theorem dL_isFired_145 : decode cL_isFired 145 = .ok (.invokevirtual 13, 3) := by decide +kernel
theorem dL_isFired_148 : decode cL_isFired 148 = .ok (.istore 16, 2) := by decide +kernel
theorem dL_isFired_150 : decode cL_isFired 150 = .ok (.aload_n 0, 1) := by decide +kernel
theorem dL_isFired_151 : decode cL_isFired 151 = .ok (.bipush 19, 2) := by decide +kernel
theorem dL_isFired_153 : decode cL_isFired 153 = .ok (.invokevirtual 13, 3) := by decide +kernel
theorem dL_isFired_156 : decode cL_isFired 156 = .ok (.istore 17, 2) := by decide +kernel
theorem dL_isFired_158 : decode cL_isFired 158 = .ok (.aload_n 0, 1) := by decide +kernel
theorem dL_isFired_159 : decode cL_isFired 159 = .ok (.bipush 11, 2) := by decide +kernel
theorem dL_isFired_161 : decode cL_isFired 161 = .ok (.invokevirtual 13, 3) := by decide +kernel
theorem dL_isFired_164 : decode cL_isFired 164 = .ok (.istore 18, 2) := by decide +kernel
theorem dL_isFired_166 : decode cL_isFired 166 = .ok (.iload 12, 2) := by decide +kernel
theorem dL_isFired_168 : decode cL_isFired 168 = .ok (.ifCond .eq 147, 3) := by decide +kernel
theorem dL_isFired_171 : decode cL_isFired 171 = .ok (.aload_n 0, 1) := by decide +kernel
theorem dL_isFired_172 : decode cL_isFired 172 = .ok (.iload_n 1, 1) := by decide +kernel
theorem dL_isFired_173 : decode cL_isFired 173 = .ok (.aload_n 0, 1) := by decide +kernel
theorem dL_isFired_174 : decode cL_isFired 174 = .ok (.bipush 8, 2) := by decide +kernel
theorem dL_isFired_176 : decode cL_isFired 176 = .ok (.invokevirtual 13, 3) := by decide +kernel
theorem dL_isFired_179 : decode cL_isFired 179 = .ok (.invokevirtual 51, 3) := by decide +kernel
theorem dL_isFired_182 : decode cL_isFired 182 = .ok (.iload 4, 2) := by decide +kernel
theorem dL_isFired_184 : decode cL_isFired 184 = .ok (.if_icmp .ne 131, 3) := by decide +kernel
theorem dL_isFired_187 : decode cL_isFired 187 = .ok (.aload_n 0, 1) := by decide +kernel
theorem dL_isFired_188 : decode cL_isFired 188 = .ok (.bipush 15, 2) := by decide +kernel
theorem dL_isFired_190 : decode cL_isFired 190 = .ok (.invokevirtual 13, 3) := by decide +kernel
theorem dL_isFired_193 : decode cL_isFired 193 = .ok (.iload 13, 2) := by decide +kernel
theorem dL_isFired_195 : decode cL_isFired 195 = .ok (.iload 4, 2) := by decide +kernel
theorem dL_isFired_197 : decode cL_isFired 197 = .ok (.iadd, 1) := by decide +kernel
theorem dL_isFired_198 : decode cL_isFired 198 = .ok (.if_icmp .ne 117, 3) := by decide +kernel
theorem dL_isFired_201 : decode cL_isFired 201 = .ok (.aload_n 0, 1) := by decide +kernel
theorem dL_isFired_202 : decode cL_isFired 202 = .ok (.bipush 16, 2) := by decide +kernel
theorem dL_isFired_204 : decode cL_isFired 204 = .ok (.invokevirtual 13, 3) := by decide +kernel
theorem dL_isFired_207 : decode cL_isFired 207 = .ok (.iload 14, 2) := by decide +kernel
theorem dL_isFired_209 : decode cL_isFired 209 = .ok (.iload 6, 2) := by decide +kernel
theorem dL_isFired_211 : decode cL_isFired 211 = .ok (.iadd, 1) := by decide +kernel
theorem dL_isFired_212 : decode cL_isFired 212 = .ok (.if_icmp .ne 103, 3) := by decide +kernel
theorem dL_isFired_215 : decode cL_isFired 215 = .ok (.aload_n 0, 1) := by decide +kernel
theorem dL_isFired_216 : decode cL_isFired 216 = .ok (.bipush 17, 2) := by decide +kernel
theorem dL_isFired_218 : decode cL_isFired 218 = .ok (.invokevirtual 13, 3) := by decide +kernel
theorem dL_isFired_221 : decode cL_isFired 221 = .ok (.iload 15, 2) := by decide +kernel
theorem dL_isFired_223 : decode cL_isFired 223 = .ok (.iload 5, 2) := by decide +kernel
theorem dL_isFired_225 : decode cL_isFired 225 = .ok (.iadd, 1) := by decide +kernel
theorem dL_isFired_226 : decode cL_isFired 226 = .ok (.if_icmp .ne 89, 3) := by decide +kernel
theorem dL_isFired_229 : decode cL_isFired 229 = .ok (.aload_n 0, 1) := by decide +kernel
theorem dL_isFired_230 : decode cL_isFired 230 = .ok (.bipush 18, 2) := by decide +kernel
theorem dL_isFired_232 : decode cL_isFired 232 = .ok (.invokevirtual 13, 3) := by decide +kernel
theorem dL_isFired_235 : decode cL_isFired 235 = .ok (.iload 16, 2) := by decide +kernel
theorem dL_isFired_237 : decode cL_isFired 237 = .ok (.iload 7, 2) := by decide +kernel
theorem dL_isFired_239 : decode cL_isFired 239 = .ok (.iadd, 1) := by decide +kernel
theorem dL_isFired_240 : decode cL_isFired 240 = .ok (.if_icmp .ne 75, 3) := by decide +kernel
theorem dL_isFired_243 : decode cL_isFired 243 = .ok (.aload_n 0, 1) := by decide +kernel
theorem dL_isFired_244 : decode cL_isFired 244 = .ok (.bipush 19, 2) := by decide +kernel
theorem dL_isFired_246 : decode cL_isFired 246 = .ok (.invokevirtual 13, 3) := by decide +kernel
theorem dL_isFired_249 : decode cL_isFired 249 = .ok (.iload 17, 2) := by decide +kernel
theorem dL_isFired_251 : decode cL_isFired 251 = .ok (.iload 8, 2) := by decide +kernel
theorem dL_isFired_253 : decode cL_isFired 253 = .ok (.iadd, 1) := by decide +kernel
theorem dL_isFired_254 : decode cL_isFired 254 = .ok (.if_icmp .ne 61, 3) := by decide +kernel
theorem dL_isFired_257 : decode cL_isFired 257 = .ok (.aload_n 0, 1) := by decide +kernel
theorem dL_isFired_258 : decode cL_isFired 258 = .ok (.bipush 11, 2) := by decide +kernel
theorem dL_isFired_260 : decode cL_isFired 260 = .ok (.invokevirtual 13, 3) := by decide +kernel
theorem dL_isFired_263 : decode cL_isFired 263 = .ok (.iload 18, 2) := by decide +kernel
theorem dL_isFired_265 : decode cL_isFired 265 = .ok (.iconst 1, 1) := by decide +kernel
theorem dL_isFired_266 : decode cL_isFired 266 = .ok (.iadd, 1) := by decide +kernel
theorem dL_isFired_267 : decode cL_isFired 267 = .ok (.if_icmp .ne 48, 3) := by decide +kernel
theorem dL_isFired_270 : decode cL_isFired 270 = .ok (.aload_n 0, 1) := by decide +kernel
theorem dL_isFired_271 : decode cL_isFired 271 = .ok (.bipush 6, 2) := by decide +kernel
theorem dL_isFired_273 : decode cL_isFired 273 = .ok (.invokevirtual 13, 3) := by decide +kernel
theorem dL_isFired_276 : decode cL_isFired 276 = .ok (.iload 9, 2) := by decide +kernel
theorem dL_isFired_278 : decode cL_isFired 278 = .ok (.iload 5, 2) := by decide +kernel
theorem dL_isFired_280 : decode cL_isFired 280 = .ok (.iadd, 1) := by decide +kernel
theorem dL_isFired_281 : decode cL_isFired 281 = .ok (.if_icmp .ne 34, 3) := by decide +kernel
theorem dL_isFired_284 : decode cL_isFired 284 = .ok (.aload_n 0, 1) := by decide +kernel
theorem dL_isFired_285 : decode cL_isFired 285 = .ok (.bipush 7, 2) := by decide +kernel
theorem dL_isFired_287 : decode cL_isFired 287 = .ok (.invokevirtual 13, 3) := by decide +kernel
theorem dL_isFired_290 : decode cL_isFired 290 = .ok (.iload 10, 2) := by decide +kernel
theorem dL_isFired_292 : decode cL_isFired 292 = .ok (.iload 7, 2) := by decide +kernel
theorem dL_isFired_294 : decode cL_isFired 294 = .ok (.iadd, 1) := by decide +kernel
theorem dL_isFired_295 : decode cL_isFired 295 = .ok (.iload 8, 2) := by decide +kernel
theorem dL_isFired_297 : decode cL_isFired 297 = .ok (.isub, 1) := by decide +kernel
theorem dL_isFired_298 : decode cL_isFired 298 = .ok (.if_icmp .ne 17, 3) := by decide +kernel
theorem dL_isFired_301 : decode cL_isFired 301 = .ok (.aload_n 0, 1) := by decide +kernel
theorem dL_isFired_302 : decode cL_isFired 302 = .ok (.iconst 1, 1) := by decide +kernel
theorem dL_isFired_303 : decode cL_isFired 303 = .ok (.invokevirtual 13, 3) := by decide +kernel
theorem dL_isFired_306 : decode cL_isFired 306 = .ok (.iload 11, 2) := by decide +kernel
theorem dL_isFired_308 : decode cL_isFired 308 = .ok (.if_icmp .ne 7, 3) := by decide +kernel
theorem dL_isFired_311 : decode cL_isFired 311 = .ok (.iconst 1, 1) := by decide +kernel
theorem dL_isFired_312 : decode cL_isFired 312 = .ok (.goto 4, 3) := by decide +kernel
theorem dL_isFired_315 : decode cL_isFired 315 = .ok (.iconst 0, 1) := by decide +kernel
theorem dL_isFired_316 : decode cL_isFired 316 = .ok (.istore 12, 2) := by decide +kernel
theorem dL_isFired_318 : decode cL_isFired 318 = .ok (.iconst 0, 1) := by decide +kernel
theorem dL_isFired_319 : decode cL_isFired 319 = .ok (.istore 19, 2) := by decide +kernel
theorem dL_isFired_321 : decode cL_isFired 321 = .ok (.iload 19, 2) := by decide +kernel
theorem dL_isFired_323 : decode cL_isFired 323 = .ok (.bipush 6, 2) := by decide +kernel
theorem dL_isFired_325 : decode cL_isFired 325 = .ok (.if_icmp .ge 115, 3) := by decide +kernel
theorem dL_isFired_328 : decode cL_isFired 328 = .ok (.iload 12, 2) := by decide +kernel
theorem dL_isFired_330 : decode cL_isFired 330 = .ok (.ifCond .eq 110, 3) := by decide +kernel
theorem dL_isFired_333 : decode cL_isFired 333 = .ok (.iconst 0, 1) := by decide +kernel
theorem dL_isFired_334 : decode cL_isFired 334 = .ok (.istore 20, 2) := by decide +kernel
theorem dL_isFired_336 : decode cL_isFired 336 = .ok (.iconst 0, 1) := by decide +kernel
theorem dL_isFired_337 : decode cL_isFired 337 = .ok (.istore 21, 2) := by decide +kernel
theorem dL_isFired_339 : decode cL_isFired 339 = .ok (.iload 21, 2) := by decide +kernel
theorem dL_isFired_341 : decode cL_isFired 341 = .ok (.aload_n 0, 1) := by decide +kernel
theorem dL_isFired_342 : decode cL_isFired 342 = .ok (.iload 19, 2) := by decide +kernel
theorem dL_isFired_344 : decode cL_isFired 344 = .ok (.iconst 0, 1) := by decide +kernel
theorem dL_isFired_345 : decode cL_isFired 345 = .ok (.invokevirtual 23, 3) := by decide +kernel
theorem dL_isFired_348 : decode cL_isFired 348 = .ok (.if_icmp .ge 47, 3) := by decide +kernel
theorem dL_isFired_351 : decode cL_isFired 351 = .ok (.iload 20, 2) := by decide +kernel
theorem dL_isFired_353 : decode cL_isFired 353 = .ok (.ifCond .ne 29, 3) := by decide +kernel
theorem dL_isFired_356 : decode cL_isFired 356 = .ok (.aload_n 0, 1) := by decide +kernel
theorem dL_isFired_357 : decode cL_isFired 357 = .ok (.iload 19, 2) := by decide +kernel
theorem dL_isFired_359 : decode cL_isFired 359 = .ok (.iload 21, 2) := by decide +kernel
theorem dL_isFired_361 : decode cL_isFired 361 = .ok (.iconst 1, 1) := by decide +kernel
theorem dL_isFired_362 : decode cL_isFired 362 = .ok (.invokevirtual 19, 3) := by decide +kernel
theorem dL_isFired_365 : decode cL_isFired 365 = .ok (.iconst 2, 1) := by decide +kernel
theorem dL_isFired_366 : decode cL_isFired 366 = .ok (.if_icmp .eq 16, 3) := by decide +kernel
theorem dL_isFired_369 : decode cL_isFired 369 = .ok (.aload_n 0, 1) := by decide +kernel
theorem dL_isFired_370 : decode cL_isFired 370 = .ok (.iload 19, 2) := by decide +kernel
theorem dL_isFired_372 : decode cL_isFired 372 = .ok (.iload 21, 2) := by decide +kernel
theorem dL_isFired_374 : decode cL_isFired 374 = .ok (.iconst 1, 1) := by decide +kernel
theorem dL_isFired_375 : decode cL_isFired 375 = .ok (.invokevirtual 19, 3) := by decide +kernel
theorem dL_isFired_378 : decode cL_isFired 378 = .ok (.iconst 3, 1) := by decide +kernel
theorem dL_isFired_379 : decode cL_isFired 379 = .ok (.if_icmp .ne 7, 3) := by decide +kernel
theorem dL_isFired_382 : decode cL_isFired 382 = .ok (.iconst 1, 1) := by decide +kernel
theorem dL_isFired_383 : decode cL_isFired 383 = .ok (.goto 4, 3) := by decide +kernel
theorem dL_isFired_386 : decode cL_isFired 386 = .ok (.iconst 0, 1) := by decide +kernel
theorem dL_isFired_387 : decode cL_isFired 387 = .ok (.istore 20, 2) := by decide +kernel
theorem dL_isFired_389 : decode cL_isFired 389 = .ok (.iinc 21 1, 3) := by decide +kernel
theorem dL_isFired_392 : decode cL_isFired 392 = .ok (.goto (-53), 3) := by decide +kernel
theorem dL_isFired_395 : decode cL_isFired 395 = .ok (.aload_n 0, 1) := by decide +kernel
theorem dL_isFired_396 : decode cL_isFired 396 = .ok (.iload 19, 2) := by decide +kernel
theorem dL_isFired_398 : decode cL_isFired 398 = .ok (.iconst 3, 1) := by decide +kernel
theorem dL_isFired_399 : decode cL_isFired 399 = .ok (.invokevirtual 23, 3) := by decide +kernel
theorem dL_isFired_402 : decode cL_isFired 402 = .ok (.iconst 1, 1) := by decide +kernel
theorem dL_isFired_403 : decode cL_isFired 403 = .ok (.if_icmp .eq 24, 3) := by decide +kernel
theorem dL_isFired_406 : decode cL_isFired 406 = .ok (.iload 20, 2) := by decide +kernel
theorem dL_isFired_408 : decode cL_isFired 408 = .ok (.ifCond .eq 19, 3) := by decide +kernel
theorem dL_isFired_411 : decode cL_isFired 411 = .ok (.aload_n 0, 1) := by decide +kernel
theorem dL_isFired_412 : decode cL_isFired 412 = .ok (.iload 19, 2) := by decide +kernel
theorem dL_isFired_414 : decode cL_isFired 414 = .ok (.iconst 2, 1) := by decide +kernel
theorem dL_isFired_415 : decode cL_isFired 415 = .ok (.invokevirtual 23, 3) := by decide +kernel
theorem dL_isFired_418 : decode cL_isFired 418 = .ok (.aload_n 0, 1) := by decide +kernel
theorem dL_isFired_419 : decode cL_isFired 419 = .ok (.bipush 10, 2) := by decide +kernel
theorem dL_isFired_421 : decode cL_isFired 421 = .ok (.invokevirtual 13, 3) := by decide +kernel
theorem dL_isFired_424 : decode cL_isFired 424 = .ok (.if_icmp .gt 7, 3) := by decide +kernel
theorem dL_isFired_427 : decode cL_isFired 427 = .ok (.iconst 1, 1) := by decide +kernel
theorem dL_isFired_428 : decode cL_isFired 428 = .ok (.goto 4, 3) := by decide +kernel
theorem dL_isFired_431 : decode cL_isFired 431 = .ok (.iconst 0, 1) := by decide +kernel
theorem dL_isFired_432 : decode cL_isFired 432 = .ok (.istore 12, 2) := by decide +kernel
theorem dL_isFired_434 : decode cL_isFired 434 = .ok (.iinc 19 1, 3) := by decide +kernel
theorem dL_isFired_437 : decode cL_isFired 437 = .ok (.goto (-116), 3) := by decide +kernel
theorem dL_isFired_440 : decode cL_isFired 440 = .ok (.iload 12, 2) := by decide +kernel
theorem dL_isFired_442 : decode cL_isFired 442 = .ok (.ifCond .eq 30, 3) := by decide +kernel
theorem dL_isFired_445 : decode cL_isFired 445 = .ok (.aload_n 0, 1) := by decide +kernel
theorem dL_isFired_446 : decode cL_isFired 446 = .ok (.invokestatic 72, 3) := by decide +kernel
theorem dL_isFired_449 : decode cL_isFired 449 = .ok (.ifCond .eq 23, 3) := by decide +kernel
theorem dL_isFired_452 : decode cL_isFired 452 = .ok (.aload_n 0, 1) := by decide +kernel
theorem dL_isFired_453 : decode cL_isFired 453 = .ok (.invokevirtual 76, 3) := by decide +kernel
theorem dL_isFired_456 : decode cL_isFired 456 = .ok (.ifCond .lt 16, 3) := by decide +kernel
theorem dL_isFired_459 : decode cL_isFired 459 = .ok (.aload_n 0, 1) := by decide +kernel
theorem dL_isFired_460 : decode cL_isFired 460 = .ok (.invokestatic 33, 3) := by decide +kernel
theorem dL_isFired_463 : decode cL_isFired 463 = .ok (.lload_n 2, 1) := by decide +kernel
theorem dL_isFired_464 : decode cL_isFired 464 = .ok (.lcmp, 1) := by decide +kernel
theorem dL_isFired_465 : decode cL_isFired 465 = .ok (.ifCond .ne 7, 3) := by decide +kernel
theorem dL_isFired_468 : decode cL_isFired 468 = .ok (.iconst 1, 1) := by decide +kernel
theorem dL_isFired_469 : decode cL_isFired 469 = .ok (.goto 4, 3) := by decide +kernel
theorem dL_isFired_472 : decode cL_isFired 472 = .ok (.iconst 0, 1) := by decide +kernel
theorem dL_isFired_473 : decode cL_isFired 473 = .ok (.ireturn, 1) := by decide +kernel
theorem dL_isBest_0 : decode cL_isBest 0 = .ok (.aload_n 0, 1) := by decide +kernel
theorem dL_isBest_1 : decode cL_isBest 1 = .ok (.invokevirtual 80, 3) := by decide +kernel
theorem dL_isBest_4 : decode cL_isBest 4 = .ok (.istore_n 1, 1) := by decide +kernel
theorem dL_isBest_5 : decode cL_isBest 5 = .ok (.aload_n 0, 1) := by decide +kernel
theorem dL_isBest_6 : decode cL_isBest 6 = .ok (.iload_n 1, 1) := by decide +kernel
theorem dL_isBest_7 : decode cL_isBest 7 = .ok (.iconst 0, 1) := by decide +kernel
theorem dL_isBest_8 : decode cL_isBest 8 = .ok (.invokevirtual 54, 3) := by decide +kernel
theorem dL_isBest_11 : decode cL_isBest 11 = .ok (.istore_n 2, 1) := by decide +kernel
theorem dL_isBest_12 : decode cL_isBest 12 = .ok (.aload_n 0, 1) := by decide +kernel
theorem dL_isBest_13 : decode cL_isBest 13 = .ok (.iload_n 1, 1) := by decide +kernel
theorem dL_isBest_14 : decode cL_isBest 14 = .ok (.iconst 2, 1) := by decide +kernel
theorem dL_isBest_15 : decode cL_isBest 15 = .ok (.invokevirtual 54, 3) := by decide +kernel
theorem dL_isBest_18 : decode cL_isBest 18 = .ok (.istore_n 3, 1) := by decide +kernel
theorem dL_isBest_19 : decode cL_isBest 19 = .ok (.iload_n 1, 1) := by decide +kernel
theorem dL_isBest_20 : decode cL_isBest 20 = .ok (.sipush 500, 3) := by decide +kernel
theorem dL_isBest_23 : decode cL_isBest 23 = .ok (.if_icmp .lt 23, 3) := by decide +kernel
theorem dL_isBest_26 : decode cL_isBest 26 = .ok (.iload_n 1, 1) := by decide +kernel
theorem dL_isBest_27 : decode cL_isBest 27 = .ok (.sipush 1200, 3) := by decide +kernel
theorem dL_isBest_30 : decode cL_isBest 30 = .ok (.if_icmp .gt 16, 3) := by decide +kernel
theorem dL_isBest_33 : decode cL_isBest 33 = .ok (.aload_n 0, 1) := by decide +kernel
theorem dL_isBest_34 : decode cL_isBest 34 = .ok (.iload_n 1, 1) := by decide +kernel
theorem dL_isBest_35 : decode cL_isBest 35 = .ok (.iconst 1, 1) := by decide +kernel
theorem dL_isBest_36 : decode cL_isBest 36 = .ok (.invokevirtual 54, 3) := by decide +kernel
theorem dL_isBest_39 : decode cL_isBest 39 = .ok (.ifCond .ne 7, 3) := by decide +kernel
theorem dL_isBest_42 : decode cL_isBest 42 = .ok (.iconst 1, 1) := by decide +kernel
theorem dL_isBest_43 : decode cL_isBest 43 = .ok (.goto 4, 3) := by decide +kernel
theorem dL_isBest_46 : decode cL_isBest 46 = .ok (.iconst 0, 1) := by decide +kernel
theorem dL_isBest_47 : decode cL_isBest 47 = .ok (.istore 4, 2) := by decide +kernel
theorem dL_isBest_49 : decode cL_isBest 49 = .ok (.sipush 500, 3) := by decide +kernel
theorem dL_isBest_52 : decode cL_isBest 52 = .ok (.istore 5, 2) := by decide +kernel
theorem dL_isBest_54 : decode cL_isBest 54 = .ok (.iload 5, 2) := by decide +kernel
theorem dL_isBest_56 : decode cL_isBest 56 = .ok (.sipush 1200, 3) := by decide +kernel
theorem dL_isBest_59 : decode cL_isBest 59 = .ok (.if_icmp .gt 80, 3) := by decide +kernel
theorem dL_isBest_62 : decode cL_isBest 62 = .ok (.iload 4, 2) := by decide +kernel
theorem dL_isBest_64 : decode cL_isBest 64 = .ok (.ifCond .eq 75, 3) := by decide +kernel
theorem dL_isBest_67 : decode cL_isBest 67 = .ok (.aload_n 0, 1) := by decide +kernel
theorem dL_isBest_68 : decode cL_isBest 68 = .ok (.iload 5, 2) := by decide +kernel
theorem dL_isBest_70 : decode cL_isBest 70 = .ok (.iconst 0, 1) := by decide +kernel
theorem dL_isBest_71 : decode cL_isBest 71 = .ok (.invokevirtual 54, 3) := by decide +kernel
theorem dL_isBest_74 : decode cL_isBest 74 = .ok (.istore 6, 2) := by decide +kernel
theorem dL_isBest_76 : decode cL_isBest 76 = .ok (.aload_n 0, 1) := by decide +kernel
theorem dL_isBest_77 : decode cL_isBest 77 = .ok (.iload 5, 2) := by decide +kernel
theorem dL_isBest_79 : decode cL_isBest 79 = .ok (.iconst 1, 1) := by decide +kernel
theorem dL_isBest_80 : decode cL_isBest 80 = .ok (.invokevirtual 54, 3) := by decide +kernel
theorem dL_isBest_83 : decode cL_isBest 83 = .ok (.ifCond .gt 43, 3) := by decide +kernel
theorem dL_isBest_86 : decode cL_isBest 86 = .ok (.iload 6, 2) := by decide +kernel
theorem dL_isBest_88 : decode cL_isBest 88 = .ok (.iload_n 2, 1) := by decide +kernel
theorem dL_isBest_89 : decode cL_isBest 89 = .ok (.if_icmp .lt 37, 3) := by decide +kernel
theorem dL_isBest_92 : decode cL_isBest 92 = .ok (.iload 6, 2) := by decide +kernel
theorem dL_isBest_94 : decode cL_isBest 94 = .ok (.iload_n 2, 1) := by decide +kernel
theorem dL_isBest_95 : decode cL_isBest 95 = .ok (.if_icmp .ne 35, 3) := by decide +kernel
theorem dL_isBest_98 : decode cL_isBest 98 = .ok (.aload_n 0, 1) := by decide +kernel
theorem dL_isBest_99 : decode cL_isBest 99 = .ok (.iload 5, 2) := by decide +kernel
theorem dL_isBest_101 : decode cL_isBest 101 = .ok (.iconst 2, 1) := by decide +kernel
theorem dL_isBest_102 : decode cL_isBest 102 = .ok (.invokevirtual 54, 3) := by decide +kernel
theorem dL_isBest_105 : decode cL_isBest 105 = .ok (.iload_n 3, 1) := by decide +kernel
theorem dL_isBest_106 : decode cL_isBest 106 = .ok (.if_icmp .gt 20, 3) := by decide +kernel
theorem dL_isBest_109 : decode cL_isBest 109 = .ok (.aload_n 0, 1) := by decide +kernel
theorem dL_isBest_110 : decode cL_isBest 110 = .ok (.iload 5, 2) := by decide +kernel
theorem dL_isBest_112 : decode cL_isBest 112 = .ok (.iconst 2, 1) := by decide +kernel
theorem dL_isBest_113 : decode cL_isBest 113 = .ok (.invokevirtual 54, 3) := by decide +kernel
theorem dL_isBest_116 : decode cL_isBest 116 = .ok (.iload_n 3, 1) := by decide +kernel
theorem dL_isBest_117 : decode cL_isBest 117 = .ok (.if_icmp .ne 13, 3) := by decide +kernel
theorem dL_isBest_120 : decode cL_isBest 120 = .ok (.iload 5, 2) := by decide +kernel
theorem dL_isBest_122 : decode cL_isBest 122 = .ok (.iload_n 1, 1) := by decide +kernel
theorem dL_isBest_123 : decode cL_isBest 123 = .ok (.if_icmp .lt 7, 3) := by decide +kernel
theorem dL_isBest_126 : decode cL_isBest 126 = .ok (.iconst 1, 1) := by decide +kernel
theorem dL_isBest_127 : decode cL_isBest 127 = .ok (.goto 4, 3) := by decide +kernel
theorem dL_isBest_130 : decode cL_isBest 130 = .ok (.iconst 0, 1) := by decide +kernel
theorem dL_isBest_131 : decode cL_isBest 131 = .ok (.istore 4, 2) := by decide +kernel
theorem dL_isBest_133 : decode cL_isBest 133 = .ok (.iinc 5 10, 3) := by decide +kernel
theorem dL_isBest_136 : decode cL_isBest 136 = .ok (.goto (-82), 3) := by decide +kernel
theorem dL_isBest_139 : decode cL_isBest 139 = .ok (.iload 4, 2) := by decide +kernel
theorem dL_isBest_141 : decode cL_isBest 141 = .ok (.ifCond .eq 38, 3) := by decide +kernel
theorem dL_isBest_144 : decode cL_isBest 144 = .ok (.iload_n 1, 1) := by decide +kernel
theorem dL_isBest_145 : decode cL_isBest 145 = .ok (.sipush 500, 3) := by decide +kernel
theorem dL_isBest_148 : decode cL_isBest 148 = .ok (.if_icmp .eq 27, 3) := by decide +kernel
theorem dL_isBest_151 : decode cL_isBest 151 = .ok (.aload_n 0, 1) := by decide +kernel
theorem dL_isBest_152 : decode cL_isBest 152 = .ok (.iload_n 1, 1) := by decide +kernel
theorem dL_isBest_153 : decode cL_isBest 153 = .ok (.iconst 1, 1) := by decide +kernel
theorem dL_isBest_154 : decode cL_isBest 154 = .ok (.isub, 1) := by decide +kernel
theorem dL_isBest_155 : decode cL_isBest 155 = .ok (.iconst 0, 1) := by decide +kernel
theorem dL_isBest_156 : decode cL_isBest 156 = .ok (.invokevirtual 54, 3) := by decide +kernel
theorem dL_isBest_159 : decode cL_isBest 159 = .ok (.iload_n 2, 1) := by decide +kernel
theorem dL_isBest_160 : decode cL_isBest 160 = .ok (.if_icmp .lt 15, 3) := by decide +kernel
theorem dL_isBest_163 : decode cL_isBest 163 = .ok (.aload_n 0, 1) := by decide +kernel
theorem dL_isBest_164 : decode cL_isBest 164 = .ok (.iload_n 1, 1) := by decide +kernel
theorem dL_isBest_165 : decode cL_isBest 165 = .ok (.iconst 1, 1) := by decide +kernel
theorem dL_isBest_166 : decode cL_isBest 166 = .ok (.isub, 1) := by decide +kernel
theorem dL_isBest_167 : decode cL_isBest 167 = .ok (.iconst 2, 1) := by decide +kernel
theorem dL_isBest_168 : decode cL_isBest 168 = .ok (.invokevirtual 54, 3) := by decide +kernel
theorem dL_isBest_171 : decode cL_isBest 171 = .ok (.iload_n 3, 1) := by decide +kernel
theorem dL_isBest_172 : decode cL_isBest 172 = .ok (.if_icmp .le 7, 3) := by decide +kernel
theorem dL_isBest_175 : decode cL_isBest 175 = .ok (.iconst 1, 1) := by decide +kernel
theorem dL_isBest_176 : decode cL_isBest 176 = .ok (.goto 4, 3) := by decide +kernel
theorem dL_isBest_179 : decode cL_isBest 179 = .ok (.iconst 0, 1) := by decide +kernel
theorem dL_isBest_180 : decode cL_isBest 180 = .ok (.ireturn, 1) := by decide +kernel
theorem dL_isPlan_0 : decode cL_isPlan 0 = .ok (.aload_n 0, 1) := by decide +kernel
theorem dL_isPlan_1 : decode cL_isPlan 1 = .ok (.invokevirtual 83, 3) := by decide +kernel
theorem dL_isPlan_4 : decode cL_isPlan 4 = .ok (.istore_n 1, 1) := by decide +kernel
theorem dL_isPlan_5 : decode cL_isPlan 5 = .ok (.bipush 6, 2) := by decide +kernel
theorem dL_isPlan_7 : decode cL_isPlan 7 = .ok (.newarray .int, 2) := by decide +kernel
theorem dL_isPlan_9 : decode cL_isPlan 9 = .ok (.astore_n 2, 1) := by decide +kernel
theorem dL_isPlan_10 : decode cL_isPlan 10 = .ok (.sipush 1200, 3) := by decide +kernel
theorem dL_isPlan_13 : decode cL_isPlan 13 = .ok (.istore_n 3, 1) := by decide +kernel
theorem dL_isPlan_14 : decode cL_isPlan 14 = .ok (.iload_n 1, 1) := by decide +kernel
theorem dL_isPlan_15 : decode cL_isPlan 15 = .ok (.bipush (-4), 2) := by decide +kernel
theorem dL_isPlan_17 : decode cL_isPlan 17 = .ok (.if_icmp .eq 9, 3) := by decide +kernel
theorem dL_isPlan_20 : decode cL_isPlan 20 = .ok (.iload_n 1, 1) := by decide +kernel
theorem dL_isPlan_21 : decode cL_isPlan 21 = .ok (.bipush 18, 2) := by decide +kernel
theorem dL_isPlan_23 : decode cL_isPlan 23 = .ok (.if_icmp .gt 7, 3) := by decide +kernel
theorem dL_isPlan_26 : decode cL_isPlan 26 = .ok (.iconst 1, 1) := by decide +kernel
theorem dL_isPlan_27 : decode cL_isPlan 27 = .ok (.goto 4, 3) := by decide +kernel
theorem dL_isPlan_30 : decode cL_isPlan 30 = .ok (.iconst 0, 1) := by decide +kernel
theorem dL_isPlan_31 : decode cL_isPlan 31 = .ok (.istore 4, 2) := by decide +kernel
theorem dL_isPlan_33 : decode cL_isPlan 33 = .ok (.iconst 0, 1) := by decide +kernel
theorem dL_isPlan_34 : decode cL_isPlan 34 = .ok (.istore 5, 2) := by decide +kernel
theorem dL_isPlan_36 : decode cL_isPlan 36 = .ok (.iconst 0, 1) := by decide +kernel
theorem dL_isPlan_37 : decode cL_isPlan 37 = .ok (.istore 6, 2) := by decide +kernel
theorem dL_isPlan_39 : decode cL_isPlan 39 = .ok (.iload 6, 2) := by decide +kernel
theorem dL_isPlan_41 : decode cL_isPlan 41 = .ok (.bipush 6, 2) := by decide +kernel
theorem dL_isPlan_43 : decode cL_isPlan 43 = .ok (.if_icmp .ge 64, 3) := by decide +kernel
theorem dL_isPlan_46 : decode cL_isPlan 46 = .ok (.iconst 0, 1) := by decide +kernel
theorem dL_isPlan_47 : decode cL_isPlan 47 = .ok (.istore 7, 2) := by decide +kernel
theorem dL_isPlan_49 : decode cL_isPlan 49 = .ok (.iconst 0, 1) := by decide +kernel
theorem dL_isPlan_50 : decode cL_isPlan 50 = .ok (.istore 8, 2) := by decide +kernel
theorem dL_isPlan_52 : decode cL_isPlan 52 = .ok (.iload 8, 2) := by decide +kernel
theorem dL_isPlan_54 : decode cL_isPlan 54 = .ok (.iconst 3, 1) := by decide +kernel
theorem dL_isPlan_55 : decode cL_isPlan 55 = .ok (.if_icmp .ge 30, 3) := by decide +kernel
theorem dL_isPlan_58 : decode cL_isPlan 58 = .ok (.iload 7, 2) := by decide +kernel
theorem dL_isPlan_60 : decode cL_isPlan 60 = .ok (.aload_n 0, 1) := by decide +kernel
theorem dL_isPlan_61 : decode cL_isPlan 61 = .ok (.iload 6, 2) := by decide +kernel
theorem dL_isPlan_63 : decode cL_isPlan 63 = .ok (.iload 8, 2) := by decide +kernel
theorem dL_isPlan_65 : decode cL_isPlan 65 = .ok (.invokevirtual 27, 3) := by decide +kernel
theorem dL_isPlan_68 : decode cL_isPlan 68 = .ok (.ifCond .lt 7, 3) := by decide +kernel
theorem dL_isPlan_71 : decode cL_isPlan 71 = .ok (.iconst 1, 1) := by decide +kernel
theorem dL_isPlan_72 : decode cL_isPlan 72 = .ok (.goto 4, 3) := by decide +kernel
theorem dL_isPlan_75 : decode cL_isPlan 75 = .ok (.iconst 0, 1) := by decide +kernel
theorem dL_isPlan_76 : decode cL_isPlan 76 = .ok (.iadd, 1) := by decide +kernel
theorem dL_isPlan_77 : decode cL_isPlan 77 = .ok (.istore 7, 2) := by decide +kernel
theorem dL_isPlan_79 : decode cL_isPlan 79 = .ok (.iinc 8 1, 3) := by decide +kernel
theorem dL_isPlan_82 : decode cL_isPlan 82 = .ok (.goto (-30), 3) := by decide +kernel
theorem dL_isPlan_85 : decode cL_isPlan 85 = .ok (.iload 7, 2) := by decide +kernel
theorem dL_isPlan_87 : decode cL_isPlan 87 = .ok (.iload 5, 2) := by decide +kernel
theorem dL_isPlan_89 : decode cL_isPlan 89 = .ok (.if_icmp .le 8, 3) := by decide +kernel
theorem dL_isPlan_92 : decode cL_isPlan 92 = .ok (.iload 7, 2) := by decide +kernel
theorem dL_isPlan_94 : decode cL_isPlan 94 = .ok (.goto 5, 3) := by decide +kernel
theorem dL_isPlan_97 : decode cL_isPlan 97 = .ok (.iload 5, 2) := by decide +kernel
theorem dL_isPlan_99 : decode cL_isPlan 99 = .ok (.istore 5, 2) := by decide +kernel
theorem dL_isPlan_101 : decode cL_isPlan 101 = .ok (.iinc 6 1, 3) := by decide +kernel
theorem dL_isPlan_104 : decode cL_isPlan 104 = .ok (.goto (-65), 3) := by decide +kernel
theorem dL_isPlan_107 : decode cL_isPlan 107 = .ok (.iload 4, 2) := by decide +kernel
theorem dL_isPlan_109 : decode cL_isPlan 109 = .ok (.ifCond .eq 44, 3) := by decide +kernel
theorem dL_isPlan_112 : decode cL_isPlan 112 = .ok (.iload_n 1, 1) := by decide +kernel
theorem dL_isPlan_113 : decode cL_isPlan 113 = .ok (.bipush (-4), 2) := by decide +kernel
theorem dL_isPlan_115 : decode cL_isPlan 115 = .ok (.if_icmp .eq 19, 3) := by decide +kernel
theorem dL_isPlan_118 : decode cL_isPlan 118 = .ok (.iload_n 1, 1) := by decide +kernel
theorem dL_isPlan_119 : decode cL_isPlan 119 = .ok (.iload 5, 2) := by decide +kernel
theorem dL_isPlan_121 : decode cL_isPlan 121 = .ok (.if_icmp .lt 32, 3) := by decide +kernel
theorem dL_isPlan_124 : decode cL_isPlan 124 = .ok (.iload_n 1, 1) := by decide +kernel
theorem dL_isPlan_125 : decode cL_isPlan 125 = .ok (.aload_n 0, 1) := by decide +kernel
theorem dL_isPlan_126 : decode cL_isPlan 126 = .ok (.bipush 20, 2) := by decide +kernel
theorem dL_isPlan_128 : decode cL_isPlan 128 = .ok (.invokevirtual 13, 3) := by decide +kernel
theorem dL_isPlan_131 : decode cL_isPlan 131 = .ok (.if_icmp .gt 22, 3) := by decide +kernel
theorem dL_isPlan_134 : decode cL_isPlan 134 = .ok (.iload_n 1, 1) := by decide +kernel
theorem dL_isPlan_135 : decode cL_isPlan 135 = .ok (.ifCond .gt 14, 3) := by decide +kernel
theorem dL_isPlan_138 : decode cL_isPlan 138 = .ok (.aload_n 0, 1) := by decide +kernel
theorem dL_isPlan_139 : decode cL_isPlan 139 = .ok (.iconst 0, 1) := by decide +kernel
theorem dL_isPlan_140 : decode cL_isPlan 140 = .ok (.iconst 0, 1) := by decide +kernel
theorem dL_isPlan_141 : decode cL_isPlan 141 = .ok (.invokevirtual 60, 3) := by decide +kernel
theorem dL_isPlan_144 : decode cL_isPlan 144 = .ok (.bipush (-4), 2) := by decide +kernel
theorem dL_isPlan_146 : decode cL_isPlan 146 = .ok (.if_icmp .ne 7, 3) := by decide +kernel
theorem dL_isPlan_149 : decode cL_isPlan 149 = .ok (.iconst 1, 1) := by decide +kernel
theorem dL_isPlan_150 : decode cL_isPlan 150 = .ok (.goto 4, 3) := by decide +kernel
theorem dL_isPlan_153 : decode cL_isPlan 153 = .ok (.iconst 0, 1) := by decide +kernel
theorem dL_isPlan_154 : decode cL_isPlan 154 = .ok (.istore 4, 2) := by decide +kernel
theorem dL_isPlan_156 : decode cL_isPlan 156 = .ok (.iconst 0, 1) := by decide +kernel
theorem dL_isPlan_157 : decode cL_isPlan 157 = .ok (.istore 6, 2) := by decide +kernel
theorem dL_isPlan_159 : decode cL_isPlan 159 = .ok (.iload 6, 2) := by decide +kernel
theorem dL_isPlan_161 : decode cL_isPlan 161 = .ok (.iload_n 1, 1) := by decide +kernel
theorem dL_isPlan_162 : decode cL_isPlan 162 = .ok (.if_icmp .ge 282, 3) := by decide +kernel
theorem dL_isPlan_165 : decode cL_isPlan 165 = .ok (.iload 4, 2) := by decide +kernel
theorem dL_isPlan_167 : decode cL_isPlan 167 = .ok (.ifCond .eq 277, 3) := by decide +kernel
theorem dL_isPlan_170 : decode cL_isPlan 170 = .ok (.aload_n 0, 1) := by decide +kernel
theorem dL_isPlan_171 : decode cL_isPlan 171 = .ok (.iload 6, 2) := by decide +kernel
theorem dL_isPlan_173 : decode cL_isPlan 173 = .ok (.iconst 0, 1) := by decide +kernel
theorem dL_isPlan_174 : decode cL_isPlan 174 = .ok (.invokevirtual 60, 3) := by decide +kernel
theorem dL_isPlan_177 : decode cL_isPlan 177 = .ok (.istore 7, 2) := by decide +kernel
theorem dL_isPlan_179 : decode cL_isPlan 179 = .ok (.aload_n 0, 1) := by decide +kernel
theorem dL_isPlan_180 : decode cL_isPlan 180 = .ok (.iload 6, 2) := by decide +kernel
theorem dL_isPlan_182 : decode cL_isPlan 182 = .ok (.iconst 1, 1) := by decide +kernel
theorem dL_isPlan_183 : decode cL_isPlan 183 = .ok (.invokevirtual 60, 3) := by decide +kernel
theorem dL_isPlan_186 : decode cL_isPlan 186 = .ok (.istore 8, 2) := by decide +kernel
theorem dL_isPlan_188 : decode cL_isPlan 188 = .ok (.iconst 0, 1) := by decide +kernel
theorem dL_isPlan_189 : decode cL_isPlan 189 = .ok (.istore 9, 2) := by decide +kernel
theorem dL_isPlan_191 : decode cL_isPlan 191 = .ok (.iload 7, 2) := by decide +kernel
theorem dL_isPlan_193 : decode cL_isPlan 193 = .ok (.ifCond .le 14, 3) := by decide +kernel
theorem dL_isPlan_196 : decode cL_isPlan 196 = .ok (.iload 7, 2) := by decide +kernel
theorem dL_isPlan_198 : decode cL_isPlan 198 = .ok (.bipush 64, 2) := by decide +kernel
theorem dL_isPlan_200 : decode cL_isPlan 200 = .ok (.if_icmp .ge 7, 3) := by decide +kernel
theorem dL_isPlan_203 : decode cL_isPlan 203 = .ok (.iconst 1, 1) := by decide +kernel
theorem dL_isPlan_204 : decode cL_isPlan 204 = .ok (.goto 4, 3) := by decide +kernel
theorem dL_isPlan_207 : decode cL_isPlan 207 = .ok (.iconst 0, 1) := by decide +kernel
theorem dL_isPlan_208 : decode cL_isPlan 208 = .ok (.istore 4, 2) := by decide +kernel
theorem dL_isPlan_210 : decode cL_isPlan 210 = .ok (.iconst 0, 1) := by decide +kernel
theorem dL_isPlan_211 : decode cL_isPlan 211 = .ok (.istore 10, 2) := by decide +kernel
theorem dL_isPlan_213 : decode cL_isPlan 213 = .ok (.iload 10, 2) := by decide +kernel
theorem dL_isPlan_215 : decode cL_isPlan 215 = .ok (.bipush 6, 2) := by decide +kernel
theorem dL_isPlan_217 : decode cL_isPlan 217 = .ok (.if_icmp .ge 134, 3) := by decide +kernel
theorem dL_isPlan_220 : decode cL_isPlan 220 = .ok (.iload 4, 2) := by decide +kernel
theorem dL_isPlan_222 : decode cL_isPlan 222 = .ok (.ifCond .eq 129, 3) := by decide +kernel
theorem dL_isPlan_225 : decode cL_isPlan 225 = .ok (.iload 7, 2) := by decide +kernel
theorem dL_isPlan_227 : decode cL_isPlan 227 = .ok (.iload 10, 2) := by decide +kernel
theorem dL_isPlan_229 : decode cL_isPlan 229 = .ok (.ishr, 1) := by decide +kernel
theorem dL_isPlan_230 : decode cL_isPlan 230 = .ok (.iconst 1, 1) := by decide +kernel
theorem dL_isPlan_231 : decode cL_isPlan 231 = .ok (.iand, 1) := by decide +kernel
theorem dL_isPlan_232 : decode cL_isPlan 232 = .ok (.iconst 1, 1) := by decide +kernel
theorem dL_isPlan_233 : decode cL_isPlan 233 = .ok (.if_icmp .ne 112, 3) := by decide +kernel
theorem dL_isPlan_236 : decode cL_isPlan 236 = .ok (.aload_n 0, 1) := by decide +kernel
theorem dL_isPlan_237 : decode cL_isPlan 237 = .ok (.iload 10, 2) := by decide +kernel
theorem dL_isPlan_239 : decode cL_isPlan 239 = .ok (.aload_n 2, 1) := by decide +kernel
theorem dL_isPlan_240 : decode cL_isPlan 240 = .ok (.iload 10, 2) := by decide +kernel
theorem dL_isPlan_242 : decode cL_isPlan 242 = .ok (.iaload, 1) := by decide +kernel
theorem dL_isPlan_243 : decode cL_isPlan 243 = .ok (.invokevirtual 27, 3) := by decide +kernel
theorem dL_isPlan_246 : decode cL_isPlan 246 = .ok (.istore 11, 2) := by decide +kernel
theorem dL_isPlan_248 : decode cL_isPlan 248 = .ok (.iload 11, 2) := by decide +kernel
theorem dL_isPlan_250 : decode cL_isPlan 250 = .ok (.ifCond .lt 31, 3) := by decide +kernel
theorem dL_isPlan_253 : decode cL_isPlan 253 = .ok (.iload 8, 2) := by decide +kernel
theorem dL_isPlan_255 : decode cL_isPlan 255 = .ok (.aload_n 0, 1) := by decide +kernel
theorem dL_isPlan_256 : decode cL_isPlan 256 = .ok (.iload 11, 2) := by decide +kernel
theorem dL_isPlan_258 : decode cL_isPlan 258 = .ok (.iconst 0, 1) := by decide +kernel
theorem dL_isPlan_259 : decode cL_isPlan 259 = .ok (.invokevirtual 30, 3) := by decide +kernel
theorem dL_isPlan_262 : decode cL_isPlan 262 = .ok (.if_icmp .lt 19, 3) := by decide +kernel
theorem dL_isPlan_265 : decode cL_isPlan 265 = .ok (.iload 8, 2) := by decide +kernel
theorem dL_isPlan_267 : decode cL_isPlan 267 = .ok (.aload_n 0, 1) := by decide +kernel
theorem dL_isPlan_268 : decode cL_isPlan 268 = .ok (.iload 11, 2) := by decide +kernel
theorem dL_isPlan_270 : decode cL_isPlan 270 = .ok (.iconst 1, 1) := by decide +kernel
theorem dL_isPlan_271 : decode cL_isPlan 271 = .ok (.invokevirtual 30, 3) := by decide +kernel
theorem dL_isPlan_274 : decode cL_isPlan 274 = .ok (.if_icmp .gt 7, 3) := by decide +kernel
theorem dL_isPlan_277 : decode cL_isPlan 277 = .ok (.iconst 1, 1) := by decide +kernel
theorem dL_isPlan_278 : decode cL_isPlan 278 = .ok (.goto 4, 3) := by decide +kernel
theorem dL_isPlan_281 : decode cL_isPlan 281 = .ok (.iconst 0, 1) := by decide +kernel
theorem dL_isPlan_282 : decode cL_isPlan 282 = .ok (.istore 4, 2) := by decide +kernel
theorem dL_isPlan_284 : decode cL_isPlan 284 = .ok (.aload_n 0, 1) := by decide +kernel
theorem dL_isPlan_285 : decode cL_isPlan 285 = .ok (.iload 11, 2) := by decide +kernel
theorem dL_isPlan_287 : decode cL_isPlan 287 = .ok (.iconst 0, 1) := by decide +kernel
theorem dL_isPlan_288 : decode cL_isPlan 288 = .ok (.invokevirtual 30, 3) := by decide +kernel
theorem dL_isPlan_291 : decode cL_isPlan 291 = .ok (.istore 12, 2) := by decide +kernel
theorem dL_isPlan_293 : decode cL_isPlan 293 = .ok (.aload_n 0, 1) := by decide +kernel
theorem dL_isPlan_294 : decode cL_isPlan 294 = .ok (.iload 11, 2) := by decide +kernel
theorem dL_isPlan_296 : decode cL_isPlan 296 = .ok (.iconst 1, 1) := by decide +kernel
theorem dL_isPlan_297 : decode cL_isPlan 297 = .ok (.invokevirtual 30, 3) := by decide +kernel
theorem dL_isPlan_300 : decode cL_isPlan 300 = .ok (.istore 13, 2) := by decide +kernel
theorem dL_isPlan_302 : decode cL_isPlan 302 = .ok (.iload 12, 2) := by decide +kernel
theorem dL_isPlan_304 : decode cL_isPlan 304 = .ok (.iload 9, 2) := by decide +kernel
theorem dL_isPlan_306 : decode cL_isPlan 306 = .ok (.if_icmp .le 8, 3) := by decide +kernel
theorem dL_isPlan_309 : decode cL_isPlan 309 = .ok (.iload 12, 2) := by decide +kernel
theorem dL_isPlan_311 : decode cL_isPlan 311 = .ok (.goto 5, 3) := by decide +kernel
theorem dL_isPlan_314 : decode cL_isPlan 314 = .ok (.iload 9, 2) := by decide +kernel
theorem dL_isPlan_316 : decode cL_isPlan 316 = .ok (.istore 9, 2) := by decide +kernel
theorem dL_isPlan_318 : decode cL_isPlan 318 = .ok (.aload_n 2, 1) := by decide +kernel
theorem dL_isPlan_319 : decode cL_isPlan 319 = .ok (.iload 10, 2) := by decide +kernel
theorem dL_isPlan_321 : decode cL_isPlan 321 = .ok (.dup2, 1) := by decide +kernel
theorem dL_isPlan_322 : decode cL_isPlan 322 = .ok (.iaload, 1) := by decide +kernel
theorem dL_isPlan_323 : decode cL_isPlan 323 = .ok (.iconst 1, 1) := by decide +kernel
theorem dL_isPlan_324 : decode cL_isPlan 324 = .ok (.iadd, 1) := by decide +kernel
theorem dL_isPlan_325 : decode cL_isPlan 325 = .ok (.iastore, 1) := by decide +kernel
theorem dL_isPlan_326 : decode cL_isPlan 326 = .ok (.iload 4, 2) := by decide +kernel
theorem dL_isPlan_328 : decode cL_isPlan 328 = .ok (.ifCond .eq 14, 3) := by decide +kernel
theorem dL_isPlan_331 : decode cL_isPlan 331 = .ok (.iload 8, 2) := by decide +kernel
theorem dL_isPlan_333 : decode cL_isPlan 333 = .ok (.iload 13, 2) := by decide +kernel
theorem dL_isPlan_335 : decode cL_isPlan 335 = .ok (.if_icmp .gt 7, 3) := by decide +kernel
theorem dL_isPlan_338 : decode cL_isPlan 338 = .ok (.iconst 1, 1) := by decide +kernel
theorem dL_isPlan_339 : decode cL_isPlan 339 = .ok (.goto 4, 3) := by decide +kernel
theorem dL_isPlan_342 : decode cL_isPlan 342 = .ok (.iconst 0, 1) := by decide +kernel
theorem dL_isPlan_343 : decode cL_isPlan 343 = .ok (.istore 4, 2) := by decide +kernel
theorem dL_isPlan_345 : decode cL_isPlan 345 = .ok (.iinc 10 1, 3) := by decide +kernel
theorem dL_isPlan_348 : decode cL_isPlan 348 = .ok (.goto (-135), 3) := by decide +kernel
theorem dL_isPlan_351 : decode cL_isPlan 351 = .ok (.iload 4, 2) := by decide +kernel
theorem dL_isPlan_353 : decode cL_isPlan 353 = .ok (.ifCond .eq 20, 3) := by decide +kernel
theorem dL_isPlan_356 : decode cL_isPlan 356 = .ok (.iload 8, 2) := by decide +kernel
theorem dL_isPlan_358 : decode cL_isPlan 358 = .ok (.iload 9, 2) := by decide +kernel
theorem dL_isPlan_360 : decode cL_isPlan 360 = .ok (.if_icmp .ne 13, 3) := by decide +kernel
theorem dL_isPlan_363 : decode cL_isPlan 363 = .ok (.iload 8, 2) := by decide +kernel
theorem dL_isPlan_365 : decode cL_isPlan 365 = .ok (.iload_n 3, 1) := by decide +kernel
theorem dL_isPlan_366 : decode cL_isPlan 366 = .ok (.if_icmp .gt 7, 3) := by decide +kernel
theorem dL_isPlan_369 : decode cL_isPlan 369 = .ok (.iconst 1, 1) := by decide +kernel
theorem dL_isPlan_370 : decode cL_isPlan 370 = .ok (.goto 4, 3) := by decide +kernel
theorem dL_isPlan_373 : decode cL_isPlan 373 = .ok (.iconst 0, 1) := by decide +kernel
theorem dL_isPlan_374 : decode cL_isPlan 374 = .ok (.istore 4, 2) := by decide +kernel
theorem dL_isPlan_376 : decode cL_isPlan 376 = .ok (.iconst 0, 1) := by decide +kernel
theorem dL_isPlan_377 : decode cL_isPlan 377 = .ok (.istore 10, 2) := by decide +kernel
theorem dL_isPlan_379 : decode cL_isPlan 379 = .ok (.iload 10, 2) := by decide +kernel
theorem dL_isPlan_381 : decode cL_isPlan 381 = .ok (.bipush 6, 2) := by decide +kernel
theorem dL_isPlan_383 : decode cL_isPlan 383 = .ok (.if_icmp .ge 55, 3) := by decide +kernel
theorem dL_isPlan_386 : decode cL_isPlan 386 = .ok (.iconst 0, 1) := by decide +kernel
theorem dL_isPlan_387 : decode cL_isPlan 387 = .ok (.istore 11, 2) := by decide +kernel
theorem dL_isPlan_389 : decode cL_isPlan 389 = .ok (.iload 11, 2) := by decide +kernel
theorem dL_isPlan_391 : decode cL_isPlan 391 = .ok (.aload_n 2, 1) := by decide +kernel
theorem dL_isPlan_392 : decode cL_isPlan 392 = .ok (.iload 10, 2) := by decide +kernel
theorem dL_isPlan_394 : decode cL_isPlan 394 = .ok (.iaload, 1) := by decide +kernel
theorem dL_isPlan_395 : decode cL_isPlan 395 = .ok (.if_icmp .ge 37, 3) := by decide +kernel
theorem dL_isPlan_398 : decode cL_isPlan 398 = .ok (.aload_n 0, 1) := by decide +kernel
theorem dL_isPlan_399 : decode cL_isPlan 399 = .ok (.aload_n 0, 1) := by decide +kernel
theorem dL_isPlan_400 : decode cL_isPlan 400 = .ok (.iload 10, 2) := by decide +kernel
theorem dL_isPlan_402 : decode cL_isPlan 402 = .ok (.iload 11, 2) := by decide +kernel
theorem dL_isPlan_404 : decode cL_isPlan 404 = .ok (.invokevirtual 27, 3) := by decide +kernel
theorem dL_isPlan_407 : decode cL_isPlan 407 = .ok (.iconst 1, 1) := by decide +kernel
theorem dL_isPlan_408 : decode cL_isPlan 408 = .ok (.invokevirtual 30, 3) := by decide +kernel
theorem dL_isPlan_411 : decode cL_isPlan 411 = .ok (.istore 12, 2) := by decide +kernel
theorem dL_isPlan_413 : decode cL_isPlan 413 = .ok (.iload 12, 2) := by decide +kernel
theorem dL_isPlan_415 : decode cL_isPlan 415 = .ok (.iload_n 3, 1) := by decide +kernel
theorem dL_isPlan_416 : decode cL_isPlan 416 = .ok (.if_icmp .ge 8, 3) := by decide +kernel
theorem dL_isPlan_419 : decode cL_isPlan 419 = .ok (.iload 12, 2) := by decide +kernel
theorem dL_isPlan_421 : decode cL_isPlan 421 = .ok (.goto 4, 3) := by decide +kernel
theorem dL_isPlan_424 : decode cL_isPlan 424 = .ok (.iload_n 3, 1) := by decide +kernel
theorem dL_isPlan_425 : decode cL_isPlan 425 = .ok (.istore_n 3, 1) := by decide +kernel
theorem dL_isPlan_426 : decode cL_isPlan 426 = .ok (.iinc 11 1, 3) := by decide +kernel
theorem dL_isPlan_429 : decode cL_isPlan 429 = .ok (.goto (-40), 3) := by decide +kernel
theorem dL_isPlan_432 : decode cL_isPlan 432 = .ok (.iinc 10 1, 3) := by decide +kernel
theorem dL_isPlan_435 : decode cL_isPlan 435 = .ok (.goto (-56), 3) := by decide +kernel
theorem dL_isPlan_438 : decode cL_isPlan 438 = .ok (.iinc 6 1, 3) := by decide +kernel
theorem dL_isPlan_441 : decode cL_isPlan 441 = .ok (.goto (-282), 3) := by decide +kernel
theorem dL_isPlan_444 : decode cL_isPlan 444 = .ok (.iconst 0, 1) := by decide +kernel
theorem dL_isPlan_445 : decode cL_isPlan 445 = .ok (.istore 6, 2) := by decide +kernel
theorem dL_isPlan_447 : decode cL_isPlan 447 = .ok (.iload 6, 2) := by decide +kernel
theorem dL_isPlan_449 : decode cL_isPlan 449 = .ok (.bipush 6, 2) := by decide +kernel
theorem dL_isPlan_451 : decode cL_isPlan 451 = .ok (.if_icmp .ge 40, 3) := by decide +kernel
theorem dL_isPlan_454 : decode cL_isPlan 454 = .ok (.iload 4, 2) := by decide +kernel
theorem dL_isPlan_456 : decode cL_isPlan 456 = .ok (.ifCond .eq 35, 3) := by decide +kernel
theorem dL_isPlan_459 : decode cL_isPlan 459 = .ok (.iload_n 1, 1) := by decide +kernel
theorem dL_isPlan_460 : decode cL_isPlan 460 = .ok (.ifCond .lt 31, 3) := by decide +kernel
theorem dL_isPlan_463 : decode cL_isPlan 463 = .ok (.aload_n 0, 1) := by decide +kernel
theorem dL_isPlan_464 : decode cL_isPlan 464 = .ok (.iload 6, 2) := by decide +kernel
theorem dL_isPlan_466 : decode cL_isPlan 466 = .ok (.aload_n 2, 1) := by decide +kernel
theorem dL_isPlan_467 : decode cL_isPlan 467 = .ok (.iload 6, 2) := by decide +kernel
theorem dL_isPlan_469 : decode cL_isPlan 469 = .ok (.iaload, 1) := by decide +kernel
theorem dL_isPlan_470 : decode cL_isPlan 470 = .ok (.invokevirtual 27, 3) := by decide +kernel
theorem dL_isPlan_473 : decode cL_isPlan 473 = .ok (.bipush (-4), 2) := by decide +kernel
theorem dL_isPlan_475 : decode cL_isPlan 475 = .ok (.if_icmp .ne 7, 3) := by decide +kernel
theorem dL_isPlan_478 : decode cL_isPlan 478 = .ok (.iconst 1, 1) := by decide +kernel
theorem dL_isPlan_479 : decode cL_isPlan 479 = .ok (.goto 4, 3) := by decide +kernel
theorem dL_isPlan_482 : decode cL_isPlan 482 = .ok (.iconst 0, 1) := by decide +kernel
theorem dL_isPlan_483 : decode cL_isPlan 483 = .ok (.istore 4, 2) := by decide +kernel
theorem dL_isPlan_485 : decode cL_isPlan 485 = .ok (.iinc 6 1, 3) := by decide +kernel
theorem dL_isPlan_488 : decode cL_isPlan 488 = .ok (.goto (-41), 3) := by decide +kernel
theorem dL_isPlan_491 : decode cL_isPlan 491 = .ok (.iload 4, 2) := by decide +kernel
theorem dL_isPlan_493 : decode cL_isPlan 493 = .ok (.ifCond .eq 22, 3) := by decide +kernel
theorem dL_isPlan_496 : decode cL_isPlan 496 = .ok (.iload_n 1, 1) := by decide +kernel
theorem dL_isPlan_497 : decode cL_isPlan 497 = .ok (.ifCond .lt 14, 3) := by decide +kernel
theorem dL_isPlan_500 : decode cL_isPlan 500 = .ok (.aload_n 0, 1) := by decide +kernel
theorem dL_isPlan_501 : decode cL_isPlan 501 = .ok (.iload_n 1, 1) := by decide +kernel
theorem dL_isPlan_502 : decode cL_isPlan 502 = .ok (.iconst 1, 1) := by decide +kernel
theorem dL_isPlan_503 : decode cL_isPlan 503 = .ok (.invokevirtual 60, 3) := by decide +kernel
theorem dL_isPlan_506 : decode cL_isPlan 506 = .ok (.bipush (-4), 2) := by decide +kernel
theorem dL_isPlan_508 : decode cL_isPlan 508 = .ok (.if_icmp .ne 7, 3) := by decide +kernel
theorem dL_isPlan_511 : decode cL_isPlan 511 = .ok (.iconst 1, 1) := by decide +kernel
theorem dL_isPlan_512 : decode cL_isPlan 512 = .ok (.goto 4, 3) := by decide +kernel
theorem dL_isPlan_515 : decode cL_isPlan 515 = .ok (.iconst 0, 1) := by decide +kernel
theorem dL_isPlan_516 : decode cL_isPlan 516 = .ok (.ireturn, 1) := by decide +kernel
theorem dL_isCounter_0 : decode cL_isCounter 0 = .ok (.aload_n 0, 1) := by decide +kernel
theorem dL_isCounter_1 : decode cL_isCounter 1 = .ok (.invokevirtual 86, 3) := by decide +kernel
theorem dL_isCounter_4 : decode cL_isCounter 4 = .ok (.istore_n 1, 1) := by decide +kernel
theorem dL_isCounter_5 : decode cL_isCounter 5 = .ok (.iload_n 1, 1) := by decide +kernel
theorem dL_isCounter_6 : decode cL_isCounter 6 = .ok (.bipush (-4), 2) := by decide +kernel
theorem dL_isCounter_8 : decode cL_isCounter 8 = .ok (.if_icmp .ne 17, 3) := by decide +kernel
theorem dL_isCounter_11 : decode cL_isCounter 11 = .ok (.aload_n 0, 1) := by decide +kernel
theorem dL_isCounter_12 : decode cL_isCounter 12 = .ok (.iconst 0, 1) := by decide +kernel
theorem dL_isCounter_13 : decode cL_isCounter 13 = .ok (.invokevirtual 13, 3) := by decide +kernel
theorem dL_isCounter_16 : decode cL_isCounter 16 = .ok (.ifCond .ne 7, 3) := by decide +kernel
theorem dL_isCounter_19 : decode cL_isCounter 19 = .ok (.iconst 1, 1) := by decide +kernel
theorem dL_isCounter_20 : decode cL_isCounter 20 = .ok (.goto 4, 3) := by decide +kernel
theorem dL_isCounter_23 : decode cL_isCounter 23 = .ok (.iconst 0, 1) := by decide +kernel
theorem dL_isCounter_24 : decode cL_isCounter 24 = .ok (.ireturn, 1) := by decide +kernel
theorem dL_isCounter_25 : decode cL_isCounter 25 = .ok (.iconst 0, 1) := by decide +kernel
theorem dL_isCounter_26 : decode cL_isCounter 26 = .ok (.istore_n 2, 1) := by decide +kernel
theorem dL_isCounter_27 : decode cL_isCounter 27 = .ok (.iconst 0, 1) := by decide +kernel
theorem dL_isCounter_28 : decode cL_isCounter 28 = .ok (.istore_n 3, 1) := by decide +kernel
theorem dL_isCounter_29 : decode cL_isCounter 29 = .ok (.iload_n 3, 1) := by decide +kernel
theorem dL_isCounter_30 : decode cL_isCounter 30 = .ok (.iconst 2, 1) := by decide +kernel
theorem dL_isCounter_31 : decode cL_isCounter 31 = .ok (.if_icmp .ge 131, 3) := by decide +kernel
theorem dL_isCounter_34 : decode cL_isCounter 34 = .ok (.iconst 0, 1) := by decide +kernel
theorem dL_isCounter_35 : decode cL_isCounter 35 = .ok (.istore 4, 2) := by decide +kernel
theorem dL_isCounter_37 : decode cL_isCounter 37 = .ok (.iload 4, 2) := by decide +kernel
theorem dL_isCounter_39 : decode cL_isCounter 39 = .ok (.aload_n 0, 1) := by decide +kernel
theorem dL_isCounter_40 : decode cL_isCounter 40 = .ok (.iconst 0, 1) := by decide +kernel
theorem dL_isCounter_41 : decode cL_isCounter 41 = .ok (.invokevirtual 13, 3) := by decide +kernel
theorem dL_isCounter_44 : decode cL_isCounter 44 = .ok (.if_icmp .ge 112, 3) := by decide +kernel
theorem dL_isCounter_47 : decode cL_isCounter 47 = .ok (.iconst 0, 1) := by decide +kernel
theorem dL_isCounter_48 : decode cL_isCounter 48 = .ok (.istore 5, 2) := by decide +kernel
theorem dL_isCounter_50 : decode cL_isCounter 50 = .ok (.iconst 0, 1) := by decide +kernel
theorem dL_isCounter_51 : decode cL_isCounter 51 = .ok (.istore 6, 2) := by decide +kernel
theorem dL_isCounter_53 : decode cL_isCounter 53 = .ok (.iload 6, 2) := by decide +kernel
theorem dL_isCounter_55 : decode cL_isCounter 55 = .ok (.bipush 6, 2) := by decide +kernel
theorem dL_isCounter_57 : decode cL_isCounter 57 = .ok (.if_icmp .ge 53, 3) := by decide +kernel
theorem dL_isCounter_60 : decode cL_isCounter 60 = .ok (.aload_n 0, 1) := by decide +kernel
theorem dL_isCounter_61 : decode cL_isCounter 61 = .ok (.iload 6, 2) := by decide +kernel
theorem dL_isCounter_63 : decode cL_isCounter 63 = .ok (.iconst 1, 1) := by decide +kernel
theorem dL_isCounter_64 : decode cL_isCounter 64 = .ok (.invokevirtual 23, 3) := by decide +kernel
theorem dL_isCounter_67 : decode cL_isCounter 67 = .ok (.aload_n 0, 1) := by decide +kernel
theorem dL_isCounter_68 : decode cL_isCounter 68 = .ok (.bipush 6, 2) := by decide +kernel
theorem dL_isCounter_70 : decode cL_isCounter 70 = .ok (.iconst 1, 1) := by decide +kernel
theorem dL_isCounter_71 : decode cL_isCounter 71 = .ok (.invokevirtual 23, 3) := by decide +kernel
theorem dL_isCounter_74 : decode cL_isCounter 74 = .ok (.isub, 1) := by decide +kernel
theorem dL_isCounter_75 : decode cL_isCounter 75 = .ok (.aload_n 0, 1) := by decide +kernel
theorem dL_isCounter_76 : decode cL_isCounter 76 = .ok (.iload 4, 2) := by decide +kernel
theorem dL_isCounter_78 : decode cL_isCounter 78 = .ok (.iconst 3, 1) := by decide +kernel
theorem dL_isCounter_79 : decode cL_isCounter 79 = .ok (.invokevirtual 30, 3) := by decide +kernel
theorem dL_isCounter_82 : decode cL_isCounter 82 = .ok (.isub, 1) := by decide +kernel
theorem dL_isCounter_83 : decode cL_isCounter 83 = .ok (.invokestatic 69, 3) := by decide +kernel
theorem dL_isCounter_86 : decode cL_isCounter 86 = .ok (.istore 7, 2) := by decide +kernel
theorem dL_isCounter_88 : decode cL_isCounter 88 = .ok (.iload 7, 2) := by decide +kernel
theorem dL_isCounter_90 : decode cL_isCounter 90 = .ok (.iload 5, 2) := by decide +kernel
theorem dL_isCounter_92 : decode cL_isCounter 92 = .ok (.if_icmp .le 8, 3) := by decide +kernel
theorem dL_isCounter_95 : decode cL_isCounter 95 = .ok (.iload 7, 2) := by decide +kernel
theorem dL_isCounter_97 : decode cL_isCounter 97 = .ok (.goto 5, 3) := by decide +kernel
theorem dL_isCounter_100 : decode cL_isCounter 100 = .ok (.iload 5, 2) := by decide +kernel
theorem dL_isCounter_102 : decode cL_isCounter 102 = .ok (.istore 5, 2) := by decide +kernel
theorem dL_isCounter_104 : decode cL_isCounter 104 = .ok (.iinc 6 1, 3) := by decide +kernel
theorem dL_isCounter_107 : decode cL_isCounter 107 = .ok (.goto (-54), 3) := by decide +kernel
theorem dL_isCounter_110 : decode cL_isCounter 110 = .ok (.iload_n 3, 1) := by decide +kernel
theorem dL_isCounter_111 : decode cL_isCounter 111 = .ok (.ifCond .ne 19, 3) := by decide +kernel
theorem dL_isCounter_114 : decode cL_isCounter 114 = .ok (.iload 4, 2) := by decide +kernel
theorem dL_isCounter_116 : decode cL_isCounter 116 = .ok (.iload_n 1, 1) := by decide +kernel
theorem dL_isCounter_117 : decode cL_isCounter 117 = .ok (.if_icmp .ne 8, 3) := by decide +kernel
theorem dL_isCounter_120 : decode cL_isCounter 120 = .ok (.iload 5, 2) := by decide +kernel
theorem dL_isCounter_122 : decode cL_isCounter 122 = .ok (.goto 4, 3) := by decide +kernel
theorem dL_isCounter_125 : decode cL_isCounter 125 = .ok (.iload_n 2, 1) := by decide +kernel
theorem dL_isCounter_126 : decode cL_isCounter 126 = .ok (.istore_n 2, 1) := by decide +kernel
theorem dL_isCounter_127 : decode cL_isCounter 127 = .ok (.goto 23, 3) := by decide +kernel
theorem dL_isCounter_130 : decode cL_isCounter 130 = .ok (.iload 5, 2) := by decide +kernel
theorem dL_isCounter_132 : decode cL_isCounter 132 = .ok (.iload_n 2, 1) := by decide +kernel
theorem dL_isCounter_133 : decode cL_isCounter 133 = .ok (.if_icmp .lt 15, 3) := by decide +kernel
theorem dL_isCounter_136 : decode cL_isCounter 136 = .ok (.iload 5, 2) := by decide +kernel
theorem dL_isCounter_138 : decode cL_isCounter 138 = .ok (.iload_n 2, 1) := by decide +kernel
theorem dL_isCounter_139 : decode cL_isCounter 139 = .ok (.if_icmp .ne 11, 3) := by decide +kernel
theorem dL_isCounter_142 : decode cL_isCounter 142 = .ok (.iload 4, 2) := by decide +kernel
theorem dL_isCounter_144 : decode cL_isCounter 144 = .ok (.iload_n 1, 1) := by decide +kernel
theorem dL_isCounter_145 : decode cL_isCounter 145 = .ok (.if_icmp .ge 5, 3) := by decide +kernel
theorem dL_isCounter_148 : decode cL_isCounter 148 = .ok (.iconst 0, 1) := by decide +kernel
theorem dL_isCounter_149 : decode cL_isCounter 149 = .ok (.ireturn, 1) := by decide +kernel
theorem dL_isCounter_150 : decode cL_isCounter 150 = .ok (.iinc 4 1, 3) := by decide +kernel
theorem dL_isCounter_153 : decode cL_isCounter 153 = .ok (.goto (-116), 3) := by decide +kernel
theorem dL_isCounter_156 : decode cL_isCounter 156 = .ok (.iinc 3 1, 3) := by decide +kernel
theorem dL_isCounter_159 : decode cL_isCounter 159 = .ok (.goto (-130), 3) := by decide +kernel
theorem dL_isCounter_162 : decode cL_isCounter 162 = .ok (.iconst 1, 1) := by decide +kernel
theorem dL_isCounter_163 : decode cL_isCounter 163 = .ok (.ireturn, 1) := by decide +kernel
theorem dL_acts_0 : decode cL_acts 0 = .ok (.aload_n 0, 1) := by decide +kernel
theorem dL_acts_1 : decode cL_acts 1 = .ok (.iconst 0, 1) := by decide +kernel
theorem dL_acts_2 : decode cL_acts 2 = .ok (.invokevirtual 13, 3) := by decide +kernel
theorem dL_acts_5 : decode cL_acts 5 = .ok (.istore_n 3, 1) := by decide +kernel
theorem dL_acts_6 : decode cL_acts 6 = .ok (.iload_n 3, 1) := by decide +kernel
theorem dL_acts_7 : decode cL_acts 7 = .ok (.ifCond .ne 7, 3) := by decide +kernel
theorem dL_acts_10 : decode cL_acts 10 = .ok (.iconst 0, 1) := by decide +kernel
theorem dL_acts_11 : decode cL_acts 11 = .ok (.goto 9, 3) := by decide +kernel
theorem dL_acts_14 : decode cL_acts 14 = .ok (.iload_n 2, 1) := by decide +kernel
theorem dL_acts_15 : decode cL_acts 15 = .ok (.bipush 7, 2) := by decide +kernel
theorem dL_acts_17 : decode cL_acts 17 = .ok (.idiv, 1) := by decide +kernel
theorem dL_acts_18 : decode cL_acts 18 = .ok (.iload_n 3, 1) := by decide +kernel
theorem dL_acts_19 : decode cL_acts 19 = .ok (.irem, 1) := by decide +kernel
theorem dL_acts_20 : decode cL_acts 20 = .ok (.istore 4, 2) := by decide +kernel
theorem dL_acts_22 : decode cL_acts 22 = .ok (.iload_n 1, 1) := by decide +kernel
theorem dL_acts_23 : decode cL_acts 23 = .ok (.bipush 20, 2) := by decide +kernel
theorem dL_acts_25 : decode cL_acts 25 = .ok (.invokestatic 89, 3) := by decide +kernel
theorem dL_acts_28 : decode cL_acts 28 = .ok (.tableswitch 245 0 12 #[68, 131, 131, 131, 131, 131, 131, 142, 151, 173, 220, 220, 220], 68) := by decide +kernel
theorem dL_acts_96 : decode cL_acts 96 = .ok (.sipush 600, 3) := by decide +kernel
theorem dL_acts_99 : decode cL_acts 99 = .ok (.iload_n 2, 1) := by decide +kernel
theorem dL_acts_100 : decode cL_acts 100 = .ok (.sipush 301, 3) := by decide +kernel
theorem dL_acts_103 : decode cL_acts 103 = .ok (.irem, 1) := by decide +kernel
theorem dL_acts_104 : decode cL_acts 104 = .ok (.iadd, 1) := by decide +kernel
theorem dL_acts_105 : decode cL_acts 105 = .ok (.istore 5, 2) := by decide +kernel
theorem dL_acts_107 : decode cL_acts 107 = .ok (.iload_n 3, 1) := by decide +kernel
theorem dL_acts_108 : decode cL_acts 108 = .ok (.bipush 6, 2) := by decide +kernel
theorem dL_acts_110 : decode cL_acts 110 = .ok (.if_icmp .le 7, 3) := by decide +kernel
theorem dL_acts_113 : decode cL_acts 113 = .ok (.iconst (-1), 1) := by decide +kernel
theorem dL_acts_114 : decode cL_acts 114 = .ok (.goto 44, 3) := by decide +kernel
theorem dL_acts_117 : decode cL_acts 117 = .ok (.aload_n 0, 1) := by decide +kernel
theorem dL_acts_118 : decode cL_acts 118 = .ok (.iload 5, 2) := by decide +kernel
theorem dL_acts_120 : decode cL_acts 120 = .ok (.iload 5, 2) := by decide +kernel
theorem dL_acts_122 : decode cL_acts 122 = .ok (.bipush 10, 2) := by decide +kernel
theorem dL_acts_124 : decode cL_acts 124 = .ok (.iadd, 1) := by decide +kernel
theorem dL_acts_125 : decode cL_acts 125 = .ok (.iload_n 2, 1) := by decide +kernel
theorem dL_acts_126 : decode cL_acts 126 = .ok (.sipush 301, 3) := by decide +kernel
theorem dL_acts_129 : decode cL_acts 129 = .ok (.idiv, 1) := by decide +kernel
theorem dL_acts_130 : decode cL_acts 130 = .ok (.iload_n 2, 1) := by decide +kernel
theorem dL_acts_131 : decode cL_acts 131 = .ok (.iconst 2, 1) := by decide +kernel
theorem dL_acts_132 : decode cL_acts 132 = .ok (.irem, 1) := by decide +kernel
theorem dL_acts_133 : decode cL_acts 133 = .ok (.ifCond .ne 8, 3) := by decide +kernel
theorem dL_acts_136 : decode cL_acts 136 = .ok (.bipush 40, 2) := by decide +kernel
theorem dL_acts_138 : decode cL_acts 138 = .ok (.goto 6, 3) := by decide +kernel
theorem dL_acts_141 : decode cL_acts 141 = .ok (.sipush 191, 3) := by decide +kernel
theorem dL_acts_144 : decode cL_acts 144 = .ok (.irem, 1) := by decide +kernel
theorem dL_acts_145 : decode cL_acts 145 = .ok (.iadd, 1) := by decide +kernel
theorem dL_acts_146 : decode cL_acts 146 = .ok (.bipush 60, 2) := by decide +kernel
theorem dL_acts_148 : decode cL_acts 148 = .ok (.iload_n 2, 1) := by decide +kernel
theorem dL_acts_149 : decode cL_acts 149 = .ok (.iconst 5, 1) := by decide +kernel
theorem dL_acts_150 : decode cL_acts 150 = .ok (.idiv, 1) := by decide +kernel
theorem dL_acts_151 : decode cL_acts 151 = .ok (.bipush 101, 2) := by decide +kernel
theorem dL_acts_153 : decode cL_acts 153 = .ok (.irem, 1) := by decide +kernel
theorem dL_acts_154 : decode cL_acts 154 = .ok (.iadd, 1) := by decide +kernel
theorem dL_acts_155 : decode cL_acts 155 = .ok (.invokevirtual 39, 3) := by decide +kernel
theorem dL_acts_158 : decode cL_acts 158 = .ok (.ireturn, 1) := by decide +kernel
theorem dL_acts_159 : decode cL_acts 159 = .ok (.aload_n 0, 1) := by decide +kernel
theorem dL_acts_160 : decode cL_acts 160 = .ok (.iload_n 2, 1) := by decide +kernel
theorem dL_acts_161 : decode cL_acts 161 = .ok (.bipush 7, 2) := by decide +kernel
theorem dL_acts_163 : decode cL_acts 163 = .ok (.irem, 1) := by decide +kernel
theorem dL_acts_164 : decode cL_acts 164 = .ok (.iload 4, 2) := by decide +kernel
theorem dL_acts_166 : decode cL_acts 166 = .ok (.invokevirtual 42, 3) := by decide +kernel
theorem dL_acts_169 : decode cL_acts 169 = .ok (.ireturn, 1) := by decide +kernel
theorem dL_acts_170 : decode cL_acts 170 = .ok (.aload_n 0, 1) := by decide +kernel
theorem dL_acts_171 : decode cL_acts 171 = .ok (.iload_n 2, 1) := by decide +kernel
theorem dL_acts_172 : decode cL_acts 172 = .ok (.bipush 7, 2) := by decide +kernel
theorem dL_acts_174 : decode cL_acts 174 = .ok (.irem, 1) := by decide +kernel
theorem dL_acts_175 : decode cL_acts 175 = .ok (.invokevirtual 45, 3) := by decide +kernel
theorem dL_acts_178 : decode cL_acts 178 = .ok (.ireturn, 1) := by decide +kernel
theorem dL_acts_179 : decode cL_acts 179 = .ok (.iload_n 2, 1) := by decide +kernel
theorem dL_acts_180 : decode cL_acts 180 = .ok (.iconst 4, 1) := by decide +kernel
theorem dL_acts_181 : decode cL_acts 181 = .ok (.irem, 1) := by decide +kernel
theorem dL_acts_182 : decode cL_acts 182 = .ok (.ifCond .ne 10, 3) := by decide +kernel
theorem dL_acts_185 : decode cL_acts 185 = .ok (.aload_n 0, 1) := by decide +kernel
theorem dL_acts_186 : decode cL_acts 186 = .ok (.invokevirtual 92, 3) := by decide +kernel
theorem dL_acts_189 : decode cL_acts 189 = .ok (.goto 11, 3) := by decide +kernel
theorem dL_acts_192 : decode cL_acts 192 = .ok (.aload_n 0, 1) := by decide +kernel
theorem dL_acts_193 : decode cL_acts 193 = .ok (.iload_n 2, 1) := by decide +kernel
theorem dL_acts_194 : decode cL_acts 194 = .ok (.bipush 7, 2) := by decide +kernel
theorem dL_acts_196 : decode cL_acts 196 = .ok (.irem, 1) := by decide +kernel
theorem dL_acts_197 : decode cL_acts 197 = .ok (.invokevirtual 45, 3) := by decide +kernel
theorem dL_acts_200 : decode cL_acts 200 = .ok (.ireturn, 1) := by decide +kernel
theorem dL_acts_201 : decode cL_acts 201 = .ok (.aload_n 0, 1) := by decide +kernel
theorem dL_acts_202 : decode cL_acts 202 = .ok (.iload_n 2, 1) := by decide +kernel
theorem dL_acts_203 : decode cL_acts 203 = .ok (.iconst 3, 1) := by decide +kernel
theorem dL_acts_204 : decode cL_acts 204 = .ok (.irem, 1) := by decide +kernel
theorem dL_acts_205 : decode cL_acts 205 = .ok (.iload_n 2, 1) := by decide +kernel
theorem dL_acts_206 : decode cL_acts 206 = .ok (.iconst 3, 1) := by decide +kernel
theorem dL_acts_207 : decode cL_acts 207 = .ok (.irem, 1) := by decide +kernel
theorem dL_acts_208 : decode cL_acts 208 = .ok (.ifCond .ne 13, 3) := by decide +kernel
theorem dL_acts_211 : decode cL_acts 211 = .ok (.iconst 1, 1) := by decide +kernel
theorem dL_acts_212 : decode cL_acts 212 = .ok (.iload_n 2, 1) := by decide +kernel
theorem dL_acts_213 : decode cL_acts 213 = .ok (.iconst 3, 1) := by decide +kernel
theorem dL_acts_214 : decode cL_acts 214 = .ok (.idiv, 1) := by decide +kernel
theorem dL_acts_215 : decode cL_acts 215 = .ok (.iconst 5, 1) := by decide +kernel
theorem dL_acts_216 : decode cL_acts 216 = .ok (.irem, 1) := by decide +kernel
theorem dL_acts_217 : decode cL_acts 217 = .ok (.iadd, 1) := by decide +kernel
theorem dL_acts_218 : decode cL_acts 218 = .ok (.goto 26, 3) := by decide +kernel
theorem dL_acts_221 : decode cL_acts 221 = .ok (.iload_n 2, 1) := by decide +kernel
theorem dL_acts_222 : decode cL_acts 222 = .ok (.iconst 3, 1) := by decide +kernel
theorem dL_acts_223 : decode cL_acts 223 = .ok (.irem, 1) := by decide +kernel
theorem dL_acts_224 : decode cL_acts 224 = .ok (.iconst 1, 1) := by decide +kernel
theorem dL_acts_225 : decode cL_acts 225 = .ok (.if_icmp .ne 12, 3) := by decide +kernel
theorem dL_acts_228 : decode cL_acts 228 = .ok (.iload_n 2, 1) := by decide +kernel
theorem dL_acts_229 : decode cL_acts 229 = .ok (.iconst 3, 1) := by decide +kernel
theorem dL_acts_230 : decode cL_acts 230 = .ok (.idiv, 1) := by decide +kernel
theorem dL_acts_231 : decode cL_acts 231 = .ok (.bipush 6, 2) := by decide +kernel
theorem dL_acts_233 : decode cL_acts 233 = .ok (.irem, 1) := by decide +kernel
theorem dL_acts_234 : decode cL_acts 234 = .ok (.goto 10, 3) := by decide +kernel
theorem dL_acts_237 : decode cL_acts 237 = .ok (.iload_n 2, 1) := by decide +kernel
theorem dL_acts_238 : decode cL_acts 238 = .ok (.iconst 3, 1) := by decide +kernel
theorem dL_acts_239 : decode cL_acts 239 = .ok (.idiv, 1) := by decide +kernel
theorem dL_acts_240 : decode cL_acts 240 = .ok (.sipush 250, 3) := by decide +kernel
theorem dL_acts_243 : decode cL_acts 243 = .ok (.irem, 1) := by decide +kernel
theorem dL_acts_244 : decode cL_acts 244 = .ok (.invokevirtual 48, 3) := by decide +kernel
theorem dL_acts_247 : decode cL_acts 247 = .ok (.ireturn, 1) := by decide +kernel
theorem dL_acts_248 : decode cL_acts 248 = .ok (.aload_n 0, 1) := by decide +kernel
theorem dL_acts_249 : decode cL_acts 249 = .ok (.iload_n 2, 1) := by decide +kernel
theorem dL_acts_250 : decode cL_acts 250 = .ok (.bipush 6, 2) := by decide +kernel
theorem dL_acts_252 : decode cL_acts 252 = .ok (.irem, 1) := by decide +kernel
theorem dL_acts_253 : decode cL_acts 253 = .ok (.iload_n 2, 1) := by decide +kernel
theorem dL_acts_254 : decode cL_acts 254 = .ok (.bipush 6, 2) := by decide +kernel
theorem dL_acts_256 : decode cL_acts 256 = .ok (.idiv, 1) := by decide +kernel
theorem dL_acts_257 : decode cL_acts 257 = .ok (.bipush 13, 2) := by decide +kernel
theorem dL_acts_259 : decode cL_acts 259 = .ok (.irem, 1) := by decide +kernel
theorem dL_acts_260 : decode cL_acts 260 = .ok (.ifCond .ne 7, 3) := by decide +kernel
theorem dL_acts_263 : decode cL_acts 263 = .ok (.iconst (-1), 1) := by decide +kernel
theorem dL_acts_264 : decode cL_acts 264 = .ok (.goto 5, 3) := by decide +kernel
theorem dL_acts_267 : decode cL_acts 267 = .ok (.iload 4, 2) := by decide +kernel
theorem dL_acts_269 : decode cL_acts 269 = .ok (.invokevirtual 57, 3) := by decide +kernel
theorem dL_acts_272 : decode cL_acts 272 = .ok (.ireturn, 1) := by decide +kernel
theorem dL_acts_273 : decode cL_acts 273 = .ok (.aload_n 0, 1) := by decide +kernel
theorem dL_acts_274 : decode cL_acts 274 = .ok (.iload_n 2, 1) := by decide +kernel
theorem dL_acts_275 : decode cL_acts 275 = .ok (.iconst 4, 1) := by decide +kernel
theorem dL_acts_276 : decode cL_acts 276 = .ok (.irem, 1) := by decide +kernel
theorem dL_acts_277 : decode cL_acts 277 = .ok (.ifCond .ne 17, 3) := by decide +kernel
theorem dL_acts_280 : decode cL_acts 280 = .ok (.sipush 500, 3) := by decide +kernel
theorem dL_acts_283 : decode cL_acts 283 = .ok (.iload_n 2, 1) := by decide +kernel
theorem dL_acts_284 : decode cL_acts 284 = .ok (.iconst 4, 1) := by decide +kernel
theorem dL_acts_285 : decode cL_acts 285 = .ok (.idiv, 1) := by decide +kernel
theorem dL_acts_286 : decode cL_acts 286 = .ok (.sipush 701, 3) := by decide +kernel
theorem dL_acts_289 : decode cL_acts 289 = .ok (.irem, 1) := by decide +kernel
theorem dL_acts_290 : decode cL_acts 290 = .ok (.iadd, 1) := by decide +kernel
theorem dL_acts_291 : decode cL_acts 291 = .ok (.goto 14, 3) := by decide +kernel
theorem dL_acts_294 : decode cL_acts 294 = .ok (.sipush 590, 3) := by decide +kernel
theorem dL_acts_297 : decode cL_acts 297 = .ok (.iload_n 2, 1) := by decide +kernel
theorem dL_acts_298 : decode cL_acts 298 = .ok (.iconst 4, 1) := by decide +kernel
theorem dL_acts_299 : decode cL_acts 299 = .ok (.idiv, 1) := by decide +kernel
theorem dL_acts_300 : decode cL_acts 300 = .ok (.sipush 330, 3) := by decide +kernel
theorem dL_acts_303 : decode cL_acts 303 = .ok (.irem, 1) := by decide +kernel
theorem dL_acts_304 : decode cL_acts 304 = .ok (.iadd, 1) := by decide +kernel
theorem dL_acts_305 : decode cL_acts 305 = .ok (.iconst 1, 1) := by decide +kernel
theorem dL_acts_306 : decode cL_acts 306 = .ok (.iload_n 2, 1) := by decide +kernel
theorem dL_acts_307 : decode cL_acts 307 = .ok (.bipush 9, 2) := by decide +kernel
theorem dL_acts_309 : decode cL_acts 309 = .ok (.idiv, 1) := by decide +kernel
theorem dL_acts_310 : decode cL_acts 310 = .ok (.bipush 7, 2) := by decide +kernel
theorem dL_acts_312 : decode cL_acts 312 = .ok (.irem, 1) := by decide +kernel
theorem dL_acts_313 : decode cL_acts 313 = .ok (.iadd, 1) := by decide +kernel
theorem dL_acts_314 : decode cL_acts 314 = .ok (.invokevirtual 51, 3) := by decide +kernel
theorem dL_acts_317 : decode cL_acts 317 = .ok (.ireturn, 1) := by decide +kernel
theorem dL_law_0 : decode cL_law 0 = .ok (.new 14, 3) := by decide +kernel
theorem dL_law_3 : decode cL_law 3 = .ok (.dup, 1) := by decide +kernel
theorem dL_law_4 : decode cL_law 4 = .ok (.invokespecial 95, 3) := by decide +kernel
theorem dL_law_7 : decode cL_law 7 = .ok (.astore_n 1, 1) := by decide +kernel
theorem dL_law_8 : decode cL_law 8 = .ok (.aload_n 1, 1) := by decide +kernel
theorem dL_law_9 : decode cL_law 9 = .ok (.invokevirtual 76, 3) := by decide +kernel
theorem dL_law_12 : decode cL_law 12 = .ok (.bipush (-2), 2) := by decide +kernel
theorem dL_law_14 : decode cL_law 14 = .ok (.if_icmp .ne 42, 3) := by decide +kernel
theorem dL_law_17 : decode cL_law 17 = .ok (.aload_n 1, 1) := by decide +kernel
theorem dL_law_18 : decode cL_law 18 = .ok (.invokestatic 96, 3) := by decide +kernel
theorem dL_law_21 : decode cL_law 21 = .ok (.ifCond .eq 35, 3) := by decide +kernel
theorem dL_law_24 : decode cL_law 24 = .ok (.aload_n 1, 1) := by decide +kernel
theorem dL_law_25 : decode cL_law 25 = .ok (.invokestatic 72, 3) := by decide +kernel
theorem dL_law_28 : decode cL_law 28 = .ok (.ifCond .eq 28, 3) := by decide +kernel
theorem dL_law_31 : decode cL_law 31 = .ok (.aload_n 1, 1) := by decide +kernel
theorem dL_law_32 : decode cL_law 32 = .ok (.invokestatic 99, 3) := by decide +kernel
theorem dL_law_35 : decode cL_law 35 = .ok (.ifCond .eq 21, 3) := by decide +kernel
theorem dL_law_38 : decode cL_law 38 = .ok (.aload_n 1, 1) := by decide +kernel
theorem dL_law_39 : decode cL_law 39 = .ok (.invokestatic 102, 3) := by decide +kernel
theorem dL_law_42 : decode cL_law 42 = .ok (.ifCond .eq 14, 3) := by decide +kernel
theorem dL_law_45 : decode cL_law 45 = .ok (.aload_n 1, 1) := by decide +kernel
theorem dL_law_46 : decode cL_law 46 = .ok (.invokestatic 105, 3) := by decide +kernel
theorem dL_law_49 : decode cL_law 49 = .ok (.ifCond .eq 7, 3) := by decide +kernel
theorem dL_law_52 : decode cL_law 52 = .ok (.iconst 1, 1) := by decide +kernel
theorem dL_law_53 : decode cL_law 53 = .ok (.goto 4, 3) := by decide +kernel
theorem dL_law_56 : decode cL_law 56 = .ok (.iconst 0, 1) := by decide +kernel
theorem dL_law_57 : decode cL_law 57 = .ok (.istore_n 2, 1) := by decide +kernel
theorem dL_law_58 : decode cL_law 58 = .ok (.iconst 0, 1) := by decide +kernel
theorem dL_law_59 : decode cL_law 59 = .ok (.istore_n 3, 1) := by decide +kernel
theorem dL_law_60 : decode cL_law 60 = .ok (.iload_n 3, 1) := by decide +kernel
theorem dL_law_61 : decode cL_law 61 = .ok (.bipush 60, 2) := by decide +kernel
theorem dL_law_63 : decode cL_law 63 = .ok (.if_icmp .ge 332, 3) := by decide +kernel
theorem dL_law_66 : decode cL_law 66 = .ok (.iload_n 2, 1) := by decide +kernel
theorem dL_law_67 : decode cL_law 67 = .ok (.ifCond .eq 328, 3) := by decide +kernel
theorem dL_law_70 : decode cL_law 70 = .ok (.aload_n 0, 1) := by decide +kernel
theorem dL_law_71 : decode cL_law 71 = .ok (.iconst 2, 1) := by decide +kernel
theorem dL_law_72 : decode cL_law 72 = .ok (.iload_n 3, 1) := by decide +kernel
theorem dL_law_73 : decode cL_law 73 = .ok (.imul, 1) := by decide +kernel
theorem dL_law_74 : decode cL_law 74 = .ok (.invokestatic 108, 3) := by decide +kernel
theorem dL_law_77 : decode cL_law 77 = .ok (.istore 4, 2) := by decide +kernel
theorem dL_law_79 : decode cL_law 79 = .ok (.aload_n 0, 1) := by decide +kernel
theorem dL_law_80 : decode cL_law 80 = .ok (.iconst 2, 1) := by decide +kernel
theorem dL_law_81 : decode cL_law 81 = .ok (.iload_n 3, 1) := by decide +kernel
theorem dL_law_82 : decode cL_law 82 = .ok (.imul, 1) := by decide +kernel
theorem dL_law_83 : decode cL_law 83 = .ok (.iconst 1, 1) := by decide +kernel
theorem dL_law_84 : decode cL_law 84 = .ok (.iadd, 1) := by decide +kernel
theorem dL_law_85 : decode cL_law 85 = .ok (.invokestatic 108, 3) := by decide +kernel
theorem dL_law_88 : decode cL_law 88 = .ok (.ldc 112, 2) := by decide +kernel
theorem dL_law_90 : decode cL_law 90 = .ok (.invokestatic 89, 3) := by decide +kernel
theorem dL_law_93 : decode cL_law 93 = .ok (.istore 5, 2) := by decide +kernel
theorem dL_law_95 : decode cL_law 95 = .ok (.aload_n 1, 1) := by decide +kernel
theorem dL_law_96 : decode cL_law 96 = .ok (.invokestatic 33, 3) := by decide +kernel
theorem dL_law_99 : decode cL_law 99 = .ok (.lstore 6, 2) := by decide +kernel
theorem dL_law_101 : decode cL_law 101 = .ok (.aload_n 1, 1) := by decide +kernel
theorem dL_law_102 : decode cL_law 102 = .ok (.bipush 21, 2) := by decide +kernel
theorem dL_law_104 : decode cL_law 104 = .ok (.invokevirtual 13, 3) := by decide +kernel
theorem dL_law_107 : decode cL_law 107 = .ok (.istore 8, 2) := by decide +kernel
theorem dL_law_109 : decode cL_law 109 = .ok (.iload_n 3, 1) := by decide +kernel
theorem dL_law_110 : decode cL_law 110 = .ok (.iconst 4, 1) := by decide +kernel
theorem dL_law_111 : decode cL_law 111 = .ok (.if_icmp .ge 7, 3) := by decide +kernel
theorem dL_law_114 : decode cL_law 114 = .ok (.iconst 0, 1) := by decide +kernel
theorem dL_law_115 : decode cL_law 115 = .ok (.goto 28, 3) := by decide +kernel
theorem dL_law_118 : decode cL_law 118 = .ok (.iload_n 3, 1) := by decide +kernel
theorem dL_law_119 : decode cL_law 119 = .ok (.bipush 13, 2) := by decide +kernel
theorem dL_law_121 : decode cL_law 121 = .ok (.if_icmp .ge 15, 3) := by decide +kernel
theorem dL_law_124 : decode cL_law 124 = .ok (.iconst 1, 1) := by decide +kernel
theorem dL_law_125 : decode cL_law 125 = .ok (.iload 4, 2) := by decide +kernel
theorem dL_law_127 : decode cL_law 127 = .ok (.bipush 12, 2) := by decide +kernel
theorem dL_law_129 : decode cL_law 129 = .ok (.invokestatic 89, 3) := by decide +kernel
theorem dL_law_132 : decode cL_law 132 = .ok (.iadd, 1) := by decide +kernel
theorem dL_law_133 : decode cL_law 133 = .ok (.goto 10, 3) := by decide +kernel
theorem dL_law_136 : decode cL_law 136 = .ok (.iload 4, 2) := by decide +kernel
theorem dL_law_138 : decode cL_law 138 = .ok (.bipush 20, 2) := by decide +kernel
theorem dL_law_140 : decode cL_law 140 = .ok (.invokestatic 89, 3) := by decide +kernel
theorem dL_law_143 : decode cL_law 143 = .ok (.istore 9, 2) := by decide +kernel
theorem dL_law_145 : decode cL_law 145 = .ok (.aload_n 1, 1) := by decide +kernel
theorem dL_law_146 : decode cL_law 146 = .ok (.bipush 20, 2) := by decide +kernel
theorem dL_law_148 : decode cL_law 148 = .ok (.iload 4, 2) := by decide +kernel
theorem dL_law_150 : decode cL_law 150 = .ok (.iconst 4, 1) := by decide +kernel
theorem dL_law_151 : decode cL_law 151 = .ok (.ishr, 1) := by decide +kernel
theorem dL_law_152 : decode cL_law 152 = .ok (.ldc 113, 2) := by decide +kernel
theorem dL_law_154 : decode cL_law 154 = .ok (.invokestatic 89, 3) := by decide +kernel
theorem dL_law_157 : decode cL_law 157 = .ok (.imul, 1) := by decide +kernel
theorem dL_law_158 : decode cL_law 158 = .ok (.iload 9, 2) := by decide +kernel
theorem dL_law_160 : decode cL_law 160 = .ok (.iadd, 1) := by decide +kernel
theorem dL_law_161 : decode cL_law 161 = .ok (.iload 5, 2) := by decide +kernel
theorem dL_law_163 : decode cL_law 163 = .ok (.invokestatic 114, 3) := by decide +kernel
theorem dL_law_166 : decode cL_law 166 = .ok (.istore 10, 2) := by decide +kernel
theorem dL_law_168 : decode cL_law 168 = .ok (.iload 10, 2) := by decide +kernel
theorem dL_law_170 : decode cL_law 170 = .ok (.bipush (-4), 2) := by decide +kernel
theorem dL_law_172 : decode cL_law 172 = .ok (.if_icmp .lt 59, 3) := by decide +kernel
theorem dL_law_175 : decode cL_law 175 = .ok (.iload 10, 2) := by decide +kernel
theorem dL_law_177 : decode cL_law 177 = .ok (.ifCond .lt 29, 3) := by decide +kernel
theorem dL_law_180 : decode cL_law 180 = .ok (.aload_n 1, 1) := by decide +kernel
theorem dL_law_181 : decode cL_law 181 = .ok (.bipush 21, 2) := by decide +kernel
theorem dL_law_183 : decode cL_law 183 = .ok (.invokevirtual 13, 3) := by decide +kernel
theorem dL_law_186 : decode cL_law 186 = .ok (.iload 8, 2) := by decide +kernel
theorem dL_law_188 : decode cL_law 188 = .ok (.iconst 4, 1) := by decide +kernel
theorem dL_law_189 : decode cL_law 189 = .ok (.if_icmp .ne 7, 3) := by decide +kernel
theorem dL_law_192 : decode cL_law 192 = .ok (.iconst 4, 1) := by decide +kernel
theorem dL_law_193 : decode cL_law 193 = .ok (.goto 7, 3) := by decide +kernel
theorem dL_law_196 : decode cL_law 196 = .ok (.iload 8, 2) := by decide +kernel
theorem dL_law_198 : decode cL_law 198 = .ok (.iconst 1, 1) := by decide +kernel
theorem dL_law_199 : decode cL_law 199 = .ok (.iadd, 1) := by decide +kernel
theorem dL_law_200 : decode cL_law 200 = .ok (.if_icmp .ne 31, 3) := by decide +kernel
theorem dL_law_203 : decode cL_law 203 = .ok (.goto 24, 3) := by decide +kernel
theorem dL_law_206 : decode cL_law 206 = .ok (.aload_n 1, 1) := by decide +kernel
theorem dL_law_207 : decode cL_law 207 = .ok (.bipush 21, 2) := by decide +kernel
theorem dL_law_209 : decode cL_law 209 = .ok (.invokevirtual 13, 3) := by decide +kernel
theorem dL_law_212 : decode cL_law 212 = .ok (.iload 8, 2) := by decide +kernel
theorem dL_law_214 : decode cL_law 214 = .ok (.if_icmp .ne 17, 3) := by decide +kernel
theorem dL_law_217 : decode cL_law 217 = .ok (.aload_n 1, 1) := by decide +kernel
theorem dL_law_218 : decode cL_law 218 = .ok (.invokestatic 33, 3) := by decide +kernel
theorem dL_law_221 : decode cL_law 221 = .ok (.lload 6, 2) := by decide +kernel
theorem dL_law_223 : decode cL_law 223 = .ok (.lcmp, 1) := by decide +kernel
theorem dL_law_224 : decode cL_law 224 = .ok (.ifCond .ne 7, 3) := by decide +kernel
theorem dL_law_227 : decode cL_law 227 = .ok (.iconst 1, 1) := by decide +kernel
theorem dL_law_228 : decode cL_law 228 = .ok (.goto 4, 3) := by decide +kernel
theorem dL_law_231 : decode cL_law 231 = .ok (.iconst 0, 1) := by decide +kernel
theorem dL_law_232 : decode cL_law 232 = .ok (.istore_n 2, 1) := by decide +kernel
theorem dL_law_233 : decode cL_law 233 = .ok (.iload_n 2, 1) := by decide +kernel
theorem dL_law_234 : decode cL_law 234 = .ok (.ifCond .eq 53, 3) := by decide +kernel
theorem dL_law_237 : decode cL_law 237 = .ok (.iload 10, 2) := by decide +kernel
theorem dL_law_239 : decode cL_law 239 = .ok (.ifCond .lt 48, 3) := by decide +kernel
theorem dL_law_242 : decode cL_law 242 = .ok (.iload 4, 2) := by decide +kernel
theorem dL_law_244 : decode cL_law 244 = .ok (.bipush 25, 2) := by decide +kernel
theorem dL_law_246 : decode cL_law 246 = .ok (.ishr, 1) := by decide +kernel
theorem dL_law_247 : decode cL_law 247 = .ok (.iconst 3, 1) := by decide +kernel
theorem dL_law_248 : decode cL_law 248 = .ok (.iand, 1) := by decide +kernel
theorem dL_law_249 : decode cL_law 249 = .ok (.ifCond .ne 38, 3) := by decide +kernel
theorem dL_law_252 : decode cL_law 252 = .ok (.aload_n 1, 1) := by decide +kernel
theorem dL_law_253 : decode cL_law 253 = .ok (.invokevirtual 76, 3) := by decide +kernel
theorem dL_law_256 : decode cL_law 256 = .ok (.iload 8, 2) := by decide +kernel
theorem dL_law_258 : decode cL_law 258 = .ok (.iconst 4, 1) := by decide +kernel
theorem dL_law_259 : decode cL_law 259 = .ok (.if_icmp .ne 7, 3) := by decide +kernel
theorem dL_law_262 : decode cL_law 262 = .ok (.iconst 3, 1) := by decide +kernel
theorem dL_law_263 : decode cL_law 263 = .ok (.goto 5, 3) := by decide +kernel
theorem dL_law_266 : decode cL_law 266 = .ok (.iload 8, 2) := by decide +kernel
theorem dL_law_268 : decode cL_law 268 = .ok (.if_icmp .ne 17, 3) := by decide +kernel
theorem dL_law_271 : decode cL_law 271 = .ok (.aload_n 1, 1) := by decide +kernel
theorem dL_law_272 : decode cL_law 272 = .ok (.invokestatic 33, 3) := by decide +kernel
theorem dL_law_275 : decode cL_law 275 = .ok (.lload 6, 2) := by decide +kernel
theorem dL_law_277 : decode cL_law 277 = .ok (.lcmp, 1) := by decide +kernel
theorem dL_law_278 : decode cL_law 278 = .ok (.ifCond .ne 7, 3) := by decide +kernel
theorem dL_law_281 : decode cL_law 281 = .ok (.iconst 1, 1) := by decide +kernel
theorem dL_law_282 : decode cL_law 282 = .ok (.goto 4, 3) := by decide +kernel
theorem dL_law_285 : decode cL_law 285 = .ok (.iconst 0, 1) := by decide +kernel
theorem dL_law_286 : decode cL_law 286 = .ok (.istore_n 2, 1) := by decide +kernel
theorem dL_law_287 : decode cL_law 287 = .ok (.iload_n 2, 1) := by decide +kernel
theorem dL_law_288 : decode cL_law 288 = .ok (.ifCond .eq 99, 3) := by decide +kernel
theorem dL_law_291 : decode cL_law 291 = .ok (.aload_n 1, 1) := by decide +kernel
theorem dL_law_292 : decode cL_law 292 = .ok (.invokestatic 72, 3) := by decide +kernel
theorem dL_law_295 : decode cL_law 295 = .ok (.ifCond .eq 92, 3) := by decide +kernel
theorem dL_law_298 : decode cL_law 298 = .ok (.iload_n 3, 1) := by decide +kernel
theorem dL_law_299 : decode cL_law 299 = .ok (.iconst 3, 1) := by decide +kernel
theorem dL_law_300 : decode cL_law 300 = .ok (.irem, 1) := by decide +kernel
theorem dL_law_301 : decode cL_law 301 = .ok (.iconst 1, 1) := by decide +kernel
theorem dL_law_302 : decode cL_law 302 = .ok (.if_icmp .ne 20, 3) := by decide +kernel
theorem dL_law_305 : decode cL_law 305 = .ok (.aload_n 1, 1) := by decide +kernel
theorem dL_law_306 : decode cL_law 306 = .ok (.sipush 560, 3) := by decide +kernel
theorem dL_law_309 : decode cL_law 309 = .ok (.iload 5, 2) := by decide +kernel
theorem dL_law_311 : decode cL_law 311 = .ok (.sipush 400, 3) := by decide +kernel
theorem dL_law_314 : decode cL_law 314 = .ok (.irem, 1) := by decide +kernel
theorem dL_law_315 : decode cL_law 315 = .ok (.iadd, 1) := by decide +kernel
theorem dL_law_316 : decode cL_law 316 = .ok (.invokestatic 118, 3) := by decide +kernel
theorem dL_law_319 : decode cL_law 319 = .ok (.ifCond .eq 68, 3) := by decide +kernel
theorem dL_law_322 : decode cL_law 322 = .ok (.iload_n 3, 1) := by decide +kernel
theorem dL_law_323 : decode cL_law 323 = .ok (.bipush 14, 2) := by decide +kernel
theorem dL_law_325 : decode cL_law 325 = .ok (.irem, 1) := by decide +kernel
theorem dL_law_326 : decode cL_law 326 = .ok (.bipush 9, 2) := by decide +kernel
theorem dL_law_328 : decode cL_law 328 = .ok (.if_icmp .ne 10, 3) := by decide +kernel
theorem dL_law_331 : decode cL_law 331 = .ok (.aload_n 1, 1) := by decide +kernel
theorem dL_law_332 : decode cL_law 332 = .ok (.invokestatic 102, 3) := by decide +kernel
theorem dL_law_335 : decode cL_law 335 = .ok (.ifCond .eq 52, 3) := by decide +kernel
theorem dL_law_338 : decode cL_law 338 = .ok (.iload_n 3, 1) := by decide +kernel
theorem dL_law_339 : decode cL_law 339 = .ok (.bipush 8, 2) := by decide +kernel
theorem dL_law_341 : decode cL_law 341 = .ok (.irem, 1) := by decide +kernel
theorem dL_law_342 : decode cL_law 342 = .ok (.iconst 5, 1) := by decide +kernel
theorem dL_law_343 : decode cL_law 343 = .ok (.if_icmp .ne 10, 3) := by decide +kernel
theorem dL_law_346 : decode cL_law 346 = .ok (.aload_n 1, 1) := by decide +kernel
theorem dL_law_347 : decode cL_law 347 = .ok (.invokestatic 99, 3) := by decide +kernel
theorem dL_law_350 : decode cL_law 350 = .ok (.ifCond .eq 37, 3) := by decide +kernel
theorem dL_law_353 : decode cL_law 353 = .ok (.iload_n 3, 1) := by decide +kernel
theorem dL_law_354 : decode cL_law 354 = .ok (.iconst 4, 1) := by decide +kernel
theorem dL_law_355 : decode cL_law 355 = .ok (.irem, 1) := by decide +kernel
theorem dL_law_356 : decode cL_law 356 = .ok (.iconst 2, 1) := by decide +kernel
theorem dL_law_357 : decode cL_law 357 = .ok (.if_icmp .ne 10, 3) := by decide +kernel
theorem dL_law_360 : decode cL_law 360 = .ok (.aload_n 1, 1) := by decide +kernel
theorem dL_law_361 : decode cL_law 361 = .ok (.invokestatic 105, 3) := by decide +kernel
theorem dL_law_364 : decode cL_law 364 = .ok (.ifCond .eq 23, 3) := by decide +kernel
theorem dL_law_367 : decode cL_law 367 = .ok (.iload_n 3, 1) := by decide +kernel
theorem dL_law_368 : decode cL_law 368 = .ok (.bipush 11, 2) := by decide +kernel
theorem dL_law_370 : decode cL_law 370 = .ok (.irem, 1) := by decide +kernel
theorem dL_law_371 : decode cL_law 371 = .ok (.bipush 7, 2) := by decide +kernel
theorem dL_law_373 : decode cL_law 373 = .ok (.if_icmp .ne 10, 3) := by decide +kernel
theorem dL_law_376 : decode cL_law 376 = .ok (.aload_n 1, 1) := by decide +kernel
theorem dL_law_377 : decode cL_law 377 = .ok (.invokestatic 96, 3) := by decide +kernel
theorem dL_law_380 : decode cL_law 380 = .ok (.ifCond .eq 7, 3) := by decide +kernel
theorem dL_law_383 : decode cL_law 383 = .ok (.iconst 1, 1) := by decide +kernel
theorem dL_law_384 : decode cL_law 384 = .ok (.goto 4, 3) := by decide +kernel
theorem dL_law_387 : decode cL_law 387 = .ok (.iconst 0, 1) := by decide +kernel
theorem dL_law_388 : decode cL_law 388 = .ok (.istore_n 2, 1) := by decide +kernel
theorem dL_law_389 : decode cL_law 389 = .ok (.iinc 3 1, 3) := by decide +kernel
theorem dL_law_392 : decode cL_law 392 = .ok (.goto (-332), 3) := by decide +kernel
theorem dL_law_395 : decode cL_law 395 = .ok (.iload_n 2, 1) := by decide +kernel
theorem dL_law_396 : decode cL_law 396 = .ok (.ifCond .eq 21, 3) := by decide +kernel
theorem dL_law_399 : decode cL_law 399 = .ok (.aload_n 1, 1) := by decide +kernel
theorem dL_law_400 : decode cL_law 400 = .ok (.invokestatic 96, 3) := by decide +kernel
theorem dL_law_403 : decode cL_law 403 = .ok (.ifCond .eq 14, 3) := by decide +kernel
theorem dL_law_406 : decode cL_law 406 = .ok (.aload_n 1, 1) := by decide +kernel
theorem dL_law_407 : decode cL_law 407 = .ok (.invokestatic 72, 3) := by decide +kernel
theorem dL_law_410 : decode cL_law 410 = .ok (.ifCond .eq 7, 3) := by decide +kernel
theorem dL_law_413 : decode cL_law 413 = .ok (.iconst 1, 1) := by decide +kernel
theorem dL_law_414 : decode cL_law 414 = .ok (.goto 4, 3) := by decide +kernel
theorem dL_law_417 : decode cL_law 417 = .ok (.iconst 0, 1) := by decide +kernel
theorem dL_law_418 : decode cL_law 418 = .ok (.ireturn, 1) := by decide +kernel
end
section

/-! values: an int as a whole number, a cell by its place; a world: what cells there are, and a memory of whole numbers -/
abbrev AV : Type := Int ⊕ Nat
abbrev ShF : Type := Option (Option Nat)
abbrev ShC : Type := (Nat × List ShF) ⊕ ((Nat × Nat) ⊕ List (Option Nat))
abbrev AM : Type := Nat → Int → Int
abbrev HP : Type := List ShC × AM
abbrev MI : Type := MethodName × ByteArray × Nat × Option FieldType
abbrev AX : Type := Nat × (Nat → Int32)
abbrev AE : Type := AX × Nat × Nat × Nat × Nat
def GW : List Cond := lw_tbl.filter goodWord
def am_nest : Cond → Bool
  | .fieldLinkNest .. => true
  | .methodLinkNest .. => true
  | _ => false
def NWL : List Cond := lw_tbl.filter am_nest
def am_up (m : AM) (k : Nat) (j v : Int) : AM := fun k' j' => if k' = k ∧ j' = j then v else m k' j'
abbrev rng (x : Int) : Prop := -2147483648 ≤ x ∧ x ≤ 2147483647
def cv (ad : Nat → Nat) : AV → Value
  | .inl x => .int (Int32.ofInt x)
  | .inr k => .ref (ad k)
def cfl (ad : Nat → Nat) (m : AM) (k : Nat) (j : Nat) : ShF → Value
  | none => .int (Int32.ofInt (m k (j : Int)))
  | some none => .null
  | some (some r) => .ref (ad r)
def ce (dA : Nat → ClassId) (ad : Nat → Nat) (m : AM) (k : Nat) : ShC → va_E
  | .inl (ci, fs) => .inr (ci, fs.mapIdx (cfl ad m k))
  | .inr (.inl (t, n)) => .inl (dA t, n, .inl (fun j => Int32.ofInt (m k (j : Int))))
  | .inr (.inr rs) => .inl (dA 3, rs.length, .inr (.inr (.inr (.inr (fun j => (rs.getD j none).map ad)))))
def con (dA : Nat → ClassId) (ad : Nat → Nat) (h : HP) : va_W := h.1.mapIdx (fun k c => (ad k, ce dA ad h.2 k c))
def slC : ShC → Nat
  | .inl (_, fs) => fs.length
  | .inr (.inl (_, n)) => n
  | .inr (.inr rs) => rs.length
def slS (sh : List ShC) : Nat := (sh.map slC).sum
theorem con_get {dA : Nat → ClassId} {ad : Nat → Nat} {h : HP} {k : Nat} {c : ShC} (hc : h.1[k]? = some c) : (con dA ad h)[k]? = some (ad k, ce dA ad h.2 k c) := by
  simp [con, List.getElem?_mapIdx, hc]
theorem con_len {dA : Nat → ClassId} {ad : Nat → Nat} {h : HP} : (con dA ad h).length = h.1.length := by simp [con]
theorem ce_ne {dA : Nat → ClassId} {ad : Nat → Nat} {m : AM} {k i : Nat} {j v : Int} {c : ShC} (h : i ≠ k) : ce dA ad (am_up m k j v) i c = ce dA ad m i c := by
  have e : ∀ (z : Int), am_up m k j v i z = m i z := fun z => by simp [am_up, h]
  rcases c with ⟨ci, fs⟩ | ⟨t, n⟩ | rs
  · simp only [ce]
    congr 3
    funext z f
    cases f with
    | none => simp [cfl, e]
    | some r => cases r <;> rfl
  · simp [ce, e]
  · rfl
theorem con_set {dA : Nat → ClassId} {ad : Nat → Nat} {sh sh' : List ShC} {m m' : AM} {k : Nat} {c : ShC} (hk : k < sh.length) (hsh : sh' = sh.set k c) (ho : ∀ i c, i ≠ k → ce dA ad m' i c = ce dA ad m i c) : con dA ad (sh', m') = (con dA ad (sh, m)).set k (ad k, ce dA ad m' k c) := by
  subst hsh
  apply List.ext_getElem?
  intro i
  by_cases hi : i = k
  · subst hi
    simp [con, List.getElem?_mapIdx, hk]
  · rw [List.getElem?_set_ne (Ne.symm hi)]
    simp only [con, List.getElem?_mapIdx]
    rw [List.getElem?_set_ne (Ne.symm hi)]
    cases h : sh[i]? with
    | none => rfl
    | some c0 => simp [ho i c0 hi]
theorem con_setI {dA : Nat → ClassId} {ad : Nat → Nat} {sh : List ShC} {m : AM} {k : Nat} {j v : Int} {c : ShC} (hc : sh[k]? = some c) : con dA ad (sh, am_up m k j v) = (con dA ad (sh, m)).set k (ad k, ce dA ad (am_up m k j v) k c) := by
  obtain ⟨hk, hg⟩ := List.getElem?_eq_some_iff.mp hc
  exact con_set hk (by rw [← hg]; exact (List.set_getElem_self hk).symm) (fun i c h => ce_ne h)
theorem ce_fI {dA : Nat → ClassId} {ad : Nat → Nat} {m : AM} {k j ci : Nat} {v : Int} {fs : List ShF} (hf : fs[j]? = some none) : ce dA ad (am_up m k (j : Int) v) k (.inl (ci, fs)) = .inr (ci, (fs.mapIdx (cfl ad m k)).set j (.int (Int32.ofInt v))) := by
  simp only [ce]
  congr 2
  apply List.ext_getElem?
  intro i
  by_cases hi : i = j
  · subst hi
    obtain ⟨hl, -⟩ := List.getElem?_eq_some_iff.mp hf
    rw [List.getElem?_set_self (by simpa using hl), List.getElem?_mapIdx, hf]
    simp [cfl, am_up]
  · rw [List.getElem?_set_ne (Ne.symm hi), List.getElem?_mapIdx, List.getElem?_mapIdx]
    cases h : fs[i]? with
    | none => rfl
    | some f =>
      cases f with
      | none =>
        have hne : ¬ (i : Int) = (j : Int) := by omega
        simp [cfl, am_up, hne]
      | some r => cases r <;> rfl
theorem ce_aI {dA : Nat → ClassId} {ad : Nat → Nat} {m : AM} {k t n : Nat} {i v : Int} (h0 : 0 ≤ i) : ce dA ad (am_up m k i v) k (.inr (.inl (t, n))) = .inl (dA t, n, .inl (upd (fun j => Int32.ofInt (m k (j : Int))) i.toNat (Int32.ofInt v))) := by
  simp only [ce]
  congr 4
  funext j
  by_cases hj : j = i.toNat
  · have e : (j : Int) = i := by omega
    have e2 : am_up m k i v k (j : Int) = v := if_pos ⟨rfl, e⟩
    have e3 : upd (fun j => Int32.ofInt (m k (j : Int))) i.toNat (Int32.ofInt v) j = Int32.ofInt v := if_pos hj
    rw [e2, e3]
  · have e : ¬ (j : Int) = i := by omega
    have e2 : am_up m k i v k (j : Int) = m k (j : Int) := if_neg (fun z => e z.2)
    have e3 : upd (fun j => Int32.ofInt (m k (j : Int))) i.toNat (Int32.ofInt v) j = Int32.ofInt (m k (j : Int)) := if_neg hj
    rw [e2, e3]
theorem ofI_add (x y : Int) : Int32.ofInt (x + y) = Int32.ofInt x + Int32.ofInt y := Int32.toBitVec.inj (by simp [BitVec.ofInt_add])
theorem ofI_mul (x y : Int) : Int32.ofInt (x * y) = Int32.ofInt x * Int32.ofInt y := Int32.toBitVec.inj (by simp [BitVec.ofInt_mul])
theorem ofI_neg (x : Int) : Int32.ofInt (-x) = -Int32.ofInt x := by simp
theorem ofI_sub (x y : Int) : Int32.ofInt (x - y) = Int32.ofInt x - Int32.ofInt y := by rw [Int.sub_eq_add_neg, ofI_add, ofI_neg, Int32.sub_eq_add_neg]
theorem ofI_toInt {x : Int} (h : rng x) : (Int32.ofInt x).toInt = x := Int32.toInt_ofInt_of_le (by have := h.1; omega) (by have := h.2; omega)
theorem ofI_le {x y : Int} (hx : rng x) (hy : rng y) : Int32.ofInt x ≤ Int32.ofInt y ↔ x ≤ y := by rw [Int32.le_iff_toInt_le, ofI_toInt hx, ofI_toInt hy]
theorem ofI_lt {x y : Int} (hx : rng x) (hy : rng y) : Int32.ofInt x < Int32.ofInt y ↔ x < y := by rw [Int32.lt_iff_toInt_lt, ofI_toInt hx, ofI_toInt hy]
theorem ofI_eq {x y : Int} (hx : rng x) (hy : rng y) : Int32.ofInt x = Int32.ofInt y ↔ x = y := by rw [← Int32.toInt_inj, ofI_toInt hx, ofI_toInt hy]
theorem ofI_cl {x : Int} (hx : rng x) : (Int32.ofInt x).toNatClampNeg = x.toNat := Int32.toNatClampNeg_ofInt_of_le (by have := hx.1; omega) (by have := hx.2; omega)
theorem ofI_in {x : Int} {n : Nat} (h0 : 0 ≤ x) (h1 : x < n) (hn : n < 2147483648) : vp_in (Int32.ofInt x) n := by
  have hr : rng x := ⟨by omega, by omega⟩
  rw [vp_in_iff, ofI_toInt hr]
  omega
theorem rng_toInt (x : Int32) : rng x.toInt := ⟨by have := Int32.le_toInt x; omega, by have := Int32.toInt_lt x; omega⟩
theorem cv_cat (ad : Nat → Nat) (v : AV) : (cv ad v).category = 1 := by cases v <;> rfl
/-! the places of the locals -/
def lvL (ad : Nat → Nat) (ls : Array Slot) (nL : Nat) (L : List (Option AV)) : Prop := ls.size = nL ∧ lv_wf ls ∧ ∀ (i : Nat) (v : AV), L[i]? = some (some v) → ls[i]? = some (.val (cv ad v))
def aPr (ad : Nat → Nat) (L : List (Option AV)) : List (Nat × Value) := (List.range L.length).filterMap (fun i => match L[i]? with | some (some v) => some (i, cv ad v) | _ => none)
theorem aPr_mem {ad : Nat → Nat} {L : List (Option AV)} {q : Nat × Value} : q ∈ aPr ad L ↔ ∃ v, L[q.1]? = some (some v) ∧ q.2 = cv ad v := by
  unfold aPr
  rw [List.mem_filterMap]
  constructor
  · rintro ⟨i, -, h⟩
    cases hv : L[i]? with
    | none => simp [hv] at h
    | some o =>
      cases o with
      | none => simp [hv] at h
      | some v =>
        simp only [hv, Option.some.injEq] at h
        subst h
        exact ⟨v, hv, rfl⟩
  · rintro ⟨v, hv, e⟩
    refine ⟨q.1, List.mem_range.mpr (List.getElem?_eq_some_iff.mp hv).1, ?_⟩
    obtain ⟨a, b⟩ := q
    simp only at hv e
    subst e
    simp [hv]
theorem lvL.has {ad : Nat → Nat} {ls : Array Slot} {nL : Nat} {L : List (Option AV)} (h : lvL ad ls nL L) : lv_has ls nL (aPr ad L) := by
  refine ⟨h.1, h.2.1, fun q hq => ?_⟩
  obtain ⟨v, hv, e⟩ := aPr_mem.mp hq
  rw [e]
  exact h.2.2 q.1 v hv
theorem lvL.store {ad : Nat → Nat} {ls' : Array Slot} {nL i : Nat} {L : List (Option AV)} {v : AV} (h : lv_has ls' nL ((i, cv ad v) :: (aPr ad L).filter (fun q => !(q.1 == i) && !(q.1 + 1 == i && q.2.category == 2)))) : lvL ad ls' nL (L.set i (some v)) := by
  refine ⟨h.1, h.2.1, fun j x hj => ?_⟩
  by_cases e : j = i
  · subst e
    have hl : j < L.length := by
      have := (List.getElem?_eq_some_iff.mp hj).1
      simpa using this
    rw [List.getElem?_set_self hl] at hj
    cases hj
    exact h.2.2 (j, cv ad v) List.mem_cons_self
  · rw [List.getElem?_set_ne (Ne.symm e)] at hj
    refine h.2.2 (j, cv ad x) (List.mem_cons_of_mem _ (List.mem_filter.mpr ⟨aPr_mem.mpr ⟨x, hj, rfl⟩, ?_⟩))
    simp [e, cv_cat]
theorem lvL.agree {ad ad' : Nat → Nat} {ls : Array Slot} {nL : Nat} {L : List (Option AV)} (h : lvL ad ls nL L) (ha : ∀ (i k : Nat), L[i]? = some (some (.inr k)) → ad' k = ad k) : lvL ad' ls nL L := by
  refine ⟨h.1, h.2.1, fun i v hv => ?_⟩
  rw [h.2.2 i v hv]
  cases v with
  | inl x => rfl
  | inr k => simp only [cv]; rw [ha i k hv]
/-! what stands fast in a walk, and what moves -/
def tysA (dA : Nat → ClassId) : List (ClassId × FieldType) := [(dA 0, .int), (dA 1, .boolean), (dA 2, .char), (dA 3, .object RX0)]
def sLeast : Nat → Int32 := fun j => if j = 0 then 1 else 0
def sGreat : Nat → Int32 := fun j => if j = 0 then 10 else if j = 1 then 5 else 400
def aRO (X : AX) (ad : Nat → Nat) (A : Nat → Prop) (U : State) : Prop :=
  (va_X (ad 1000) X.1 X.2 U U.heap ∧ ad 1000 < U.heap.size ∧ ¬ A (ad 1000)) ∧ (va_X (ad 1001) 3 sLeast U U.heap ∧ ad 1001 < U.heap.size ∧ ¬ A (ad 1001)) ∧ (va_X (ad 1002) 3 sGreat U U.heap ∧ ad 1002 < U.heap.size ∧ ¬ A (ad 1002)) ∧ va_Z RX8 "LEAST_SETTING" "[I" (.ref (ad 1001)) A U U.heap ∧ va_Z RX8 "GREATEST_SETTING" "[I" (.ref (ad 1002)) A U U.heap
def aSt (M : MI) (E : AE) (p : Program) (R : Room) (s : State) (m : MethodId) (args : Array Value) (meth : Method) (c : Code) (A : Nat → Prop) (dC : Nat → ClassId) (dI : Nat → Nat → Nat) (dA : Nat → ClassId) (n0 m0 : Nat) : Prop :=
  p.tables.exec = Jvm.exec ∧ c.code = M.2.1 ∧ meth.sig.returnType = M.2.2.2 ∧ c.maxLocals = M.2.2.1 ∧ s.vm.findClass M.1.cls = some m.cls ∧ (∀ w ∈ GW, w.before args s = true) ∧ meth.locks = false ∧ meth.name = M.1.name ∧ (∀ w ∈ NWL, va_Nw w s) ∧ va_AO RX0 s ∧ va_K (dC, dI) vwCl (tysA dA) s ∧ (∀ q, s.heap.size ≤ q → A q) ∧ E.2.1 ≤ R.frames ∧ E.2.2.1 ≤ R.locals ∧ E.2.2.2.1 = R.cells + n0 ∧ E.2.2.2.2 = R.slots + m0
def aDy (M : MI) (E : AE) (s : State) (H : Heap) (locs : List Loc) (cells slots : Nat) (A : Nat → Prop) (dC : Nat → ClassId) (dI : Nat → Nat → Nat) (dA : Nat → ClassId) (ad ad0 : Nat → Nat) (ls : Array Slot) (n0 m0 : Nat) (L : List (Option AV)) (h : HP) : Prop :=
  va_P (dC, dI) vwCl (con dA ad h) H ∧ va_D A (con dA ad h) ∧ va_S A s.heap H locs ∧ cells + n0 = h.1.length ∧ slots + m0 = slS h.1 ∧ lvL ad ls M.2.2.1 L ∧ aRO E.1 ad A s ∧ (∀ k : Nat, (k < n0 ∨ h.1.length ≤ k) → ad k = ad0 k)
def aEnd (M : MI) (pc : Nat) (v : Option Int) : Prop := match v with
  | some z => decode M.2.1 pc = .ok (.ireturn, 1) ∧ (M.2.2.2 = some .int ∨ (M.2.2.2 = some .boolean ∧ (z = 0 ∨ z = 1)))
  | none => decode M.2.1 pc = .ok (.return_, 1) ∧ M.2.2.2 = none
def aFi (M : MI) (E : AE) (l : Launch) (p : Program) (e : Env) (R : Room) (s : State) (m : MethodId) (args : Array Value) (below : List Frame) (meth : Method) (c : Code) (A : Nat → Prop) (dC : Nat → ClassId) (dI : Nat → Nat → Nat) (dA : Nat → ClassId) (ad0 : Nat → Nat) (n0 m0 : Nat) (QQ : State → Prop) (Q : Option Int → HP → Prop) : Prop :=
  ∀ (v : Option Int) (h' : HP) (H' : Heap) (locs' : List Loc) (cells' slots' : Nat) (ad' : Nat → Nat) (ls' : Array Slot) (pc' : Nat) (L' : List (Option AV)), Q v h' → aDy M E s H' locs' cells' slots' A dC dI dA ad' ad0 ls' n0 m0 L' h' → h'.1.length = E.2.2.2.1 → slS h'.1 = E.2.2.2.2 → aEnd M pc' v → W p l e R s m args below meth c H' locs' cells' slots' QQ (F0 m pc' ls' (v.toList.map (fun z => .int (Int32.ofInt z))))
def AW (M : MI) (E : AE) (pc : Nat) (L : List (Option AV)) (S : List AV) (h : HP) (Q : Option Int → HP → Prop) : Prop :=
  ∀ (l : Launch) (p : Program) (e : Env) (R : Room) (s : State) (m : MethodId) (args : Array Value) (below : List Frame) (meth : Method) (c : Code) (H : Heap) (locs : List Loc) (cells slots : Nat) (A : Nat → Prop) (dC : Nat → ClassId) (dI : Nat → Nat → Nat) (dA : Nat → ClassId) (ad ad0 : Nat → Nat) (ls : Array Slot) (n0 m0 : Nat) (QQ : State → Prop),
    aSt M E p R s m args meth c A dC dI dA n0 m0 → aFi M E l p e R s m args below meth c A dC dI dA ad0 n0 m0 QQ Q → aDy M E s H locs cells slots A dC dI dA ad ad0 ls n0 m0 L h → W p l e R s m args below meth c H locs cells slots QQ (F0 m pc ls (S.map (cv ad)))
theorem AW.mono {M : MI} {E : AE} {pc : Nat} {L : List (Option AV)} {S : List AV} {h : HP} {Q Q' : Option Int → HP → Prop} (k : AW M E pc L S h Q) (hq : ∀ v h', Q v h' → Q' v h') : AW M E pc L S h Q' := by
  intro l p e R s m args below meth c H locs cells slots A dC dI dA ad ad0 ls n0 m0 QQ hs hf hy
  exact k l p e R s m args below meth c H locs cells slots A dC dI dA ad ad0 ls n0 m0 QQ hs (fun v h' H' locs' cells' slots' ad' ls' pc' L' q => hf v h' H' locs' cells' slots' ad' ls' pc' L' (hq v h' q)) hy
theorem AW.loc {M : MI} {E : AE} {pc : Nat} {L L' : List (Option AV)} {S : List AV} {h : HP} {Q : Option Int → HP → Prop} (k : AW M E pc L' S h Q) (hL : ∀ (i : Nat) (v : AV), L'[i]? = some (some v) → L[i]? = some (some v)) : AW M E pc L S h Q := by
  intro l p e R s m args below meth c H locs cells slots A dC dI dA ad ad0 ls n0 m0 QQ hs hf hy
  obtain ⟨y1, y2, y3, y4, y5, y6, y7, y8⟩ := hy
  exact k l p e R s m args below meth c H locs cells slots A dC dI dA ad ad0 ls n0 m0 QQ hs hf ⟨y1, y2, y3, y4, y5, ⟨y6.1, y6.2.1, fun i v hv => y6.2.2 i v (hL i v hv)⟩, y7, y8⟩
section MACH
variable {M : MI} {E : AE} {pc : Nat} {L : List (Option AV)} {S : List AV} {h : HP} {Q : Option Int → HP → Prop}
theorem aw_const {n : Int} (hd : decode M.2.1 pc = .ok (.iconst n, 1))
    (k : AW M E (pc + 1) L (.inl n :: S) h Q) : AW M E pc L S h Q := by
  intro l p e R s m args below meth c H locs cells slots A dC dI dA ad ad0 ls n0 m0 QQ hs hf hy
  exact lv_iconst hs.1 hs.2.1 hd rfl (k l p e R s m args below meth c H locs cells slots A dC dI dA ad ad0 ls n0 m0 QQ hs hf hy)
theorem aw_bipush {n : Int} (hd : decode M.2.1 pc = .ok (.bipush n, 2)) (hn : (Int8.ofInt n).toInt32 = Int32.ofInt n)
    (k : AW M E (pc + 2) L (.inl n :: S) h Q) : AW M E pc L S h Q := by
  intro l p e R s m args below meth c H locs cells slots A dC dI dA ad ad0 ls n0 m0 QQ hs hf hy
  exact lv_bipush hs.1 hs.2.1 hd hn (k l p e R s m args below meth c H locs cells slots A dC dI dA ad ad0 ls n0 m0 QQ hs hf hy)
theorem aw_sipush {n : Int} (hd : decode M.2.1 pc = .ok (.sipush n, 3)) (hn : (Int16.ofInt n).toInt32 = Int32.ofInt n)
    (k : AW M E (pc + 3) L (.inl n :: S) h Q) : AW M E pc L S h Q := by
  intro l p e R s m args below meth c H locs cells slots A dC dI dA ad ad0 ls n0 m0 QQ hs hf hy
  exact lv_sipush hs.1 hs.2.1 hd hn (k l p e R s m args below meth c H locs cells slots A dC dI dA ad ad0 ls n0 m0 QQ hs hf hy)
theorem aw_ild_n {i : Nat} {j : Fin 4} {x : Int} (hd : decode M.2.1 pc = .ok (.iload_n j, 1)) (hi : (j : Nat) = i) (hL : L[i]? = some (some (.inl x)))
    (k : AW M E (pc + 1) L (.inl x :: S) h Q) : AW M E pc L S h Q := by
  intro l p e R s m args below meth c H locs cells slots A dC dI dA ad ad0 ls n0 m0 QQ hs hf hy
  exact lv_iload_n hs.1 hs.2.1 hd hi (hy.2.2.2.2.2.1.2.2 _ _ hL) (k l p e R s m args below meth c H locs cells slots A dC dI dA ad ad0 ls n0 m0 QQ hs hf hy)
theorem aw_ild {i : Nat} {x : Int} (hd : decode M.2.1 pc = .ok (.iload i, 2)) (hL : L[i]? = some (some (.inl x)))
    (k : AW M E (pc + 2) L (.inl x :: S) h Q) : AW M E pc L S h Q := by
  intro l p e R s m args below meth c H locs cells slots A dC dI dA ad ad0 ls n0 m0 QQ hs hf hy
  exact lv_iload hs.1 hs.2.1 hd (hy.2.2.2.2.2.1.2.2 _ _ hL) (k l p e R s m args below meth c H locs cells slots A dC dI dA ad ad0 ls n0 m0 QQ hs hf hy)
theorem aw_ist_n {i : Nat} {j : Fin 4} {L' : List (Option AV)} {x : Int} (hd : decode M.2.1 pc = .ok (.istore_n j, 1)) (hi : (j : Nat) = i) (hn : i < M.2.2.1) (hL : L.set i (some (.inl x)) = L')
    (k : AW M E (pc + 1) L' S h Q) : AW M E pc L (.inl x :: S) h Q := by
  intro l p e R s m args below meth c H locs cells slots A dC dI dA ad ad0 ls n0 m0 QQ hs hf hy
  subst hL
  exact lv_istore_n hs.1 hs.2.1 hd hi (lvL.has hy.2.2.2.2.2.1) hn rfl (fun ls' h' => k l p e R s m args below meth c H locs cells slots A dC dI dA ad ad0 ls' n0 m0 QQ hs hf ⟨hy.1, hy.2.1, hy.2.2.1, hy.2.2.2.1, hy.2.2.2.2.1, lvL.store h', hy.2.2.2.2.2.2.1, hy.2.2.2.2.2.2.2⟩)
theorem aw_ist {i : Nat} {L' : List (Option AV)} {x : Int} (hd : decode M.2.1 pc = .ok (.istore i, 2)) (hn : i < M.2.2.1) (hL : L.set i (some (.inl x)) = L')
    (k : AW M E (pc + 2) L' S h Q) : AW M E pc L (.inl x :: S) h Q := by
  intro l p e R s m args below meth c H locs cells slots A dC dI dA ad ad0 ls n0 m0 QQ hs hf hy
  subst hL
  exact lv_istore hs.1 hs.2.1 hd (lvL.has hy.2.2.2.2.2.1) hn rfl (fun ls' h' => k l p e R s m args below meth c H locs cells slots A dC dI dA ad ad0 ls' n0 m0 QQ hs hf ⟨hy.1, hy.2.1, hy.2.2.1, hy.2.2.2.1, hy.2.2.2.2.1, lvL.store h', hy.2.2.2.2.2.2.1, hy.2.2.2.2.2.2.2⟩)
theorem aw_ald_n {i : Nat} {j : Fin 4} {x : Nat} (hd : decode M.2.1 pc = .ok (.aload_n j, 1)) (hi : (j : Nat) = i) (hL : L[i]? = some (some (.inr x)))
    (k : AW M E (pc + 1) L (.inr x :: S) h Q) : AW M E pc L S h Q := by
  intro l p e R s m args below meth c H locs cells slots A dC dI dA ad ad0 ls n0 m0 QQ hs hf hy
  exact lv_aload_n hs.1 hs.2.1 hd hi (hy.2.2.2.2.2.1.2.2 _ _ hL) (k l p e R s m args below meth c H locs cells slots A dC dI dA ad ad0 ls n0 m0 QQ hs hf hy)
theorem aw_ald {i : Nat} {x : Nat} (hd : decode M.2.1 pc = .ok (.aload i, 2)) (hL : L[i]? = some (some (.inr x)))
    (k : AW M E (pc + 2) L (.inr x :: S) h Q) : AW M E pc L S h Q := by
  intro l p e R s m args below meth c H locs cells slots A dC dI dA ad ad0 ls n0 m0 QQ hs hf hy
  exact lv_aload hs.1 hs.2.1 hd (hy.2.2.2.2.2.1.2.2 _ _ hL) (k l p e R s m args below meth c H locs cells slots A dC dI dA ad ad0 ls n0 m0 QQ hs hf hy)
theorem aw_ast_n {i : Nat} {j : Fin 4} {L' : List (Option AV)} {x : Nat} (hd : decode M.2.1 pc = .ok (.astore_n j, 1)) (hi : (j : Nat) = i) (hn : i < M.2.2.1) (hL : L.set i (some (.inr x)) = L')
    (k : AW M E (pc + 1) L' S h Q) : AW M E pc L (.inr x :: S) h Q := by
  intro l p e R s m args below meth c H locs cells slots A dC dI dA ad ad0 ls n0 m0 QQ hs hf hy
  subst hL
  exact lv_astore_n hs.1 hs.2.1 hd hi (lvL.has hy.2.2.2.2.2.1) hn rfl (fun ls' h' => k l p e R s m args below meth c H locs cells slots A dC dI dA ad ad0 ls' n0 m0 QQ hs hf ⟨hy.1, hy.2.1, hy.2.2.1, hy.2.2.2.1, hy.2.2.2.2.1, lvL.store h', hy.2.2.2.2.2.2.1, hy.2.2.2.2.2.2.2⟩)
theorem aw_ast {i : Nat} {L' : List (Option AV)} {x : Nat} (hd : decode M.2.1 pc = .ok (.astore i, 2)) (hn : i < M.2.2.1) (hL : L.set i (some (.inr x)) = L')
    (k : AW M E (pc + 2) L' S h Q) : AW M E pc L (.inr x :: S) h Q := by
  intro l p e R s m args below meth c H locs cells slots A dC dI dA ad ad0 ls n0 m0 QQ hs hf hy
  subst hL
  exact lv_astore hs.1 hs.2.1 hd (lvL.has hy.2.2.2.2.2.1) hn rfl (fun ls' h' => k l p e R s m args below meth c H locs cells slots A dC dI dA ad ad0 ls' n0 m0 QQ hs hf ⟨hy.1, hy.2.1, hy.2.2.1, hy.2.2.2.1, hy.2.2.2.2.1, lvL.store h', hy.2.2.2.2.2.2.1, hy.2.2.2.2.2.2.2⟩)
theorem aw_iinc {i : Nat} {n x : Int} {L' : List (Option AV)} (hd : decode M.2.1 pc = .ok (.iinc i n, 3)) (hn : i < M.2.2.1) (hx : L[i]? = some (some (.inl x))) (hL : L.set i (some (.inl (x + n))) = L')
    (k : AW M E (pc + 3) L' S h Q) : AW M E pc L S h Q := by
  intro l p e R s m args below meth c H locs cells slots A dC dI dA ad ad0 ls n0 m0 QQ hs hf hy
  subst hL
  obtain ⟨q, hq⟩ := List.getElem?_of_mem (aPr_mem.mpr ⟨_, hx, rfl⟩ : ((i, cv ad (.inl x)) : Nat × Value) ∈ aPr ad L)
  exact lv_iinc (v := Int32.ofInt (x + n)) hs.1 hs.2.1 hd (lvL.has hy.2.2.2.2.2.1) hq (ofI_add x n).symm hn rfl (fun ls' h' => k l p e R s m args below meth c H locs cells slots A dC dI dA ad ad0 ls' n0 m0 QQ hs hf ⟨hy.1, hy.2.1, hy.2.2.1, hy.2.2.2.1, hy.2.2.2.2.1, lvL.store h', hy.2.2.2.2.2.2.1, hy.2.2.2.2.2.2.2⟩)
theorem aw_iadd {x y : Int} (hd : decode M.2.1 pc = .ok (.iadd, 1))
    (k : AW M E (pc + 1) L (.inl (x + y) :: S) h Q) : AW M E pc L (.inl y :: .inl x :: S) h Q := by
  intro l p e R s m args below meth c H locs cells slots A dC dI dA ad ad0 ls n0 m0 QQ hs hf hy
  refine lv_iadd hs.1 hs.2.1 hd ?_
  rw [← ofI_add x y]
  exact k l p e R s m args below meth c H locs cells slots A dC dI dA ad ad0 ls n0 m0 QQ hs hf hy
theorem aw_isub {x y : Int} (hd : decode M.2.1 pc = .ok (.isub, 1))
    (k : AW M E (pc + 1) L (.inl (x - y) :: S) h Q) : AW M E pc L (.inl y :: .inl x :: S) h Q := by
  intro l p e R s m args below meth c H locs cells slots A dC dI dA ad ad0 ls n0 m0 QQ hs hf hy
  refine lv_isub hs.1 hs.2.1 hd ?_
  rw [← ofI_sub x y]
  exact k l p e R s m args below meth c H locs cells slots A dC dI dA ad ad0 ls n0 m0 QQ hs hf hy
theorem aw_imul {x y : Int} (hd : decode M.2.1 pc = .ok (.imul, 1))
    (k : AW M E (pc + 1) L (.inl (x * y) :: S) h Q) : AW M E pc L (.inl y :: .inl x :: S) h Q := by
  intro l p e R s m args below meth c H locs cells slots A dC dI dA ad ad0 ls n0 m0 QQ hs hf hy
  refine lv_imul hs.1 hs.2.1 hd ?_
  rw [← ofI_mul x y]
  exact k l p e R s m args below meth c H locs cells slots A dC dI dA ad ad0 ls n0 m0 QQ hs hf hy
def iAnd (x y : Int) : Int := (Int32.ofInt x &&& Int32.ofInt y).toInt
def iOr (x y : Int) : Int := (Int32.ofInt x ||| Int32.ofInt y).toInt
def iXor (x y : Int) : Int := (Int32.ofInt x ^^^ Int32.ofInt y).toInt
def iShl (x y : Int) : Int := (Int32.ofInt x <<< (Int32.ofInt y &&& 31)).toInt
def iShr (x y : Int) : Int := (Int32.ofInt x >>> (Int32.ofInt y &&& 31)).toInt
def iRem (x y : Int) : Int := (Int32.ofInt x - Int32.ofInt x / Int32.ofInt y * Int32.ofInt y).toInt
theorem aw_iand {x y : Int} (hd : decode M.2.1 pc = .ok (.iand, 1))
    (k : AW M E (pc + 1) L (.inl (iAnd x y) :: S) h Q) : AW M E pc L (.inl y :: .inl x :: S) h Q := by
  intro l p e R s m args below meth c H locs cells slots A dC dI dA ad ad0 ls n0 m0 QQ hs hf hy
  refine lv_iand hs.1 hs.2.1 hd ?_
  have hk := k l p e R s m args below meth c H locs cells slots A dC dI dA ad ad0 ls n0 m0 QQ hs hf hy
  simp only [List.map_cons, cv, iAnd, Int32.ofInt_toInt] at hk
  exact hk
theorem aw_ior {x y : Int} (hd : decode M.2.1 pc = .ok (.ior, 1))
    (k : AW M E (pc + 1) L (.inl (iOr x y) :: S) h Q) : AW M E pc L (.inl y :: .inl x :: S) h Q := by
  intro l p e R s m args below meth c H locs cells slots A dC dI dA ad ad0 ls n0 m0 QQ hs hf hy
  refine lv_ior hs.1 hs.2.1 hd ?_
  have hk := k l p e R s m args below meth c H locs cells slots A dC dI dA ad ad0 ls n0 m0 QQ hs hf hy
  simp only [List.map_cons, cv, iOr, Int32.ofInt_toInt] at hk
  exact hk
theorem aw_ixor {x y : Int} (hd : decode M.2.1 pc = .ok (.ixor, 1))
    (k : AW M E (pc + 1) L (.inl (iXor x y) :: S) h Q) : AW M E pc L (.inl y :: .inl x :: S) h Q := by
  intro l p e R s m args below meth c H locs cells slots A dC dI dA ad ad0 ls n0 m0 QQ hs hf hy
  refine lv_ixor hs.1 hs.2.1 hd ?_
  have hk := k l p e R s m args below meth c H locs cells slots A dC dI dA ad ad0 ls n0 m0 QQ hs hf hy
  simp only [List.map_cons, cv, iXor, Int32.ofInt_toInt] at hk
  exact hk
theorem aw_ishl {x y : Int} (hd : decode M.2.1 pc = .ok (.ishl, 1))
    (k : AW M E (pc + 1) L (.inl (iShl x y) :: S) h Q) : AW M E pc L (.inl y :: .inl x :: S) h Q := by
  intro l p e R s m args below meth c H locs cells slots A dC dI dA ad ad0 ls n0 m0 QQ hs hf hy
  refine lv_ishl hs.1 hs.2.1 hd ?_
  have hk := k l p e R s m args below meth c H locs cells slots A dC dI dA ad ad0 ls n0 m0 QQ hs hf hy
  simp only [List.map_cons, cv, iShl, Int32.ofInt_toInt] at hk
  exact hk
theorem aw_ishr {x y : Int} (hd : decode M.2.1 pc = .ok (.ishr, 1))
    (k : AW M E (pc + 1) L (.inl (iShr x y) :: S) h Q) : AW M E pc L (.inl y :: .inl x :: S) h Q := by
  intro l p e R s m args below meth c H locs cells slots A dC dI dA ad ad0 ls n0 m0 QQ hs hf hy
  refine lv_ishr hs.1 hs.2.1 hd ?_
  have hk := k l p e R s m args below meth c H locs cells slots A dC dI dA ad ad0 ls n0 m0 QQ hs hf hy
  simp only [List.map_cons, cv, iShr, Int32.ofInt_toInt] at hk
  exact hk
theorem aw_irem {x y : Int} (hd : decode M.2.1 pc = .ok (.irem, 1)) (hr : rng y) (h0 : y ≠ 0)
    (k : AW M E (pc + 1) L (.inl (iRem x y) :: S) h Q) : AW M E pc L (.inl y :: .inl x :: S) h Q := by
  intro l p e R s m args below meth c H locs cells slots A dC dI dA ad ad0 ls n0 m0 QQ hs hf hy
  refine lv_irem hs.1 hs.2.1 hd (fun z => h0 ((ofI_eq hr (⟨by omega, by omega⟩ : rng 0)).mp z)) ?_
  have hk := k l p e R s m args below meth c H locs cells slots A dC dI dA ad ad0 ls n0 m0 QQ hs hf hy
  simp only [List.map_cons, cv, iRem, Int32.ofInt_toInt] at hk
  exact hk
theorem aw_ineg {x : Int} (hd : decode M.2.1 pc = .ok (.ineg, 1))
    (k : AW M E (pc + 1) L (.inl (-x) :: S) h Q) : AW M E pc L (.inl x :: S) h Q := by
  intro l p e R s m args below meth c H locs cells slots A dC dI dA ad ad0 ls n0 m0 QQ hs hf hy
  refine lv_ineg hs.1 hs.2.1 hd ?_
  rw [← ofI_neg x]
  exact k l p e R s m args below meth c H locs cells slots A dC dI dA ad ad0 ls n0 m0 QQ hs hf hy
theorem ofI_char {x : Int} (h0 : 0 ≤ x) (h1 : x < 65536) : ((Int32.ofInt x).toUInt32 % 65536).toInt32 = Int32.ofInt x := by
  obtain ⟨n, rfl⟩ := Int.eq_ofNat_of_zero_le h0
  have hn : n < 65536 := by omega
  have e : Int32.ofInt (n : Int) = nI n := rfl
  rw [e, pk_char, pk_tn (by omega), Nat.mod_eq_of_lt hn]
theorem aw_i2c {x : Int} (hd : decode M.2.1 pc = .ok (.i2c, 1)) (h0 : 0 ≤ x) (h1 : x < 65536)
    (k : AW M E (pc + 1) L (.inl x :: S) h Q) : AW M E pc L (.inl x :: S) h Q := by
  intro l p e R s m args below meth c H locs cells slots A dC dI dA ad ad0 ls n0 m0 QQ hs hf hy
  exact lv_i2c hs.1 hs.2.1 hd (ofI_char h0 h1) (k l p e R s m args below meth c H locs cells slots A dC dI dA ad ad0 ls n0 m0 QQ hs hf hy)
theorem aw_dup {v : AV} (hd : decode M.2.1 pc = .ok (.dup, 1))
    (k : AW M E (pc + 1) L (v :: v :: S) h Q) : AW M E pc L (v :: S) h Q := by
  intro l p e R s m args below meth c H locs cells slots A dC dI dA ad ad0 ls n0 m0 QQ hs hf hy
  exact lv_dup hs.1 hs.2.1 hd (cv_cat ad v) (k l p e R s m args below meth c H locs cells slots A dC dI dA ad ad0 ls n0 m0 QQ hs hf hy)
theorem aw_dup2 {u v : AV} (hd : decode M.2.1 pc = .ok (.dup2, 1))
    (k : AW M E (pc + 1) L (v :: u :: v :: u :: S) h Q) : AW M E pc L (v :: u :: S) h Q := by
  intro l p e R s m args below meth c H locs cells slots A dC dI dA ad ad0 ls n0 m0 QQ hs hf hy
  exact lv_dup2_11 hs.1 hs.2.1 hd (cv_cat ad v) (cv_cat ad u) (k l p e R s m args below meth c H locs cells slots A dC dI dA ad ad0 ls n0 m0 QQ hs hf hy)
theorem aw_goto {off : Int} {tgt : Nat} (hd : decode M.2.1 pc = .ok (.goto off, 3)) (ht : (pc : Int) + off = (tgt : Int))
    (k : AW M E tgt L S h Q) : AW M E pc L S h Q := by
  intro l p e R s m args below meth c H locs cells slots A dC dI dA ad ad0 ls n0 m0 QQ hs hf hy
  exact lv_goto hs.1 hs.2.1 hd ht (k l p e R s m args below meth c H locs cells slots A dC dI dA ad ad0 ls n0 m0 QQ hs hf hy)
theorem aw_icmp_lt {x y off : Int} {tgt : Nat} (hd : decode M.2.1 pc = .ok (.if_icmp .lt off, 3)) (ht : (pc : Int) + off = (tgt : Int)) (hx : rng x) (hy0 : rng y)
    (kt : x < y → AW M E tgt L S h Q) (kf : y ≤ x → AW M E (pc + 3) L S h Q) : AW M E pc L (.inl y :: .inl x :: S) h Q := by
  intro l p e R s m args below meth c H locs cells slots A dC dI dA ad ad0 ls n0 m0 QQ hs hf hy
  exact lv_icmp_lt hs.1 hs.2.1 hd ht (fun q => kt ((ofI_lt hx hy0).mp q) l p e R s m args below meth c H locs cells slots A dC dI dA ad ad0 ls n0 m0 QQ hs hf hy) (fun q => kf (by have q2 := mt (ofI_lt hx hy0).mpr q; omega) l p e R s m args below meth c H locs cells slots A dC dI dA ad ad0 ls n0 m0 QQ hs hf hy)
theorem aw_if_lt {x off : Int} {tgt : Nat} (hd : decode M.2.1 pc = .ok (.ifCond .lt off, 3)) (ht : (pc : Int) + off = (tgt : Int)) (hx : rng x)
    (kt : x < 0 → AW M E tgt L S h Q) (kf : 0 ≤ x → AW M E (pc + 3) L S h Q) : AW M E pc L (.inl x :: S) h Q := by
  intro l p e R s m args below meth c H locs cells slots A dC dI dA ad ad0 ls n0 m0 QQ hs hf hy
  exact lv_if_lt hs.1 hs.2.1 hd ht (fun q => kt ((ofI_lt hx (⟨by omega, by omega⟩ : rng 0)).mp q) l p e R s m args below meth c H locs cells slots A dC dI dA ad ad0 ls n0 m0 QQ hs hf hy) (fun q => kf (by have q2 := mt (ofI_lt hx (⟨by omega, by omega⟩ : rng 0)).mpr q; omega) l p e R s m args below meth c H locs cells slots A dC dI dA ad ad0 ls n0 m0 QQ hs hf hy)
theorem aw_icmp_ge {x y off : Int} {tgt : Nat} (hd : decode M.2.1 pc = .ok (.if_icmp .ge off, 3)) (ht : (pc : Int) + off = (tgt : Int)) (hx : rng x) (hy0 : rng y)
    (kt : y ≤ x → AW M E tgt L S h Q) (kf : x < y → AW M E (pc + 3) L S h Q) : AW M E pc L (.inl y :: .inl x :: S) h Q := by
  intro l p e R s m args below meth c H locs cells slots A dC dI dA ad ad0 ls n0 m0 QQ hs hf hy
  exact lv_icmp_ge hs.1 hs.2.1 hd ht (fun q => kt ((ofI_le hy0 hx).mp q) l p e R s m args below meth c H locs cells slots A dC dI dA ad ad0 ls n0 m0 QQ hs hf hy) (fun q => kf (by have q2 := mt (ofI_le hy0 hx).mpr q; omega) l p e R s m args below meth c H locs cells slots A dC dI dA ad ad0 ls n0 m0 QQ hs hf hy)
theorem aw_if_ge {x off : Int} {tgt : Nat} (hd : decode M.2.1 pc = .ok (.ifCond .ge off, 3)) (ht : (pc : Int) + off = (tgt : Int)) (hx : rng x)
    (kt : 0 ≤ x → AW M E tgt L S h Q) (kf : x < 0 → AW M E (pc + 3) L S h Q) : AW M E pc L (.inl x :: S) h Q := by
  intro l p e R s m args below meth c H locs cells slots A dC dI dA ad ad0 ls n0 m0 QQ hs hf hy
  exact lv_if_ge hs.1 hs.2.1 hd ht (fun q => kt ((ofI_le (⟨by omega, by omega⟩ : rng 0) hx).mp q) l p e R s m args below meth c H locs cells slots A dC dI dA ad ad0 ls n0 m0 QQ hs hf hy) (fun q => kf (by have q2 := mt (ofI_le (⟨by omega, by omega⟩ : rng 0) hx).mpr q; omega) l p e R s m args below meth c H locs cells slots A dC dI dA ad ad0 ls n0 m0 QQ hs hf hy)
theorem aw_icmp_gt {x y off : Int} {tgt : Nat} (hd : decode M.2.1 pc = .ok (.if_icmp .gt off, 3)) (ht : (pc : Int) + off = (tgt : Int)) (hx : rng x) (hy0 : rng y)
    (kt : y < x → AW M E tgt L S h Q) (kf : x ≤ y → AW M E (pc + 3) L S h Q) : AW M E pc L (.inl y :: .inl x :: S) h Q := by
  intro l p e R s m args below meth c H locs cells slots A dC dI dA ad ad0 ls n0 m0 QQ hs hf hy
  exact lv_icmp_gt hs.1 hs.2.1 hd ht (fun q => kt ((ofI_lt hy0 hx).mp q) l p e R s m args below meth c H locs cells slots A dC dI dA ad ad0 ls n0 m0 QQ hs hf hy) (fun q => kf (by have q2 := mt (ofI_lt hy0 hx).mpr q; omega) l p e R s m args below meth c H locs cells slots A dC dI dA ad ad0 ls n0 m0 QQ hs hf hy)
theorem aw_if_gt {x off : Int} {tgt : Nat} (hd : decode M.2.1 pc = .ok (.ifCond .gt off, 3)) (ht : (pc : Int) + off = (tgt : Int)) (hx : rng x)
    (kt : 0 < x → AW M E tgt L S h Q) (kf : x ≤ 0 → AW M E (pc + 3) L S h Q) : AW M E pc L (.inl x :: S) h Q := by
  intro l p e R s m args below meth c H locs cells slots A dC dI dA ad ad0 ls n0 m0 QQ hs hf hy
  exact lv_if_gt hs.1 hs.2.1 hd ht (fun q => kt ((ofI_lt (⟨by omega, by omega⟩ : rng 0) hx).mp q) l p e R s m args below meth c H locs cells slots A dC dI dA ad ad0 ls n0 m0 QQ hs hf hy) (fun q => kf (by have q2 := mt (ofI_lt (⟨by omega, by omega⟩ : rng 0) hx).mpr q; omega) l p e R s m args below meth c H locs cells slots A dC dI dA ad ad0 ls n0 m0 QQ hs hf hy)
theorem aw_icmp_le {x y off : Int} {tgt : Nat} (hd : decode M.2.1 pc = .ok (.if_icmp .le off, 3)) (ht : (pc : Int) + off = (tgt : Int)) (hx : rng x) (hy0 : rng y)
    (kt : x ≤ y → AW M E tgt L S h Q) (kf : y < x → AW M E (pc + 3) L S h Q) : AW M E pc L (.inl y :: .inl x :: S) h Q := by
  intro l p e R s m args below meth c H locs cells slots A dC dI dA ad ad0 ls n0 m0 QQ hs hf hy
  exact lv_icmp_le hs.1 hs.2.1 hd ht (fun q => kt ((ofI_le hx hy0).mp q) l p e R s m args below meth c H locs cells slots A dC dI dA ad ad0 ls n0 m0 QQ hs hf hy) (fun q => kf (by have q2 := mt (ofI_le hx hy0).mpr q; omega) l p e R s m args below meth c H locs cells slots A dC dI dA ad ad0 ls n0 m0 QQ hs hf hy)
theorem aw_if_le {x off : Int} {tgt : Nat} (hd : decode M.2.1 pc = .ok (.ifCond .le off, 3)) (ht : (pc : Int) + off = (tgt : Int)) (hx : rng x)
    (kt : x ≤ 0 → AW M E tgt L S h Q) (kf : 0 < x → AW M E (pc + 3) L S h Q) : AW M E pc L (.inl x :: S) h Q := by
  intro l p e R s m args below meth c H locs cells slots A dC dI dA ad ad0 ls n0 m0 QQ hs hf hy
  exact lv_if_le hs.1 hs.2.1 hd ht (fun q => kt ((ofI_le hx (⟨by omega, by omega⟩ : rng 0)).mp q) l p e R s m args below meth c H locs cells slots A dC dI dA ad ad0 ls n0 m0 QQ hs hf hy) (fun q => kf (by have q2 := mt (ofI_le hx (⟨by omega, by omega⟩ : rng 0)).mpr q; omega) l p e R s m args below meth c H locs cells slots A dC dI dA ad ad0 ls n0 m0 QQ hs hf hy)
theorem aw_icmp_eq {x y off : Int} {tgt : Nat} (hd : decode M.2.1 pc = .ok (.if_icmp .eq off, 3)) (ht : (pc : Int) + off = (tgt : Int)) (hr : x = y ∨ (rng x ∧ rng y))
    (kt : x = y → AW M E tgt L S h Q) (kf : ¬ x = y → AW M E (pc + 3) L S h Q) : AW M E pc L (.inl y :: .inl x :: S) h Q := by
  intro l p e R s m args below meth c H locs cells slots A dC dI dA ad ad0 ls n0 m0 QQ hs hf hy
  refine lv_icmp_eq hs.1 hs.2.1 hd ht (fun q => ?_) (fun q => ?_)
  · exact kt (hr.elim id (fun r => (ofI_eq r.1 r.2).mp q)) l p e R s m args below meth c H locs cells slots A dC dI dA ad ad0 ls n0 m0 QQ hs hf hy
  · exact kf (fun z => q (by rw [z])) l p e R s m args below meth c H locs cells slots A dC dI dA ad ad0 ls n0 m0 QQ hs hf hy
theorem aw_icmp_ne {x y off : Int} {tgt : Nat} (hd : decode M.2.1 pc = .ok (.if_icmp .ne off, 3)) (ht : (pc : Int) + off = (tgt : Int)) (hr : x = y ∨ (rng x ∧ rng y))
    (kt : ¬ x = y → AW M E tgt L S h Q) (kf : x = y → AW M E (pc + 3) L S h Q) : AW M E pc L (.inl y :: .inl x :: S) h Q := by
  intro l p e R s m args below meth c H locs cells slots A dC dI dA ad ad0 ls n0 m0 QQ hs hf hy
  refine lv_icmp_ne hs.1 hs.2.1 hd ht (fun q => ?_) (fun q => ?_)
  · exact kt (fun z => q (by rw [z])) l p e R s m args below meth c H locs cells slots A dC dI dA ad ad0 ls n0 m0 QQ hs hf hy
  · exact kf (hr.elim id (fun r => (ofI_eq r.1 r.2).mp q)) l p e R s m args below meth c H locs cells slots A dC dI dA ad ad0 ls n0 m0 QQ hs hf hy
theorem aw_if_eq {x off : Int} {tgt : Nat} (hd : decode M.2.1 pc = .ok (.ifCond .eq off, 3)) (ht : (pc : Int) + off = (tgt : Int)) (hr : rng x)
    (kt : x = 0 → AW M E tgt L S h Q) (kf : ¬ x = 0 → AW M E (pc + 3) L S h Q) : AW M E pc L (.inl x :: S) h Q := by
  intro l p e R s m args below meth c H locs cells slots A dC dI dA ad ad0 ls n0 m0 QQ hs hf hy
  refine lv_if_eq hs.1 hs.2.1 hd ht (fun q => ?_) (fun q => ?_)
  · exact kt ((ofI_eq hr (⟨by omega, by omega⟩ : rng 0)).mp q) l p e R s m args below meth c H locs cells slots A dC dI dA ad ad0 ls n0 m0 QQ hs hf hy
  · exact kf (fun z => q (by rw [z]; rfl)) l p e R s m args below meth c H locs cells slots A dC dI dA ad ad0 ls n0 m0 QQ hs hf hy
theorem aw_if_ne {x off : Int} {tgt : Nat} (hd : decode M.2.1 pc = .ok (.ifCond .ne off, 3)) (ht : (pc : Int) + off = (tgt : Int)) (hr : rng x)
    (kt : ¬ x = 0 → AW M E tgt L S h Q) (kf : x = 0 → AW M E (pc + 3) L S h Q) : AW M E pc L (.inl x :: S) h Q := by
  intro l p e R s m args below meth c H locs cells slots A dC dI dA ad ad0 ls n0 m0 QQ hs hf hy
  refine lv_if_ne hs.1 hs.2.1 hd ht (fun q => ?_) (fun q => ?_)
  · exact kt (fun z => q (by rw [z]; rfl)) l p e R s m args below meth c H locs cells slots A dC dI dA ad ad0 ls n0 m0 QQ hs hf hy
  · exact kf ((ofI_eq hr (⟨by omega, by omega⟩ : rng 0)).mp q) l p e R s m args below meth c H locs cells slots A dC dI dA ad ad0 ls n0 m0 QQ hs hf hy
theorem aw_tswIn {dflt lo hi : Int} {offs : Array Int} {len : Nat} {x off : Int} {tgt : Nat} (hd : decode M.2.1 pc = .ok (.tableswitch dflt lo hi offs, len)) (hr : rng x) (h1 : lo ≤ x) (h2 : x ≤ hi) (ho : offs[(x - lo).toNat]? = some off) (ht : (pc : Int) + off = (tgt : Int))
    (k : AW M E tgt L S h Q) : AW M E pc L (.inl x :: S) h Q := by
  intro l p e R s m args below meth c H locs cells slots A dC dI dA ad ad0 ls n0 m0 QQ hs hf hy
  exact lv_tableIn hs.1 hs.2.1 hd (by rw [ofI_toInt hr]; omega) (by rw [ofI_toInt hr]; omega) (by rw [ofI_toInt hr]; exact ho) ht (k l p e R s m args below meth c H locs cells slots A dC dI dA ad ad0 ls n0 m0 QQ hs hf hy)
theorem aw_tswOut {dflt lo hi : Int} {offs : Array Int} {len : Nat} {x : Int} {tgt : Nat} (hd : decode M.2.1 pc = .ok (.tableswitch dflt lo hi offs, len)) (hr : rng x) (h1 : x < lo ∨ hi < x) (ht : (pc : Int) + dflt = (tgt : Int))
    (k : AW M E tgt L S h Q) : AW M E pc L (.inl x :: S) h Q := by
  intro l p e R s m args below meth c H locs cells slots A dC dI dA ad ad0 ls n0 m0 QQ hs hf hy
  exact lv_tableOut hs.1 hs.2.1 hd (by rw [ofI_toInt hr]; exact h1) ht (k l p e R s m args below meth c H locs cells slots A dC dI dA ad ad0 ls n0 m0 QQ hs hf hy)
theorem aw_lsw {dflt : Int} {ps : Array (Int × Int)} {len : Nat} {x off : Int} {tgt : Nat} (hd : decode M.2.1 pc = .ok (.lookupswitch dflt ps, len)) (hr : rng x) (hp : (ps.toList.zip (ps.toList.drop 1)).all (fun (a, next) => a.1 < next.1) = true) (ho : Op.lookupswitch.offset ps.toList dflt x = off) (ht : (pc : Int) + off = (tgt : Int))
    (k : AW M E tgt L S h Q) : AW M E pc L (.inl x :: S) h Q := by
  intro l p e R s m args below meth c H locs cells slots A dC dI dA ad ad0 ls n0 m0 QQ hs hf hy
  exact lv_lookup hs.1 hs.2.1 hd hp (by rw [ofI_toInt hr]; exact ho) ht (k l p e R s m args below meth c H locs cells slots A dC dI dA ad ad0 ls n0 m0 QQ hs hf hy)
end MACH
end
section
section HEAP
variable {M : MI} {E : AE} {pc : Nat} {L : List (Option AV)} {S : List AV} {h : HP} {Q : Option Int → HP → Prop}
def aCl (ci : Nat) (C : String) (T : u_T) (N : Nat) (ty : Nat → FieldType) : Prop := vwCl[ci]? = some (C, T, N) ∧ (∀ w ∈ u_ws C T N, w ∈ GW) ∧ (∀ k, k < N → parseFieldDescriptor (T k).2.2.1 = some (ty k)) ∧ (∀ a, a < N → ∀ b, b < N → a ≠ b → (T a).2.1 ≠ (T b).2.1)
def aFl (own : String) (idx ci j : Nat) : Prop := ∃ (C : String) (T : u_T) (N : Nat) (ty : Nat → FieldType), aCl ci C T N ty ∧ j < N ∧ (T j).1 = C ∧ (Cond.fieldLink own idx C (T j).2.1 (T j).2.2.1 ∈ GW ∨ ∃ host, Cond.fieldLinkNest own idx C (T j).2.1 (T j).2.2.1 host ∈ NWL)
def aFn (own : String) (idx ci j : Nat) (b : Bool) : Prop := ∃ (C : String) (T : u_T) (N : Nat) (ty : Nat → FieldType), aCl ci C T N ty ∧ j < N ∧ (T j).1 = C ∧ (Cond.fieldLink own idx C (T j).2.1 (T j).2.2.1 ∈ GW ∨ ∃ host, Cond.fieldLinkNest own idx C (T j).2.1 (T j).2.2.1 host ∈ NWL) ∧ (T j).2.2.2 = false ∧ ty j = (if b then .boolean else .int)
def aFf (own : String) (idx ci j : Nat) : Prop := ∃ (C : String) (T : u_T) (N : Nat) (ty : Nat → FieldType), aCl ci C T N ty ∧ j < N ∧ (T j).1 = C ∧ own = C ∧ Cond.fieldLink own idx C (T j).2.1 (T j).2.2.1 ∈ GW ∧ (T j).2.2.2 = true ∧ (∀ a : Nat, narrow (ty j) (.ref a) = .ref a ∧ fits (ty j) (.ref a) = true)
theorem aw_getV {idx q ci j : Nat} {fs : List ShF} {f : ShF} (hd : decode M.2.1 pc = .ok (.getfield idx, 3)) (hw : aFl M.1.cls idx ci j) (hc : h.1[q]? = some (.inl (ci, fs))) (hj : fs[j]? = some f)
    {l : Launch} {p : Program} {e : Env} {R : Room} {s : State} {m : MethodId} {args : Array Value} {below : List Frame} {meth : Method} {c : Code} {H : Heap} {locs : List Loc} {cells slots : Nat} {A : Nat → Prop} {dC : Nat → ClassId} {dI : Nat → Nat → Nat} {dA : Nat → ClassId} {ad ad0 : Nat → Nat} {ls : Array Slot} {n0 m0 : Nat} {QQ : State → Prop} {rest : List Value}
    (hs : aSt M E p R s m args meth c A dC dI dA n0 m0) (hy : aDy M E s H locs cells slots A dC dI dA ad ad0 ls n0 m0 L h)
    (kk : W p l e R s m args below meth c H locs cells slots QQ (F0 m (pc + 3) ls (cfl ad h.2 q j f :: rest))) : W p l e R s m args below meth c H locs cells slots QQ (F0 m pc ls (.ref (ad q) :: rest)) := by
  obtain ⟨s1, s2, s3, s4, s5, s6, s7, s8, s9, s10, s11, s12, s13, s14, s15, s16⟩ := id hs
  obtain ⟨y1, y2, y3, y4, y5, y6, y7, y8⟩ := id hy
  obtain ⟨C, T, N, ty, k1, k2, k3, k4⟩ := hw
  have he := con_get (dA := dA) (ad := ad) hc
  simp only [ce] at he
  have hv : (fs.mapIdx (cfl ad h.2 q))[j]? = some (cfl ad h.2 q j f) := by rw [List.getElem?_mapIdx, hj]; rfl
  rcases k4 with k4 | ⟨host, k4⟩
  · exact va_get (Ts := GW) s1 s2 s6 k1.2.1 s5 s11 y1 q he k1.1 j k2 (s6 _ k4) (fun x hx => by rw [k3] at hx; exact hx) hv hd kk
  · exact va_getN (Ts := GW) (host := host) s1 s2 s6 k1.2.1 s5 s11 y1 q he k1.1 j k2 (va_Nw.use rfl (s9 _ k4)) (fun x hx => by rw [k3] at hx; exact hx) hv hd kk
theorem aw_getI {idx q ci j : Nat} {jz : Int} {fs : List ShF} (hd : decode M.2.1 pc = .ok (.getfield idx, 3)) (hw : aFl M.1.cls idx ci j) (hc : h.1[q]? = some (.inl (ci, fs))) (hj : fs[j]? = some none) (hz : (j : Int) = jz)
    (k : AW M E (pc + 3) L (.inl (h.2 q jz) :: S) h Q) : AW M E pc L (.inr q :: S) h Q := by
  intro l p e R s m args below meth c H locs cells slots A dC dI dA ad ad0 ls n0 m0 QQ hs hf hy
  subst hz
  exact aw_getV hd hw hc hj hs hy (k l p e R s m args below meth c H locs cells slots A dC dI dA ad ad0 ls n0 m0 QQ hs hf hy)
theorem aw_getR {idx q ci j r : Nat} {fs : List ShF} (hd : decode M.2.1 pc = .ok (.getfield idx, 3)) (hw : aFl M.1.cls idx ci j) (hc : h.1[q]? = some (.inl (ci, fs))) (hj : fs[j]? = some (some (some r)))
    (k : AW M E (pc + 3) L (.inr r :: S) h Q) : AW M E pc L (.inr q :: S) h Q := by
  intro l p e R s m args below meth c H locs cells slots A dC dI dA ad ad0 ls n0 m0 QQ hs hf hy
  exact aw_getV hd hw hc hj hs hy (k l p e R s m args below meth c H locs cells slots A dC dI dA ad ad0 ls n0 m0 QQ hs hf hy)
theorem nar_b {v : Int} (b : Bool) (hb : b = true → v = 0 ∨ v = 1) : narrow (if b then .boolean else .int) (.int (Int32.ofInt v)) = .int (Int32.ofInt v) ∧ fits (if b then .boolean else .int) (.int (Int32.ofInt v)) = true := by
  cases b with
  | false => exact ⟨rfl, rfl⟩
  | true =>
    rcases hb rfl with rfl | rfl
    · exact ⟨by decide +kernel, by decide +kernel⟩
    · exact ⟨by decide +kernel, by decide +kernel⟩
theorem aw_putI {idx q ci j : Nat} {jz v : Int} {b : Bool} {fs : List ShF} (hd : decode M.2.1 pc = .ok (.putfield idx, 3)) (hw : aFn M.1.cls idx ci j b) (hc : h.1[q]? = some (.inl (ci, fs))) (hj : fs[j]? = some none) (hz : (j : Int) = jz) (hb : b = true → v = 0 ∨ v = 1)
    (k : AW M E (pc + 3) L S (h.1, am_up h.2 q jz v) Q) : AW M E pc L (.inl v :: .inr q :: S) h Q := by
  intro l p e R s m args below meth c H locs cells slots A dC dI dA ad ad0 ls n0 m0 QQ hs hf hy
  obtain ⟨s1, s2, s3, s4, s5, s6, s7, s8, s9, s10, s11, s12, s13, s14, s15, s16⟩ := id hs
  obtain ⟨y1, y2, y3, y4, y5, y6, y7, y8⟩ := id hy
  subst hz
  obtain ⟨C, T, N, ty, k1, k2, k3, k4, k5, k6⟩ := hw
  have he := con_get (dA := dA) (ad := ad) hc
  simp only [ce] at he
  obtain ⟨nb1, nb2⟩ := nar_b b hb
  rw [← k6] at nb1 nb2
  have hl : j < (fs.mapIdx (cfl ad h.2 q)).length := by simpa using (List.getElem?_eq_some_iff.mp hj).1
  have ecn : con dA ad (h.1, am_up h.2 q (j : Int) v) = (con dA ad h).set q (ad q, .inr (ci, (fs.mapIdx (cfl ad h.2 q)).set j (.int (Int32.ofInt v)))) := by
    rw [con_setI hc, ce_fI hj]
  have kk : ∀ (H1 : Heap) (locs1 : List Loc), va_P (dC, dI) vwCl ((con dA ad h).set q (ad q, .inr (ci, (fs.mapIdx (cfl ad h.2 q)).set j (.int (Int32.ofInt v))))) H1 → va_D A ((con dA ad h).set q (ad q, .inr (ci, (fs.mapIdx (cfl ad h.2 q)).set j (.int (Int32.ofInt v))))) → va_S A s.heap H1 locs1 → W p l e R s m args below meth c H1 locs1 cells slots QQ (F0 m (pc + 3) ls (S.map (cv ad))) := by
    intro H1 locs1 g1 g2 g3
    rw [← ecn] at g1 g2
    exact k l p e R s m args below meth c H1 locs1 cells slots A dC dI dA ad ad0 ls n0 m0 QQ hs hf ⟨g1, g2, g3, y4, y5, y6, y7, y8⟩
  rcases k4 with k4 | ⟨host, k4⟩
  · exact va_put (Ts := GW) s1 s2 s6 k1.2.1 ty k1.2.2.1 k1.2.2.2 s5 s11 y1 y2 y3 q he k1.1 j k2 (s6 _ k4) (fun x hx => by rw [k3] at hx; exact hx) k5 (k1.2.2.1 j k2) nb1 nb2 hl hd kk
  · exact va_putN (Ts := GW) (host := host) s1 s2 s6 k1.2.1 ty k1.2.2.1 k1.2.2.2 s5 s11 y1 y2 y3 q he k1.1 j k2 (va_Nw.use rfl (s9 _ k4)) (fun x hx => by rw [k3] at hx; exact hx) k5 (k1.2.2.1 j k2) nb1 nb2 hl hd kk
theorem aw_putR {idx q ci j r : Nat} {fs : List ShF} {sh' : List ShC} (hd : decode M.2.1 pc = .ok (.putfield idx, 3)) (hin : M.1.name = "<init>") (hw : aFf M.1.cls idx ci j) (hc : h.1[q]? = some (.inl (ci, fs))) (hj : j < fs.length) (hsh : h.1.set q (.inl (ci, fs.set j (some (some r)))) = sh')
    (k : AW M E (pc + 3) L S (sh', h.2) Q) : AW M E pc L (.inr r :: .inr q :: S) h Q := by
  intro l p e R s m args below meth c H locs cells slots A dC dI dA ad ad0 ls n0 m0 QQ hs hf hy
  obtain ⟨s1, s2, s3, s4, s5, s6, s7, s8, s9, s10, s11, s12, s13, s14, s15, s16⟩ := id hs
  obtain ⟨y1, y2, y3, y4, y5, y6, y7, y8⟩ := id hy
  obtain ⟨C, T, N, ty, k1, k2, k3, k3b, k4, k5, k6⟩ := hw
  have he := con_get (dA := dA) (ad := ad) hc
  simp only [ce] at he
  have hq : q < h.1.length := (List.getElem?_eq_some_iff.mp hc).1
  have hl : j < (fs.mapIdx (cfl ad h.2 q)).length := by simpa using hj
  have ecn : con dA ad (sh', h.2) = (con dA ad h).set q (ad q, .inr (ci, (fs.mapIdx (cfl ad h.2 q)).set j (.ref (ad r)))) := by
    rw [con_set (sh := h.1) (m := h.2) hq hsh.symm (fun i c _ => rfl)]
    simp only [ce]
    congr 4
    apply List.ext_getElem?
    intro i
    by_cases hi : i = j
    · subst hi
      rw [List.getElem?_set_self hl, List.getElem?_mapIdx, List.getElem?_set_self hj]
      rfl
    · rw [List.getElem?_set_ne (Ne.symm hi), List.getElem?_mapIdx, List.getElem?_mapIdx, List.getElem?_set_ne (Ne.symm hi)]
  have hlen : sh'.length = h.1.length := by rw [← hsh]; simp
  have hsl : slS sh' = slS h.1 := by
    rw [← hsh]
    unfold slS
    rw [List.map_set]
    have : h.1.map slC = (h.1.map slC).set q (slC (.inl (ci, fs.set j (some (some r))))) := by
      refine (List.ext_getElem? fun i => ?_)
      by_cases hi : i = q
      · subst hi
        rw [List.getElem?_set_self (by simpa using hq), List.getElem?_map, hc]
        simp [slC]
      · rw [List.getElem?_set_ne (Ne.symm hi)]
    rw [← this]
  refine va_putF (v := Value.ref (ad r)) (Ts := GW) s1 s2 s6 k1.2.1 ty k1.2.2.1 k1.2.2.2 s5 s11 y1 y2 y3 q he k1.1 j k2 (s6 _ k4) (fun x hx => by rw [k3] at hx; exact hx) k5 (s8.trans hin) (k3.trans k3b.symm) (k1.2.2.1 j k2) (k6 (ad r)).1 (k6 (ad r)).2 hl hd (fun H1 locs1 g1 g2 g3 => ?_)
  rw [← ecn] at g1 g2
  exact k l p e R s m args below meth c H1 locs1 cells slots A dC dI dA ad ad0 ls n0 m0 QQ hs hf ⟨g1, g2, g3, by show cells + n0 = sh'.length; rw [hlen]; exact y4, by show slots + m0 = slS sh'; rw [hsl]; exact y5, y6, y7, fun z hz => y8 z (by have hz2 : z < n0 ∨ sh'.length ≤ z := hz; rw [hlen] at hz2; exact hz2)⟩
theorem aw_iaload {q n : Nat} {i : Int} (hd : decode M.2.1 pc = .ok (.iaload, 1)) (hc : h.1[q]? = some (.inr (.inl (0, n)))) (h0 : 0 ≤ i) (h1 : i < n) (hn : n < 2147483648)
    (k : AW M E (pc + 1) L (.inl (h.2 q i) :: S) h Q) : AW M E pc L (.inl i :: .inr q :: S) h Q := by
  intro l p e R s m args below meth c H locs cells slots A dC dI dA ad ad0 ls n0 m0 QQ hs hf hy
  obtain ⟨s1, s2, s3, s4, s5, s6, s7, s8, s9, s10, s11, s12, s13, s14, s15, s16⟩ := id hs
  obtain ⟨y1, y2, y3, y4, y5, y6, y7, y8⟩ := id hy
  have he := con_get (dA := dA) (ad := ad) hc
  simp only [ce] at he
  refine va_iald s1 s2 s11 y1 q 0 he rfl (ofI_in h0 h1 hn) hd ?_
  rw [ofI_cl ⟨by omega, by omega⟩, Int.toNat_of_nonneg h0]
  exact k l p e R s m args below meth c H locs cells slots A dC dI dA ad ad0 ls n0 m0 QQ hs hf hy
theorem aw_baload {q n : Nat} {i : Int} (hd : decode M.2.1 pc = .ok (.baload, 1)) (hc : h.1[q]? = some (.inr (.inl (1, n)))) (h0 : 0 ≤ i) (h1 : i < n) (hn : n < 2147483648)
    (k : AW M E (pc + 1) L (.inl (h.2 q i) :: S) h Q) : AW M E pc L (.inl i :: .inr q :: S) h Q := by
  intro l p e R s m args below meth c H locs cells slots A dC dI dA ad ad0 ls n0 m0 QQ hs hf hy
  obtain ⟨s1, s2, s3, s4, s5, s6, s7, s8, s9, s10, s11, s12, s13, s14, s15, s16⟩ := id hs
  obtain ⟨y1, y2, y3, y4, y5, y6, y7, y8⟩ := id hy
  have he := con_get (dA := dA) (ad := ad) hc
  simp only [ce] at he
  refine va_zald s1 s2 s11 y1 q 1 he rfl (ofI_in h0 h1 hn) hd ?_
  rw [ofI_cl ⟨by omega, by omega⟩, Int.toNat_of_nonneg h0]
  exact k l p e R s m args below meth c H locs cells slots A dC dI dA ad ad0 ls n0 m0 QQ hs hf hy
theorem aw_caload {q n : Nat} {i : Int} (hd : decode M.2.1 pc = .ok (.caload, 1)) (hc : h.1[q]? = some (.inr (.inl (2, n)))) (h0 : 0 ≤ i) (h1 : i < n) (hn : n < 2147483648)
    (k : AW M E (pc + 1) L (.inl (h.2 q i) :: S) h Q) : AW M E pc L (.inl i :: .inr q :: S) h Q := by
  intro l p e R s m args below meth c H locs cells slots A dC dI dA ad ad0 ls n0 m0 QQ hs hf hy
  obtain ⟨s1, s2, s3, s4, s5, s6, s7, s8, s9, s10, s11, s12, s13, s14, s15, s16⟩ := id hs
  obtain ⟨y1, y2, y3, y4, y5, y6, y7, y8⟩ := id hy
  have he := con_get (dA := dA) (ad := ad) hc
  simp only [ce] at he
  refine va_cald s1 s2 s11 y1 q 2 he rfl (ofI_in h0 h1 hn) hd ?_
  rw [ofI_cl ⟨by omega, by omega⟩, Int.toNat_of_nonneg h0]
  exact k l p e R s m args below meth c H locs cells slots A dC dI dA ad ad0 ls n0 m0 QQ hs hf hy
theorem aw_aaload {q r : Nat} {i : Int} {rs : List (Option Nat)} (hd : decode M.2.1 pc = .ok (.aaload, 1)) (hc : h.1[q]? = some (.inr (.inr rs))) (h0 : 0 ≤ i) (hr : rs[i.toNat]? = some (some r)) (hn : rs.length < 2147483648)
    (k : AW M E (pc + 1) L (.inr r :: S) h Q) : AW M E pc L (.inl i :: .inr q :: S) h Q := by
  intro l p e R s m args below meth c H locs cells slots A dC dI dA ad ad0 ls n0 m0 QQ hs hf hy
  obtain ⟨s1, s2, s3, s4, s5, s6, s7, s8, s9, s10, s11, s12, s13, s14, s15, s16⟩ := id hs
  obtain ⟨y1, y2, y3, y4, y5, y6, y7, y8⟩ := id hy
  have he := con_get (dA := dA) (ad := ad) hc
  simp only [ce] at he
  have hl : i.toNat < rs.length := (List.getElem?_eq_some_iff.mp hr).1
  refine va_aldq (C := RX0) s1 s2 s11 y1 q 3 he rfl (ofI_in h0 (by omega) hn) hd ?_
  rw [ofI_cl ⟨by omega, by omega⟩, List.getD_eq_getElem?_getD, hr]
  exact k l p e R s m args below meth c H locs cells slots A dC dI dA ad ad0 ls n0 m0 QQ hs hf hy
theorem aw_iastore {q n : Nat} {i v : Int} (hd : decode M.2.1 pc = .ok (.iastore, 1)) (hc : h.1[q]? = some (.inr (.inl (0, n)))) (h0 : 0 ≤ i) (h1 : i < n) (hn : n < 2147483648) 
    (k : AW M E (pc + 1) L S (h.1, am_up h.2 q i v) Q) : AW M E pc L (.inl v :: .inl i :: .inr q :: S) h Q := by
  intro l p e R s m args below meth c H locs cells slots A dC dI dA ad ad0 ls n0 m0 QQ hs hf hy
  obtain ⟨s1, s2, s3, s4, s5, s6, s7, s8, s9, s10, s11, s12, s13, s14, s15, s16⟩ := id hs
  obtain ⟨y1, y2, y3, y4, y5, y6, y7, y8⟩ := id hy
  have he := con_get (dA := dA) (ad := ad) hc
  simp only [ce] at he
  have ecn : con dA ad (h.1, am_up h.2 q i v) = (con dA ad h).set q (ad q, .inl (dA 0, n, .inl (upd (fun j => Int32.ofInt (h.2 q (j : Int))) i.toNat (Int32.ofInt v)))) := by
    rw [con_setI hc, ce_aI h0]
  refine va_iast s1 s2 s11 y1 y2 y3 q 0 he rfl (ofI_in h0 h1 hn) hd (fun H1 locs1 g1 g2 g3 => ?_)
  rw [ofI_cl ⟨by omega, by omega⟩] at g1 g2
  rw [← ecn] at g1 g2
  exact k l p e R s m args below meth c H1 locs1 cells slots A dC dI dA ad ad0 ls n0 m0 QQ hs hf ⟨g1, g2, g3, y4, y5, y6, y7, y8⟩
theorem aw_bastore {q n : Nat} {i v : Int} (hd : decode M.2.1 pc = .ok (.bastore, 1)) (hc : h.1[q]? = some (.inr (.inl (1, n)))) (h0 : 0 ≤ i) (h1 : i < n) (hn : n < 2147483648) (hv : v = 0 ∨ v = 1)
    (k : AW M E (pc + 1) L S (h.1, am_up h.2 q i v) Q) : AW M E pc L (.inl v :: .inl i :: .inr q :: S) h Q := by
  intro l p e R s m args below meth c H locs cells slots A dC dI dA ad ad0 ls n0 m0 QQ hs hf hy
  obtain ⟨s1, s2, s3, s4, s5, s6, s7, s8, s9, s10, s11, s12, s13, s14, s15, s16⟩ := id hs
  obtain ⟨y1, y2, y3, y4, y5, y6, y7, y8⟩ := id hy
  have he := con_get (dA := dA) (ad := ad) hc
  simp only [ce] at he
  have ecn : con dA ad (h.1, am_up h.2 q i v) = (con dA ad h).set q (ad q, .inl (dA 1, n, .inl (upd (fun j => Int32.ofInt (h.2 q (j : Int))) i.toNat (Int32.ofInt v)))) := by
    rw [con_setI hc, ce_aI h0]
  have en : vp_nar .boolean (Int32.ofInt v) = Int32.ofInt v := (by rcases hv with rfl | rfl <;> decide +kernel)
  refine va_zast s1 s2 s11 y1 y2 y3 q 1 he rfl (ofI_in h0 h1 hn) hd (fun H1 locs1 g1 g2 g3 => ?_)
  rw [ofI_cl ⟨by omega, by omega⟩, en] at g1 g2
  rw [← ecn] at g1 g2
  exact k l p e R s m args below meth c H1 locs1 cells slots A dC dI dA ad ad0 ls n0 m0 QQ hs hf ⟨g1, g2, g3, y4, y5, y6, y7, y8⟩
theorem nar_c {x : Int} (h0 : 0 ≤ x) (h1 : x < 65536) : (Int32.ofInt x).toUInt32.toUInt16.toUInt32.toInt32 = Int32.ofInt x := by
  obtain ⟨n, rfl⟩ := Int.eq_ofNat_of_zero_le h0
  have hn : n < 65536 := by omega
  have e := (pk_charN hn).1
  have e2 : vp_nar .char (nI n) = nI n := by unfold vp_nar; rw [e]
  rw [vp_nar_char] at e2
  exact e2
theorem aw_castore {q n : Nat} {i v : Int} (hd : decode M.2.1 pc = .ok (.castore, 1)) (hc : h.1[q]? = some (.inr (.inl (2, n)))) (h0 : 0 ≤ i) (h1 : i < n) (hn : n < 2147483648) (hv0 : 0 ≤ v) (hv1 : v < 65536)
    (k : AW M E (pc + 1) L S (h.1, am_up h.2 q i v) Q) : AW M E pc L (.inl v :: .inl i :: .inr q :: S) h Q := by
  intro l p e R s m args below meth c H locs cells slots A dC dI dA ad ad0 ls n0 m0 QQ hs hf hy
  obtain ⟨s1, s2, s3, s4, s5, s6, s7, s8, s9, s10, s11, s12, s13, s14, s15, s16⟩ := id hs
  obtain ⟨y1, y2, y3, y4, y5, y6, y7, y8⟩ := id hy
  have he := con_get (dA := dA) (ad := ad) hc
  simp only [ce] at he
  have ecn : con dA ad (h.1, am_up h.2 q i v) = (con dA ad h).set q (ad q, .inl (dA 2, n, .inl (upd (fun j => Int32.ofInt (h.2 q (j : Int))) i.toNat (Int32.ofInt v)))) := by
    rw [con_setI hc, ce_aI h0]
  have en : vp_nar .char (Int32.ofInt v) = Int32.ofInt v := (by rw [vp_nar_char]; exact nar_c hv0 hv1)
  refine va_cast s1 s2 s11 y1 y2 y3 q 2 he rfl (ofI_in h0 h1 hn) hd (fun H1 locs1 g1 g2 g3 => ?_)
  rw [ofI_cl ⟨by omega, by omega⟩, en] at g1 g2
  rw [← ecn] at g1 g2
  exact k l p e R s m args below meth c H1 locs1 cells slots A dC dI dA ad ad0 ls n0 m0 QQ hs hf ⟨g1, g2, g3, y4, y5, y6, y7, y8⟩
theorem aw_aastore {q r qc : Nat} {i : Int} {rs : List (Option Nat)} {fs : List ShF} {sh' : List ShC} (hd : decode M.2.1 pc = .ok (.aastore, 1)) (hc : h.1[q]? = some (.inr (.inr rs))) (h0 : 0 ≤ i) (h1 : i < rs.length) (hn : rs.length < 2147483648) (hr : h.1[r]? = some (.inl (qc, fs))) (hq : vwCl[qc]? = some (RX0, TX0, 5)) (hsh : h.1.set q (.inr (.inr (rs.set i.toNat (some r)))) = sh')
    (k : AW M E (pc + 1) L S (sh', h.2) Q) : AW M E pc L (.inr r :: .inl i :: .inr q :: S) h Q := by
  intro l p e R s m args below meth c H locs cells slots A dC dI dA ad ad0 ls n0 m0 QQ hs hf hy
  obtain ⟨s1, s2, s3, s4, s5, s6, s7, s8, s9, s10, s11, s12, s13, s14, s15, s16⟩ := id hs
  obtain ⟨y1, y2, y3, y4, y5, y6, y7, y8⟩ := id hy
  have he := con_get (dA := dA) (ad := ad) hc
  simp only [ce] at he
  have he2 := con_get (dA := dA) (ad := ad) hr
  simp only [ce] at he2
  have hql : q < h.1.length := (List.getElem?_eq_some_iff.mp hc).1
  have hil : i.toNat < rs.length := by omega
  have ecn : con dA ad (sh', h.2) = (con dA ad h).set q (ad q, .inl (dA 3, rs.length, .inr (.inr (.inr (.inr (va_up (fun j => (rs.getD j none).map ad) i.toNat (some (ad r)))))))) := by
    rw [con_set (sh := h.1) (m := h.2) hql hsh.symm (fun i c _ => rfl)]
    simp only [ce, List.length_set]
    congr 9
    funext j
    by_cases hj : j = i.toNat
    · subst hj
      simp [va_up, hil]
    · simp [va_up, hj, List.getElem?_set_ne (Ne.symm hj)]
  have hlen : sh'.length = h.1.length := by rw [← hsh]; simp
  have hsl : slS sh' = slS h.1 := by
    rw [← hsh]
    unfold slS
    rw [List.map_set]
    have : h.1.map slC = (h.1.map slC).set q (slC (.inr (.inr (rs.set i.toNat (some r))))) := by
      refine (List.ext_getElem? fun i => ?_)
      by_cases hi : i = q
      · subst hi
        rw [List.getElem?_set_self (by simpa using hql), List.getElem?_map, hc]
        simp [slC]
      · rw [List.getElem?_set_ne (Ne.symm hi)]
    rw [← this]
  refine va_astq s1 s2 s11 y1 y2 y3 q 3 r qc he rfl he2 hq (ofI_in h0 (by omega) hn) hd (fun H1 locs1 g1 g2 g3 => ?_)
  rw [ofI_cl ⟨by omega, by omega⟩] at g1 g2
  rw [← ecn] at g1 g2
  exact k l p e R s m args below meth c H1 locs1 cells slots A dC dI dA ad ad0 ls n0 m0 QQ hs hf ⟨g1, g2, g3, by show cells + n0 = sh'.length; rw [hlen]; exact y4, by show slots + m0 = slS sh'; rw [hsl]; exact y5, y6, y7, fun z hz => y8 z (by have hz2 : z < n0 ∨ sh'.length ≤ z := hz; rw [hlen] at hz2; exact hz2)⟩
theorem aw_alen {q t n : Nat} (hd : decode M.2.1 pc = .ok (.arraylength, 1)) (hc : h.1[q]? = some (.inr (.inl (t, n)))) (ht : t < 3)
    (k : AW M E (pc + 1) L (.inl (n : Int) :: S) h Q) : AW M E pc L (.inr q :: S) h Q := by
  intro l p e R s m args below meth c H locs cells slots A dC dI dA ad ad0 ls n0 m0 QQ hs hf hy
  obtain ⟨s1, s2, s3, s4, s5, s6, s7, s8, s9, s10, s11, s12, s13, s14, s15, s16⟩ := id hs
  obtain ⟨y1, y2, y3, y4, y5, y6, y7, y8⟩ := id hy
  have he := con_get (dA := dA) (ad := ad) hc
  simp only [ce] at he
  have hk := k l p e R s m args below meth c H locs cells slots A dC dI dA ad ad0 ls n0 m0 QQ hs hf hy
  rcases (by omega : t = 0 ∨ t = 1 ∨ t = 2) with rfl | rfl | rfl
  · exact va_alen (ty := .int) s1 s2 s11 y1 q 0 he rfl rfl hd hk
  · exact va_alen (ty := .boolean) s1 s2 s11 y1 q 1 he rfl rfl hd hk
  · exact va_alen (ty := .char) s1 s2 s11 y1 q 2 he rfl rfl hd hk
theorem aw_sld {i : Int} (hd : decode M.2.1 pc = .ok (.iaload, 1)) (h0 : 0 ≤ i) (h1 : i < E.1.1) (hn : E.1.1 < 2147483648)
    (k : AW M E (pc + 1) L (.inl (E.1.2 i.toNat).toInt :: S) h Q) : AW M E pc L (.inl i :: .inr 1000 :: S) h Q := by
  intro l p e R s m args below meth c H locs cells slots A dC dI dA ad ad0 ls n0 m0 QQ hs hf hy
  obtain ⟨s1, s2, s3, s4, s5, s6, s7, s8, s9, s10, s11, s12, s13, s14, s15, s16⟩ := id hs
  obtain ⟨y1, y2, y3, y4, y5, y6, y7, y8⟩ := id hy
  refine va_sld s1 s2 y7.1.1 y7.1.2.1 y7.1.2.2 y3 (ofI_in h0 h1 hn) hd ?_
  have hk := k l p e R s m args below meth c H locs cells slots A dC dI dA ad ad0 ls n0 m0 QQ hs hf hy
  simp only [List.map_cons, cv, Int32.ofInt_toInt] at hk
  rw [ofI_cl ⟨by omega, by omega⟩]
  exact hk
theorem aw_slen (hd : decode M.2.1 pc = .ok (.arraylength, 1))
    (k : AW M E (pc + 1) L (.inl (E.1.1 : Int) :: S) h Q) : AW M E pc L (.inr 1000 :: S) h Q := by
  intro l p e R s m args below meth c H locs cells slots A dC dI dA ad ad0 ls n0 m0 QQ hs hf hy
  obtain ⟨s1, s2, s3, s4, s5, s6, s7, s8, s9, s10, s11, s12, s13, s14, s15, s16⟩ := id hs
  obtain ⟨y1, y2, y3, y4, y5, y6, y7, y8⟩ := id hy
  exact va_slen s1 s2 y7.1.1 y7.1.2.1 y7.1.2.2 y3 hd (k l p e R s m args below meth c H locs cells slots A dC dI dA ad ad0 ls n0 m0 QQ hs hf hy)
theorem aw_sld1001 {i : Int} (hd : decode M.2.1 pc = .ok (.iaload, 1)) (h0 : 0 ≤ i) (h1 : i < 3)
    (k : AW M E (pc + 1) L (.inl (sLeast i.toNat).toInt :: S) h Q) : AW M E pc L (.inl i :: .inr 1001 :: S) h Q := by
  intro l p e R s m args below meth c H locs cells slots A dC dI dA ad ad0 ls n0 m0 QQ hs hf hy
  obtain ⟨s1, s2, s3, s4, s5, s6, s7, s8, s9, s10, s11, s12, s13, s14, s15, s16⟩ := id hs
  obtain ⟨y1, y2, y3, y4, y5, y6, y7, y8⟩ := id hy
  refine va_sld s1 s2 y7.2.1.1 y7.2.1.2.1 y7.2.1.2.2 y3 (ofI_in h0 h1 (by omega)) hd ?_
  have hk := k l p e R s m args below meth c H locs cells slots A dC dI dA ad ad0 ls n0 m0 QQ hs hf hy
  simp only [List.map_cons, cv, Int32.ofInt_toInt] at hk
  rw [ofI_cl ⟨by omega, by omega⟩]
  exact hk
theorem aw_gets1001 {idx : Nat} (hd : decode M.2.1 pc = .ok (.getstatic idx, 3)) (hw : Cond.fieldLink M.1.cls idx RX8 "LEAST_SETTING" "[I" ∈ GW)
    (k : AW M E (pc + 3) L (.inr 1001 :: S) h Q) : AW M E pc L S h Q := by
  intro l p e R s m args below meth c H locs cells slots A dC dI dA ad ad0 ls n0 m0 QQ hs hf hy
  obtain ⟨s1, s2, s3, s4, s5, s6, s7, s8, s9, s10, s11, s12, s13, s14, s15, s16⟩ := id hs
  obtain ⟨y1, y2, y3, y4, y5, y6, y7, y8⟩ := id hy
  exact va_gets s1 s2 y7.2.2.2.1 y3 s5 (s6 _ hw) (fun x hx => hx) hd (k l p e R s m args below meth c H locs cells slots A dC dI dA ad ad0 ls n0 m0 QQ hs hf hy)
theorem aw_sld1002 {i : Int} (hd : decode M.2.1 pc = .ok (.iaload, 1)) (h0 : 0 ≤ i) (h1 : i < 3)
    (k : AW M E (pc + 1) L (.inl (sGreat i.toNat).toInt :: S) h Q) : AW M E pc L (.inl i :: .inr 1002 :: S) h Q := by
  intro l p e R s m args below meth c H locs cells slots A dC dI dA ad ad0 ls n0 m0 QQ hs hf hy
  obtain ⟨s1, s2, s3, s4, s5, s6, s7, s8, s9, s10, s11, s12, s13, s14, s15, s16⟩ := id hs
  obtain ⟨y1, y2, y3, y4, y5, y6, y7, y8⟩ := id hy
  refine va_sld s1 s2 y7.2.2.1.1 y7.2.2.1.2.1 y7.2.2.1.2.2 y3 (ofI_in h0 h1 (by omega)) hd ?_
  have hk := k l p e R s m args below meth c H locs cells slots A dC dI dA ad ad0 ls n0 m0 QQ hs hf hy
  simp only [List.map_cons, cv, Int32.ofInt_toInt] at hk
  rw [ofI_cl ⟨by omega, by omega⟩]
  exact hk
theorem aw_gets1002 {idx : Nat} (hd : decode M.2.1 pc = .ok (.getstatic idx, 3)) (hw : Cond.fieldLink M.1.cls idx RX8 "GREATEST_SETTING" "[I" ∈ GW)
    (k : AW M E (pc + 3) L (.inr 1002 :: S) h Q) : AW M E pc L S h Q := by
  intro l p e R s m args below meth c H locs cells slots A dC dI dA ad ad0 ls n0 m0 QQ hs hf hy
  obtain ⟨s1, s2, s3, s4, s5, s6, s7, s8, s9, s10, s11, s12, s13, s14, s15, s16⟩ := id hs
  obtain ⟨y1, y2, y3, y4, y5, y6, y7, y8⟩ := id hy
  exact va_gets s1 s2 y7.2.2.2.2 y3 s5 (s6 _ hw) (fun x hx => hx) hd (k l p e R s m args below meth c H locs cells slots A dC dI dA ad ad0 ls n0 m0 QQ hs hf hy)
def am_new (m : AM) (n : Nat) : AM := fun k j => if k = n then 0 else m k j
def rfS : List AV → List Nat
  | [] => []
  | .inl _ :: S => rfS S
  | .inr k :: S => k :: rfS S
def rfL : List (Option AV) → List Nat
  | [] => []
  | some (.inr k) :: S => k :: rfL S
  | _ :: S => rfL S
def rfF : List ShF → List Nat
  | [] => []
  | some (some k) :: S => k :: rfF S
  | _ :: S => rfF S
def rfO : List (Option Nat) → List Nat
  | [] => []
  | some k :: S => k :: rfO S
  | none :: S => rfO S
def rfC : ShC → List Nat
  | .inl (_, fs) => rfF fs
  | .inr (.inl _) => []
  | .inr (.inr rs) => rfO rs
def rfH : List ShC → List Nat
  | [] => []
  | c :: sh => rfC c ++ rfH sh
theorem rfS_mem {S : List AV} {k : Nat} (hk : .inr k ∈ S) : k ∈ rfS S := by
  induction S with
  | nil => cases hk
  | cons v S ih =>
    rcases List.mem_cons.mp hk with e | hk2
    · subst e; exact List.mem_cons_self
    · cases v with
      | inl x => exact ih hk2
      | inr z => exact List.mem_cons_of_mem _ (ih hk2)
theorem rfL_mem {S : List (Option AV)} {k : Nat} (hk : some (.inr k) ∈ S) : k ∈ rfL S := by
  induction S with
  | nil => cases hk
  | cons v S ih =>
    rcases List.mem_cons.mp hk with e | hk2
    · subst e; exact List.mem_cons_self
    · rcases v with _ | x | z
      · exact ih hk2
      · exact ih hk2
      · exact List.mem_cons_of_mem _ (ih hk2)
theorem rfF_mem {S : List ShF} {k : Nat} (hk : some (some k) ∈ S) : k ∈ rfF S := by
  induction S with
  | nil => cases hk
  | cons v S ih =>
    rcases List.mem_cons.mp hk with e | hk2
    · subst e; exact List.mem_cons_self
    · rcases v with _ | _ | z
      · exact ih hk2
      · exact ih hk2
      · exact List.mem_cons_of_mem _ (ih hk2)
theorem rfO_mem {S : List (Option Nat)} {k : Nat} (hk : some k ∈ S) : k ∈ rfO S := by
  induction S with
  | nil => cases hk
  | cons v S ih =>
    rcases List.mem_cons.mp hk with e | hk2
    · subst e; exact List.mem_cons_self
    · cases v with
      | none => exact ih hk2
      | some z => exact List.mem_cons_of_mem _ (ih hk2)
theorem rfH_mem {sh : List ShC} {c : ShC} {k : Nat} (hc : c ∈ sh) (hk : k ∈ rfC c) : k ∈ rfH sh := by
  induction sh with
  | nil => cases hc
  | cons v sh ih =>
    rcases List.mem_cons.mp hc with e | hc2
    · subst e; exact List.mem_append_left _ hk
    · exact List.mem_append_right _ (ih hc2)
theorem ce_ad {dA : Nat → ClassId} {ad ad' : Nat → Nat} {m m' : AM} {k : Nat} {c : ShC} (ha : ∀ r ∈ rfC c, ad' r = ad r) (hm : ∀ j : Int, m' k j = m k j) : ce dA ad' m' k c = ce dA ad m k c := by
  rcases c with ⟨ci, fs⟩ | ⟨t, n⟩ | rs
  · simp only [ce]
    congr 2
    refine (List.ext_getElem? fun i => ?_)
    rw [List.getElem?_mapIdx, List.getElem?_mapIdx]
    cases hf : fs[i]? with
    | none => rfl
    | some f =>
      rcases f with _ | _ | r
      · simp [cfl, hm]
      · rfl
      · simp only [Option.map_some, cfl]
        rw [ha r (rfF_mem (List.mem_of_getElem? hf))]
  · simp only [ce, hm]
  · simp only [ce]
    congr 7
    funext j
    cases hj : rs[j]? with
    | none => simp [List.getD_eq_getElem?_getD, hj]
    | some o =>
      cases o with
      | none => simp [List.getD_eq_getElem?_getD, hj]
      | some r =>
        simp only [List.getD_eq_getElem?_getD, hj, Option.getD_some, Option.map_some]
        rw [ha r (rfO_mem (List.mem_of_getElem? hj))]
theorem con_push {dA : Nat → ClassId} {ad : Nat → Nat} {h : HP} {q : Nat} {c : ShC} {x : va_E} (hfr : (rfH (h.1 ++ [c])).all (fun r => r != h.1.length) = true) (hx : ce dA (fun k => if k = h.1.length then q else ad k) (am_new h.2 h.1.length) h.1.length c = x) : con dA (fun k => if k = h.1.length then q else ad k) (h.1 ++ [c], am_new h.2 h.1.length) = con dA ad h ++ [(q, x)] := by
  refine (List.ext_getElem? fun i => ?_)
  rcases Nat.lt_trichotomy i h.1.length with hi | hi | hi
  · rw [List.getElem?_append_left (by rw [con_len]; exact hi)]
    simp only [con, List.getElem?_mapIdx]
    rw [List.getElem?_append_left hi]
    have hg : h.1[i]? = some h.1[i] := List.getElem?_eq_getElem hi
    rw [hg]
    simp only [Option.map_some]
    have hne : ¬ i = h.1.length := by omega
    rw [if_neg hne]
    congr 2
    refine ce_ad (fun r hr => ?_) (fun j => ?_)
    · have h1 := List.all_eq_true.mp hfr r (rfH_mem (List.mem_append_left _ (List.mem_of_getElem? hg)) hr)
      have h2 : r ≠ h.1.length := by simpa using h1
      exact if_neg h2
    · exact if_neg hne
  · subst hi
    rw [List.getElem?_append_right (by rw [con_len]; exact Nat.le_refl _), con_len, Nat.sub_self]
    simp only [con, List.getElem?_mapIdx]
    rw [List.getElem?_append_right (Nat.le_refl _), Nat.sub_self]
    simp only [List.getElem?_cons_zero, Option.map_some, if_true]
    rw [hx]
  · have e1 : (con dA (fun k => if k = h.1.length then q else ad k) (h.1 ++ [c], am_new h.2 h.1.length)).length ≤ i := by rw [con_len]; simp; omega
    have e2 : (con dA ad h ++ [(q, x)]).length ≤ i := by rw [List.length_append, con_len]; simp; omega
    rw [List.getElem?_eq_none e1, List.getElem?_eq_none e2]
def aFresh (n : Nat) (sh : List ShC) (L : List (Option AV)) (S : List AV) : Bool := (rfH sh).all (fun r => r != n) && (rfL L).all (fun r => r != n) && (rfS S).all (fun r => r != n)
theorem slS_push (sh : List ShC) (c : ShC) : slS (sh ++ [c]) = slS sh + slC c := by simp [slS]
theorem aRO_congr {X : AX} {ad ad' : Nat → Nat} {A : Nat → Prop} {U : State} (h0 : ad' 1000 = ad 1000) (h1 : ad' 1001 = ad 1001) (h2 : ad' 1002 = ad 1002) (hR : aRO X ad A U) : aRO X ad' A U := by
  unfold aRO
  rw [h0, h1, h2]
  exact hR
/-- a cell is made: the words behind it -/
theorem aDy_push {s : State} {H H1 : Heap} {locs : List Loc} {cells slots : Nat} {A : Nat → Prop} {dC : Nat → ClassId} {dI : Nat → Nat → Nat} {dA : Nat → ClassId} {ad ad0 : Nat → Nat} {ls : Array Slot} {n0 m0 q : Nat} {c : ShC} {x : va_E} {sl : Nat}
    (hy : aDy M E s H locs cells slots A dC dI dA ad ad0 ls n0 m0 L h) (hn : n0 ≤ h.1.length) (hlt : h.1.length < 1000) (hfr : aFresh h.1.length (h.1 ++ [c]) L S = true) (hx : ce dA (fun k => if k = h.1.length then q else ad k) (am_new h.2 h.1.length) h.1.length c = x) (hsl : slC c = sl)
    (g1 : va_P (dC, dI) vwCl (con dA ad h ++ [(q, x)]) H1) (g2 : va_D A (con dA ad h ++ [(q, x)])) (g3 : va_S A s.heap H1 locs) :
    aDy M E s H1 locs (cells + 1) (slots + sl) A dC dI dA (fun k => if k = h.1.length then q else ad k) ad0 ls n0 m0 L (h.1 ++ [c], am_new h.2 h.1.length) ∧ S.map (cv (fun k => if k = h.1.length then q else ad k)) = S.map (cv ad) := by
  obtain ⟨y1, y2, y3, y4, y5, y6, y7, y8⟩ := hy
  simp only [aFresh, Bool.and_eq_true] at hfr
  obtain ⟨⟨f1, f2⟩, f3⟩ := hfr
  rw [← con_push f1 hx] at g1 g2
  refine ⟨⟨g1, g2, g3, ?_, ?_, ?_, ?_, ?_⟩, ?_⟩
  · simp only [List.length_append, List.length_cons, List.length_nil]; omega
  · show _ = slS (h.1 ++ [c])
    rw [slS_push]; omega
  · refine y6.agree (fun i k hk => ?_)
    have h1 := List.all_eq_true.mp f2 k (rfL_mem (List.mem_of_getElem? hk))
    have h2 : k ≠ h.1.length := by simpa using h1
    exact if_neg h2
  · exact aRO_congr (if_neg (by omega)) (if_neg (by omega)) (if_neg (by omega)) y7
  · intro k hk
    have hk2 : k < n0 ∨ h.1.length + 1 ≤ k := by simpa using hk
    have hne : ¬ k = h.1.length := by omega
    exact (if_neg hne).trans (y8 k (by omega))
  · refine List.map_congr_left (fun v hv => ?_)
    cases v with
    | inl z => rfl
    | inr k =>
      have h1 := List.all_eq_true.mp f3 k (rfS_mem hv)
      have h2 : k ≠ h.1.length := by simpa using h1
      simp only [cv]
      rw [if_neg h2]
theorem aw_new {idx ci N : Nat} {C : String} {T : u_T} {ty : Nat → FieldType} {fs : List ShF} (hd : decode M.2.1 pc = .ok (.new idx, 3)) (hk : aCl ci C T N ty) (hl : Cond.classLink M.1.cls idx C ∈ GW) (hi : Cond.instantiable C N ∈ GW) (hini : Cond.initialized C ∈ GW)
    (hN : fs.length = N) (hfs : ∀ j, j < N → defaultValue (ty j) = vp_V (fs.map (fun f => match f with | none => .int 0 | some _ => .null)) j) (hnn : ∀ f ∈ fs, f = none ∨ f = some none) (hlt : h.1.length < 1000) (hfr : aFresh h.1.length (h.1 ++ [.inl (ci, fs)]) L S = true) (hc1 : h.1.length + 1 ≤ E.2.2.2.1) (hc2 : slS h.1 + N ≤ E.2.2.2.2)
    (k : AW M E (pc + 3) L (.inr h.1.length :: S) (h.1 ++ [.inl (ci, fs)], am_new h.2 h.1.length) Q) : AW M E pc L S h Q := by
  intro l p e R s m args below meth c H locs cells slots A dC dI dA ad ad0 ls n0 m0 QQ hs hf hy
  obtain ⟨s1, s2, s3, s4, s5, s6, s7, s8, s9, s10, s11, s12, s13, s14, s15, s16⟩ := id hs
  obtain ⟨y1, y2, y3, y4, y5, y6, y7, y8⟩ := id hy
  refine va_new (Ts := GW) s1 s2 s6 hk.2.1 ty hk.2.2.1 s5 (s6 _ hl) (s6 _ hi) (s6 _ hini) s11 y1 y2 y3 s12 hk.1 hfs (by omega) (by omega) hd (fun q H1 g1 g2 g3 => ?_)
  have hx : ce dA (fun k => if k = h.1.length then q else ad k) (am_new h.2 h.1.length) h.1.length (.inl (ci, fs)) = .inr (ci, fs.map (fun f => match f with | none => .int 0 | some _ => .null)) := by
    simp only [ce]
    congr 2
    refine (List.ext_getElem? fun i => ?_)
    rw [List.getElem?_mapIdx, List.getElem?_map]
    cases hf : fs[i]? with
    | none => rfl
    | some f =>
      rcases hnn f (List.mem_of_getElem? hf) with rfl | rfl
      · simp [cfl, am_new]
      · rfl
  obtain ⟨d1, d2⟩ := aDy_push (S := S) (q := q) hy (by omega) hlt hfr hx (sl := N) (by simp [slC, hN]) g1 g2 g3
  have hkk := k l p e R s m args below meth c H1 locs (cells + 1) (slots + N) A dC dI dA (fun k => if k = h.1.length then q else ad k) ad0 ls n0 m0 QQ hs hf d1
  rw [List.map_cons, d2] at hkk
  simp only [cv, if_true] at hkk
  exact hkk
theorem aw_newarr {atype : ArrayType} {t : Nat} {n : Int} {N : Nat} {ty : FieldType} (hd : decode M.2.1 pc = .ok (.newarray atype, 2)) (hl : Cond.arrayClass ty ∈ GW) (ht : (atype = .int ∧ t = 0 ∧ ty = .int) ∨ (atype = .boolean ∧ t = 1 ∧ ty = .boolean) ∨ (atype = .char ∧ t = 2 ∧ ty = .char)) (hN : n = (N : Int)) (hs5 : N ≤ 100000) (hlt : h.1.length < 1000) (hfr : aFresh h.1.length (h.1 ++ [.inr (.inl (t, N))]) L S = true) (hc1 : h.1.length + 1 ≤ E.2.2.2.1) (hc2 : slS h.1 + N ≤ E.2.2.2.2)
    (k : AW M E (pc + 2) L (.inr h.1.length :: S) (h.1 ++ [.inr (.inl (t, N))], am_new h.2 h.1.length) Q) : AW M E pc L (.inl n :: S) h Q := by
  intro l p e R s m args below meth c H locs cells slots A dC dI dA ad ad0 ls n0 m0 QQ hs hf hy
  obtain ⟨s1, s2, s3, s4, s5, s6, s7, s8, s9, s10, s11, s12, s13, s14, s15, s16⟩ := id hs
  obtain ⟨y1, y2, y3, y4, y5, y6, y7, y8⟩ := id hy
  subst hN
  have hr : rng (N : Int) := ⟨by omega, by omega⟩
  have hneg : ¬ Int32.ofInt (N : Int) < 0 := fun z => by
    have := (ofI_lt hr (⟨by omega, by omega⟩ : rng 0)).mp z
    omega
  have hcl : (Int32.ofInt (N : Int)).toNatClampNeg = N := by rw [ofI_cl hr]; simp
  have fin : ∀ (t0 : Nat) (q : Nat) (cA : ClassId) (H1 : Heap) (_ : t0 < 3) (_ : cA = dA t0) (k : AW M E (pc + 2) L (.inr h.1.length :: S) (h.1 ++ [.inr (.inl (t0, N))], am_new h.2 h.1.length) Q) (_ : aFresh h.1.length (h.1 ++ [.inr (.inl (t0, N))]) L S = true) (g1 : va_P (dC, dI) vwCl (con dA ad h ++ [(q, .inl (cA, N, .inl (fun _ => 0)))]) H1) (g2 : va_D A (con dA ad h ++ [(q, .inl (cA, N, .inl (fun _ => 0)))])) (g3 : va_S A s.heap H1 locs), W p l e R s m args below meth c H1 locs (cells + 1) (slots + N) QQ (F0 m (pc + 2) ls (.ref q :: S.map (cv ad))) := by
    intro t0 q cA H1 ht0 hcA k hfr g1 g2 g3
    subst hcA
    have hx : ce dA (fun k => if k = h.1.length then q else ad k) (am_new h.2 h.1.length) h.1.length (.inr (.inl (t0, N))) = .inl (dA t0, N, .inl (fun _ => 0)) := by
      simp only [ce, am_new, if_true]
      rfl
    obtain ⟨d1, d2⟩ := aDy_push (S := S) (q := q) hy (by omega) hlt hfr hx (sl := N) rfl g1 g2 g3
    have hkk := k l p e R s m args below meth c H1 locs (cells + 1) (slots + N) A dC dI dA (fun k => if k = h.1.length then q else ad k) ad0 ls n0 m0 QQ hs hf d1
    rw [List.map_cons, d2] at hkk
    simp only [cv, if_true] at hkk
    exact hkk
  have hnm : ∀ (tt : Nat) (cA : ClassId) (ty0 : FieldType), va_K (dC, dI) vwCl (tysA dA ++ [(cA, ty0)]) s → (tysA dA)[tt]? = some (dA tt, ty0) → (∀ C, ty0 ≠ .object C) → cA = dA tt := by
    intro tt cA ty0 hK2 htt hno
    have a1 := (hK2.2 4 (cA, ty0) rfl).2
    have a2 := (s11.2 tt _ htt).2
    unfold va_RA at a1 a2
    cases ty0 with
    | object C => exact absurd rfl (hno C)
    | _ => exact Option.some.inj (a1.symm.trans a2)
  rcases ht with ⟨rfl, rfl, rfl⟩ | ⟨rfl, rfl, rfl⟩ | ⟨rfl, rfl, rfl⟩
  · exact va_newa (atype := .int) (ty := .int) (N' := N) (a0 := (N, .inl (fun _ => 0))) s1 s2 (s6 _ hl) rfl s11 y1 y2 y3 s12 (fun cA => by rw [vp_cell_i]; rfl) hneg hcl (by show N * 4 ≤ _; omega) (by omega) (by omega) hd (fun q cA H1 g0 g1 g2 g3 => fin 0 q cA H1 (by omega) (hnm 0 cA _ g0 rfl (fun C z => by cases z)) k hfr g1 g2 g3)
  · exact va_newa (atype := .boolean) (ty := .boolean) (N' := N) (a0 := (N, .inl (fun _ => 0))) s1 s2 (s6 _ hl) rfl s11 y1 y2 y3 s12 (fun cA => by rw [vp_cell_i]; rfl) hneg hcl (by show N * 1 ≤ _; omega) (by omega) (by omega) hd (fun q cA H1 g0 g1 g2 g3 => fin 1 q cA H1 (by omega) (hnm 1 cA _ g0 rfl (fun C z => by cases z)) k hfr g1 g2 g3)
  · exact va_newa (atype := .char) (ty := .char) (N' := N) (a0 := (N, .inl (fun _ => 0))) s1 s2 (s6 _ hl) rfl s11 y1 y2 y3 s12 (fun cA => by rw [vp_cell_i]; rfl) hneg hcl (by show N * 2 ≤ _; omega) (by omega) (by omega) hd (fun q cA H1 g0 g1 g2 g3 => fin 2 q cA H1 (by omega) (hnm 2 cA _ g0 rfl (fun C z => by cases z)) k hfr g1 g2 g3)
theorem aw_anew {idx : Nat} {n : Int} {N : Nat} (hd : decode M.2.1 pc = .ok (.anewarray idx, 3)) (hl : Cond.classLink M.1.cls idx RX0 ∈ GW) (hN : n = (N : Int)) (hs5 : N ≤ 100000) (hlt : h.1.length < 1000) (hfr : aFresh h.1.length (h.1 ++ [.inr (.inr (List.replicate N none))]) L S = true) (hc1 : h.1.length + 1 ≤ E.2.2.2.1) (hc2 : slS h.1 + N ≤ E.2.2.2.2)
    (k : AW M E (pc + 3) L (.inr h.1.length :: S) (h.1 ++ [.inr (.inr (List.replicate N none))], am_new h.2 h.1.length) Q) : AW M E pc L (.inl n :: S) h Q := by
  intro l p e R s m args below meth c H locs cells slots A dC dI dA ad ad0 ls n0 m0 QQ hs hf hy
  obtain ⟨s1, s2, s3, s4, s5, s6, s7, s8, s9, s10, s11, s12, s13, s14, s15, s16⟩ := id hs
  obtain ⟨y1, y2, y3, y4, y5, y6, y7, y8⟩ := id hy
  subst hN
  have hr : rng (N : Int) := ⟨by omega, by omega⟩
  have hneg : ¬ Int32.ofInt (N : Int) < 0 := fun z => by
    have := (ofI_lt hr (⟨by omega, by omega⟩ : rng 0)).mp z
    omega
  have hcl : (Int32.ofInt (N : Int)).toNatClampNeg = N := by rw [ofI_cl hr]; simp
  refine va_newq (C := RX0) (N' := N) s1 s2 s5 (s6 _ hl) s10 s11 y1 y2 y3 s12 hneg hcl (by omega) (by omega) (by omega) hd (fun q cA H1 g0 g1 g2 g3 => ?_)
  have hcA : cA = dA 3 := by
    obtain ⟨kA, comp, a1, a2, a3, a4⟩ := (g0.2 4 (cA, .object RX0) rfl).2
    obtain ⟨kB, comp2, b1, b2, b3, b4⟩ := (s11.2 3 (dA 3, .object RX0) rfl).2
    exact Option.some.inj (a4.symm.trans b4)
  subst hcA
  have hx : ce dA (fun k => if k = h.1.length then q else ad k) (am_new h.2 h.1.length) h.1.length (.inr (.inr (List.replicate N none))) = .inl (dA 3, N, .inr (.inr (.inr (.inr (fun _ => none))))) := by
    simp only [ce, List.length_replicate]
    congr 7
    funext j
    rw [List.getD_eq_getElem?_getD, List.getElem?_replicate]
    split <;> rfl
  obtain ⟨d1, d2⟩ := aDy_push (S := S) (q := q) hy (by omega) hlt hfr hx (sl := N) (by simp [slC]) g1 g2 g3
  have hkk := k l p e R s m args below meth c H1 locs (cells + 1) (slots + N) A dC dI dA (fun k => if k = h.1.length then q else ad k) ad0 ls n0 m0 QQ hs hf d1
  rw [List.map_cons, d2] at hkk
  simp only [cv, if_true] at hkk
  exact hkk
end HEAP
end
section
def wsM (M : MI) : List Cond := Cond.code M.1 M.2.1 M.2.2.1 M.2.2.2 :: GW
def aPre (X : AX) (dC : Nat → ClassId) (dI : Nat → Nat → Nat) (dA : Nat → ClassId) (ad : Nat → Nat) (h : HP) (sz : Nat) (U : State) : Prop := U.heap.size = sz ∧ va_P (dC, dI) vwCl (con dA ad h) U.heap ∧ va_K (dC, dI) vwCl (tysA dA) U ∧ va_D (fun _ => True) (con dA ad h) ∧ (∀ w ∈ NWL, va_Nw w U) ∧ va_AO RX0 U ∧ aRO X ad (va_A (con dA ad h) sz) U
def aQ (dC : Nat → ClassId) (dI : Nat → Nat → Nat) (dA : Nat → ClassId) (ad : Nat → Nat) (h : HP) (sz mc ms : Nat) (Q : Option Int → HP → Prop) : Array Value → State → Outcome → State → Prop := fun _ st oc t => (∃ (v : Option Int) (h' : HP) (ad' : Nat → Nat), oc = .returned (v.map (fun z => .int (Int32.ofInt z))) ∧ Q v h' ∧ h'.1.length = h.1.length + mc ∧ slS h'.1 = slS h.1 + ms ∧ (∀ k : Nat, (k < h.1.length ∨ h'.1.length ≤ k) → ad' k = ad k) ∧ va_P (dC, dI) vwCl (con dA ad' h') t.heap ∧ va_D (va_A (con dA ad h) sz) (con dA ad' h')) ∧ va_F (va_A (con dA ad h) sz) st t
/-- what a method does: from h with these values to one of Q -/
def AC (X : AX) (M : MI) (d r mc ms : Nat) (av : List AV) (h : HP) (Q : Option Int → HP → Prop) : Prop :=
  ∀ (l : Launch) (dC : Nat → ClassId) (dI : Nat → Nat → Nat) (dA : Nat → ClassId) (ad : Nat → Nat) (sz : Nat), Met l M.1 (wsM M) ({ frames := d, cells := mc, slots := ms, locals := r } : Room) (va_Pc (av.map (cv ad)) (aPre X dC dI dA ad h sz)) (aQ dC dI dA ad h sz mc ms Q) mc ms (va_A (con dA ad h) sz)
theorem lg_slV (ad : Nat → Nat) (av : List AV) : lg_sl (av.map (cv ad)) = av.map (fun v => Slot.val (cv ad v)) := by
  unfold lg_sl
  induction av with
  | nil => rfl
  | cons v av ih =>
    rw [List.map_cons, List.flatMap_cons, ih, if_neg (by rw [cv_cat]; decide)]
    rfl
theorem lvL_entry (ad : Nat → Nat) (av : List AV) (n : Nat) (hn : av.length ≤ n) : lvL ad ((lg_sl (av.map (cv ad)) ++ List.replicate (n - (lg_sl (av.map (cv ad))).length) Slot.unset).toArray) n (av.map some ++ List.replicate (n - av.length) none) := by
  have hle : (lg_sl (av.map (cv ad))).length = av.length := by rw [lg_slV]; simp
  have h0 := lv_entry (av.map (cv ad)) (n := n) (by rw [hle]; exact hn)
  refine ⟨h0.1, h0.2.1, fun i v hv => ?_⟩
  rcases Nat.lt_or_ge i av.length with hi | hi
  · rw [List.getElem?_append_left (by simpa using hi), List.getElem?_map] at hv
    rw [List.getElem?_toArray, List.getElem?_append_left (by rw [hle]; exact hi), lg_slV, List.getElem?_map]
    cases hav : av[i]? with
    | none => rw [hav] at hv; cases hv
    | some u =>
      rw [hav] at hv
      simp only [Option.map_some, Option.some.injEq] at hv
      subst hv
      rfl
  · rw [List.getElem?_append_right (by simpa using hi)] at hv
    have := List.eq_of_mem_replicate (List.mem_of_getElem? hv)
    cases this
theorem ac_of {X : AX} {M : MI} {d r mc ms : Nat} {av : List AV} {h : HP} {Q : Option Int → HP → Prop} (hp : plainName M.1.cls = true) (hlen : av.length ≤ M.2.2.1)
    (k : AW M (X, d, r, h.1.length + mc, slS h.1 + ms) 0 (av.map some ++ List.replicate (M.2.2.1 - av.length) none) [] h Q) : AC X M d r mc ms av h Q := by
  intro l dC dI dA ad sz
  refine Met.ofW (cc := M.2.1) (maxL := M.2.2.1) (ret := M.2.2.2) hp rfl ?_
  intro p e s m args below meth c s₁ B hml hv
  obtain ⟨rfl, hsz, hP, hK, hD0, hN, hO, hR⟩ := hv
  subst hsz
  have hts := atoms_spec (ws := wsM M) B.pre
  have hown : s.vm.findClass M.1.cls = some m.cls := findClass_of_methodNamed B.named
  have hin : meth.name = M.1.name := (name_of_methodNamed B.named B.method).1
  have hD := hD0.self (sz := s.heap.size)
  have hS : va_S (va_A (con dA ad h) s.heap.size) s.heap s.heap [] := va_S.rf
  have hl := lvL_entry ad av M.2.2.1 hlen
  rw [lg_entry_eq]
  refine k l p e _ s m _ below meth c s.heap [] 0 0 (va_A (con dA ad h) s.heap.size) dC dI dA ad ad _ h.1.length (slS h.1) _ ⟨B.exec, B.bytes, B.returns, hml, hown, fun w hw => hts w (List.mem_cons_of_mem _ hw), B.notSynchronized, hin, hN, hO, hK, fun q hq => Or.inr hq, Nat.le_refl _, Nat.le_refl _, by show h.1.length + mc = mc + h.1.length; omega, by show slS h.1 + ms = ms + slS h.1; omega⟩ ?_ ⟨hP, hD, hS, by omega, by omega, hl, hR, fun k _ => rfl⟩
  intro v h' H' locs' cells' slots' ad' ls' pc' L' q y hc1 hc2 he
  obtain ⟨y1, y2, y3, y4, y5, y6, y7, y8⟩ := y
  simp only at hc1 hc2
  have e1 : cells' = mc := by omega
  have e2 : slots' = ms := by omega
  subst e1
  subst e2
  cases v with
  | none =>
    exact W.vret B.exec B.bytes (B.returns.trans he.2) (fun t ht hW => ⟨⟨none, h', ad', rfl, q, hc1, hc2, y8, by rw [ht]; exact y1, y2⟩, y3.F ht⟩) y3.2.2 he.1 B.notSynchronized
  | some z =>
    rcases he.2 with e3 | ⟨e3, e4⟩
    · exact W.zret B.exec B.bytes (B.returns.trans e3) rfl (fun t ht hW => ⟨⟨some z, h', ad', rfl, q, hc1, hc2, y8, by rw [ht]; exact y1, y2⟩, y3.F ht⟩) y3.2.2 he.1 B.notSynchronized
    · exact W.zret B.exec B.bytes (B.returns.trans e3) (nar_b true (fun _ => e4)).1 (fun t ht hW => ⟨⟨some z, h', ad', rfl, q, hc1, hc2, y8, by rw [ht]; exact y1, y2⟩, y3.F ht⟩) y3.2.2 he.1 B.notSynchronized
theorem AC.mono {X : AX} {M : MI} {d r mc ms : Nat} {av : List AV} {h : HP} {Q Q' : Option Int → HP → Prop} (k : AC X M d r mc ms av h Q) (hq : ∀ v h', Q v h' → Q' v h') : AC X M d r mc ms av h Q' := by
  intro l dC dI dA ad sz p e ha hc hk s m args below hf happ hP hK
  obtain ⟨n, o, h1, h2, h3, ⟨⟨v, h', ad', b1, b2, b3⟩, h5⟩, h6⟩ := k l dC dI dA ad sz p e ha hc hk s m args below hf happ hP hK
  exact ⟨n, o, h1, h2, h3, ⟨⟨v, h', ad', b1, hq _ _ b2, b3⟩, h5⟩, h6⟩
theorem gw_good {w : Cond} (h : w ∈ GW) : (w.onTables && w.keeps) = true ∨ ∃ ty, w = .arrayClass ty := good_of_word (List.mem_filter.mp h).2
theorem gw_ws {M : MI} (hc : Cond.code M.1 M.2.1 M.2.2.1 M.2.2.2 ∈ GW) : GoodIn GW (wsM M) := by
  intro w hw
  rcases List.mem_cons.mp hw with rfl | hw
  · exact ⟨hc, gw_good hc⟩
  · exact ⟨hw, gw_good hw⟩
theorem gw_wsV {own : String} {idx : Nat} {M : MI} (b1 : Cond.methodLink own idx M.1 ∈ GW) (b2 : Cond.instanceMethod M.1 ∈ GW) (b3 : Cond.selects M.1.cls M.1 M.1 ∈ GW) (b4 : Cond.initialized M.1.cls ∈ GW) (hc : Cond.code M.1 M.2.1 M.2.2.1 M.2.2.2 ∈ GW) : GoodIn GW (wsV own idx M.1.cls M.1 (wsM M)) := by
  intro w hw
  rcases List.mem_append.mp hw with hw | hw
  · have hw2 : w ∈ GW := by
      simp only [List.mem_cons, List.not_mem_nil, or_false] at hw
      rcases hw with rfl | rfl | rfl | rfl
      · exact b1
      · exact b2
      · exact b3
      · exact b4
    exact ⟨hw2, gw_good hw2⟩
  · exact gw_ws hc w hw
theorem gw_wsS {own : String} {idx : Nat} {M : MI} (b1 : Cond.methodLink own idx M.1 ∈ GW) (b2 : Cond.static M.1 ∈ GW) (b4 : Cond.initialized own ∈ GW) (hc : Cond.code M.1 M.2.1 M.2.2.1 M.2.2.2 ∈ GW) : GoodIn GW (wsS own idx M.1 (wsM M)) := by
  intro w hw
  rcases List.mem_append.mp hw with hw | hw
  · have hw2 : w ∈ GW := by
      simp only [List.mem_cons, List.not_mem_nil, or_false] at hw
      rcases hw with rfl | rfl | rfl
      · exact b1
      · exact b2
      · exact b4
    exact ⟨hw2, gw_good hw2⟩
  · exact gw_ws hc w hw
theorem nw_warm {w : Cond} {s U : State} (hw : w ∈ NWL) (hW : s.WarmedH U.vm) (h : va_Nw w s) : va_Nw w U := by
  have hn : am_nest w = true := (List.mem_filter.mp hw).2
  cases w <;> first | exact va_Nw.warmF hW h | exact va_Nw.warmM hW h | (simp [am_nest] at hn; done)
theorem nw_tab {w : Cond} (hw : w ∈ NWL) : w.onTables = true := by
  have hn : am_nest w = true := (List.mem_filter.mp hw).2
  cases w <;> first | rfl | (simp [am_nest] at hn; done)
theorem aRO_call {X : AX} {ad : Nat → Nat} {A A1 : Nat → Prop} {s U : State} {H : Heap} {locs : List Loc} (hR : aRO X ad A s) (hS : va_S A s.heap H locs) (hU : U.heap = H) (hvm : s.vm.Alike U.vm) (hAB : ∀ q, A1 q → A q) : aRO X ad A1 U := by
  obtain ⟨⟨a1, a2, a3⟩, ⟨b1, b2, b3⟩, ⟨c1, c2, c3⟩, d1, d2⟩ := hR
  subst hU
  refine ⟨⟨(a1.kept (hS.2.1 _ a2 a3)).moved hvm, Nat.lt_of_lt_of_le a2 hS.1, fun z => a3 (hAB _ z)⟩, ⟨(b1.kept (hS.2.1 _ b2 b3)).moved hvm, Nat.lt_of_lt_of_le b2 hS.1, fun z => b3 (hAB _ z)⟩, ⟨(c1.kept (hS.2.1 _ c2 c3)).moved hvm, Nat.lt_of_lt_of_le c2 hS.1, fun z => c3 (hAB _ z)⟩, ?_, ?_⟩
  · exact va_Z.moved hvm (va_Z.narrow (va_Z.kept d1 (fun a h1 h2 => hS.2.1 a h1 h2)) hAB)
  · exact va_Z.moved hvm (va_Z.narrow (va_Z.kept d2 (fun a h1 h2 => hS.2.1 a h1 h2)) hAB)
theorem aPre_blind {X : AX} {dC : Nat → ClassId} {dI : Nat → Nat → Nat} {dA : Nat → ClassId} {ad : Nat → Nat} {h : HP} {sz : Nat} {av : List Value} : FrameBlind (va_Pc av (aPre X dC dI dA ad h sz)) := by
  intro a U g mk hp
  obtain ⟨e, p1, p2, p3, p4, p5, p6, p7⟩ := hp
  refine ⟨e, p1, p2, va_K.moved (u := U) (U := U.calling g mk a) (Vm.Alike.refl U.vm) p3, p4, fun w hw => va_Nw.same (nw_tab hw) (u := U) (U := U.calling g mk a) rfl (p5 w hw), va_AO.moved (u := U) (U := U.calling g mk a) (Vm.Alike.refl U.vm) p6, ?_⟩
  exact aRO_call (s := U) (U := U.calling g mk a) (locs := []) p7 va_S.rf rfl (Vm.Alike.refl U.vm) (fun q z => z)
section CALL
variable {M : MI} {E : AE} {pc : Nat} {L : List (Option AV)} {S : List AV} {h : HP} {Q : Option Int → HP → Prop}
theorem a_free {s : State} {H : Heap} {locs : List Loc} {A : Nat → Prop} {ws : va_W} (y2 : va_D A ws) (y3 : va_S A s.heap H locs) (hA : ∀ q, s.heap.size ≤ q → A q) : ∀ q, va_A ws H.size q → A q := by
  intro q hq
  rcases hq with ⟨k, e, hk⟩ | hq
  · exact y2.2 k (q, e) hk
  · exact hA q (Nat.le_trans y3.1 hq)
theorem aPre_at {p : Program} {R : Room} {s : State} {m : MethodId} {args : Array Value} {meth : Method} {c : Code} {H : Heap} {locs : List Loc} {cells slots : Nat} {A : Nat → Prop} {dC : Nat → ClassId} {dI : Nat → Nat → Nat} {dA : Nat → ClassId} {ad ad0 : Nat → Nat} {ls : Array Slot} {n0 m0 : Nat} {U : State}
    (hs : aSt M E p R s m args meth c A dC dI dA n0 m0) (hy : aDy M E s H locs cells slots A dC dI dA ad ad0 ls n0 m0 L h) (hU : U.heap = H) (hW : s.WarmedH U.vm) : aPre E.1 dC dI dA ad h H.size U := by
  obtain ⟨s1, s2, s3, s4, s5, s6, s7, s8, s9, s10, s11, s12, s13, s14, s15, s16⟩ := id hs
  obtain ⟨y1, y2, y3, y4, y5, y6, y7, y8⟩ := id hy
  refine ⟨by rw [hU], by rw [hU]; exact y1, va_K.moved hW.alike s11, y2.weaken (fun _ _ _ _ => trivial), fun w hw => nw_warm hw hW (s9 w hw), va_AO.moved hW.alike s10, ?_⟩
  exact aRO_call y7 y3 hU hW.alike (a_free y2 y3 s12)
def aKeep (lo hi : Nat) (L : List (Option AV)) (S : List AV) : Bool := (rfL L).all (fun k => decide (k < lo) || decide (hi ≤ k)) && (rfS S).all (fun k => decide (k < lo) || decide (hi ≤ k))
theorem aKeep0 (n : Nat) (L : List (Option AV)) (S : List AV) : aKeep n (n + 0) L S = true := by
  have e : ∀ k : Nat, (decide (k < n) || decide (n + 0 ≤ k)) = true := fun k => by
    rcases Nat.lt_or_ge k n with z | z
    · simp [z]
    · simp [z]
  simp only [aKeep, Bool.and_eq_true]
  exact ⟨List.all_eq_true.mpr (fun k _ => e k), List.all_eq_true.mpr (fun k _ => e k)⟩
theorem aw_back {l : Launch} {p : Program} {e : Env} {R : Room} {s : State} {m : MethodId} {args : Array Value} {below : List Frame} {meth : Method} {c : Code} {H : Heap} {locs : List Loc} {cells slots : Nat} {A : Nat → Prop} {dC : Nat → ClassId} {dI : Nat → Nat → Nat} {dA : Nat → ClassId} {ad ad0 : Nat → Nat} {ls : Array Slot} {n0 m0 mc ms : Nat} {QQ : State → Prop} {Q' : Option Int → HP → Prop} {st0 : List Value} {a : Array Value}
    (hs : aSt M E p R s m args meth c A dC dI dA n0 m0) (hf : aFi M E l p e R s m args below meth c A dC dI dA ad0 n0 m0 QQ Q) (hy : aDy M E s H locs cells slots A dC dI dA ad ad0 ls n0 m0 L h)
    (hsml : h.1.length + mc ≤ 1000) (hr : va_Run p l e R s m args below meth c H locs cells slots mc ms (F0 m pc ls st0) (S.map (cv ad)) (aQ dC dI dA ad h H.size mc ms Q' a) (va_A (con dA ad h) H.size)) (ok : aKeep h.1.length (h.1.length + mc) L S = true)
    (kk : ∀ v h', Q' v h' → h'.1.length = h.1.length + mc → slS h'.1 = slS h.1 + ms → AW M E (pc + 3) L (v.toList.map .inl ++ S) h' Q) : W p l e R s m args below meth c H locs cells slots QQ (F0 m pc ls st0) := by
  obtain ⟨s1, s2, s3, s4, s5, s6, s7, s8, s9, s10, s11, s12, s13, s14, s15, s16⟩ := id hs
  obtain ⟨y1, y2, y3, y4, y5, y6, y7, y8⟩ := id hy
  intro T hT X
  obtain ⟨v, st₀, t, T', L1, h0, X', hL, e1, e2, ⟨⟨v', h', ad', hv, hq, hl1, hl2, had, hP, hD⟩, hz, hk⟩, st⟩ := hr T hT X
  have hv2 : v = v'.map (fun z => .int (Int32.ofInt z)) := by injection hv
  subst hv2
  rw [h0] at hz hk
  have hfr := a_free y2 y3 s12
  simp only [aKeep, Bool.and_eq_true] at ok
  have okk : ∀ k : Nat, (decide (k < h.1.length) || decide (h.1.length + mc ≤ k)) = true → ad' k = ad k := fun k hk2 => had k (by
    rw [hl1]
    simpa using hk2)
  have hS2 : va_S A s.heap T'.heap (locs ++ L1) := ⟨Nat.le_trans y3.1 (by rw [e1]; exact hz), fun q h1 h2 => by rw [e1, hk q (Nat.lt_of_lt_of_le h1 y3.1) (fun z => h2 (hfr q z))]; exact y3.2.1 q h1 h2, fun q hq => by
      rcases List.mem_append.mp hq with h | h
      · exact y3.2.2 q h
      · exact hfr _ (hL q h)⟩
  have hdy : aDy M E s T'.heap (locs ++ L1) (cells + mc) (slots + ms) A dC dI dA ad' ad0 ls n0 m0 L h' := by
    refine ⟨by rw [e1]; exact hP, hD.weaken (fun k q _ z => hfr q.1 z), hS2, by omega, by omega, y6.agree (fun i k hik => okk k (List.all_eq_true.mp ok.1 k (rfL_mem (List.mem_of_getElem? hik)))), ?_, fun k hk2 => ?_⟩
    · exact aRO_congr (had 1000 (Or.inr (by omega))) (had 1001 (Or.inr (by omega))) (had 1002 (Or.inr (by omega))) y7
    · rw [had k (by omega)]
      exact y8 k (by omega)
  have hst : (v'.map (fun z => Value.int (Int32.ofInt z))).toList ++ S.map (cv ad) = ((v'.toList.map Sum.inl ++ S : List AV)).map (cv ad') := by
    rw [List.map_append]
    congr 1
    · cases v' <;> rfl
    · refine List.map_congr_left (fun x hx => ?_)
      cases x with
      | inl z => rfl
      | inr k => simp only [cv]; rw [okk k (List.all_eq_true.mp ok.2 k (rfS_mem hx))]
  obtain ⟨t2, a1, b1⟩ := kk v' h' hq hl1 hl2 l p e R s m args below meth c T'.heap (locs ++ L1) (cells + mc) (slots + ms) A dC dI dA ad' ad0 ls n0 m0 QQ hs hf hdy T' rfl X'
  refine ⟨t2, st t2 ?_, b1⟩
  rw [← hst] at a1
  exact a1
def aPl (y : MethodName) (n : Nat) : Prop := y.cls ≠ "java/lang/invoke/MethodHandle" ∧ y.cls ≠ "java/lang/invoke/VarHandle" ∧ (parseMethodDescriptor y.desc).map (fun d => d.parameters.length) = some n
def aMw (M' : MI) (n : Nat) : Prop := Cond.initialized M'.1.cls ∈ GW ∧ Cond.code M'.1 M'.2.1 M'.2.2.1 M'.2.2.2 ∈ GW ∧ aPl M'.1 n
def aMV (own : String) (idx : Nat) (M' : MI) (ci n : Nat) : Prop := (Cond.methodLink own idx M'.1 ∈ GW ∨ ∃ host, Cond.methodLinkNest own idx M'.1 host ∈ NWL) ∧ Cond.instanceMethod M'.1 ∈ GW ∧ Cond.selects M'.1.cls M'.1 M'.1 ∈ GW ∧ aMw M' n ∧ ∃ (T : u_T) (N : Nat), vwCl[ci]? = some (M'.1.cls, T, N)
def aMS (own : String) (idx : Nat) (M' : MI) (n : Nat) : Prop := ((Cond.methodLink own idx M'.1 ∈ GW ∧ M'.1.cls = own) ∨ ∃ host, Cond.methodLinkNest own idx M'.1 host ∈ NWL) ∧ Cond.static M'.1 ∈ GW ∧ aMw M' n
def aMI (own : String) (idx : Nat) (M' : MI) (n : Nat) : Prop := (Cond.methodLink own idx M'.1 ∈ GW ∨ ∃ host, Cond.methodLinkNest own idx M'.1 host ∈ NWL) ∧ Cond.instanceMethod M'.1 ∈ GW ∧ M'.1.name = "<init>" ∧ M'.2.2.2 = none ∧ aMw M' n
theorem sum_cat (ad : Nat → Nat) (S : List AV) : ((S.map (cv ad)).map fun v => v.category).sum = S.length := by
  induction S with
  | nil => rfl
  | cons v S ih => simp only [List.map_cons, List.sum_cons, List.length_cons, cv_cat] at *; omega
theorem aw_invV {idx ci n q mc ms : Nat} {M' : MI} {av rest : List AV} {fs : List ShF} {Q' : Option Int → HP → Prop} (hd : decode M.2.1 pc = .ok (.invokevirtual idx, 3)) (hb : aMV M.1.cls idx M' ci n) (hc : h.1[q]? = some (.inl (ci, fs))) (hS : S = av.reverse ++ .inr q :: rest) (hn : av.length = n) (hrest : rest.length ≤ 8)
    (hM : AC E.1 M' (E.2.1 - 1) (E.2.2.1 - (19 + M'.2.2.1)) mc ms (.inr q :: av) h Q') (hd1 : 1 ≤ E.2.1) (hr1 : 19 + M'.2.2.1 ≤ E.2.2.1) (hsml : h.1.length + mc ≤ 1000) (ok : aKeep h.1.length (h.1.length + mc) L rest = true) (hc1 : h.1.length + mc ≤ E.2.2.2.1) (hc2 : slS h.1 + ms ≤ E.2.2.2.2)
    (kk : ∀ v h', Q' v h' → h'.1.length = h.1.length + mc → slS h'.1 = slS h.1 + ms → AW M E (pc + 3) L (v.toList.map .inl ++ rest) h' Q) : AW M E pc L S h Q := by
  intro l p e R s m args below meth c H locs cells slots A dC dI dA ad ad0 ls n0 m0 QQ hs hf hy
  obtain ⟨s1, s2, s3, s4, s5, s6, s7, s8, s9, s10, s11, s12, s13, s14, s15, s16⟩ := id hs
  obtain ⟨y1, y2, y3, y4, y5, y6, y7, y8⟩ := id hy
  obtain ⟨b1, b2, b3, ⟨b4, b5, b6⟩, T, N, b7⟩ := hb
  subst hS
  have he := con_get (dA := dA) (ad := ad) hc
  simp only [ce] at he
  have hpre : PreV s H M'.1.cls (ad q) (va_Pc (((.inr q :: av) : List AV).map (cv ad)) (aPre E.1 dC dI dA ad h H.size)) (av.map (cv ad)) := ⟨aPre_blind, va_recv s11 y1 b7 he, fun U hU hW => ⟨rfl, aPre_at hs hy hU hW⟩⟩
  have hroom : (E.2.1 - 1) + 1 ≤ R.frames ∧ 8 + (M'.2.2.1 + 11) + (E.2.2.1 - (19 + M'.2.2.1)) ≤ R.locals := ⟨by omega, by omega⟩
  have hW8 : ((rest.map (cv ad)).map fun v => v.category).sum ≤ 8 := by rw [sum_cat]; exact hrest
  have hst : (((av.reverse ++ .inr q :: rest) : List AV).map (cv ad)) = (av.map (cv ad)).reverse ++ .ref (ad q) :: rest.map (cv ad) := by simp [cv]
  refine aw_back hs hf hy (Q' := Q') (mc := mc) (ms := ms) (a := (Value.ref (ad q) :: av.map (cv ad)).toArray) (S := rest) hsml ?_ ok kk
  rcases b1 with b1 | ⟨host, b1⟩
  · exact va_runV (As := av.map (cv ad)) (rest := rest.map (cv ad)) ⟨s1, s2, s4, s5, s6⟩ (hM l dC dI dA ad H.size) (cwV n s6 (gw_wsV b1 b2 b3 b4 b5) rfl rfl rfl ⟨rfl, b6⟩ hroom) hpre rfl (by simpa using hn) y6.1 hst (lv_room hW8) hd ⟨by omega, by omega⟩
  · exact va_runVN (host := host) (As := av.map (cv ad)) (rest := rest.map (cv ad)) ⟨s1, s2, s4, s5, s6⟩ (hM l dC dI dA ad H.size) ⟨va_cnB n s6 (gw_ws b5) rfl rfl rfl (s9 _ b1) (s6 _ b4) b6 hroom, s6 _ b2, s6 _ b3⟩ hpre rfl (by simpa using hn) y6.1 hst (lv_room hW8) hd ⟨by omega, by omega⟩
theorem aw_invS {idx n mc ms : Nat} {M' : MI} {av rest : List AV} {Q' : Option Int → HP → Prop} (hd : decode M.2.1 pc = .ok (.invokestatic idx, 3)) (hb : aMS M.1.cls idx M' n) (hS : S = av.reverse ++ rest) (hn : av.length = n) (hrest : rest.length ≤ 8)
    (hM : AC E.1 M' (E.2.1 - 1) (E.2.2.1 - (19 + M'.2.2.1)) mc ms av h Q') (hd1 : 1 ≤ E.2.1) (hr1 : 19 + M'.2.2.1 ≤ E.2.2.1) (hsml : h.1.length + mc ≤ 1000) (ok : aKeep h.1.length (h.1.length + mc) L rest = true) (hc1 : h.1.length + mc ≤ E.2.2.2.1) (hc2 : slS h.1 + ms ≤ E.2.2.2.2)
    (kk : ∀ v h', Q' v h' → h'.1.length = h.1.length + mc → slS h'.1 = slS h.1 + ms → AW M E (pc + 3) L (v.toList.map .inl ++ rest) h' Q) : AW M E pc L S h Q := by
  intro l p e R s m args below meth c H locs cells slots A dC dI dA ad ad0 ls n0 m0 QQ hs hf hy
  obtain ⟨s1, s2, s3, s4, s5, s6, s7, s8, s9, s10, s11, s12, s13, s14, s15, s16⟩ := id hs
  obtain ⟨y1, y2, y3, y4, y5, y6, y7, y8⟩ := id hy
  obtain ⟨b1, b2, b4, b5, b6⟩ := hb
  subst hS
  have hpre : PreS s H (va_Pc (av.map (cv ad)) (aPre E.1 dC dI dA ad h H.size)) (av.map (cv ad)) := ⟨aPre_blind, fun U hU hW => ⟨rfl, aPre_at hs hy hU hW⟩⟩
  have hroom : (E.2.1 - 1) + 1 ≤ R.frames ∧ 8 + (M'.2.2.1 + 11) + (E.2.2.1 - (19 + M'.2.2.1)) ≤ R.locals := ⟨by omega, by omega⟩
  have hW8 : ((rest.map (cv ad)).map fun v => v.category).sum ≤ 8 := by rw [sum_cat]; exact hrest
  have hst : (((av.reverse ++ rest) : List AV).map (cv ad)) = (av.map (cv ad)).reverse ++ rest.map (cv ad) := by simp
  refine aw_back hs hf hy (Q' := Q') (mc := mc) (ms := ms) (a := (av.map (cv ad)).toArray) (S := rest) hsml ?_ ok kk
  rcases b1 with ⟨b1, b0⟩ | ⟨host, b1⟩
  · exact va_runS (As := av.map (cv ad)) (rest := rest.map (cv ad)) ⟨s1, s2, s4, s5, s6⟩ (hM l dC dI dA ad H.size) (cwS n s6 (gw_wsS b1 b2 (b0 ▸ b4) b5) rfl rfl rfl ⟨b0, b6⟩ hroom) hpre rfl (by simpa using hn) y6.1 hst (lv_room hW8) hd ⟨by omega, by omega⟩
  · exact va_runSN (host := host) (As := av.map (cv ad)) (rest := rest.map (cv ad)) ⟨s1, s2, s4, s5, s6⟩ (hM l dC dI dA ad H.size) ⟨va_cnB n s6 (gw_ws b5) rfl rfl rfl (s9 _ b1) (s6 _ b4) b6 hroom, s6 _ b2, trivial⟩ hpre rfl (by simpa using hn) y6.1 hst (lv_room hW8) hd ⟨by omega, by omega⟩
theorem aw_invI {idx n q mc ms : Nat} {M' : MI} {av rest : List AV} {Q' : Option Int → HP → Prop} (hd : decode M.2.1 pc = .ok (.invokespecial idx, 3)) (hb : aMI M.1.cls idx M' n) (hS : S = av.reverse ++ .inr q :: rest) (hn : av.length = n) (hrest : rest.length ≤ 8)
    (hM : AC E.1 M' (E.2.1 - 1) (E.2.2.1 - (19 + M'.2.2.1)) mc ms (.inr q :: av) h Q') (hd1 : 1 ≤ E.2.1) (hr1 : 19 + M'.2.2.1 ≤ E.2.2.1) (hsml : h.1.length + mc ≤ 1000) (ok : aKeep h.1.length (h.1.length + mc) L rest = true) (hc1 : h.1.length + mc ≤ E.2.2.2.1) (hc2 : slS h.1 + ms ≤ E.2.2.2.2)
    (kk : ∀ v h', Q' v h' → h'.1.length = h.1.length + mc → slS h'.1 = slS h.1 + ms → AW M E (pc + 3) L (v.toList.map .inl ++ rest) h' Q) : AW M E pc L S h Q := by
  intro l p e R s m args below meth c H locs cells slots A dC dI dA ad ad0 ls n0 m0 QQ hs hf hy
  obtain ⟨s1, s2, s3, s4, s5, s6, s7, s8, s9, s10, s11, s12, s13, s14, s15, s16⟩ := id hs
  obtain ⟨y1, y2, y3, y4, y5, y6, y7, y8⟩ := id hy
  obtain ⟨b1, b2, b3, b0, b4, b5, b6⟩ := hb
  subst hS
  have hpre : PreS s H (va_Pc (((.inr q :: av) : List AV).map (cv ad)) (aPre E.1 dC dI dA ad h H.size)) (.ref (ad q) :: av.map (cv ad)) := ⟨aPre_blind, fun U hU hW => ⟨rfl, aPre_at hs hy hU hW⟩⟩
  have hroom : (E.2.1 - 1) + 1 ≤ R.frames ∧ 8 + (M'.2.2.1 + 11) + (E.2.2.1 - (19 + M'.2.2.1)) ≤ R.locals := ⟨by omega, by omega⟩
  have hW8 : ((rest.map (cv ad)).map fun v => v.category).sum ≤ 8 := by rw [sum_cat]; exact hrest
  have hst : (((av.reverse ++ .inr q :: rest) : List AV).map (cv ad)) = (av.map (cv ad)).reverse ++ .ref (ad q) :: rest.map (cv ad) := by simp [cv]
  have hwM : wsM M' = Cond.code M'.1 M'.2.1 M'.2.2.1 none :: GW := by unfold wsM; rw [b0]
  refine aw_back hs hf hy (Q' := Q') (mc := mc) (ms := ms) (a := (Value.ref (ad q) :: av.map (cv ad)).toArray) (S := rest) hsml ?_ ok kk
  rcases b1 with b1 | ⟨host, b1⟩
  · exact va_runI (As := av.map (cv ad)) (rest := rest.map (cv ad)) ⟨s1, s2, s4, s5, s6⟩ (hM l dC dI dA ad H.size) (cwI n s6 (gw_ws b5) hwM rfl rfl (s6 _ b4) (s6 _ b1) (s6 _ b2) b3 b6 hroom) hpre rfl (by simpa using hn) y6.1 hst (lv_room hW8) hd ⟨by omega, by omega⟩
  · exact va_runIN (host := host) (As := av.map (cv ad)) (rest := rest.map (cv ad)) ⟨s1, s2, s4, s5, s6⟩ (hM l dC dI dA ad H.size) ⟨va_cnB n s6 (gw_ws b5) hwM rfl rfl (s9 _ b1) (s6 _ b4) b6 hroom, b3, s6 _ b2⟩ hpre rfl (by simpa using hn) y6.1 hst (lv_room hW8) hd ⟨by omega, by omega⟩
theorem aw_ireturn {x : Int} (hd : decode M.2.1 pc = .ok (.ireturn, 1)) (ht : M.2.2.2 = some .int ∨ (M.2.2.2 = some .boolean ∧ (x = 0 ∨ x = 1))) (h1 : h.1.length = E.2.2.2.1) (h2 : slS h.1 = E.2.2.2.2) (hq : Q (some x) h) : AW M E pc L [.inl x] h Q := by
  intro l p e R s m args below meth c H locs cells slots A dC dI dA ad ad0 ls n0 m0 QQ hs hf hy
  exact hf (some x) h H locs cells slots ad ls pc L hq hy h1 h2 ⟨hd, ht⟩
theorem aw_return (hd : decode M.2.1 pc = .ok (.return_, 1)) (ht : M.2.2.2 = none) (h1 : h.1.length = E.2.2.2.1) (h2 : slS h.1 = E.2.2.2.2) (hq : Q none h) : AW M E pc L [] h Q := by
  intro l p e R s m args below meth c H locs cells slots A dC dI dA ad ad0 ls n0 m0 QQ hs hf hy
  exact hf none h H locs cells slots ad ls pc L hq hy h1 h2 ⟨hd, ht⟩
theorem aw_objInit {idx q : Nat} (hd : decode M.2.1 pc = .ok (.invokespecial idx, 3)) (hl : Cond.methodLink M.1.cls idx objectInit ∈ GW) (hi : Cond.instanceMethod objectInit ∈ GW) (hco : Cond.code objectInit ⟨#[0xb1]⟩ 1 none ∈ GW) (hd1 : 1 ≤ E.2.1) (hr1 : S.length + 12 ≤ E.2.2.1)
    (k : AW M E (pc + 3) L S h Q) : AW M E pc L (.inr q :: S) h Q := by
  intro l p e R s m args below meth c H locs cells slots A dC dI dA ad ad0 ls n0 m0 QQ hs hf hy
  obtain ⟨s1, s2, s3, s4, s5, s6, s7, s8, s9, s10, s11, s12, s13, s14, s15, s16⟩ := id hs
  obtain ⟨y1, y2, y3, y4, y5, y6, y7, y8⟩ := id hy
  exact W.objInit s1 s2 s5 (s6 _ hl) (s6 _ hi) (s6 _ hco) rfl (by rw [s4]; exact y6.1) rfl hd (by omega) (by show 2 * 0 + _ + 12 ≤ _; rw [sum_cat]; omega) (k l p e R s m args below meth c H locs cells slots A dC dI dA ad ad0 ls n0 m0 QQ hs hf hy)
theorem aw_mmax {idx : Nat} {x y : Int} (hd : decode M.2.1 pc = .ok (.invokestatic idx, 3)) (hl : Cond.methodLink M.1.cls idx Lib.Math.max.name ∈ GW) (hw : Cond.static Lib.Math.max.name ∈ GW ∧ Cond.initialized "java/lang/Math" ∈ GW ∧ Cond.code Lib.Math.max.name Lib.Math.max.code 2 (some .int) ∈ GW) (hd1 : 1 ≤ E.2.1) (hr1 : S.length + 13 ≤ E.2.2.1) (hx : rng x) (hy0 : rng y) (hc1 : h.1.length ≤ E.2.2.2.1) (hc2 : slS h.1 ≤ E.2.2.2.2)
    (k : AW M E (pc + 3) L (.inl (max x y) :: S) h Q) : AW M E pc L (.inl y :: .inl x :: S) h Q := by
  intro l p e R s m args below meth c H locs cells slots A dC dI dA ad ad0 ls n0 m0 QQ hs hf hy
  obtain ⟨s1, s2, s3, s4, s5, s6, s7, s8, s9, s10, s11, s12, s13, s14, s15, s16⟩ := id hs
  obtain ⟨y1, y2, y3, y4, y5, y6, y7, y8⟩ := id hy
  refine va_mmax s1 s2 (by rw [s4]; exact y6.1.symm) s5 (s6 _ hl) (s6 _ hw.1) (s6 _ hw.2.1) (s6 _ hw.2.2) (by omega) (by rw [sum_cat]; omega) (by omega) (by omega) hd ?_
  have e0 : (if Int32.ofInt x < Int32.ofInt y then Int32.ofInt y else Int32.ofInt x) = Int32.ofInt (max x y) := by
    by_cases q : x < y
    · rw [if_pos ((ofI_lt hx hy0).mpr q), Int.max_eq_right (by omega)]
    · rw [if_neg (fun z => q ((ofI_lt hx hy0).mp z)), Int.max_eq_left (by omega)]
  rw [e0]
  exact k l p e R s m args below meth c H locs cells slots A dC dI dA ad ad0 ls n0 m0 QQ hs hf hy
theorem aw_mmin {idx : Nat} {x y : Int} (hd : decode M.2.1 pc = .ok (.invokestatic idx, 3)) (hl : Cond.methodLink M.1.cls idx Lib.Math.min.name ∈ GW) (hw : Cond.static Lib.Math.min.name ∈ GW ∧ Cond.initialized "java/lang/Math" ∈ GW ∧ Cond.code Lib.Math.min.name Lib.Math.min.code 2 (some .int) ∈ GW) (hd1 : 1 ≤ E.2.1) (hr1 : S.length + 13 ≤ E.2.2.1) (hx : rng x) (hy0 : rng y) (hc1 : h.1.length ≤ E.2.2.2.1) (hc2 : slS h.1 ≤ E.2.2.2.2)
    (k : AW M E (pc + 3) L (.inl (min x y) :: S) h Q) : AW M E pc L (.inl y :: .inl x :: S) h Q := by
  intro l p e R s m args below meth c H locs cells slots A dC dI dA ad ad0 ls n0 m0 QQ hs hf hy
  obtain ⟨s1, s2, s3, s4, s5, s6, s7, s8, s9, s10, s11, s12, s13, s14, s15, s16⟩ := id hs
  obtain ⟨y1, y2, y3, y4, y5, y6, y7, y8⟩ := id hy
  refine va_mmin s1 s2 (by rw [s4]; exact y6.1.symm) s5 (s6 _ hl) (s6 _ hw.1) (s6 _ hw.2.1) (s6 _ hw.2.2) (by omega) (by rw [sum_cat]; omega) (by omega) (by omega) hd ?_
  have e0 : (if Int32.ofInt y < Int32.ofInt x then Int32.ofInt y else Int32.ofInt x) = Int32.ofInt (min x y) := by
    by_cases q : y < x
    · rw [if_pos ((ofI_lt hy0 hx).mpr q), Int.min_eq_right (by omega)]
    · rw [if_neg (fun z => q ((ofI_lt hy0 hx).mp z)), Int.min_eq_left (by omega)]
  rw [e0]
  exact k l p e R s m args below meth c H locs cells slots A dC dI dA ad ad0 ls n0 m0 QQ hs hf hy
theorem aw_mabs {idx : Nat} {x : Int} (hd : decode M.2.1 pc = .ok (.invokestatic idx, 3)) (hl : Cond.methodLink M.1.cls idx Lib.Math.abs.name ∈ GW) (hw : Cond.static Lib.Math.abs.name ∈ GW ∧ Cond.initialized "java/lang/Math" ∈ GW ∧ Cond.code Lib.Math.abs.name Lib.Math.abs.code 1 (some .int) ∈ GW) (hd1 : 1 ≤ E.2.1) (hr1 : S.length + 13 ≤ E.2.2.1) (hx : rng x) (hc1 : h.1.length ≤ E.2.2.2.1) (hc2 : slS h.1 ≤ E.2.2.2.2)
    (k : AW M E (pc + 3) L (.inl (if 0 ≤ x then x else -x) :: S) h Q) : AW M E pc L (.inl x :: S) h Q := by
  intro l p e R s m args below meth c H locs cells slots A dC dI dA ad ad0 ls n0 m0 QQ hs hf hy
  obtain ⟨s1, s2, s3, s4, s5, s6, s7, s8, s9, s10, s11, s12, s13, s14, s15, s16⟩ := id hs
  obtain ⟨y1, y2, y3, y4, y5, y6, y7, y8⟩ := id hy
  refine va_mabs s1 s2 (by rw [s4]; exact y6.1.symm) s5 (s6 _ hl) (s6 _ hw.1) (s6 _ hw.2.1) (s6 _ hw.2.2) (by omega) (by rw [sum_cat]; omega) (by omega) (by omega) hd ?_
  have h0 : rng 0 := ⟨by omega, by omega⟩
  have le0 : (0 : Int32) ≤ Int32.ofInt x ↔ 0 ≤ x := ofI_le h0 hx
  have e0 : (if 0 ≤ Int32.ofInt x then Int32.ofInt x else 0 - Int32.ofInt x) = Int32.ofInt (if 0 ≤ x then x else -x) := by
    by_cases q : 0 ≤ x
    · rw [if_pos (le0.mpr q), if_pos q]
    · rw [if_neg (fun z => q (le0.mp z)), if_neg q, ofI_neg, Int32.zero_sub]
  rw [e0]
  exact k l p e R s m args below meth c H locs cells slots A dC dI dA ad ad0 ls n0 m0 QQ hs hf hy
def am_cpy (m : AM) (q0 q1 : Nat) (sp dp n : Int) : AM := fun k j => if k = q1 ∧ dp ≤ j ∧ j < dp + n then m q0 (sp + (j - dp)) else m k j
theorem aw_copy {idx q0 q1 n0' n1' : Nat} {sp dp n : Int} (hd : decode M.2.1 pc = .ok (.invokestatic idx, 3)) (hl : Cond.methodLink M.1.cls idx arraycopyName ∈ GW) (hw : Cond.native arraycopyName ∈ GW ∧ Cond.static arraycopyName ∈ GW ∧ Cond.initialized "java/lang/System" ∈ GW) (hd1 : 1 ≤ E.2.1) (hr1 : S.length + (nativeFrameWords "java/lang/System" "arraycopy" 5 + 11) ≤ E.2.2.1)
    (hc0 : h.1[q0]? = some (.inr (.inl (0, n0')))) (hc1 : h.1[q1]? = some (.inr (.inl (0, n1')))) (h1 : 0 ≤ sp) (h2 : 0 ≤ dp) (h3 : 0 ≤ n) (h4 : sp + n ≤ n0') (h5 : dp + n ≤ n1') (hs0 : n0' < 2147483648) (hs1 : n1' < 2147483648)
    (k : AW M E (pc + 3) L S (h.1, am_cpy h.2 q0 q1 sp dp n) Q) : AW M E pc L (.inl n :: .inl dp :: .inr q1 :: .inl sp :: .inr q0 :: S) h Q := by
  intro l p e R s m args below meth c H locs cells slots A dC dI dA ad ad0 ls n0 m0 QQ hs hf hy
  obtain ⟨s1, s2, s3, s4, s5, s6, s7, s8, s9, s10, s11, s12, s13, s14, s15, s16⟩ := id hs
  obtain ⟨y1, y2, y3, y4, y5, y6, y7, y8⟩ := id hy
  have he0 := con_get (dA := dA) (ad := ad) hc0
  simp only [ce] at he0
  have he1 := con_get (dA := dA) (ad := ad) hc1
  simp only [ce] at he1
  have r1 : rng sp := ⟨by omega, by omega⟩
  have r2 : rng dp := ⟨by omega, by omega⟩
  have r3 : rng n := ⟨by omega, by omega⟩
  have z0 : rng 0 := ⟨by omega, by omega⟩
  have hq1 : q1 < h.1.length := (List.getElem?_eq_some_iff.mp hc1).1
  have ecn : con dA ad (h.1, am_cpy h.2 q0 q1 sp dp n) = (con dA ad h).set q1 (ad q1, .inl (dA 0, n1', .inl (va_cpy (fun j => Int32.ofInt (h.2 q0 (j : Int))) (fun j => Int32.ofInt (h.2 q1 (j : Int))) sp.toNat dp.toNat n.toNat))) := by
    have hset : h.1 = h.1.set q1 (.inr (.inl (0, n1'))) := by
      obtain ⟨a, b⟩ := List.getElem?_eq_some_iff.mp hc1
      rw [← b]
      exact (List.set_getElem_self a).symm
    rw [con_set (sh := h.1) (sh' := h.1) (m := h.2) (m' := am_cpy h.2 q0 q1 sp dp n) hq1 hset (fun i c hi => ce_ad (fun _ _ => rfl) (fun j => if_neg (fun z => hi z.1)))]
    simp only [ce]
    congr 4
    congr 2
    funext j
    by_cases hj : dp.toNat ≤ j ∧ j < dp.toNat + n.toNat
    · have c1 : dp ≤ (j : Int) ∧ (j : Int) < dp + n := by omega
      have c2 : am_cpy h.2 q0 q1 sp dp n q1 (j : Int) = h.2 q0 (sp + ((j : Int) - dp)) := if_pos ⟨rfl, c1⟩
      have c3 : va_cpy (fun j => Int32.ofInt (h.2 q0 (j : Int))) (fun j => Int32.ofInt (h.2 q1 (j : Int))) sp.toNat dp.toNat n.toNat j = Int32.ofInt (h.2 q0 ((sp.toNat + (j - dp.toNat) : Nat) : Int)) := if_pos hj
      rw [c2, c3, show ((sp.toNat + (j - dp.toNat) : Nat) : Int) = sp + ((j : Int) - dp) by omega]
    · have c1 : ¬ (dp ≤ (j : Int) ∧ (j : Int) < dp + n) := by omega
      have c2 : am_cpy h.2 q0 q1 sp dp n q1 (j : Int) = h.2 q1 (j : Int) := if_neg (fun z => c1 z.2)
      have c3 : va_cpy (fun j => Int32.ofInt (h.2 q0 (j : Int))) (fun j => Int32.ofInt (h.2 q1 (j : Int))) sp.toNat dp.toNat n.toNat j = Int32.ofInt (h.2 q1 (j : Int)) := if_neg hj
      rw [c2, c3]
  have ng : ∀ {x : Int}, rng x → 0 ≤ x → ¬ Int32.ofInt x < 0 := fun hx h0 z => by
    have := (ofI_lt hx z0).mp z
    omega
  refine va_copyi s1 s2 (by rw [s4]; exact y6.1.symm) s5 (s6 _ hl) (s6 _ hw.1) (s6 _ hw.2.1) (s6 _ hw.2.2) s11 y1 y2 y3 q0 q1 0 0 he0 he1 rfl rfl rfl (ng r1 h1) (ng r2 h2) (ng r3 h3) (by rw [ofI_cl r1, ofI_cl r3]; omega) (by rw [ofI_cl r2, ofI_cl r3]; omega) (fun i hi => rfl) (by omega) (by rw [sum_cat]; omega) hd (fun H1 locs1 g1 g2 g3 => ?_)
  rw [ofI_cl r1, ofI_cl r2, ofI_cl r3] at g1 g2
  rw [← ecn] at g1 g2
  exact k l p e R s m args below meth c H1 locs1 cells slots A dC dI dA ad ad0 ls n0 m0 QQ hs hf ⟨g1, g2, g3, y4, y5, y6, y7, y8⟩
end CALL
end
section
def SH : List ShC := [
  .inl (8, [some (some 1), some (some 17), some (some 83), some (some 85), some (some 91), some (some 98), none]),
  .inl (0, [some (some 2), some (some 6), some (some 12), some (some 15), some (some 16)]),
  .inl (3, [some (some 3), some (some 4), some (some 5), none]),
  .inr (.inl (0, 12)),
  .inr (.inl (0, 12)),
  .inr (.inl (0, 12)),
  .inl (5, [some (some 7), some (some 8), some (some 9), some (some 10), some (some 11)]),
  .inr (.inl (0, 7)),
  .inr (.inl (0, 21)),
  .inr (.inl (0, 21)),
  .inr (.inl (0, 21)),
  .inr (.inl (0, 6)),
  .inl (7, [some (some 13), some (some 14)]),
  .inr (.inl (0, 6)),
  .inr (.inl (0, 18)),
  .inr (.inl (0, 3)),
  .inr (.inl (0, 9)),
  .inl (2, [some (some 18), none, none]),
  .inr (.inr [some 19, some 35, some 51, some 67]),
  .inl (0, [some (some 20), some (some 24), some (some 30), some (some 33), some (some 34)]),
  .inl (3, [some (some 21), some (some 22), some (some 23), none]),
  .inr (.inl (0, 12)),
  .inr (.inl (0, 12)),
  .inr (.inl (0, 12)),
  .inl (5, [some (some 25), some (some 26), some (some 27), some (some 28), some (some 29)]),
  .inr (.inl (0, 7)),
  .inr (.inl (0, 21)),
  .inr (.inl (0, 21)),
  .inr (.inl (0, 21)),
  .inr (.inl (0, 6)),
  .inl (7, [some (some 31), some (some 32)]),
  .inr (.inl (0, 6)),
  .inr (.inl (0, 18)),
  .inr (.inl (0, 3)),
  .inr (.inl (0, 9)),
  .inl (0, [some (some 36), some (some 40), some (some 46), some (some 49), some (some 50)]),
  .inl (3, [some (some 37), some (some 38), some (some 39), none]),
  .inr (.inl (0, 12)),
  .inr (.inl (0, 12)),
  .inr (.inl (0, 12)),
  .inl (5, [some (some 41), some (some 42), some (some 43), some (some 44), some (some 45)]),
  .inr (.inl (0, 7)),
  .inr (.inl (0, 21)),
  .inr (.inl (0, 21)),
  .inr (.inl (0, 21)),
  .inr (.inl (0, 6)),
  .inl (7, [some (some 47), some (some 48)]),
  .inr (.inl (0, 6)),
  .inr (.inl (0, 18)),
  .inr (.inl (0, 3)),
  .inr (.inl (0, 9)),
  .inl (0, [some (some 52), some (some 56), some (some 62), some (some 65), some (some 66)]),
  .inl (3, [some (some 53), some (some 54), some (some 55), none]),
  .inr (.inl (0, 12)),
  .inr (.inl (0, 12)),
  .inr (.inl (0, 12)),
  .inl (5, [some (some 57), some (some 58), some (some 59), some (some 60), some (some 61)]),
  .inr (.inl (0, 7)),
  .inr (.inl (0, 21)),
  .inr (.inl (0, 21)),
  .inr (.inl (0, 21)),
  .inr (.inl (0, 6)),
  .inl (7, [some (some 63), some (some 64)]),
  .inr (.inl (0, 6)),
  .inr (.inl (0, 18)),
  .inr (.inl (0, 3)),
  .inr (.inl (0, 9)),
  .inl (0, [some (some 68), some (some 72), some (some 78), some (some 81), some (some 82)]),
  .inl (3, [some (some 69), some (some 70), some (some 71), none]),
  .inr (.inl (0, 12)),
  .inr (.inl (0, 12)),
  .inr (.inl (0, 12)),
  .inl (5, [some (some 73), some (some 74), some (some 75), some (some 76), some (some 77)]),
  .inr (.inl (0, 7)),
  .inr (.inl (0, 21)),
  .inr (.inl (0, 21)),
  .inr (.inl (0, 21)),
  .inr (.inl (0, 6)),
  .inl (7, [some (some 79), some (some 80)]),
  .inr (.inl (0, 6)),
  .inr (.inl (0, 18)),
  .inr (.inl (0, 3)),
  .inr (.inl (0, 9)),
  .inl (1, [some (some 84), none, none, none, none, none]),
  .inr (.inl (1, 21)),
  .inl (5, [some (some 86), some (some 87), some (some 88), some (some 89), some (some 90)]),
  .inr (.inl (0, 7)),
  .inr (.inl (0, 21)),
  .inr (.inl (0, 21)),
  .inr (.inl (0, 21)),
  .inr (.inl (0, 6)),
  .inl (4, [some (some 92), some (some 93), some (some 94), some (some 95), some (some 96), some (some 97), none, none]),
  .inr (.inl (0, 4096)),
  .inr (.inl (0, 64)),
  .inr (.inl (0, 64)),
  .inr (.inl (0, 64)),
  .inr (.inl (0, 18)),
  .inr (.inl (0, 18)),
  .inl (6, [some (some 99), none, none, none]),
  .inr (.inl (2, 80))]
theorem sh_0 : SH[0]? = some (.inl (8, [some (some 1), some (some 17), some (some 83), some (some 85), some (some 91), some (some 98), none])) := rfl
theorem sh_1 : SH[1]? = some (.inl (0, [some (some 2), some (some 6), some (some 12), some (some 15), some (some 16)])) := rfl
theorem sh_2 : SH[2]? = some (.inl (3, [some (some 3), some (some 4), some (some 5), none])) := rfl
theorem sh_3 : SH[3]? = some (.inr (.inl (0, 12))) := rfl
theorem sh_4 : SH[4]? = some (.inr (.inl (0, 12))) := rfl
theorem sh_5 : SH[5]? = some (.inr (.inl (0, 12))) := rfl
theorem sh_6 : SH[6]? = some (.inl (5, [some (some 7), some (some 8), some (some 9), some (some 10), some (some 11)])) := rfl
theorem sh_7 : SH[7]? = some (.inr (.inl (0, 7))) := rfl
theorem sh_8 : SH[8]? = some (.inr (.inl (0, 21))) := rfl
theorem sh_9 : SH[9]? = some (.inr (.inl (0, 21))) := rfl
theorem sh_10 : SH[10]? = some (.inr (.inl (0, 21))) := rfl
theorem sh_11 : SH[11]? = some (.inr (.inl (0, 6))) := rfl
theorem sh_12 : SH[12]? = some (.inl (7, [some (some 13), some (some 14)])) := rfl
theorem sh_13 : SH[13]? = some (.inr (.inl (0, 6))) := rfl
theorem sh_14 : SH[14]? = some (.inr (.inl (0, 18))) := rfl
theorem sh_15 : SH[15]? = some (.inr (.inl (0, 3))) := rfl
theorem sh_16 : SH[16]? = some (.inr (.inl (0, 9))) := rfl
theorem sh_17 : SH[17]? = some (.inl (2, [some (some 18), none, none])) := rfl
theorem sh_18 : SH[18]? = some (.inr (.inr [some 19, some 35, some 51, some 67])) := rfl
theorem sh_19 : SH[19]? = some (.inl (0, [some (some 20), some (some 24), some (some 30), some (some 33), some (some 34)])) := rfl
theorem sh_20 : SH[20]? = some (.inl (3, [some (some 21), some (some 22), some (some 23), none])) := rfl
theorem sh_21 : SH[21]? = some (.inr (.inl (0, 12))) := rfl
theorem sh_22 : SH[22]? = some (.inr (.inl (0, 12))) := rfl
theorem sh_23 : SH[23]? = some (.inr (.inl (0, 12))) := rfl
theorem sh_24 : SH[24]? = some (.inl (5, [some (some 25), some (some 26), some (some 27), some (some 28), some (some 29)])) := rfl
theorem sh_25 : SH[25]? = some (.inr (.inl (0, 7))) := rfl
theorem sh_26 : SH[26]? = some (.inr (.inl (0, 21))) := rfl
theorem sh_27 : SH[27]? = some (.inr (.inl (0, 21))) := rfl
theorem sh_28 : SH[28]? = some (.inr (.inl (0, 21))) := rfl
theorem sh_29 : SH[29]? = some (.inr (.inl (0, 6))) := rfl
theorem sh_30 : SH[30]? = some (.inl (7, [some (some 31), some (some 32)])) := rfl
theorem sh_31 : SH[31]? = some (.inr (.inl (0, 6))) := rfl
theorem sh_32 : SH[32]? = some (.inr (.inl (0, 18))) := rfl
theorem sh_33 : SH[33]? = some (.inr (.inl (0, 3))) := rfl
theorem sh_34 : SH[34]? = some (.inr (.inl (0, 9))) := rfl
theorem sh_35 : SH[35]? = some (.inl (0, [some (some 36), some (some 40), some (some 46), some (some 49), some (some 50)])) := rfl
theorem sh_36 : SH[36]? = some (.inl (3, [some (some 37), some (some 38), some (some 39), none])) := rfl
theorem sh_37 : SH[37]? = some (.inr (.inl (0, 12))) := rfl
theorem sh_38 : SH[38]? = some (.inr (.inl (0, 12))) := rfl
theorem sh_39 : SH[39]? = some (.inr (.inl (0, 12))) := rfl
theorem sh_40 : SH[40]? = some (.inl (5, [some (some 41), some (some 42), some (some 43), some (some 44), some (some 45)])) := rfl
theorem sh_41 : SH[41]? = some (.inr (.inl (0, 7))) := rfl
theorem sh_42 : SH[42]? = some (.inr (.inl (0, 21))) := rfl
theorem sh_43 : SH[43]? = some (.inr (.inl (0, 21))) := rfl
theorem sh_44 : SH[44]? = some (.inr (.inl (0, 21))) := rfl
theorem sh_45 : SH[45]? = some (.inr (.inl (0, 6))) := rfl
theorem sh_46 : SH[46]? = some (.inl (7, [some (some 47), some (some 48)])) := rfl
theorem sh_47 : SH[47]? = some (.inr (.inl (0, 6))) := rfl
theorem sh_48 : SH[48]? = some (.inr (.inl (0, 18))) := rfl
theorem sh_49 : SH[49]? = some (.inr (.inl (0, 3))) := rfl
theorem sh_50 : SH[50]? = some (.inr (.inl (0, 9))) := rfl
theorem sh_51 : SH[51]? = some (.inl (0, [some (some 52), some (some 56), some (some 62), some (some 65), some (some 66)])) := rfl
theorem sh_52 : SH[52]? = some (.inl (3, [some (some 53), some (some 54), some (some 55), none])) := rfl
theorem sh_53 : SH[53]? = some (.inr (.inl (0, 12))) := rfl
theorem sh_54 : SH[54]? = some (.inr (.inl (0, 12))) := rfl
theorem sh_55 : SH[55]? = some (.inr (.inl (0, 12))) := rfl
theorem sh_56 : SH[56]? = some (.inl (5, [some (some 57), some (some 58), some (some 59), some (some 60), some (some 61)])) := rfl
theorem sh_57 : SH[57]? = some (.inr (.inl (0, 7))) := rfl
theorem sh_58 : SH[58]? = some (.inr (.inl (0, 21))) := rfl
theorem sh_59 : SH[59]? = some (.inr (.inl (0, 21))) := rfl
theorem sh_60 : SH[60]? = some (.inr (.inl (0, 21))) := rfl
theorem sh_61 : SH[61]? = some (.inr (.inl (0, 6))) := rfl
theorem sh_62 : SH[62]? = some (.inl (7, [some (some 63), some (some 64)])) := rfl
theorem sh_63 : SH[63]? = some (.inr (.inl (0, 6))) := rfl
theorem sh_64 : SH[64]? = some (.inr (.inl (0, 18))) := rfl
theorem sh_65 : SH[65]? = some (.inr (.inl (0, 3))) := rfl
theorem sh_66 : SH[66]? = some (.inr (.inl (0, 9))) := rfl
theorem sh_67 : SH[67]? = some (.inl (0, [some (some 68), some (some 72), some (some 78), some (some 81), some (some 82)])) := rfl
theorem sh_68 : SH[68]? = some (.inl (3, [some (some 69), some (some 70), some (some 71), none])) := rfl
theorem sh_69 : SH[69]? = some (.inr (.inl (0, 12))) := rfl
theorem sh_70 : SH[70]? = some (.inr (.inl (0, 12))) := rfl
theorem sh_71 : SH[71]? = some (.inr (.inl (0, 12))) := rfl
theorem sh_72 : SH[72]? = some (.inl (5, [some (some 73), some (some 74), some (some 75), some (some 76), some (some 77)])) := rfl
theorem sh_73 : SH[73]? = some (.inr (.inl (0, 7))) := rfl
theorem sh_74 : SH[74]? = some (.inr (.inl (0, 21))) := rfl
theorem sh_75 : SH[75]? = some (.inr (.inl (0, 21))) := rfl
theorem sh_76 : SH[76]? = some (.inr (.inl (0, 21))) := rfl
theorem sh_77 : SH[77]? = some (.inr (.inl (0, 6))) := rfl
theorem sh_78 : SH[78]? = some (.inl (7, [some (some 79), some (some 80)])) := rfl
theorem sh_79 : SH[79]? = some (.inr (.inl (0, 6))) := rfl
theorem sh_80 : SH[80]? = some (.inr (.inl (0, 18))) := rfl
theorem sh_81 : SH[81]? = some (.inr (.inl (0, 3))) := rfl
theorem sh_82 : SH[82]? = some (.inr (.inl (0, 9))) := rfl
theorem sh_83 : SH[83]? = some (.inl (1, [some (some 84), none, none, none, none, none])) := rfl
theorem sh_84 : SH[84]? = some (.inr (.inl (1, 21))) := rfl
theorem sh_85 : SH[85]? = some (.inl (5, [some (some 86), some (some 87), some (some 88), some (some 89), some (some 90)])) := rfl
theorem sh_86 : SH[86]? = some (.inr (.inl (0, 7))) := rfl
theorem sh_87 : SH[87]? = some (.inr (.inl (0, 21))) := rfl
theorem sh_88 : SH[88]? = some (.inr (.inl (0, 21))) := rfl
theorem sh_89 : SH[89]? = some (.inr (.inl (0, 21))) := rfl
theorem sh_90 : SH[90]? = some (.inr (.inl (0, 6))) := rfl
theorem sh_91 : SH[91]? = some (.inl (4, [some (some 92), some (some 93), some (some 94), some (some 95), some (some 96), some (some 97), none, none])) := rfl
theorem sh_92 : SH[92]? = some (.inr (.inl (0, 4096))) := rfl
theorem sh_93 : SH[93]? = some (.inr (.inl (0, 64))) := rfl
theorem sh_94 : SH[94]? = some (.inr (.inl (0, 64))) := rfl
theorem sh_95 : SH[95]? = some (.inr (.inl (0, 64))) := rfl
theorem sh_96 : SH[96]? = some (.inr (.inl (0, 18))) := rfl
theorem sh_97 : SH[97]? = some (.inr (.inl (0, 18))) := rfl
theorem sh_98 : SH[98]? = some (.inl (6, [some (some 99), none, none, none])) := rfl
theorem sh_99 : SH[99]? = some (.inr (.inl (2, 80))) := rfl
theorem SH_len : SH.length = 100 := rfl
theorem SH_sl : slS SH = 5358 := rfl
def rk (K d r : Nat) : Prop := K ≤ d ∧ 36 * K ≤ r
def AP (K : Nat) (M : MI) (pc : Nat) (L : List (Option AV)) (S : List AV) (m : AM) (Q : Option Int → AM → Prop) : Prop := ∀ (X : AX) (d r : Nat), rk K d r → AW M (X, d, r, 100, 5358) pc L S (SH, m) (fun v h => h.1 = SH ∧ Q v h.2)
def CS (K : Nat) (M : MI) (av : List AV) (m : AM) (Q : Option Int → AM → Prop) : Prop := ∀ (X : AX) (d r : Nat), rk K d r → AC X M d r 0 0 av (SH, m) (fun v h => h.1 = SH ∧ Q v h.2)
theorem cs_of {K : Nat} {M : MI} {av : List AV} {m : AM} {Q : Option Int → AM → Prop} {L0 : List (Option AV)} (hp : plainName M.1.cls = true) (hlen : av.length ≤ M.2.2.1) (hL : av.map some ++ List.replicate (M.2.2.1 - av.length) none = L0) (k : AP K M 0 L0 [] m Q) : CS K M av m Q := by
  intro X d r hk
  refine ac_of hp hlen ?_
  rw [hL]
  exact k X d r hk
theorem CS.mono {K K' : Nat} {M : MI} {av : List AV} {m : AM} {Q Q' : Option Int → AM → Prop} (k : CS K M av m Q) (hK : K ≤ K') (hq : ∀ v m', Q v m' → Q' v m') : CS K' M av m Q' := fun X d r hk => AC.mono (k X d r ⟨Nat.le_trans hK hk.1, Nat.le_trans (Nat.mul_le_mul_left 36 hK) hk.2⟩) (fun v h' q => ⟨q.1, hq v h'.2 q.2⟩)
section AP
variable {K : Nat} {M : MI} {pc : Nat} {L : List (Option AV)} {S : List AV} {m : AM} {Q : Option Int → AM → Prop}
theorem nfw : nativeFrameWords "java/lang/System" "arraycopy" 5 = 7 := by decide +kernel
theorem rk1 {K d r : Nat} (hk : rk K d r) (hK : 1 ≤ K) : 1 ≤ d ∧ 36 ≤ r := by
  obtain ⟨h1, h2⟩ := hk
  exact ⟨by omega, by omega⟩
theorem AP.mono {Q' : Option Int → AM → Prop} (k : AP K M pc L S m Q) (hq : ∀ v m', Q v m' → Q' v m') : AP K M pc L S m Q' := fun X d r hk => (k X d r hk).mono (fun v h' q => ⟨q.1, hq v h'.2 q.2⟩)
theorem AP.loc {L' : List (Option AV)} (k : AP K M pc L' S m Q) (hL : ∀ (i : Nat) (v : AV), L'[i]? = some (some v) → L[i]? = some (some v)) : AP K M pc L S m Q := fun X d r hk => (k X d r hk).loc hL

theorem ap_const {n : Int} (hd : decode M.2.1 pc = .ok (.iconst n, 1))
    (k : AP K M (pc + 1) L (.inl n :: S) m Q) : AP K M pc L S m Q := fun X d r hk => aw_const hd (k X d r hk)
theorem ap_bipush {n : Int} (hd : decode M.2.1 pc = .ok (.bipush n, 2)) (hn : (Int8.ofInt n).toInt32 = Int32.ofInt n)
    (k : AP K M (pc + 2) L (.inl n :: S) m Q) : AP K M pc L S m Q := fun X d r hk => aw_bipush hd hn (k X d r hk)
theorem ap_sipush {n : Int} (hd : decode M.2.1 pc = .ok (.sipush n, 3)) (hn : (Int16.ofInt n).toInt32 = Int32.ofInt n)
    (k : AP K M (pc + 3) L (.inl n :: S) m Q) : AP K M pc L S m Q := fun X d r hk => aw_sipush hd hn (k X d r hk)
theorem ap_ild_0 {R : List (Option AV)} {x : Int} (hd : decode M.2.1 pc = .ok (.iload_n 0, 1))
    (k : AP K M (pc + 1) (some (.inl x) :: R) (.inl x :: S) m Q) : AP K M pc (some (.inl x) :: R) S m Q := fun X d r hk => aw_ild_n hd rfl rfl (k X d r hk)
theorem ap_ist_0 {R : List (Option AV)} {o : Option AV} {x : Int} (hd : decode M.2.1 pc = .ok (.istore_n 0, 1)) (hn : 0 < M.2.2.1)
    (k : AP K M (pc + 1) (some (.inl x) :: R) S m Q) : AP K M pc (o :: R) (.inl x :: S) m Q := fun X d r hk => aw_ist_n hd rfl hn rfl (k X d r hk)
theorem ap_ald_0 {R : List (Option AV)} {x : Nat} (hd : decode M.2.1 pc = .ok (.aload_n 0, 1))
    (k : AP K M (pc + 1) (some (.inr x) :: R) (.inr x :: S) m Q) : AP K M pc (some (.inr x) :: R) S m Q := fun X d r hk => aw_ald_n hd rfl rfl (k X d r hk)
theorem ap_ast_0 {R : List (Option AV)} {o : Option AV} {x : Nat} (hd : decode M.2.1 pc = .ok (.astore_n 0, 1)) (hn : 0 < M.2.2.1)
    (k : AP K M (pc + 1) (some (.inr x) :: R) S m Q) : AP K M pc (o :: R) (.inr x :: S) m Q := fun X d r hk => aw_ast_n hd rfl hn rfl (k X d r hk)
theorem ap_iinc_0 {R : List (Option AV)} {n x : Int} (hd : decode M.2.1 pc = .ok (.iinc 0 n, 3)) (hn : 0 < M.2.2.1)
    (k : AP K M (pc + 3) (some (.inl (x + n)) :: R) S m Q) : AP K M pc (some (.inl x) :: R) S m Q := fun X d r hk => aw_iinc hd hn rfl rfl (k X d r hk)
theorem ap_ild_1 {a0 : Option AV} {R : List (Option AV)} {x : Int} (hd : decode M.2.1 pc = .ok (.iload_n 1, 1))
    (k : AP K M (pc + 1) (a0 :: some (.inl x) :: R) (.inl x :: S) m Q) : AP K M pc (a0 :: some (.inl x) :: R) S m Q := fun X d r hk => aw_ild_n hd rfl rfl (k X d r hk)
theorem ap_ist_1 {a0 : Option AV} {R : List (Option AV)} {o : Option AV} {x : Int} (hd : decode M.2.1 pc = .ok (.istore_n 1, 1)) (hn : 1 < M.2.2.1)
    (k : AP K M (pc + 1) (a0 :: some (.inl x) :: R) S m Q) : AP K M pc (a0 :: o :: R) (.inl x :: S) m Q := fun X d r hk => aw_ist_n hd rfl hn rfl (k X d r hk)
theorem ap_ald_1 {a0 : Option AV} {R : List (Option AV)} {x : Nat} (hd : decode M.2.1 pc = .ok (.aload_n 1, 1))
    (k : AP K M (pc + 1) (a0 :: some (.inr x) :: R) (.inr x :: S) m Q) : AP K M pc (a0 :: some (.inr x) :: R) S m Q := fun X d r hk => aw_ald_n hd rfl rfl (k X d r hk)
theorem ap_ast_1 {a0 : Option AV} {R : List (Option AV)} {o : Option AV} {x : Nat} (hd : decode M.2.1 pc = .ok (.astore_n 1, 1)) (hn : 1 < M.2.2.1)
    (k : AP K M (pc + 1) (a0 :: some (.inr x) :: R) S m Q) : AP K M pc (a0 :: o :: R) (.inr x :: S) m Q := fun X d r hk => aw_ast_n hd rfl hn rfl (k X d r hk)
theorem ap_iinc_1 {a0 : Option AV} {R : List (Option AV)} {n x : Int} (hd : decode M.2.1 pc = .ok (.iinc 1 n, 3)) (hn : 1 < M.2.2.1)
    (k : AP K M (pc + 3) (a0 :: some (.inl (x + n)) :: R) S m Q) : AP K M pc (a0 :: some (.inl x) :: R) S m Q := fun X d r hk => aw_iinc hd hn rfl rfl (k X d r hk)
theorem ap_ild_2 {a0 a1 : Option AV} {R : List (Option AV)} {x : Int} (hd : decode M.2.1 pc = .ok (.iload_n 2, 1))
    (k : AP K M (pc + 1) (a0 :: a1 :: some (.inl x) :: R) (.inl x :: S) m Q) : AP K M pc (a0 :: a1 :: some (.inl x) :: R) S m Q := fun X d r hk => aw_ild_n hd rfl rfl (k X d r hk)
theorem ap_ist_2 {a0 a1 : Option AV} {R : List (Option AV)} {o : Option AV} {x : Int} (hd : decode M.2.1 pc = .ok (.istore_n 2, 1)) (hn : 2 < M.2.2.1)
    (k : AP K M (pc + 1) (a0 :: a1 :: some (.inl x) :: R) S m Q) : AP K M pc (a0 :: a1 :: o :: R) (.inl x :: S) m Q := fun X d r hk => aw_ist_n hd rfl hn rfl (k X d r hk)
theorem ap_ald_2 {a0 a1 : Option AV} {R : List (Option AV)} {x : Nat} (hd : decode M.2.1 pc = .ok (.aload_n 2, 1))
    (k : AP K M (pc + 1) (a0 :: a1 :: some (.inr x) :: R) (.inr x :: S) m Q) : AP K M pc (a0 :: a1 :: some (.inr x) :: R) S m Q := fun X d r hk => aw_ald_n hd rfl rfl (k X d r hk)
theorem ap_ast_2 {a0 a1 : Option AV} {R : List (Option AV)} {o : Option AV} {x : Nat} (hd : decode M.2.1 pc = .ok (.astore_n 2, 1)) (hn : 2 < M.2.2.1)
    (k : AP K M (pc + 1) (a0 :: a1 :: some (.inr x) :: R) S m Q) : AP K M pc (a0 :: a1 :: o :: R) (.inr x :: S) m Q := fun X d r hk => aw_ast_n hd rfl hn rfl (k X d r hk)
theorem ap_iinc_2 {a0 a1 : Option AV} {R : List (Option AV)} {n x : Int} (hd : decode M.2.1 pc = .ok (.iinc 2 n, 3)) (hn : 2 < M.2.2.1)
    (k : AP K M (pc + 3) (a0 :: a1 :: some (.inl (x + n)) :: R) S m Q) : AP K M pc (a0 :: a1 :: some (.inl x) :: R) S m Q := fun X d r hk => aw_iinc hd hn rfl rfl (k X d r hk)
theorem ap_ild_3 {a0 a1 a2 : Option AV} {R : List (Option AV)} {x : Int} (hd : decode M.2.1 pc = .ok (.iload_n 3, 1))
    (k : AP K M (pc + 1) (a0 :: a1 :: a2 :: some (.inl x) :: R) (.inl x :: S) m Q) : AP K M pc (a0 :: a1 :: a2 :: some (.inl x) :: R) S m Q := fun X d r hk => aw_ild_n hd rfl rfl (k X d r hk)
theorem ap_ist_3 {a0 a1 a2 : Option AV} {R : List (Option AV)} {o : Option AV} {x : Int} (hd : decode M.2.1 pc = .ok (.istore_n 3, 1)) (hn : 3 < M.2.2.1)
    (k : AP K M (pc + 1) (a0 :: a1 :: a2 :: some (.inl x) :: R) S m Q) : AP K M pc (a0 :: a1 :: a2 :: o :: R) (.inl x :: S) m Q := fun X d r hk => aw_ist_n hd rfl hn rfl (k X d r hk)
theorem ap_ald_3 {a0 a1 a2 : Option AV} {R : List (Option AV)} {x : Nat} (hd : decode M.2.1 pc = .ok (.aload_n 3, 1))
    (k : AP K M (pc + 1) (a0 :: a1 :: a2 :: some (.inr x) :: R) (.inr x :: S) m Q) : AP K M pc (a0 :: a1 :: a2 :: some (.inr x) :: R) S m Q := fun X d r hk => aw_ald_n hd rfl rfl (k X d r hk)
theorem ap_ast_3 {a0 a1 a2 : Option AV} {R : List (Option AV)} {o : Option AV} {x : Nat} (hd : decode M.2.1 pc = .ok (.astore_n 3, 1)) (hn : 3 < M.2.2.1)
    (k : AP K M (pc + 1) (a0 :: a1 :: a2 :: some (.inr x) :: R) S m Q) : AP K M pc (a0 :: a1 :: a2 :: o :: R) (.inr x :: S) m Q := fun X d r hk => aw_ast_n hd rfl hn rfl (k X d r hk)
theorem ap_iinc_3 {a0 a1 a2 : Option AV} {R : List (Option AV)} {n x : Int} (hd : decode M.2.1 pc = .ok (.iinc 3 n, 3)) (hn : 3 < M.2.2.1)
    (k : AP K M (pc + 3) (a0 :: a1 :: a2 :: some (.inl (x + n)) :: R) S m Q) : AP K M pc (a0 :: a1 :: a2 :: some (.inl x) :: R) S m Q := fun X d r hk => aw_iinc hd hn rfl rfl (k X d r hk)
theorem ap_ild_4 {a0 a1 a2 a3 : Option AV} {R : List (Option AV)} {x : Int} (hd : decode M.2.1 pc = .ok (.iload 4, 2))
    (k : AP K M (pc + 2) (a0 :: a1 :: a2 :: a3 :: some (.inl x) :: R) (.inl x :: S) m Q) : AP K M pc (a0 :: a1 :: a2 :: a3 :: some (.inl x) :: R) S m Q := fun X d r hk => aw_ild hd rfl (k X d r hk)
theorem ap_ist_4 {a0 a1 a2 a3 : Option AV} {R : List (Option AV)} {o : Option AV} {x : Int} (hd : decode M.2.1 pc = .ok (.istore 4, 2)) (hn : 4 < M.2.2.1)
    (k : AP K M (pc + 2) (a0 :: a1 :: a2 :: a3 :: some (.inl x) :: R) S m Q) : AP K M pc (a0 :: a1 :: a2 :: a3 :: o :: R) (.inl x :: S) m Q := fun X d r hk => aw_ist hd hn rfl (k X d r hk)
theorem ap_ald_4 {a0 a1 a2 a3 : Option AV} {R : List (Option AV)} {x : Nat} (hd : decode M.2.1 pc = .ok (.aload 4, 2))
    (k : AP K M (pc + 2) (a0 :: a1 :: a2 :: a3 :: some (.inr x) :: R) (.inr x :: S) m Q) : AP K M pc (a0 :: a1 :: a2 :: a3 :: some (.inr x) :: R) S m Q := fun X d r hk => aw_ald hd rfl (k X d r hk)
theorem ap_ast_4 {a0 a1 a2 a3 : Option AV} {R : List (Option AV)} {o : Option AV} {x : Nat} (hd : decode M.2.1 pc = .ok (.astore 4, 2)) (hn : 4 < M.2.2.1)
    (k : AP K M (pc + 2) (a0 :: a1 :: a2 :: a3 :: some (.inr x) :: R) S m Q) : AP K M pc (a0 :: a1 :: a2 :: a3 :: o :: R) (.inr x :: S) m Q := fun X d r hk => aw_ast hd hn rfl (k X d r hk)
theorem ap_iinc_4 {a0 a1 a2 a3 : Option AV} {R : List (Option AV)} {n x : Int} (hd : decode M.2.1 pc = .ok (.iinc 4 n, 3)) (hn : 4 < M.2.2.1)
    (k : AP K M (pc + 3) (a0 :: a1 :: a2 :: a3 :: some (.inl (x + n)) :: R) S m Q) : AP K M pc (a0 :: a1 :: a2 :: a3 :: some (.inl x) :: R) S m Q := fun X d r hk => aw_iinc hd hn rfl rfl (k X d r hk)
theorem ap_ild_5 {a0 a1 a2 a3 a4 : Option AV} {R : List (Option AV)} {x : Int} (hd : decode M.2.1 pc = .ok (.iload 5, 2))
    (k : AP K M (pc + 2) (a0 :: a1 :: a2 :: a3 :: a4 :: some (.inl x) :: R) (.inl x :: S) m Q) : AP K M pc (a0 :: a1 :: a2 :: a3 :: a4 :: some (.inl x) :: R) S m Q := fun X d r hk => aw_ild hd rfl (k X d r hk)
theorem ap_ist_5 {a0 a1 a2 a3 a4 : Option AV} {R : List (Option AV)} {o : Option AV} {x : Int} (hd : decode M.2.1 pc = .ok (.istore 5, 2)) (hn : 5 < M.2.2.1)
    (k : AP K M (pc + 2) (a0 :: a1 :: a2 :: a3 :: a4 :: some (.inl x) :: R) S m Q) : AP K M pc (a0 :: a1 :: a2 :: a3 :: a4 :: o :: R) (.inl x :: S) m Q := fun X d r hk => aw_ist hd hn rfl (k X d r hk)
theorem ap_ald_5 {a0 a1 a2 a3 a4 : Option AV} {R : List (Option AV)} {x : Nat} (hd : decode M.2.1 pc = .ok (.aload 5, 2))
    (k : AP K M (pc + 2) (a0 :: a1 :: a2 :: a3 :: a4 :: some (.inr x) :: R) (.inr x :: S) m Q) : AP K M pc (a0 :: a1 :: a2 :: a3 :: a4 :: some (.inr x) :: R) S m Q := fun X d r hk => aw_ald hd rfl (k X d r hk)
theorem ap_ast_5 {a0 a1 a2 a3 a4 : Option AV} {R : List (Option AV)} {o : Option AV} {x : Nat} (hd : decode M.2.1 pc = .ok (.astore 5, 2)) (hn : 5 < M.2.2.1)
    (k : AP K M (pc + 2) (a0 :: a1 :: a2 :: a3 :: a4 :: some (.inr x) :: R) S m Q) : AP K M pc (a0 :: a1 :: a2 :: a3 :: a4 :: o :: R) (.inr x :: S) m Q := fun X d r hk => aw_ast hd hn rfl (k X d r hk)
theorem ap_iinc_5 {a0 a1 a2 a3 a4 : Option AV} {R : List (Option AV)} {n x : Int} (hd : decode M.2.1 pc = .ok (.iinc 5 n, 3)) (hn : 5 < M.2.2.1)
    (k : AP K M (pc + 3) (a0 :: a1 :: a2 :: a3 :: a4 :: some (.inl (x + n)) :: R) S m Q) : AP K M pc (a0 :: a1 :: a2 :: a3 :: a4 :: some (.inl x) :: R) S m Q := fun X d r hk => aw_iinc hd hn rfl rfl (k X d r hk)
theorem ap_ild_6 {a0 a1 a2 a3 a4 a5 : Option AV} {R : List (Option AV)} {x : Int} (hd : decode M.2.1 pc = .ok (.iload 6, 2))
    (k : AP K M (pc + 2) (a0 :: a1 :: a2 :: a3 :: a4 :: a5 :: some (.inl x) :: R) (.inl x :: S) m Q) : AP K M pc (a0 :: a1 :: a2 :: a3 :: a4 :: a5 :: some (.inl x) :: R) S m Q := fun X d r hk => aw_ild hd rfl (k X d r hk)
theorem ap_ist_6 {a0 a1 a2 a3 a4 a5 : Option AV} {R : List (Option AV)} {o : Option AV} {x : Int} (hd : decode M.2.1 pc = .ok (.istore 6, 2)) (hn : 6 < M.2.2.1)
    (k : AP K M (pc + 2) (a0 :: a1 :: a2 :: a3 :: a4 :: a5 :: some (.inl x) :: R) S m Q) : AP K M pc (a0 :: a1 :: a2 :: a3 :: a4 :: a5 :: o :: R) (.inl x :: S) m Q := fun X d r hk => aw_ist hd hn rfl (k X d r hk)
theorem ap_ald_6 {a0 a1 a2 a3 a4 a5 : Option AV} {R : List (Option AV)} {x : Nat} (hd : decode M.2.1 pc = .ok (.aload 6, 2))
    (k : AP K M (pc + 2) (a0 :: a1 :: a2 :: a3 :: a4 :: a5 :: some (.inr x) :: R) (.inr x :: S) m Q) : AP K M pc (a0 :: a1 :: a2 :: a3 :: a4 :: a5 :: some (.inr x) :: R) S m Q := fun X d r hk => aw_ald hd rfl (k X d r hk)
theorem ap_ast_6 {a0 a1 a2 a3 a4 a5 : Option AV} {R : List (Option AV)} {o : Option AV} {x : Nat} (hd : decode M.2.1 pc = .ok (.astore 6, 2)) (hn : 6 < M.2.2.1)
    (k : AP K M (pc + 2) (a0 :: a1 :: a2 :: a3 :: a4 :: a5 :: some (.inr x) :: R) S m Q) : AP K M pc (a0 :: a1 :: a2 :: a3 :: a4 :: a5 :: o :: R) (.inr x :: S) m Q := fun X d r hk => aw_ast hd hn rfl (k X d r hk)
theorem ap_iinc_6 {a0 a1 a2 a3 a4 a5 : Option AV} {R : List (Option AV)} {n x : Int} (hd : decode M.2.1 pc = .ok (.iinc 6 n, 3)) (hn : 6 < M.2.2.1)
    (k : AP K M (pc + 3) (a0 :: a1 :: a2 :: a3 :: a4 :: a5 :: some (.inl (x + n)) :: R) S m Q) : AP K M pc (a0 :: a1 :: a2 :: a3 :: a4 :: a5 :: some (.inl x) :: R) S m Q := fun X d r hk => aw_iinc hd hn rfl rfl (k X d r hk)
theorem ap_ild_7 {a0 a1 a2 a3 a4 a5 a6 : Option AV} {R : List (Option AV)} {x : Int} (hd : decode M.2.1 pc = .ok (.iload 7, 2))
    (k : AP K M (pc + 2) (a0 :: a1 :: a2 :: a3 :: a4 :: a5 :: a6 :: some (.inl x) :: R) (.inl x :: S) m Q) : AP K M pc (a0 :: a1 :: a2 :: a3 :: a4 :: a5 :: a6 :: some (.inl x) :: R) S m Q := fun X d r hk => aw_ild hd rfl (k X d r hk)
theorem ap_ist_7 {a0 a1 a2 a3 a4 a5 a6 : Option AV} {R : List (Option AV)} {o : Option AV} {x : Int} (hd : decode M.2.1 pc = .ok (.istore 7, 2)) (hn : 7 < M.2.2.1)
    (k : AP K M (pc + 2) (a0 :: a1 :: a2 :: a3 :: a4 :: a5 :: a6 :: some (.inl x) :: R) S m Q) : AP K M pc (a0 :: a1 :: a2 :: a3 :: a4 :: a5 :: a6 :: o :: R) (.inl x :: S) m Q := fun X d r hk => aw_ist hd hn rfl (k X d r hk)
theorem ap_ald_7 {a0 a1 a2 a3 a4 a5 a6 : Option AV} {R : List (Option AV)} {x : Nat} (hd : decode M.2.1 pc = .ok (.aload 7, 2))
    (k : AP K M (pc + 2) (a0 :: a1 :: a2 :: a3 :: a4 :: a5 :: a6 :: some (.inr x) :: R) (.inr x :: S) m Q) : AP K M pc (a0 :: a1 :: a2 :: a3 :: a4 :: a5 :: a6 :: some (.inr x) :: R) S m Q := fun X d r hk => aw_ald hd rfl (k X d r hk)
theorem ap_ast_7 {a0 a1 a2 a3 a4 a5 a6 : Option AV} {R : List (Option AV)} {o : Option AV} {x : Nat} (hd : decode M.2.1 pc = .ok (.astore 7, 2)) (hn : 7 < M.2.2.1)
    (k : AP K M (pc + 2) (a0 :: a1 :: a2 :: a3 :: a4 :: a5 :: a6 :: some (.inr x) :: R) S m Q) : AP K M pc (a0 :: a1 :: a2 :: a3 :: a4 :: a5 :: a6 :: o :: R) (.inr x :: S) m Q := fun X d r hk => aw_ast hd hn rfl (k X d r hk)
theorem ap_iinc_7 {a0 a1 a2 a3 a4 a5 a6 : Option AV} {R : List (Option AV)} {n x : Int} (hd : decode M.2.1 pc = .ok (.iinc 7 n, 3)) (hn : 7 < M.2.2.1)
    (k : AP K M (pc + 3) (a0 :: a1 :: a2 :: a3 :: a4 :: a5 :: a6 :: some (.inl (x + n)) :: R) S m Q) : AP K M pc (a0 :: a1 :: a2 :: a3 :: a4 :: a5 :: a6 :: some (.inl x) :: R) S m Q := fun X d r hk => aw_iinc hd hn rfl rfl (k X d r hk)
theorem ap_ild_8 {a0 a1 a2 a3 a4 a5 a6 a7 : Option AV} {R : List (Option AV)} {x : Int} (hd : decode M.2.1 pc = .ok (.iload 8, 2))
    (k : AP K M (pc + 2) (a0 :: a1 :: a2 :: a3 :: a4 :: a5 :: a6 :: a7 :: some (.inl x) :: R) (.inl x :: S) m Q) : AP K M pc (a0 :: a1 :: a2 :: a3 :: a4 :: a5 :: a6 :: a7 :: some (.inl x) :: R) S m Q := fun X d r hk => aw_ild hd rfl (k X d r hk)
theorem ap_ist_8 {a0 a1 a2 a3 a4 a5 a6 a7 : Option AV} {R : List (Option AV)} {o : Option AV} {x : Int} (hd : decode M.2.1 pc = .ok (.istore 8, 2)) (hn : 8 < M.2.2.1)
    (k : AP K M (pc + 2) (a0 :: a1 :: a2 :: a3 :: a4 :: a5 :: a6 :: a7 :: some (.inl x) :: R) S m Q) : AP K M pc (a0 :: a1 :: a2 :: a3 :: a4 :: a5 :: a6 :: a7 :: o :: R) (.inl x :: S) m Q := fun X d r hk => aw_ist hd hn rfl (k X d r hk)
theorem ap_ald_8 {a0 a1 a2 a3 a4 a5 a6 a7 : Option AV} {R : List (Option AV)} {x : Nat} (hd : decode M.2.1 pc = .ok (.aload 8, 2))
    (k : AP K M (pc + 2) (a0 :: a1 :: a2 :: a3 :: a4 :: a5 :: a6 :: a7 :: some (.inr x) :: R) (.inr x :: S) m Q) : AP K M pc (a0 :: a1 :: a2 :: a3 :: a4 :: a5 :: a6 :: a7 :: some (.inr x) :: R) S m Q := fun X d r hk => aw_ald hd rfl (k X d r hk)
theorem ap_ast_8 {a0 a1 a2 a3 a4 a5 a6 a7 : Option AV} {R : List (Option AV)} {o : Option AV} {x : Nat} (hd : decode M.2.1 pc = .ok (.astore 8, 2)) (hn : 8 < M.2.2.1)
    (k : AP K M (pc + 2) (a0 :: a1 :: a2 :: a3 :: a4 :: a5 :: a6 :: a7 :: some (.inr x) :: R) S m Q) : AP K M pc (a0 :: a1 :: a2 :: a3 :: a4 :: a5 :: a6 :: a7 :: o :: R) (.inr x :: S) m Q := fun X d r hk => aw_ast hd hn rfl (k X d r hk)
theorem ap_iinc_8 {a0 a1 a2 a3 a4 a5 a6 a7 : Option AV} {R : List (Option AV)} {n x : Int} (hd : decode M.2.1 pc = .ok (.iinc 8 n, 3)) (hn : 8 < M.2.2.1)
    (k : AP K M (pc + 3) (a0 :: a1 :: a2 :: a3 :: a4 :: a5 :: a6 :: a7 :: some (.inl (x + n)) :: R) S m Q) : AP K M pc (a0 :: a1 :: a2 :: a3 :: a4 :: a5 :: a6 :: a7 :: some (.inl x) :: R) S m Q := fun X d r hk => aw_iinc hd hn rfl rfl (k X d r hk)
theorem ap_ild_9 {a0 a1 a2 a3 a4 a5 a6 a7 a8 : Option AV} {R : List (Option AV)} {x : Int} (hd : decode M.2.1 pc = .ok (.iload 9, 2))
    (k : AP K M (pc + 2) (a0 :: a1 :: a2 :: a3 :: a4 :: a5 :: a6 :: a7 :: a8 :: some (.inl x) :: R) (.inl x :: S) m Q) : AP K M pc (a0 :: a1 :: a2 :: a3 :: a4 :: a5 :: a6 :: a7 :: a8 :: some (.inl x) :: R) S m Q := fun X d r hk => aw_ild hd rfl (k X d r hk)
theorem ap_ist_9 {a0 a1 a2 a3 a4 a5 a6 a7 a8 : Option AV} {R : List (Option AV)} {o : Option AV} {x : Int} (hd : decode M.2.1 pc = .ok (.istore 9, 2)) (hn : 9 < M.2.2.1)
    (k : AP K M (pc + 2) (a0 :: a1 :: a2 :: a3 :: a4 :: a5 :: a6 :: a7 :: a8 :: some (.inl x) :: R) S m Q) : AP K M pc (a0 :: a1 :: a2 :: a3 :: a4 :: a5 :: a6 :: a7 :: a8 :: o :: R) (.inl x :: S) m Q := fun X d r hk => aw_ist hd hn rfl (k X d r hk)
theorem ap_ald_9 {a0 a1 a2 a3 a4 a5 a6 a7 a8 : Option AV} {R : List (Option AV)} {x : Nat} (hd : decode M.2.1 pc = .ok (.aload 9, 2))
    (k : AP K M (pc + 2) (a0 :: a1 :: a2 :: a3 :: a4 :: a5 :: a6 :: a7 :: a8 :: some (.inr x) :: R) (.inr x :: S) m Q) : AP K M pc (a0 :: a1 :: a2 :: a3 :: a4 :: a5 :: a6 :: a7 :: a8 :: some (.inr x) :: R) S m Q := fun X d r hk => aw_ald hd rfl (k X d r hk)
theorem ap_ast_9 {a0 a1 a2 a3 a4 a5 a6 a7 a8 : Option AV} {R : List (Option AV)} {o : Option AV} {x : Nat} (hd : decode M.2.1 pc = .ok (.astore 9, 2)) (hn : 9 < M.2.2.1)
    (k : AP K M (pc + 2) (a0 :: a1 :: a2 :: a3 :: a4 :: a5 :: a6 :: a7 :: a8 :: some (.inr x) :: R) S m Q) : AP K M pc (a0 :: a1 :: a2 :: a3 :: a4 :: a5 :: a6 :: a7 :: a8 :: o :: R) (.inr x :: S) m Q := fun X d r hk => aw_ast hd hn rfl (k X d r hk)
theorem ap_iinc_9 {a0 a1 a2 a3 a4 a5 a6 a7 a8 : Option AV} {R : List (Option AV)} {n x : Int} (hd : decode M.2.1 pc = .ok (.iinc 9 n, 3)) (hn : 9 < M.2.2.1)
    (k : AP K M (pc + 3) (a0 :: a1 :: a2 :: a3 :: a4 :: a5 :: a6 :: a7 :: a8 :: some (.inl (x + n)) :: R) S m Q) : AP K M pc (a0 :: a1 :: a2 :: a3 :: a4 :: a5 :: a6 :: a7 :: a8 :: some (.inl x) :: R) S m Q := fun X d r hk => aw_iinc hd hn rfl rfl (k X d r hk)
theorem ap_ild_10 {a0 a1 a2 a3 a4 a5 a6 a7 a8 a9 : Option AV} {R : List (Option AV)} {x : Int} (hd : decode M.2.1 pc = .ok (.iload 10, 2))
    (k : AP K M (pc + 2) (a0 :: a1 :: a2 :: a3 :: a4 :: a5 :: a6 :: a7 :: a8 :: a9 :: some (.inl x) :: R) (.inl x :: S) m Q) : AP K M pc (a0 :: a1 :: a2 :: a3 :: a4 :: a5 :: a6 :: a7 :: a8 :: a9 :: some (.inl x) :: R) S m Q := fun X d r hk => aw_ild hd rfl (k X d r hk)
theorem ap_ist_10 {a0 a1 a2 a3 a4 a5 a6 a7 a8 a9 : Option AV} {R : List (Option AV)} {o : Option AV} {x : Int} (hd : decode M.2.1 pc = .ok (.istore 10, 2)) (hn : 10 < M.2.2.1)
    (k : AP K M (pc + 2) (a0 :: a1 :: a2 :: a3 :: a4 :: a5 :: a6 :: a7 :: a8 :: a9 :: some (.inl x) :: R) S m Q) : AP K M pc (a0 :: a1 :: a2 :: a3 :: a4 :: a5 :: a6 :: a7 :: a8 :: a9 :: o :: R) (.inl x :: S) m Q := fun X d r hk => aw_ist hd hn rfl (k X d r hk)
theorem ap_ald_10 {a0 a1 a2 a3 a4 a5 a6 a7 a8 a9 : Option AV} {R : List (Option AV)} {x : Nat} (hd : decode M.2.1 pc = .ok (.aload 10, 2))
    (k : AP K M (pc + 2) (a0 :: a1 :: a2 :: a3 :: a4 :: a5 :: a6 :: a7 :: a8 :: a9 :: some (.inr x) :: R) (.inr x :: S) m Q) : AP K M pc (a0 :: a1 :: a2 :: a3 :: a4 :: a5 :: a6 :: a7 :: a8 :: a9 :: some (.inr x) :: R) S m Q := fun X d r hk => aw_ald hd rfl (k X d r hk)
theorem ap_ast_10 {a0 a1 a2 a3 a4 a5 a6 a7 a8 a9 : Option AV} {R : List (Option AV)} {o : Option AV} {x : Nat} (hd : decode M.2.1 pc = .ok (.astore 10, 2)) (hn : 10 < M.2.2.1)
    (k : AP K M (pc + 2) (a0 :: a1 :: a2 :: a3 :: a4 :: a5 :: a6 :: a7 :: a8 :: a9 :: some (.inr x) :: R) S m Q) : AP K M pc (a0 :: a1 :: a2 :: a3 :: a4 :: a5 :: a6 :: a7 :: a8 :: a9 :: o :: R) (.inr x :: S) m Q := fun X d r hk => aw_ast hd hn rfl (k X d r hk)
theorem ap_iinc_10 {a0 a1 a2 a3 a4 a5 a6 a7 a8 a9 : Option AV} {R : List (Option AV)} {n x : Int} (hd : decode M.2.1 pc = .ok (.iinc 10 n, 3)) (hn : 10 < M.2.2.1)
    (k : AP K M (pc + 3) (a0 :: a1 :: a2 :: a3 :: a4 :: a5 :: a6 :: a7 :: a8 :: a9 :: some (.inl (x + n)) :: R) S m Q) : AP K M pc (a0 :: a1 :: a2 :: a3 :: a4 :: a5 :: a6 :: a7 :: a8 :: a9 :: some (.inl x) :: R) S m Q := fun X d r hk => aw_iinc hd hn rfl rfl (k X d r hk)
theorem ap_ild_11 {a0 a1 a2 a3 a4 a5 a6 a7 a8 a9 a10 : Option AV} {R : List (Option AV)} {x : Int} (hd : decode M.2.1 pc = .ok (.iload 11, 2))
    (k : AP K M (pc + 2) (a0 :: a1 :: a2 :: a3 :: a4 :: a5 :: a6 :: a7 :: a8 :: a9 :: a10 :: some (.inl x) :: R) (.inl x :: S) m Q) : AP K M pc (a0 :: a1 :: a2 :: a3 :: a4 :: a5 :: a6 :: a7 :: a8 :: a9 :: a10 :: some (.inl x) :: R) S m Q := fun X d r hk => aw_ild hd rfl (k X d r hk)
theorem ap_ist_11 {a0 a1 a2 a3 a4 a5 a6 a7 a8 a9 a10 : Option AV} {R : List (Option AV)} {o : Option AV} {x : Int} (hd : decode M.2.1 pc = .ok (.istore 11, 2)) (hn : 11 < M.2.2.1)
    (k : AP K M (pc + 2) (a0 :: a1 :: a2 :: a3 :: a4 :: a5 :: a6 :: a7 :: a8 :: a9 :: a10 :: some (.inl x) :: R) S m Q) : AP K M pc (a0 :: a1 :: a2 :: a3 :: a4 :: a5 :: a6 :: a7 :: a8 :: a9 :: a10 :: o :: R) (.inl x :: S) m Q := fun X d r hk => aw_ist hd hn rfl (k X d r hk)
theorem ap_ald_11 {a0 a1 a2 a3 a4 a5 a6 a7 a8 a9 a10 : Option AV} {R : List (Option AV)} {x : Nat} (hd : decode M.2.1 pc = .ok (.aload 11, 2))
    (k : AP K M (pc + 2) (a0 :: a1 :: a2 :: a3 :: a4 :: a5 :: a6 :: a7 :: a8 :: a9 :: a10 :: some (.inr x) :: R) (.inr x :: S) m Q) : AP K M pc (a0 :: a1 :: a2 :: a3 :: a4 :: a5 :: a6 :: a7 :: a8 :: a9 :: a10 :: some (.inr x) :: R) S m Q := fun X d r hk => aw_ald hd rfl (k X d r hk)
theorem ap_ast_11 {a0 a1 a2 a3 a4 a5 a6 a7 a8 a9 a10 : Option AV} {R : List (Option AV)} {o : Option AV} {x : Nat} (hd : decode M.2.1 pc = .ok (.astore 11, 2)) (hn : 11 < M.2.2.1)
    (k : AP K M (pc + 2) (a0 :: a1 :: a2 :: a3 :: a4 :: a5 :: a6 :: a7 :: a8 :: a9 :: a10 :: some (.inr x) :: R) S m Q) : AP K M pc (a0 :: a1 :: a2 :: a3 :: a4 :: a5 :: a6 :: a7 :: a8 :: a9 :: a10 :: o :: R) (.inr x :: S) m Q := fun X d r hk => aw_ast hd hn rfl (k X d r hk)
theorem ap_iinc_11 {a0 a1 a2 a3 a4 a5 a6 a7 a8 a9 a10 : Option AV} {R : List (Option AV)} {n x : Int} (hd : decode M.2.1 pc = .ok (.iinc 11 n, 3)) (hn : 11 < M.2.2.1)
    (k : AP K M (pc + 3) (a0 :: a1 :: a2 :: a3 :: a4 :: a5 :: a6 :: a7 :: a8 :: a9 :: a10 :: some (.inl (x + n)) :: R) S m Q) : AP K M pc (a0 :: a1 :: a2 :: a3 :: a4 :: a5 :: a6 :: a7 :: a8 :: a9 :: a10 :: some (.inl x) :: R) S m Q := fun X d r hk => aw_iinc hd hn rfl rfl (k X d r hk)
theorem ap_ild_12 {a0 a1 a2 a3 a4 a5 a6 a7 a8 a9 a10 a11 : Option AV} {R : List (Option AV)} {x : Int} (hd : decode M.2.1 pc = .ok (.iload 12, 2))
    (k : AP K M (pc + 2) (a0 :: a1 :: a2 :: a3 :: a4 :: a5 :: a6 :: a7 :: a8 :: a9 :: a10 :: a11 :: some (.inl x) :: R) (.inl x :: S) m Q) : AP K M pc (a0 :: a1 :: a2 :: a3 :: a4 :: a5 :: a6 :: a7 :: a8 :: a9 :: a10 :: a11 :: some (.inl x) :: R) S m Q := fun X d r hk => aw_ild hd rfl (k X d r hk)
theorem ap_ist_12 {a0 a1 a2 a3 a4 a5 a6 a7 a8 a9 a10 a11 : Option AV} {R : List (Option AV)} {o : Option AV} {x : Int} (hd : decode M.2.1 pc = .ok (.istore 12, 2)) (hn : 12 < M.2.2.1)
    (k : AP K M (pc + 2) (a0 :: a1 :: a2 :: a3 :: a4 :: a5 :: a6 :: a7 :: a8 :: a9 :: a10 :: a11 :: some (.inl x) :: R) S m Q) : AP K M pc (a0 :: a1 :: a2 :: a3 :: a4 :: a5 :: a6 :: a7 :: a8 :: a9 :: a10 :: a11 :: o :: R) (.inl x :: S) m Q := fun X d r hk => aw_ist hd hn rfl (k X d r hk)
theorem ap_ald_12 {a0 a1 a2 a3 a4 a5 a6 a7 a8 a9 a10 a11 : Option AV} {R : List (Option AV)} {x : Nat} (hd : decode M.2.1 pc = .ok (.aload 12, 2))
    (k : AP K M (pc + 2) (a0 :: a1 :: a2 :: a3 :: a4 :: a5 :: a6 :: a7 :: a8 :: a9 :: a10 :: a11 :: some (.inr x) :: R) (.inr x :: S) m Q) : AP K M pc (a0 :: a1 :: a2 :: a3 :: a4 :: a5 :: a6 :: a7 :: a8 :: a9 :: a10 :: a11 :: some (.inr x) :: R) S m Q := fun X d r hk => aw_ald hd rfl (k X d r hk)
theorem ap_ast_12 {a0 a1 a2 a3 a4 a5 a6 a7 a8 a9 a10 a11 : Option AV} {R : List (Option AV)} {o : Option AV} {x : Nat} (hd : decode M.2.1 pc = .ok (.astore 12, 2)) (hn : 12 < M.2.2.1)
    (k : AP K M (pc + 2) (a0 :: a1 :: a2 :: a3 :: a4 :: a5 :: a6 :: a7 :: a8 :: a9 :: a10 :: a11 :: some (.inr x) :: R) S m Q) : AP K M pc (a0 :: a1 :: a2 :: a3 :: a4 :: a5 :: a6 :: a7 :: a8 :: a9 :: a10 :: a11 :: o :: R) (.inr x :: S) m Q := fun X d r hk => aw_ast hd hn rfl (k X d r hk)
theorem ap_iinc_12 {a0 a1 a2 a3 a4 a5 a6 a7 a8 a9 a10 a11 : Option AV} {R : List (Option AV)} {n x : Int} (hd : decode M.2.1 pc = .ok (.iinc 12 n, 3)) (hn : 12 < M.2.2.1)
    (k : AP K M (pc + 3) (a0 :: a1 :: a2 :: a3 :: a4 :: a5 :: a6 :: a7 :: a8 :: a9 :: a10 :: a11 :: some (.inl (x + n)) :: R) S m Q) : AP K M pc (a0 :: a1 :: a2 :: a3 :: a4 :: a5 :: a6 :: a7 :: a8 :: a9 :: a10 :: a11 :: some (.inl x) :: R) S m Q := fun X d r hk => aw_iinc hd hn rfl rfl (k X d r hk)
theorem ap_iadd {x y : Int} (hd : decode M.2.1 pc = .ok (.iadd, 1))
    (k : AP K M (pc + 1) L (.inl (x + y) :: S) m Q) : AP K M pc L (.inl y :: .inl x :: S) m Q := fun X d r hk => aw_iadd hd (k X d r hk)
theorem ap_isub {x y : Int} (hd : decode M.2.1 pc = .ok (.isub, 1))
    (k : AP K M (pc + 1) L (.inl (x - y) :: S) m Q) : AP K M pc L (.inl y :: .inl x :: S) m Q := fun X d r hk => aw_isub hd (k X d r hk)
theorem ap_imul {x y : Int} (hd : decode M.2.1 pc = .ok (.imul, 1))
    (k : AP K M (pc + 1) L (.inl (x * y) :: S) m Q) : AP K M pc L (.inl y :: .inl x :: S) m Q := fun X d r hk => aw_imul hd (k X d r hk)
theorem ap_iand {x y : Int} (hd : decode M.2.1 pc = .ok (.iand, 1))
    (k : AP K M (pc + 1) L (.inl (iAnd x y) :: S) m Q) : AP K M pc L (.inl y :: .inl x :: S) m Q := fun X d r hk => aw_iand hd (k X d r hk)
theorem ap_ior {x y : Int} (hd : decode M.2.1 pc = .ok (.ior, 1))
    (k : AP K M (pc + 1) L (.inl (iOr x y) :: S) m Q) : AP K M pc L (.inl y :: .inl x :: S) m Q := fun X d r hk => aw_ior hd (k X d r hk)
theorem ap_ixor {x y : Int} (hd : decode M.2.1 pc = .ok (.ixor, 1))
    (k : AP K M (pc + 1) L (.inl (iXor x y) :: S) m Q) : AP K M pc L (.inl y :: .inl x :: S) m Q := fun X d r hk => aw_ixor hd (k X d r hk)
theorem ap_ishl {x y : Int} (hd : decode M.2.1 pc = .ok (.ishl, 1))
    (k : AP K M (pc + 1) L (.inl (iShl x y) :: S) m Q) : AP K M pc L (.inl y :: .inl x :: S) m Q := fun X d r hk => aw_ishl hd (k X d r hk)
theorem ap_ishr {x y : Int} (hd : decode M.2.1 pc = .ok (.ishr, 1))
    (k : AP K M (pc + 1) L (.inl (iShr x y) :: S) m Q) : AP K M pc L (.inl y :: .inl x :: S) m Q := fun X d r hk => aw_ishr hd (k X d r hk)
theorem ap_irem {x y : Int} (hd : decode M.2.1 pc = .ok (.irem, 1)) (hr : rng y) (h0 : y ≠ 0)
    (k : AP K M (pc + 1) L (.inl (iRem x y) :: S) m Q) : AP K M pc L (.inl y :: .inl x :: S) m Q := fun X d r hk => aw_irem hd hr h0 (k X d r hk)
theorem ap_ineg {x : Int} (hd : decode M.2.1 pc = .ok (.ineg, 1))
    (k : AP K M (pc + 1) L (.inl (-x) :: S) m Q) : AP K M pc L (.inl x :: S) m Q := fun X d r hk => aw_ineg hd (k X d r hk)
theorem ap_i2c {x : Int} (hd : decode M.2.1 pc = .ok (.i2c, 1)) (h0 : 0 ≤ x) (h1 : x < 65536)
    (k : AP K M (pc + 1) L (.inl x :: S) m Q) : AP K M pc L (.inl x :: S) m Q := fun X d r hk => aw_i2c hd h0 h1 (k X d r hk)
theorem ap_dup {v : AV} (hd : decode M.2.1 pc = .ok (.dup, 1))
    (k : AP K M (pc + 1) L (v :: v :: S) m Q) : AP K M pc L (v :: S) m Q := fun X d r hk => aw_dup hd (k X d r hk)
theorem ap_dup2 {u v : AV} (hd : decode M.2.1 pc = .ok (.dup2, 1))
    (k : AP K M (pc + 1) L (v :: u :: v :: u :: S) m Q) : AP K M pc L (v :: u :: S) m Q := fun X d r hk => aw_dup2 hd (k X d r hk)
theorem ap_goto {off : Int} (tgt : Nat) (hd : decode M.2.1 pc = .ok (.goto off, 3)) (ht : (pc : Int) + off = (tgt : Int))
    (k : AP K M tgt L S m Q) : AP K M pc L S m Q := fun X d r hk => aw_goto hd ht (k X d r hk)
theorem ap_icmp_lt {x y off : Int} (tgt : Nat) (hd : decode M.2.1 pc = .ok (.if_icmp .lt off, 3)) (ht : (pc : Int) + off = (tgt : Int)) (hx : rng x) (hy0 : rng y)
    (kt : x < y → AP K M tgt L S m Q) (kf : y ≤ x → AP K M (pc + 3) L S m Q) : AP K M pc L (.inl y :: .inl x :: S) m Q := fun X d r hk => aw_icmp_lt hd ht hx hy0 (fun q => kt q X d r hk) (fun q => kf q X d r hk)
theorem ap_if_lt {x off : Int} (tgt : Nat) (hd : decode M.2.1 pc = .ok (.ifCond .lt off, 3)) (ht : (pc : Int) + off = (tgt : Int)) (hx : rng x)
    (kt : x < 0 → AP K M tgt L S m Q) (kf : 0 ≤ x → AP K M (pc + 3) L S m Q) : AP K M pc L (.inl x :: S) m Q := fun X d r hk => aw_if_lt hd ht hx (fun q => kt q X d r hk) (fun q => kf q X d r hk)
theorem ap_icmp_ge {x y off : Int} (tgt : Nat) (hd : decode M.2.1 pc = .ok (.if_icmp .ge off, 3)) (ht : (pc : Int) + off = (tgt : Int)) (hx : rng x) (hy0 : rng y)
    (kt : y ≤ x → AP K M tgt L S m Q) (kf : x < y → AP K M (pc + 3) L S m Q) : AP K M pc L (.inl y :: .inl x :: S) m Q := fun X d r hk => aw_icmp_ge hd ht hx hy0 (fun q => kt q X d r hk) (fun q => kf q X d r hk)
theorem ap_if_ge {x off : Int} (tgt : Nat) (hd : decode M.2.1 pc = .ok (.ifCond .ge off, 3)) (ht : (pc : Int) + off = (tgt : Int)) (hx : rng x)
    (kt : 0 ≤ x → AP K M tgt L S m Q) (kf : x < 0 → AP K M (pc + 3) L S m Q) : AP K M pc L (.inl x :: S) m Q := fun X d r hk => aw_if_ge hd ht hx (fun q => kt q X d r hk) (fun q => kf q X d r hk)
theorem ap_icmp_gt {x y off : Int} (tgt : Nat) (hd : decode M.2.1 pc = .ok (.if_icmp .gt off, 3)) (ht : (pc : Int) + off = (tgt : Int)) (hx : rng x) (hy0 : rng y)
    (kt : y < x → AP K M tgt L S m Q) (kf : x ≤ y → AP K M (pc + 3) L S m Q) : AP K M pc L (.inl y :: .inl x :: S) m Q := fun X d r hk => aw_icmp_gt hd ht hx hy0 (fun q => kt q X d r hk) (fun q => kf q X d r hk)
theorem ap_if_gt {x off : Int} (tgt : Nat) (hd : decode M.2.1 pc = .ok (.ifCond .gt off, 3)) (ht : (pc : Int) + off = (tgt : Int)) (hx : rng x)
    (kt : 0 < x → AP K M tgt L S m Q) (kf : x ≤ 0 → AP K M (pc + 3) L S m Q) : AP K M pc L (.inl x :: S) m Q := fun X d r hk => aw_if_gt hd ht hx (fun q => kt q X d r hk) (fun q => kf q X d r hk)
theorem ap_icmp_le {x y off : Int} (tgt : Nat) (hd : decode M.2.1 pc = .ok (.if_icmp .le off, 3)) (ht : (pc : Int) + off = (tgt : Int)) (hx : rng x) (hy0 : rng y)
    (kt : x ≤ y → AP K M tgt L S m Q) (kf : y < x → AP K M (pc + 3) L S m Q) : AP K M pc L (.inl y :: .inl x :: S) m Q := fun X d r hk => aw_icmp_le hd ht hx hy0 (fun q => kt q X d r hk) (fun q => kf q X d r hk)
theorem ap_if_le {x off : Int} (tgt : Nat) (hd : decode M.2.1 pc = .ok (.ifCond .le off, 3)) (ht : (pc : Int) + off = (tgt : Int)) (hx : rng x)
    (kt : x ≤ 0 → AP K M tgt L S m Q) (kf : 0 < x → AP K M (pc + 3) L S m Q) : AP K M pc L (.inl x :: S) m Q := fun X d r hk => aw_if_le hd ht hx (fun q => kt q X d r hk) (fun q => kf q X d r hk)
theorem ap_icmp_eq {x y off : Int} (tgt : Nat) (hd : decode M.2.1 pc = .ok (.if_icmp .eq off, 3)) (ht : (pc : Int) + off = (tgt : Int)) (hr : x = y ∨ (rng x ∧ rng y))
    (kt : x = y → AP K M tgt L S m Q) (kf : ¬ x = y → AP K M (pc + 3) L S m Q) : AP K M pc L (.inl y :: .inl x :: S) m Q := fun X d r hk => aw_icmp_eq hd ht hr (fun q => kt q X d r hk) (fun q => kf q X d r hk)
theorem ap_if_eq {x off : Int} (tgt : Nat) (hd : decode M.2.1 pc = .ok (.ifCond .eq off, 3)) (ht : (pc : Int) + off = (tgt : Int)) (hx : rng x)
    (kt : x = 0 → AP K M tgt L S m Q) (kf : ¬ x = 0 → AP K M (pc + 3) L S m Q) : AP K M pc L (.inl x :: S) m Q := fun X d r hk => aw_if_eq hd ht hx (fun q => kt q X d r hk) (fun q => kf q X d r hk)
theorem ap_icmp_ne {x y off : Int} (tgt : Nat) (hd : decode M.2.1 pc = .ok (.if_icmp .ne off, 3)) (ht : (pc : Int) + off = (tgt : Int)) (hr : x = y ∨ (rng x ∧ rng y))
    (kt : ¬ x = y → AP K M tgt L S m Q) (kf : x = y → AP K M (pc + 3) L S m Q) : AP K M pc L (.inl y :: .inl x :: S) m Q := fun X d r hk => aw_icmp_ne hd ht hr (fun q => kt q X d r hk) (fun q => kf q X d r hk)
theorem ap_if_ne {x off : Int} (tgt : Nat) (hd : decode M.2.1 pc = .ok (.ifCond .ne off, 3)) (ht : (pc : Int) + off = (tgt : Int)) (hx : rng x)
    (kt : ¬ x = 0 → AP K M tgt L S m Q) (kf : x = 0 → AP K M (pc + 3) L S m Q) : AP K M pc L (.inl x :: S) m Q := fun X d r hk => aw_if_ne hd ht hx (fun q => kt q X d r hk) (fun q => kf q X d r hk)
theorem ap_tswIn {dflt lo hi : Int} {offs : Array Int} {len : Nat} {x off : Int} (tgt : Nat) (hd : decode M.2.1 pc = .ok (.tableswitch dflt lo hi offs, len)) (hr : rng x) (h1 : lo ≤ x) (h2 : x ≤ hi) (ho : offs[(x - lo).toNat]? = some off) (ht : (pc : Int) + off = (tgt : Int))
    (k : AP K M tgt L S m Q) : AP K M pc L (.inl x :: S) m Q := fun X d r hk => aw_tswIn hd hr h1 h2 ho ht (k X d r hk)
theorem ap_tswOut {dflt lo hi : Int} {offs : Array Int} {len : Nat} {x : Int} (tgt : Nat) (hd : decode M.2.1 pc = .ok (.tableswitch dflt lo hi offs, len)) (hr : rng x) (h1 : x < lo ∨ hi < x) (ht : (pc : Int) + dflt = (tgt : Int))
    (k : AP K M tgt L S m Q) : AP K M pc L (.inl x :: S) m Q := fun X d r hk => aw_tswOut hd hr h1 ht (k X d r hk)
theorem ap_lsw {dflt : Int} {ps : Array (Int × Int)} {len : Nat} {x off : Int} (tgt : Nat) (hd : decode M.2.1 pc = .ok (.lookupswitch dflt ps, len)) (hr : rng x) (hp : (ps.toList.zip (ps.toList.drop 1)).all (fun (a, next) => a.1 < next.1) = true) (ho : Op.lookupswitch.offset ps.toList dflt x = off) (ht : (pc : Int) + off = (tgt : Int))
    (k : AP K M tgt L S m Q) : AP K M pc L (.inl x :: S) m Q := fun X d r hk => aw_lsw hd hr hp ho ht (k X d r hk)
theorem ap_getI {idx q ci j : Nat} {jz : Int} {fs : List ShF} (hd : decode M.2.1 pc = .ok (.getfield idx, 3)) (hw : aFl M.1.cls idx ci j) (hc : SH[q]? = some (.inl (ci, fs))) (hj : fs[j]? = some none) (hz : (j : Int) = jz)
    (k : AP K M (pc + 3) L (.inl (m q jz) :: S) m Q) : AP K M pc L (.inr q :: S) m Q := fun X d r hk => aw_getI hd hw hc hj hz (k X d r hk)
theorem ap_getR {idx q ci j r : Nat} {fs : List ShF} (hd : decode M.2.1 pc = .ok (.getfield idx, 3)) (hw : aFl M.1.cls idx ci j) (hc : SH[q]? = some (.inl (ci, fs))) (hj : fs[j]? = some (some (some r)))
    (k : AP K M (pc + 3) L (.inr r :: S) m Q) : AP K M pc L (.inr q :: S) m Q := fun X d r hk => aw_getR hd hw hc hj (k X d r hk)
theorem ap_putI {idx q ci j : Nat} {jz v : Int} {b : Bool} {fs : List ShF} (hd : decode M.2.1 pc = .ok (.putfield idx, 3)) (hw : aFn M.1.cls idx ci j b) (hc : SH[q]? = some (.inl (ci, fs))) (hj : fs[j]? = some none) (hz : (j : Int) = jz) (hb : b = true → v = 0 ∨ v = 1)
    (k : AP K M (pc + 3) L S (am_up m q jz v) Q) : AP K M pc L (.inl v :: .inr q :: S) m Q := fun X d r hk => aw_putI hd hw hc hj hz hb (k X d r hk)
theorem ap_iaload {q n : Nat} {i : Int} (hd : decode M.2.1 pc = .ok (.iaload, 1)) (hc : SH[q]? = some (.inr (.inl (0, n)))) (h0 : 0 ≤ i) (h1 : i < n) (hn : n < 2147483648)
    (k : AP K M (pc + 1) L (.inl (m q i) :: S) m Q) : AP K M pc L (.inl i :: .inr q :: S) m Q := fun X d r hk => aw_iaload hd hc h0 h1 hn (k X d r hk)
theorem ap_baload {q n : Nat} {i : Int} (hd : decode M.2.1 pc = .ok (.baload, 1)) (hc : SH[q]? = some (.inr (.inl (1, n)))) (h0 : 0 ≤ i) (h1 : i < n) (hn : n < 2147483648)
    (k : AP K M (pc + 1) L (.inl (m q i) :: S) m Q) : AP K M pc L (.inl i :: .inr q :: S) m Q := fun X d r hk => aw_baload hd hc h0 h1 hn (k X d r hk)
theorem ap_caload {q n : Nat} {i : Int} (hd : decode M.2.1 pc = .ok (.caload, 1)) (hc : SH[q]? = some (.inr (.inl (2, n)))) (h0 : 0 ≤ i) (h1 : i < n) (hn : n < 2147483648)
    (k : AP K M (pc + 1) L (.inl (m q i) :: S) m Q) : AP K M pc L (.inl i :: .inr q :: S) m Q := fun X d r hk => aw_caload hd hc h0 h1 hn (k X d r hk)
theorem ap_iastore {q n : Nat} {i v : Int} (hd : decode M.2.1 pc = .ok (.iastore, 1)) (hc : SH[q]? = some (.inr (.inl (0, n)))) (h0 : 0 ≤ i) (h1 : i < n) (hn : n < 2147483648) 
    (k : AP K M (pc + 1) L S (am_up m q i v) Q) : AP K M pc L (.inl v :: .inl i :: .inr q :: S) m Q := fun X d r hk => aw_iastore hd hc h0 h1 hn  (k X d r hk)
theorem ap_bastore {q n : Nat} {i v : Int} (hd : decode M.2.1 pc = .ok (.bastore, 1)) (hc : SH[q]? = some (.inr (.inl (1, n)))) (h0 : 0 ≤ i) (h1 : i < n) (hn : n < 2147483648) (hv : v = 0 ∨ v = 1)
    (k : AP K M (pc + 1) L S (am_up m q i v) Q) : AP K M pc L (.inl v :: .inl i :: .inr q :: S) m Q := fun X d r hk => aw_bastore hd hc h0 h1 hn hv (k X d r hk)
theorem ap_castore {q n : Nat} {i v : Int} (hd : decode M.2.1 pc = .ok (.castore, 1)) (hc : SH[q]? = some (.inr (.inl (2, n)))) (h0 : 0 ≤ i) (h1 : i < n) (hn : n < 2147483648) (hv0 : 0 ≤ v) (hv1 : v < 65536)
    (k : AP K M (pc + 1) L S (am_up m q i v) Q) : AP K M pc L (.inl v :: .inl i :: .inr q :: S) m Q := fun X d r hk => aw_castore hd hc h0 h1 hn hv0 hv1 (k X d r hk)
theorem ap_aaload {q r : Nat} {i : Int} {rs : List (Option Nat)} (hd : decode M.2.1 pc = .ok (.aaload, 1)) (hc : SH[q]? = some (.inr (.inr rs))) (h0 : 0 ≤ i) (hr : rs[i.toNat]? = some (some r)) (hn : rs.length < 2147483648)
    (k : AP K M (pc + 1) L (.inr r :: S) m Q) : AP K M pc L (.inl i :: .inr q :: S) m Q := fun X d r hk => aw_aaload hd hc h0 hr hn (k X d r hk)
theorem ap_alen {q t n : Nat} (hd : decode M.2.1 pc = .ok (.arraylength, 1)) (hc : SH[q]? = some (.inr (.inl (t, n)))) (ht : t < 3)
    (k : AP K M (pc + 1) L (.inl (n : Int) :: S) m Q) : AP K M pc L (.inr q :: S) m Q := fun X d r hk => aw_alen hd hc ht (k X d r hk)
theorem ap_sld1001 {i : Int} (hd : decode M.2.1 pc = .ok (.iaload, 1)) (h0 : 0 ≤ i) (h1 : i < 3)
    (k : AP K M (pc + 1) L (.inl (sLeast i.toNat).toInt :: S) m Q) : AP K M pc L (.inl i :: .inr 1001 :: S) m Q := fun X d r hk => aw_sld1001 hd h0 h1 (k X d r hk)
theorem ap_gets1001 {idx : Nat} (hd : decode M.2.1 pc = .ok (.getstatic idx, 3)) (hw : Cond.fieldLink M.1.cls idx RX8 "LEAST_SETTING" "[I" ∈ GW)
    (k : AP K M (pc + 3) L (.inr 1001 :: S) m Q) : AP K M pc L S m Q := fun X d r hk => aw_gets1001 hd hw (k X d r hk)
theorem ap_sld1002 {i : Int} (hd : decode M.2.1 pc = .ok (.iaload, 1)) (h0 : 0 ≤ i) (h1 : i < 3)
    (k : AP K M (pc + 1) L (.inl (sGreat i.toNat).toInt :: S) m Q) : AP K M pc L (.inl i :: .inr 1002 :: S) m Q := fun X d r hk => aw_sld1002 hd h0 h1 (k X d r hk)
theorem ap_gets1002 {idx : Nat} (hd : decode M.2.1 pc = .ok (.getstatic idx, 3)) (hw : Cond.fieldLink M.1.cls idx RX8 "GREATEST_SETTING" "[I" ∈ GW)
    (k : AP K M (pc + 3) L (.inr 1002 :: S) m Q) : AP K M pc L S m Q := fun X d r hk => aw_gets1002 hd hw (k X d r hk)
theorem ap_ireturn {x : Int} (hd : decode M.2.1 pc = .ok (.ireturn, 1)) (ht : M.2.2.2 = some .int) (hq : Q (some x) m) : AP K M pc L [.inl x] m Q := fun X d r hk => aw_ireturn hd (Or.inl ht) SH_len SH_sl ⟨rfl, hq⟩
theorem ap_zreturn {x : Int} (hd : decode M.2.1 pc = .ok (.ireturn, 1)) (ht : M.2.2.2 = some .boolean) (hx : x = 0 ∨ x = 1) (hq : Q (some x) m) : AP K M pc L [.inl x] m Q := fun X d r hk => aw_ireturn hd (Or.inr ⟨ht, hx⟩) SH_len SH_sl ⟨rfl, hq⟩
theorem ap_return (hd : decode M.2.1 pc = .ok (.return_, 1)) (ht : M.2.2.2 = none) (hq : Q none m) : AP K M pc L [] m Q := fun X d r hk => aw_return hd ht SH_len SH_sl ⟨rfl, hq⟩
theorem ap_mmax {idx : Nat} {x y : Int} (hd : decode M.2.1 pc = .ok (.invokestatic idx, 3)) (hl : Cond.methodLink M.1.cls idx Lib.Math.max.name ∈ GW) (hw : Cond.static Lib.Math.max.name ∈ GW ∧ Cond.initialized "java/lang/Math" ∈ GW ∧ Cond.code Lib.Math.max.name Lib.Math.max.code 2 (some .int) ∈ GW) (hK : 1 ≤ K) (hS : S.length ≤ 20) (hx : rng x) (hy0 : rng y)
    (k : AP K M (pc + 3) L (.inl (max x y) :: S) m Q) : AP K M pc L (.inl y :: .inl x :: S) m Q := fun X d r hk => aw_mmax hd hl hw (rk1 hk hK).1 (Nat.le_trans (Nat.add_le_add_right hS 13) (Nat.le_trans (by decide) (rk1 hk hK).2)) hx hy0 (by rw [SH_len]; exact Nat.le_refl _) (by rw [SH_sl]; exact Nat.le_refl _) (k X d r hk)
theorem ap_mmin {idx : Nat} {x y : Int} (hd : decode M.2.1 pc = .ok (.invokestatic idx, 3)) (hl : Cond.methodLink M.1.cls idx Lib.Math.min.name ∈ GW) (hw : Cond.static Lib.Math.min.name ∈ GW ∧ Cond.initialized "java/lang/Math" ∈ GW ∧ Cond.code Lib.Math.min.name Lib.Math.min.code 2 (some .int) ∈ GW) (hK : 1 ≤ K) (hS : S.length ≤ 20) (hx : rng x) (hy0 : rng y)
    (k : AP K M (pc + 3) L (.inl (min x y) :: S) m Q) : AP K M pc L (.inl y :: .inl x :: S) m Q := fun X d r hk => aw_mmin hd hl hw (rk1 hk hK).1 (Nat.le_trans (Nat.add_le_add_right hS 13) (Nat.le_trans (by decide) (rk1 hk hK).2)) hx hy0 (by rw [SH_len]; exact Nat.le_refl _) (by rw [SH_sl]; exact Nat.le_refl _) (k X d r hk)
theorem ap_mabs {idx : Nat} {x : Int} (hd : decode M.2.1 pc = .ok (.invokestatic idx, 3)) (hl : Cond.methodLink M.1.cls idx Lib.Math.abs.name ∈ GW) (hw : Cond.static Lib.Math.abs.name ∈ GW ∧ Cond.initialized "java/lang/Math" ∈ GW ∧ Cond.code Lib.Math.abs.name Lib.Math.abs.code 1 (some .int) ∈ GW) (hK : 1 ≤ K) (hS : S.length ≤ 20) (hx : rng x)
    (k : AP K M (pc + 3) L (.inl (if 0 ≤ x then x else -x) :: S) m Q) : AP K M pc L (.inl x :: S) m Q := fun X d r hk => aw_mabs hd hl hw (rk1 hk hK).1 (Nat.le_trans (Nat.add_le_add_right hS 13) (Nat.le_trans (by decide) (rk1 hk hK).2)) hx (by rw [SH_len]; exact Nat.le_refl _) (by rw [SH_sl]; exact Nat.le_refl _) (k X d r hk)
theorem ap_copy {idx q0 q1 n0' n1' : Nat} {sp dp n : Int} (hd : decode M.2.1 pc = .ok (.invokestatic idx, 3)) (hl : Cond.methodLink M.1.cls idx arraycopyName ∈ GW) (hw : Cond.native arraycopyName ∈ GW ∧ Cond.static arraycopyName ∈ GW ∧ Cond.initialized "java/lang/System" ∈ GW) (hK : 1 ≤ K) (hS : S.length ≤ 18)
    (hc0 : SH[q0]? = some (.inr (.inl (0, n0')))) (hc1 : SH[q1]? = some (.inr (.inl (0, n1')))) (h1 : 0 ≤ sp) (h2 : 0 ≤ dp) (h3 : 0 ≤ n) (h4 : sp + n ≤ n0') (h5 : dp + n ≤ n1') (hs0 : n0' < 2147483648) (hs1 : n1' < 2147483648)
    (k : AP K M (pc + 3) L S (am_cpy m q0 q1 sp dp n) Q) : AP K M pc L (.inl n :: .inl dp :: .inr q1 :: .inl sp :: .inr q0 :: S) m Q := fun X d r hk => aw_copy hd hl hw (rk1 hk hK).1 (by rw [nfw]; exact Nat.le_trans (Nat.add_le_add_right hS 18) (rk1 hk hK).2) hc0 hc1 h1 h2 h3 h4 h5 hs0 hs1 (k X d r hk)
theorem rk_call {K K' d r ml : Nat} (hk : rk K d r) (hK : K' + 1 ≤ K) (hm : ml ≤ 17) : rk K' (d - 1) (r - (19 + ml)) ∧ 1 ≤ d ∧ 19 + ml ≤ r := by
  obtain ⟨h1, h2⟩ := hk
  exact ⟨⟨by omega, by omega⟩, by omega, by omega⟩
theorem ap_invV {idx ci n q K' : Nat} {M' : MI} {av rest : List AV} {fs : List ShF} {Q' : Option Int → AM → Prop} (hd : decode M.2.1 pc = .ok (.invokevirtual idx, 3)) (hb : aMV M.1.cls idx M' ci n) (hc : SH[q]? = some (.inl (ci, fs))) (hM : CS K' M' (.inr q :: av) m Q') (hS : S = av.reverse ++ .inr q :: rest) (hn : av.length = n) (hrest : rest.length ≤ 8) (hK : K' + 1 ≤ K) (hml : M'.2.2.1 ≤ 17)
    (kk : ∀ v m', Q' v m' → AP K M (pc + 3) L (v.toList.map .inl ++ rest) m' Q) : AP K M pc L S m Q := fun X d r hk => by
  obtain ⟨r1, r2, r3⟩ := rk_call hk hK hml
  refine aw_invV hd hb hc hS hn hrest (hM X _ _ r1) r2 r3 (by rw [SH_len]; decide) (aKeep0 _ _ _) (Nat.le_of_eq SH_len) (Nat.le_of_eq SH_sl) (fun v h' hq _ _ => ?_)
  obtain ⟨sh', m'⟩ := h'
  obtain ⟨e, hq⟩ := hq
  simp only at e hq
  subst e
  exact kk v m' hq X d r hk
theorem ap_invS {idx n K' : Nat} {M' : MI} {av rest : List AV} {Q' : Option Int → AM → Prop} (hd : decode M.2.1 pc = .ok (.invokestatic idx, 3)) (hb : aMS M.1.cls idx M' n) (hM : CS K' M' av m Q') (hS : S = av.reverse ++ rest) (hn : av.length = n) (hrest : rest.length ≤ 8) (hK : K' + 1 ≤ K) (hml : M'.2.2.1 ≤ 17)
    (kk : ∀ v m', Q' v m' → AP K M (pc + 3) L (v.toList.map .inl ++ rest) m' Q) : AP K M pc L S m Q := fun X d r hk => by
  obtain ⟨r1, r2, r3⟩ := rk_call hk hK hml
  refine aw_invS hd hb hS hn hrest (hM X _ _ r1) r2 r3 (by rw [SH_len]; decide) (aKeep0 _ _ _) (Nat.le_of_eq SH_len) (Nat.le_of_eq SH_sl) (fun v h' hq _ _ => ?_)
  obtain ⟨sh', m'⟩ := h'
  obtain ⟨e, hq⟩ := hq
  simp only at e hq
  subst e
  exact kk v m' hq X d r hk
end AP
end
section
set_option maxRecDepth 100000 in
theorem gwm (i : Nat) {w : Cond} (h : lw_tbl[i]? = some w) (hg : goodWord w = true) : w ∈ GW := List.mem_filter.mpr ⟨List.mem_of_getElem? h, hg⟩
theorem nwm (i : Nat) {w : Cond} (h : lw_tbl[i]? = some w) (hg : am_nest w = true) : w ∈ NWL := List.mem_filter.mpr ⟨List.mem_of_getElem? h, hg⟩
set_option maxRecDepth 100000 in
theorem inG0 : ∀ w ∈ wsX00, w ∈ GW := by
  intro w hw
  obtain ⟨k, hk, rfl⟩ := List.mem_map.mp hw
  have hk2 := List.mem_range.mp hk
  match k, hk2 with
  | 0, _ => exact (gwm 158 (by rfl) rfl)
  | 1, _ => exact (gwm 160 (by rfl) rfl)
  | 2, _ => exact (gwm 162 (by rfl) rfl)
  | 3, _ => exact (gwm 164 (by rfl) rfl)
  | 4, _ => exact (gwm 166 (by rfl) rfl)
  | k + 5, h => exact absurd h (by omega)
theorem kX0 : aCl 0 RX0 TX0 5 tyX0 := ⟨rfl, inG0, tyX0_ok, nmX0⟩
set_option maxRecDepth 100000 in
theorem inG1 : ∀ w ∈ wsX10, w ∈ GW := by
  intro w hw
  obtain ⟨k, hk, rfl⟩ := List.mem_map.mp hw
  have hk2 := List.mem_range.mp hk
  match k, hk2 with
  | 0, _ => exact (gwm 206 (by rfl) rfl)
  | 1, _ => exact (gwm 208 (by rfl) rfl)
  | 2, _ => exact (gwm 210 (by rfl) rfl)
  | 3, _ => exact (gwm 212 (by rfl) rfl)
  | 4, _ => exact (gwm 214 (by rfl) rfl)
  | 5, _ => exact (gwm 216 (by rfl) rfl)
  | k + 6, h => exact absurd h (by omega)
theorem kX1 : aCl 1 RX1 TX1 6 tyX1 := ⟨rfl, inG1, tyX1_ok, nmX1⟩
set_option maxRecDepth 100000 in
theorem inG2 : ∀ w ∈ wsX20, w ∈ GW := by
  intro w hw
  obtain ⟨k, hk, rfl⟩ := List.mem_map.mp hw
  have hk2 := List.mem_range.mp hk
  match k, hk2 with
  | 0, _ => exact (gwm 182 (by rfl) rfl)
  | 1, _ => exact (gwm 184 (by rfl) rfl)
  | 2, _ => exact (gwm 186 (by rfl) rfl)
  | k + 3, h => exact absurd h (by omega)
theorem kX2 : aCl 2 RX2 TX2 3 tyX2 := ⟨rfl, inG2, tyX2_ok, nmX2⟩
set_option maxRecDepth 100000 in
theorem inG3 : ∀ w ∈ wsX30, w ∈ GW := by
  intro w hw
  obtain ⟨k, hk, rfl⟩ := List.mem_map.mp hw
  have hk2 := List.mem_range.mp hk
  match k, hk2 with
  | 0, _ => exact (gwm 87 (by rfl) rfl)
  | 1, _ => exact (gwm 89 (by rfl) rfl)
  | 2, _ => exact (gwm 91 (by rfl) rfl)
  | 3, _ => exact (gwm 93 (by rfl) rfl)
  | k + 4, h => exact absurd h (by omega)
theorem kX3 : aCl 3 RX3 TX3 4 tyX3 := ⟨rfl, inG3, tyX3_ok, nmX3⟩
set_option maxRecDepth 100000 in
theorem inG4 : ∀ w ∈ wsX40, w ∈ GW := by
  intro w hw
  obtain ⟨k, hk, rfl⟩ := List.mem_map.mp hw
  have hk2 := List.mem_range.mp hk
  match k, hk2 with
  | 0, _ => exact (gwm 240 (by rfl) rfl)
  | 1, _ => exact (gwm 242 (by rfl) rfl)
  | 2, _ => exact (gwm 244 (by rfl) rfl)
  | 3, _ => exact (gwm 246 (by rfl) rfl)
  | 4, _ => exact (gwm 248 (by rfl) rfl)
  | 5, _ => exact (gwm 250 (by rfl) rfl)
  | 6, _ => exact (gwm 252 (by rfl) rfl)
  | 7, _ => exact (gwm 254 (by rfl) rfl)
  | k + 8, h => exact absurd h (by omega)
theorem kX4 : aCl 4 RX4 TX4 8 tyX4 := ⟨rfl, inG4, tyX4_ok, nmX4⟩
set_option maxRecDepth 100000 in
theorem inG5 : ∀ w ∈ wsX50, w ∈ GW := by
  intro w hw
  obtain ⟨k, hk, rfl⟩ := List.mem_map.mp hw
  have hk2 := List.mem_range.mp hk
  match k, hk2 with
  | 0, _ => exact (gwm 118 (by rfl) rfl)
  | 1, _ => exact (gwm 120 (by rfl) rfl)
  | 2, _ => exact (gwm 122 (by rfl) rfl)
  | 3, _ => exact (gwm 124 (by rfl) rfl)
  | 4, _ => exact (gwm 126 (by rfl) rfl)
  | k + 5, h => exact absurd h (by omega)
theorem kX5 : aCl 5 RX5 TX5 5 tyX5 := ⟨rfl, inG5, tyX5_ok, nmX5⟩
set_option maxRecDepth 100000 in
theorem inG6 : ∀ w ∈ wsX60, w ∈ GW := by
  intro w hw
  obtain ⟨k, hk, rfl⟩ := List.mem_map.mp hw
  have hk2 := List.mem_range.mp hk
  match k, hk2 with
  | 0, _ => exact (gwm 270 (by rfl) rfl)
  | 1, _ => exact (gwm 272 (by rfl) rfl)
  | 2, _ => exact (gwm 274 (by rfl) rfl)
  | 3, _ => exact (gwm 276 (by rfl) rfl)
  | k + 4, h => exact absurd h (by omega)
theorem kX6 : aCl 6 RX6 TX6 4 tyX6 := ⟨rfl, inG6, tyX6_ok, nmX6⟩
set_option maxRecDepth 100000 in
theorem inG7 : ∀ w ∈ wsX70, w ∈ GW := by
  intro w hw
  obtain ⟨k, hk, rfl⟩ := List.mem_map.mp hw
  have hk2 := List.mem_range.mp hk
  match k, hk2 with
  | 0, _ => exact (gwm 141 (by rfl) rfl)
  | 1, _ => exact (gwm 143 (by rfl) rfl)
  | k + 2, h => exact absurd h (by omega)
theorem kX7 : aCl 7 RX7 TX7 2 tyX7 := ⟨rfl, inG7, tyX7_ok, nmX7⟩
set_option maxRecDepth 100000 in
theorem inG8 : ∀ w ∈ wsX80, w ∈ GW := by
  intro w hw
  obtain ⟨k, hk, rfl⟩ := List.mem_map.mp hw
  have hk2 := List.mem_range.mp hk
  match k, hk2 with
  | 0, _ => exact (gwm 287 (by rfl) rfl)
  | 1, _ => exact (gwm 289 (by rfl) rfl)
  | 2, _ => exact (gwm 291 (by rfl) rfl)
  | 3, _ => exact (gwm 293 (by rfl) rfl)
  | 4, _ => exact (gwm 295 (by rfl) rfl)
  | 5, _ => exact (gwm 297 (by rfl) rfl)
  | 6, _ => exact (gwm 299 (by rfl) rfl)
  | k + 7, h => exact absurd h (by omega)
theorem kX8 : aCl 8 RX8 TX8 7 tyX8 := ⟨rfl, inG8, tyX8_ok, nmX8⟩
abbrev mX8_init : MI := (yX8_init, cX8_init, 1, none)
abbrev mX8_bestHeat : MI := (yX8_bestHeat, cX8_bestHeat, 5, (some .int))
abbrev mX8_bringPlanUpToDate : MI := (yX8_bringPlanUpToDate, cX8_bringPlanUpToDate, 1, none)
abbrev mX8_clean : MI := (yX8_clean, cX8_clean, 2, (some .int))
abbrev mX8_color : MI := (yX8_color, cX8_color, 4, (some .int))
abbrev mX8_colorInfo : MI := (yX8_colorInfo, cX8_colorInfo, 3, (some .int))
abbrev mX8_copyRow : MI := (yX8_copyRow, cX8_copyRow, 2, none)
abbrev mX8_count : MI := (yX8_count, cX8_count, 2, (some .int))
abbrev mX8_counter : MI := (yX8_counter, cX8_counter, 5, (some .int))
abbrev mX8_fault : MI := (yX8_fault, cX8_fault, 2, (some .int))
abbrev mX8_field : MI := (yX8_field, cX8_field, 3, (some .int))
abbrev mX8_fire : MI := (yX8_fire, cX8_fire, 3, (some .int))
abbrev mX8_ifFired : MI := (yX8_ifFired, cX8_ifFired, 3, (some .int))
abbrev mX8_isColor : MI := (yX8_isColor, cX8_isColor, 2, (some .boolean))
abbrev mX8_isField : MI := (yX8_isField, cX8_isField, 1, (some .boolean))
abbrev mX8_isFrontField : MI := (yX8_isFrontField, cX8_isFrontField, 1, (some .boolean))
abbrev mX8_layer : MI := (yX8_layer, cX8_layer, 5, (some .int))
abbrev mX8_leastFirings : MI := (yX8_leastFirings, cX8_leastFirings, 1, (some .int))
abbrev mX8_placeOf : MI := (yX8_placeOf, cX8_placeOf, 2, (some .int))
abbrev mX8_planned : MI := (yX8_planned, cX8_planned, 3, (some .int))
abbrev mX8_put : MI := (yX8_put, cX8_put, 3, (some .int))
abbrev mX8_set : MI := (yX8_set, cX8_set, 4, (some .int))
abbrev mX8_takeOff : MI := (yX8_takeOff, cX8_takeOff, 2, (some .int))
abbrev mX8_tryHeat : MI := (yX8_tryHeat, cX8_tryHeat, 2, none)
abbrev mX8_type : MI := (yX8_type, cX8_type, 2, (some .int))
abbrev mX8_undo : MI := (yX8_undo, cX8_undo, 1, (some .int))
abbrev mX8_wish : MI := (yX8_wish, cX8_wish, 3, (some .int))
abbrev mX8_wished : MI := (yX8_wished, cX8_wished, 3, (some .int))
abbrev mX8_within : MI := (yX8_within, cX8_within, 3, (some .boolean))
abbrev mX0_init : MI := (yX0_init, cX0_init, 1, none)
abbrev mX0_copyFrom : MI := (yX0_copyFrom, cX0_copyFrom, 2, none)
abbrev mX1_init : MI := (yX1_init, cX1_init, 1, none)
abbrev mX1_coolField : MI := (yX1_coolField, cX1_coolField, 4, none)
abbrev mX1_happen : MI := (yX1_happen, cX1_happen, 8, none)
abbrev mX1_heatLayer : MI := (yX1_heatLayer, cX1_heatLayer, 8, none)
abbrev mX1_mendField : MI := (yX1_mendField, cX1_mendField, 4, none)
abbrev mX1_soften : MI := (yX1_soften, cX1_soften, 4, none)
abbrev mX2_init : MI := (yX2_init, cX2_init, 1, none)
abbrev mX2_keep : MI := (yX2_keep, cX2_keep, 2, none)
abbrev mX2_restore : MI := (yX2_restore, cX2_restore, 2, none)
abbrev mX3_init : MI := (yX3_init, cX3_init, 1, none)
abbrev mX3_append : MI := (yX3_append, cX3_append, 4, (some .int))
abbrev mX3_copyFrom : MI := (yX3_copyFrom, cX3_copyFrom, 2, none)
abbrev mX3_pullOf : MI := (yX3_pullOf, cX3_pullOf, 2, (some .int))
abbrev mX4_init : MI := (yX4_init, cX4_init, 3, none)
abbrev mX4_bestSet : MI := (yX4_bestSet, cX4_bestSet, 10, (some .int))
abbrev mX4_burningOfPut : MI := (yX4_burningOfPut, cX4_burningOfPut, 7, (some .int))
abbrev mX4_isStage : MI := (yX4_isStage, cX4_isStage, 3, (some .boolean))
abbrev mX4_lastStage : MI := (yX4_lastStage, cX4_lastStage, 3, (some .int))
abbrev mX4_layersAt : MI := (yX4_layersAt, cX4_layersAt, 2, (some .int))
abbrev mX4_lookAtNext : MI := (yX4_lookAtNext, cX4_lookAtNext, 8, (some .int))
abbrev mX4_search : MI := (yX4_search, cX4_search, 6, none)
abbrev mX5_init : MI := (yX5_init, cX5_init, 1, none)
abbrev mX5_append : MI := (yX5_append, cX5_append, 5, (some .int))
abbrev mX5_copyFrom : MI := (yX5_copyFrom, cX5_copyFrom, 2, none)
abbrev mX5_crackedFields : MI := (yX5_crackedFields, cX5_crackedFields, 3, (some .int))
abbrev mX5_greatestStrainWith : MI := (yX5_greatestStrainWith, cX5_greatestStrainWith, 6, (some .int))
abbrev mX5_hasHold : MI := (yX5_hasHold, cX5_hasHold, 3, (some .boolean))
abbrev mX5_heatThatMelts : MI := (yX5_heatThatMelts, cX5_heatThatMelts, 5, (some .int))
abbrev mX5_heatThatSpares : MI := (yX5_heatThatSpares, cX5_heatThatSpares, 7, (some .int))
abbrev mX5_holdsOn : MI := (yX5_holdsOn, cX5_holdsOn, 2, (some .boolean))
abbrev mX5_layers : MI := (yX5_layers, cX5_layers, 3, (some .int))
abbrev mX5_layersOfColor : MI := (yX5_layersOfColor, cX5_layersOfColor, 2, (some .int))
abbrev mX5_layersOfState : MI := (yX5_layersOfState, cX5_layersOfState, 2, (some .int))
abbrev mX5_layersWith : MI := (yX5_layersWith, cX5_layersWith, 6, (some .int))
abbrev mX5_makeBare : MI := (yX5_makeBare, cX5_makeBare, 2, none)
abbrev mX5_outermostIsRaw : MI := (yX5_outermostIsRaw, cX5_outermostIsRaw, 2, (some .boolean))
abbrev mX5_pullOf : MI := (yX5_pullOf, cX5_pullOf, 6, (some .int))
abbrev mX5_removeOutermost : MI := (yX5_removeOutermost, cX5_removeOutermost, 2, (some .int))
abbrev mX5_strainOf : MI := (yX5_strainOf, cX5_strainOf, 3, (some .int))
abbrev mX6_init : MI := (yX6_init, cX6_init, 1, none)
abbrev mX6_append : MI := (yX6_append, cX6_append, 2, (some .int))
abbrev mX6_hasFault : MI := (yX6_hasFault, cX6_hasFault, 1, (some .boolean))
abbrev mX6_isFieldDigit : MI := (yX6_isFieldDigit, cX6_isFieldDigit, 1, (some .boolean))
abbrev mX6_isLetter : MI := (yX6_isLetter, cX6_isLetter, 1, (some .boolean))
abbrev mX6_lookForFault : MI := (yX6_lookForFault, cX6_lookForFault, 5, none)
abbrev mX6_reasonOf : MI := (yX6_reasonOf, cX6_reasonOf, 3, (some .int))
abbrev mX7_init : MI := (yX7_init, cX7_init, 1, none)
abbrev mX7_append : MI := (yX7_append, cX7_append, 3, none)
abbrev mX7_colorsTogether : MI := (yX7_colorsTogether, cX7_colorsTogether, 3, (some .int))
abbrev mX7_copyFrom : MI := (yX7_copyFrom, cX7_copyFrom, 2, none)
abbrev mX7_timesOfColor : MI := (yX7_timesOfColor, cX7_timesOfColor, 5, (some .int))
abbrev mL_acts : MI := (yL_acts, cL_acts, 6, (some .int))
abbrev mL_areLayers : MI := (yL_areLayers, cL_areLayers, 10, (some .boolean))
abbrev mL_cell : MI := (yL_cell, cL_cell, 3, (some .int))
abbrev mL_isBest : MI := (yL_isBest, cL_isBest, 7, (some .boolean))
abbrev mL_isCounter : MI := (yL_isCounter, cL_isCounter, 8, (some .boolean))
abbrev mL_isFired : MI := (yL_isFired, cL_isFired, 22, (some .boolean))
abbrev mL_isPlan : MI := (yL_isPlan, cL_isPlan, 14, (some .boolean))
abbrev mL_low : MI := (yL_low, cL_low, 2, (some .int))
abbrev mL_print : MI := (yL_print, cL_print, 5, (some .long))
abbrev mL_refused : MI := (yL_refused, cL_refused, 6, (some .boolean))
abbrev mL_size : MI := (yL_size, cL_size, 1, (some .int))
abbrev mL_law : MI := (yL_law, cL_law, 11, some .boolean)
set_option maxRecDepth 100000 in
theorem fl_RX8_10 : aFl RX8 10 8 0 := ⟨RX8, TX8, 7, tyX8, kX8, by decide, rfl, Or.inl (gwm 280 (by rfl) rfl)⟩
set_option maxRecDepth 100000 in
theorem ff_RX8_10 : aFf RX8 10 8 0 := ⟨RX8, TX8, 7, tyX8, kX8, by decide, rfl, rfl, (gwm 280 (by rfl) rfl), rfl, fun a => ⟨rfl, rfl⟩⟩
set_option maxRecDepth 100000 in
theorem fl_RX8_19 : aFl RX8 19 8 1 := ⟨RX8, TX8, 7, tyX8, kX8, by decide, rfl, Or.inl (gwm 281 (by rfl) rfl)⟩
set_option maxRecDepth 100000 in
theorem ff_RX8_19 : aFf RX8 19 8 1 := ⟨RX8, TX8, 7, tyX8, kX8, by decide, rfl, rfl, (gwm 281 (by rfl) rfl), rfl, fun a => ⟨rfl, rfl⟩⟩
set_option maxRecDepth 100000 in
theorem fl_RX8_26 : aFl RX8 26 8 2 := ⟨RX8, TX8, 7, tyX8, kX8, by decide, rfl, Or.inl (gwm 282 (by rfl) rfl)⟩
set_option maxRecDepth 100000 in
theorem ff_RX8_26 : aFf RX8 26 8 2 := ⟨RX8, TX8, 7, tyX8, kX8, by decide, rfl, rfl, (gwm 282 (by rfl) rfl), rfl, fun a => ⟨rfl, rfl⟩⟩
set_option maxRecDepth 100000 in
theorem fl_RX8_33 : aFl RX8 33 8 3 := ⟨RX8, TX8, 7, tyX8, kX8, by decide, rfl, Or.inl (gwm 283 (by rfl) rfl)⟩
set_option maxRecDepth 100000 in
theorem ff_RX8_33 : aFf RX8 33 8 3 := ⟨RX8, TX8, 7, tyX8, kX8, by decide, rfl, rfl, (gwm 283 (by rfl) rfl), rfl, fun a => ⟨rfl, rfl⟩⟩
set_option maxRecDepth 100000 in
theorem fl_RX8_40 : aFl RX8 40 8 4 := ⟨RX8, TX8, 7, tyX8, kX8, by decide, rfl, Or.inl (gwm 284 (by rfl) rfl)⟩
set_option maxRecDepth 100000 in
theorem ff_RX8_40 : aFf RX8 40 8 4 := ⟨RX8, TX8, 7, tyX8, kX8, by decide, rfl, rfl, (gwm 284 (by rfl) rfl), rfl, fun a => ⟨rfl, rfl⟩⟩
set_option maxRecDepth 100000 in
theorem fl_RX8_47 : aFl RX8 47 8 5 := ⟨RX8, TX8, 7, tyX8, kX8, by decide, rfl, Or.inl (gwm 285 (by rfl) rfl)⟩
set_option maxRecDepth 100000 in
theorem ff_RX8_47 : aFf RX8 47 8 5 := ⟨RX8, TX8, 7, tyX8, kX8, by decide, rfl, rfl, (gwm 285 (by rfl) rfl), rfl, fun a => ⟨rfl, rfl⟩⟩
set_option maxRecDepth 100000 in
theorem fl_RX8_51 : aFl RX8 51 8 6 := ⟨RX8, TX8, 7, tyX8, kX8, by decide, rfl, Or.inl (gwm 286 (by rfl) rfl)⟩
set_option maxRecDepth 100000 in
theorem fn_RX8_51 : aFn RX8 51 8 6 true := ⟨RX8, TX8, 7, tyX8, kX8, by decide, rfl, Or.inl (gwm 286 (by rfl) rfl), rfl, rfl⟩
set_option maxRecDepth 100000 in
theorem fl_RX8_59 : aFl RX8 59 0 0 := ⟨RX0, TX0, 5, tyX0, kX0, by decide, rfl, Or.inr ⟨_, (nwm 147 (by rfl) rfl)⟩⟩
set_option maxRecDepth 100000 in
theorem fl_RX8_63 : aFl RX8 63 3 3 := ⟨RX3, TX3, 4, tyX3, kX3, by decide, rfl, Or.inr ⟨_, (nwm 86 (by rfl) rfl)⟩⟩
set_option maxRecDepth 100000 in
theorem fn_RX8_63 : aFn RX8 63 3 3 false := ⟨RX3, TX3, 4, tyX3, kX3, by decide, rfl, Or.inr ⟨_, (nwm 86 (by rfl) rfl)⟩, rfl, rfl⟩
set_option maxRecDepth 100000 in
theorem fl_RX8_81 : aFl RX8 81 3 0 := ⟨RX3, TX3, 4, tyX3, kX3, by decide, rfl, Or.inr ⟨_, (nwm 75 (by rfl) rfl)⟩⟩
set_option maxRecDepth 100000 in
theorem fl_RX8_85 : aFl RX8 85 3 1 := ⟨RX3, TX3, 4, tyX3, kX3, by decide, rfl, Or.inr ⟨_, (nwm 80 (by rfl) rfl)⟩⟩
set_option maxRecDepth 100000 in
theorem fl_RX8_88 : aFl RX8 88 3 2 := ⟨RX3, TX3, 4, tyX3, kX3, by decide, rfl, Or.inr ⟨_, (nwm 84 (by rfl) rfl)⟩⟩
set_option maxRecDepth 100000 in
theorem fl_RX8_95 : aFl RX8 95 0 1 := ⟨RX0, TX0, 5, tyX0, kX0, by decide, rfl, Or.inr ⟨_, (nwm 150 (by rfl) rfl)⟩⟩
set_option maxRecDepth 100000 in
theorem fl_RX8_101 : aFl RX8 101 0 2 := ⟨RX0, TX0, 5, tyX0, kX0, by decide, rfl, Or.inr ⟨_, (nwm 152 (by rfl) rfl)⟩⟩
set_option maxRecDepth 100000 in
theorem fl_RX8_116 : aFl RX8 116 5 0 := ⟨RX5, TX5, 5, tyX5, kX5, by decide, rfl, Or.inr ⟨_, (nwm 105 (by rfl) rfl)⟩⟩
set_option maxRecDepth 100000 in
theorem fl_RX8_119 : aFl RX8 119 0 4 := ⟨RX0, TX0, 5, tyX0, kX0, by decide, rfl, Or.inr ⟨_, (nwm 157 (by rfl) rfl)⟩⟩
set_option maxRecDepth 100000 in
theorem fl_RX8_138 : aFl RX8 138 5 1 := ⟨RX5, TX5, 5, tyX5, kX5, by decide, rfl, Or.inr ⟨_, (nwm 108 (by rfl) rfl)⟩⟩
set_option maxRecDepth 100000 in
theorem fl_RX8_141 : aFl RX8 141 5 2 := ⟨RX5, TX5, 5, tyX5, kX5, by decide, rfl, Or.inr ⟨_, (nwm 111 (by rfl) rfl)⟩⟩
set_option maxRecDepth 100000 in
theorem fl_RX8_144 : aFl RX8 144 5 3 := ⟨RX5, TX5, 5, tyX5, kX5, by decide, rfl, Or.inr ⟨_, (nwm 114 (by rfl) rfl)⟩⟩
set_option maxRecDepth 100000 in
theorem fl_RX8_153 : aFl RX8 153 5 4 := ⟨RX5, TX5, 5, tyX5, kX5, by decide, rfl, Or.inr ⟨_, (nwm 117 (by rfl) rfl)⟩⟩
set_option maxRecDepth 100000 in
theorem fl_RX8_168 : aFl RX8 168 0 3 := ⟨RX0, TX0, 5, tyX0, kX0, by decide, rfl, Or.inr ⟨_, (nwm 155 (by rfl) rfl)⟩⟩
set_option maxRecDepth 100000 in
theorem fl_RX8_180 : aFl RX8 180 2 2 := ⟨RX2, TX2, 3, tyX2, kX2, by decide, rfl, Or.inr ⟨_, (nwm 181 (by rfl) rfl)⟩⟩
set_option maxRecDepth 100000 in
theorem fn_RX8_180 : aFn RX8 180 2 2 false := ⟨RX2, TX2, 3, tyX2, kX2, by decide, rfl, Or.inr ⟨_, (nwm 181 (by rfl) rfl)⟩, rfl, rfl⟩
set_option maxRecDepth 100000 in
theorem fl_RX8_181 : aFl RX8 181 6 1 := ⟨RX6, TX6, 4, tyX6, kX6, by decide, rfl, Or.inr ⟨_, (nwm 265 (by rfl) rfl)⟩⟩
set_option maxRecDepth 100000 in
theorem fn_RX8_181 : aFn RX8 181 6 1 false := ⟨RX6, TX6, 4, tyX6, kX6, by decide, rfl, Or.inr ⟨_, (nwm 265 (by rfl) rfl)⟩, rfl, rfl⟩
set_option maxRecDepth 100000 in
theorem fl_RX8_188 : aFl RX8 188 1 1 := ⟨RX1, TX1, 6, tyX1, kX1, by decide, rfl, Or.inr ⟨_, (nwm 197 (by rfl) rfl)⟩⟩
set_option maxRecDepth 100000 in
theorem fn_RX8_188 : aFn RX8 188 1 1 false := ⟨RX1, TX1, 6, tyX1, kX1, by decide, rfl, Or.inr ⟨_, (nwm 197 (by rfl) rfl)⟩, rfl, rfl⟩
set_option maxRecDepth 100000 in
theorem fl_RX8_191 : aFl RX8 191 1 3 := ⟨RX1, TX1, 6, tyX1, kX1, by decide, rfl, Or.inr ⟨_, (nwm 201 (by rfl) rfl)⟩⟩
set_option maxRecDepth 100000 in
theorem fn_RX8_191 : aFn RX8 191 1 3 false := ⟨RX1, TX1, 6, tyX1, kX1, by decide, rfl, Or.inr ⟨_, (nwm 201 (by rfl) rfl)⟩, rfl, rfl⟩
set_option maxRecDepth 100000 in
theorem fl_RX8_194 : aFl RX8 194 1 2 := ⟨RX1, TX1, 6, tyX1, kX1, by decide, rfl, Or.inr ⟨_, (nwm 199 (by rfl) rfl)⟩⟩
set_option maxRecDepth 100000 in
theorem fn_RX8_194 : aFn RX8 194 1 2 false := ⟨RX1, TX1, 6, tyX1, kX1, by decide, rfl, Or.inr ⟨_, (nwm 199 (by rfl) rfl)⟩, rfl, rfl⟩
set_option maxRecDepth 100000 in
theorem fl_RX8_197 : aFl RX8 197 1 4 := ⟨RX1, TX1, 6, tyX1, kX1, by decide, rfl, Or.inr ⟨_, (nwm 203 (by rfl) rfl)⟩⟩
set_option maxRecDepth 100000 in
theorem fn_RX8_197 : aFn RX8 197 1 4 false := ⟨RX1, TX1, 6, tyX1, kX1, by decide, rfl, Or.inr ⟨_, (nwm 203 (by rfl) rfl)⟩, rfl, rfl⟩
set_option maxRecDepth 100000 in
theorem fl_RX8_199 : aFl RX8 199 1 5 := ⟨RX1, TX1, 6, tyX1, kX1, by decide, rfl, Or.inr ⟨_, (nwm 205 (by rfl) rfl)⟩⟩
set_option maxRecDepth 100000 in
theorem fn_RX8_199 : aFn RX8 199 1 5 false := ⟨RX1, TX1, 6, tyX1, kX1, by decide, rfl, Or.inr ⟨_, (nwm 205 (by rfl) rfl)⟩, rfl, rfl⟩
set_option maxRecDepth 100000 in
theorem fl_RX8_209 : aFl RX8 209 7 0 := ⟨RX7, TX7, 2, tyX7, kX7, by decide, rfl, Or.inr ⟨_, (nwm 137 (by rfl) rfl)⟩⟩
set_option maxRecDepth 100000 in
theorem fl_RX8_213 : aFl RX8 213 7 1 := ⟨RX7, TX7, 2, tyX7, kX7, by decide, rfl, Or.inr ⟨_, (nwm 140 (by rfl) rfl)⟩⟩
set_option maxRecDepth 100000 in
theorem fl_RX8_217 : aFl RX8 217 4 7 := ⟨RX4, TX4, 8, tyX4, kX4, by decide, rfl, Or.inr ⟨_, (nwm 239 (by rfl) rfl)⟩⟩
set_option maxRecDepth 100000 in
theorem fn_RX8_217 : aFn RX8 217 4 7 true := ⟨RX4, TX4, 8, tyX4, kX4, by decide, rfl, Or.inr ⟨_, (nwm 239 (by rfl) rfl)⟩, rfl, rfl⟩
set_option maxRecDepth 100000 in
theorem fl_RX8_220 : aFl RX8 220 4 6 := ⟨RX4, TX4, 8, tyX4, kX4, by decide, rfl, Or.inr ⟨_, (nwm 237 (by rfl) rfl)⟩⟩
set_option maxRecDepth 100000 in
theorem fn_RX8_220 : aFn RX8 220 4 6 false := ⟨RX4, TX4, 8, tyX4, kX4, by decide, rfl, Or.inr ⟨_, (nwm 237 (by rfl) rfl)⟩, rfl, rfl⟩
set_option maxRecDepth 100000 in
theorem fl_RX8_221 : aFl RX8 221 4 4 := ⟨RX4, TX4, 8, tyX4, kX4, by decide, rfl, Or.inr ⟨_, (nwm 233 (by rfl) rfl)⟩⟩
set_option maxRecDepth 100000 in
theorem fl_RX8_224 : aFl RX8 224 4 5 := ⟨RX4, TX4, 8, tyX4, kX4, by decide, rfl, Or.inr ⟨_, (nwm 235 (by rfl) rfl)⟩⟩
set_option maxRecDepth 100000 in
theorem fl_RX8_243 : aFl RX8 243 6 2 := ⟨RX6, TX6, 4, tyX6, kX6, by decide, rfl, Or.inr ⟨_, (nwm 267 (by rfl) rfl)⟩⟩
set_option maxRecDepth 100000 in
theorem fn_RX8_243 : aFn RX8 243 6 2 false := ⟨RX6, TX6, 4, tyX6, kX6, by decide, rfl, Or.inr ⟨_, (nwm 267 (by rfl) rfl)⟩, rfl, rfl⟩
set_option maxRecDepth 100000 in
theorem fl_RX8_246 : aFl RX8 246 6 3 := ⟨RX6, TX6, 4, tyX6, kX6, by decide, rfl, Or.inr ⟨_, (nwm 269 (by rfl) rfl)⟩⟩
set_option maxRecDepth 100000 in
theorem fn_RX8_246 : aFn RX8 246 6 3 false := ⟨RX6, TX6, 4, tyX6, kX6, by decide, rfl, Or.inr ⟨_, (nwm 269 (by rfl) rfl)⟩, rfl, rfl⟩
set_option maxRecDepth 100000 in
theorem fl_RX0_12 : aFl RX0 12 0 0 := ⟨RX0, TX0, 5, tyX0, kX0, by decide, rfl, Or.inl (gwm 146 (by rfl) rfl)⟩
set_option maxRecDepth 100000 in
theorem ff_RX0_12 : aFf RX0 12 0 0 := ⟨RX0, TX0, 5, tyX0, kX0, by decide, rfl, rfl, (gwm 146 (by rfl) rfl), rfl, fun a => ⟨rfl, rfl⟩⟩
set_option maxRecDepth 100000 in
theorem fl_RX0_21 : aFl RX0 21 0 1 := ⟨RX0, TX0, 5, tyX0, kX0, by decide, rfl, Or.inl (gwm 149 (by rfl) rfl)⟩
set_option maxRecDepth 100000 in
theorem ff_RX0_21 : aFf RX0 21 0 1 := ⟨RX0, TX0, 5, tyX0, kX0, by decide, rfl, rfl, (gwm 149 (by rfl) rfl), rfl, fun a => ⟨rfl, rfl⟩⟩
set_option maxRecDepth 100000 in
theorem fl_RX0_28 : aFl RX0 28 0 2 := ⟨RX0, TX0, 5, tyX0, kX0, by decide, rfl, Or.inl (gwm 151 (by rfl) rfl)⟩
set_option maxRecDepth 100000 in
theorem ff_RX0_28 : aFf RX0 28 0 2 := ⟨RX0, TX0, 5, tyX0, kX0, by decide, rfl, rfl, (gwm 151 (by rfl) rfl), rfl, fun a => ⟨rfl, rfl⟩⟩
set_option maxRecDepth 100000 in
theorem fl_RX0_32 : aFl RX0 32 0 3 := ⟨RX0, TX0, 5, tyX0, kX0, by decide, rfl, Or.inl (gwm 153 (by rfl) rfl)⟩
set_option maxRecDepth 100000 in
theorem ff_RX0_32 : aFf RX0 32 0 3 := ⟨RX0, TX0, 5, tyX0, kX0, by decide, rfl, rfl, (gwm 153 (by rfl) rfl), rfl, fun a => ⟨rfl, rfl⟩⟩
set_option maxRecDepth 100000 in
theorem fl_RX0_36 : aFl RX0 36 0 4 := ⟨RX0, TX0, 5, tyX0, kX0, by decide, rfl, Or.inl (gwm 156 (by rfl) rfl)⟩
set_option maxRecDepth 100000 in
theorem ff_RX0_36 : aFf RX0 36 0 4 := ⟨RX0, TX0, 5, tyX0, kX0, by decide, rfl, rfl, (gwm 156 (by rfl) rfl), rfl, fun a => ⟨rfl, rfl⟩⟩
set_option maxRecDepth 100000 in
theorem fl_RX1_9 : aFl RX1 9 1 0 := ⟨RX1, TX1, 6, tyX1, kX1, by decide, rfl, Or.inl (gwm 195 (by rfl) rfl)⟩
set_option maxRecDepth 100000 in
theorem ff_RX1_9 : aFf RX1 9 1 0 := ⟨RX1, TX1, 6, tyX1, kX1, by decide, rfl, rfl, (gwm 195 (by rfl) rfl), rfl, fun a => ⟨rfl, rfl⟩⟩
set_option maxRecDepth 100000 in
theorem fl_RX1_15 : aFl RX1 15 1 1 := ⟨RX1, TX1, 6, tyX1, kX1, by decide, rfl, Or.inl (gwm 196 (by rfl) rfl)⟩
set_option maxRecDepth 100000 in
theorem fn_RX1_15 : aFn RX1 15 1 1 false := ⟨RX1, TX1, 6, tyX1, kX1, by decide, rfl, Or.inl (gwm 196 (by rfl) rfl), rfl, rfl⟩
set_option maxRecDepth 100000 in
theorem fl_RX1_19 : aFl RX1 19 1 2 := ⟨RX1, TX1, 6, tyX1, kX1, by decide, rfl, Or.inl (gwm 198 (by rfl) rfl)⟩
set_option maxRecDepth 100000 in
theorem fn_RX1_19 : aFn RX1 19 1 2 false := ⟨RX1, TX1, 6, tyX1, kX1, by decide, rfl, Or.inl (gwm 198 (by rfl) rfl), rfl, rfl⟩
set_option maxRecDepth 100000 in
theorem fl_RX1_22 : aFl RX1 22 1 3 := ⟨RX1, TX1, 6, tyX1, kX1, by decide, rfl, Or.inl (gwm 200 (by rfl) rfl)⟩
set_option maxRecDepth 100000 in
theorem fn_RX1_22 : aFn RX1 22 1 3 false := ⟨RX1, TX1, 6, tyX1, kX1, by decide, rfl, Or.inl (gwm 200 (by rfl) rfl), rfl, rfl⟩
set_option maxRecDepth 100000 in
theorem fl_RX1_25 : aFl RX1 25 1 4 := ⟨RX1, TX1, 6, tyX1, kX1, by decide, rfl, Or.inl (gwm 202 (by rfl) rfl)⟩
set_option maxRecDepth 100000 in
theorem fn_RX1_25 : aFn RX1 25 1 4 false := ⟨RX1, TX1, 6, tyX1, kX1, by decide, rfl, Or.inl (gwm 202 (by rfl) rfl), rfl, rfl⟩
set_option maxRecDepth 100000 in
theorem fl_RX1_28 : aFl RX1 28 1 5 := ⟨RX1, TX1, 6, tyX1, kX1, by decide, rfl, Or.inl (gwm 204 (by rfl) rfl)⟩
set_option maxRecDepth 100000 in
theorem fn_RX1_28 : aFn RX1 28 1 5 false := ⟨RX1, TX1, 6, tyX1, kX1, by decide, rfl, Or.inl (gwm 204 (by rfl) rfl), rfl, rfl⟩
set_option maxRecDepth 100000 in
theorem fl_RX1_31 : aFl RX1 31 0 3 := ⟨RX0, TX0, 5, tyX0, kX0, by decide, rfl, Or.inr ⟨_, (nwm 154 (by rfl) rfl)⟩⟩
set_option maxRecDepth 100000 in
theorem fl_RX1_37 : aFl RX1 37 5 0 := ⟨RX5, TX5, 5, tyX5, kX5, by decide, rfl, Or.inr ⟨_, (nwm 104 (by rfl) rfl)⟩⟩
set_option maxRecDepth 100000 in
theorem fl_RX1_58 : aFl RX1 58 5 1 := ⟨RX5, TX5, 5, tyX5, kX5, by decide, rfl, Or.inr ⟨_, (nwm 107 (by rfl) rfl)⟩⟩
set_option maxRecDepth 100000 in
theorem fl_RX1_61 : aFl RX1 61 0 0 := ⟨RX0, TX0, 5, tyX0, kX0, by decide, rfl, Or.inr ⟨_, (nwm 148 (by rfl) rfl)⟩⟩
set_option maxRecDepth 100000 in
theorem fl_RX1_65 : aFl RX1 65 3 0 := ⟨RX3, TX3, 4, tyX3, kX3, by decide, rfl, Or.inr ⟨_, (nwm 74 (by rfl) rfl)⟩⟩
set_option maxRecDepth 100000 in
theorem fl_RX1_70 : aFl RX1 70 5 2 := ⟨RX5, TX5, 5, tyX5, kX5, by decide, rfl, Or.inr ⟨_, (nwm 110 (by rfl) rfl)⟩⟩
set_option maxRecDepth 100000 in
theorem fl_RX1_73 : aFl RX1 73 3 1 := ⟨RX3, TX3, 4, tyX3, kX3, by decide, rfl, Or.inr ⟨_, (nwm 79 (by rfl) rfl)⟩⟩
set_option maxRecDepth 100000 in
theorem fl_RX1_84 : aFl RX1 84 5 3 := ⟨RX5, TX5, 5, tyX5, kX5, by decide, rfl, Or.inr ⟨_, (nwm 113 (by rfl) rfl)⟩⟩
set_option maxRecDepth 100000 in
theorem fl_RX1_87 : aFl RX1 87 5 4 := ⟨RX5, TX5, 5, tyX5, kX5, by decide, rfl, Or.inr ⟨_, (nwm 116 (by rfl) rfl)⟩⟩
set_option maxRecDepth 100000 in
theorem fl_RX2_12 : aFl RX2 12 2 0 := ⟨RX2, TX2, 3, tyX2, kX2, by decide, rfl, Or.inl (gwm 178 (by rfl) rfl)⟩
set_option maxRecDepth 100000 in
theorem ff_RX2_12 : aFf RX2 12 2 0 := ⟨RX2, TX2, 3, tyX2, kX2, by decide, rfl, rfl, (gwm 178 (by rfl) rfl), rfl, fun a => ⟨rfl, rfl⟩⟩
set_option maxRecDepth 100000 in
theorem fl_RX2_18 : aFl RX2 18 2 1 := ⟨RX2, TX2, 3, tyX2, kX2, by decide, rfl, Or.inl (gwm 179 (by rfl) rfl)⟩
set_option maxRecDepth 100000 in
theorem fn_RX2_18 : aFn RX2 18 2 1 false := ⟨RX2, TX2, 3, tyX2, kX2, by decide, rfl, Or.inl (gwm 179 (by rfl) rfl), rfl, rfl⟩
set_option maxRecDepth 100000 in
theorem fl_RX2_22 : aFl RX2 22 2 2 := ⟨RX2, TX2, 3, tyX2, kX2, by decide, rfl, Or.inl (gwm 180 (by rfl) rfl)⟩
set_option maxRecDepth 100000 in
theorem fn_RX2_22 : aFn RX2 22 2 2 false := ⟨RX2, TX2, 3, tyX2, kX2, by decide, rfl, Or.inl (gwm 180 (by rfl) rfl), rfl, rfl⟩
set_option maxRecDepth 100000 in
theorem fl_RX3_9 : aFl RX3 9 3 0 := ⟨RX3, TX3, 4, tyX3, kX3, by decide, rfl, Or.inl (gwm 73 (by rfl) rfl)⟩
set_option maxRecDepth 100000 in
theorem ff_RX3_9 : aFf RX3 9 3 0 := ⟨RX3, TX3, 4, tyX3, kX3, by decide, rfl, rfl, (gwm 73 (by rfl) rfl), rfl, fun a => ⟨rfl, rfl⟩⟩
set_option maxRecDepth 100000 in
theorem fl_RX3_15 : aFl RX3 15 3 1 := ⟨RX3, TX3, 4, tyX3, kX3, by decide, rfl, Or.inl (gwm 78 (by rfl) rfl)⟩
set_option maxRecDepth 100000 in
theorem ff_RX3_15 : aFf RX3 15 3 1 := ⟨RX3, TX3, 4, tyX3, kX3, by decide, rfl, rfl, (gwm 78 (by rfl) rfl), rfl, fun a => ⟨rfl, rfl⟩⟩
set_option maxRecDepth 100000 in
theorem fl_RX3_18 : aFl RX3 18 3 2 := ⟨RX3, TX3, 4, tyX3, kX3, by decide, rfl, Or.inl (gwm 83 (by rfl) rfl)⟩
set_option maxRecDepth 100000 in
theorem ff_RX3_18 : aFf RX3 18 3 2 := ⟨RX3, TX3, 4, tyX3, kX3, by decide, rfl, rfl, (gwm 83 (by rfl) rfl), rfl, fun a => ⟨rfl, rfl⟩⟩
set_option maxRecDepth 100000 in
theorem fl_RX3_21 : aFl RX3 21 3 3 := ⟨RX3, TX3, 4, tyX3, kX3, by decide, rfl, Or.inl (gwm 85 (by rfl) rfl)⟩
set_option maxRecDepth 100000 in
theorem fn_RX3_21 : aFn RX3 21 3 3 false := ⟨RX3, TX3, 4, tyX3, kX3, by decide, rfl, Or.inl (gwm 85 (by rfl) rfl), rfl, rfl⟩
set_option maxRecDepth 100000 in
theorem fl_RX4_11 : aFl RX4 11 4 0 := ⟨RX4, TX4, 8, tyX4, kX4, by decide, rfl, Or.inl (gwm 228 (by rfl) rfl)⟩
set_option maxRecDepth 100000 in
theorem ff_RX4_11 : aFf RX4 11 4 0 := ⟨RX4, TX4, 8, tyX4, kX4, by decide, rfl, rfl, (gwm 228 (by rfl) rfl), rfl, fun a => ⟨rfl, rfl⟩⟩
set_option maxRecDepth 100000 in
theorem fl_RX4_15 : aFl RX4 15 4 1 := ⟨RX4, TX4, 8, tyX4, kX4, by decide, rfl, Or.inl (gwm 229 (by rfl) rfl)⟩
set_option maxRecDepth 100000 in
theorem ff_RX4_15 : aFf RX4 15 4 1 := ⟨RX4, TX4, 8, tyX4, kX4, by decide, rfl, rfl, (gwm 229 (by rfl) rfl), rfl, fun a => ⟨rfl, rfl⟩⟩
set_option maxRecDepth 100000 in
theorem fl_RX4_18 : aFl RX4 18 4 2 := ⟨RX4, TX4, 8, tyX4, kX4, by decide, rfl, Or.inl (gwm 230 (by rfl) rfl)⟩
set_option maxRecDepth 100000 in
theorem ff_RX4_18 : aFf RX4 18 4 2 := ⟨RX4, TX4, 8, tyX4, kX4, by decide, rfl, rfl, (gwm 230 (by rfl) rfl), rfl, fun a => ⟨rfl, rfl⟩⟩
set_option maxRecDepth 100000 in
theorem fl_RX4_21 : aFl RX4 21 4 3 := ⟨RX4, TX4, 8, tyX4, kX4, by decide, rfl, Or.inl (gwm 231 (by rfl) rfl)⟩
set_option maxRecDepth 100000 in
theorem ff_RX4_21 : aFf RX4 21 4 3 := ⟨RX4, TX4, 8, tyX4, kX4, by decide, rfl, rfl, (gwm 231 (by rfl) rfl), rfl, fun a => ⟨rfl, rfl⟩⟩
set_option maxRecDepth 100000 in
theorem fl_RX4_24 : aFl RX4 24 4 4 := ⟨RX4, TX4, 8, tyX4, kX4, by decide, rfl, Or.inl (gwm 232 (by rfl) rfl)⟩
set_option maxRecDepth 100000 in
theorem ff_RX4_24 : aFf RX4 24 4 4 := ⟨RX4, TX4, 8, tyX4, kX4, by decide, rfl, rfl, (gwm 232 (by rfl) rfl), rfl, fun a => ⟨rfl, rfl⟩⟩
set_option maxRecDepth 100000 in
theorem fl_RX4_27 : aFl RX4 27 4 5 := ⟨RX4, TX4, 8, tyX4, kX4, by decide, rfl, Or.inl (gwm 234 (by rfl) rfl)⟩
set_option maxRecDepth 100000 in
theorem ff_RX4_27 : aFf RX4 27 4 5 := ⟨RX4, TX4, 8, tyX4, kX4, by decide, rfl, rfl, (gwm 234 (by rfl) rfl), rfl, fun a => ⟨rfl, rfl⟩⟩
set_option maxRecDepth 100000 in
theorem fl_RX4_30 : aFl RX4 30 4 6 := ⟨RX4, TX4, 8, tyX4, kX4, by decide, rfl, Or.inl (gwm 236 (by rfl) rfl)⟩
set_option maxRecDepth 100000 in
theorem fn_RX4_30 : aFn RX4 30 4 6 false := ⟨RX4, TX4, 8, tyX4, kX4, by decide, rfl, Or.inl (gwm 236 (by rfl) rfl), rfl, rfl⟩
set_option maxRecDepth 100000 in
theorem fl_RX4_34 : aFl RX4 34 4 7 := ⟨RX4, TX4, 8, tyX4, kX4, by decide, rfl, Or.inl (gwm 238 (by rfl) rfl)⟩
set_option maxRecDepth 100000 in
theorem fn_RX4_34 : aFn RX4 34 4 7 true := ⟨RX4, TX4, 8, tyX4, kX4, by decide, rfl, Or.inl (gwm 238 (by rfl) rfl), rfl, rfl⟩
set_option maxRecDepth 100000 in
theorem fl_RX4_50 : aFl RX4 50 7 0 := ⟨RX7, TX7, 2, tyX7, kX7, by decide, rfl, Or.inr ⟨_, (nwm 136 (by rfl) rfl)⟩⟩
set_option maxRecDepth 100000 in
theorem fl_RX4_73 : aFl RX4 73 7 1 := ⟨RX7, TX7, 2, tyX7, kX7, by decide, rfl, Or.inr ⟨_, (nwm 139 (by rfl) rfl)⟩⟩
set_option maxRecDepth 100000 in
theorem fl_RX4_79 : aFl RX4 79 3 0 := ⟨RX3, TX3, 4, tyX3, kX3, by decide, rfl, Or.inr ⟨_, (nwm 76 (by rfl) rfl)⟩⟩
set_option maxRecDepth 100000 in
theorem fl_RX4_84 : aFl RX4 84 3 1 := ⟨RX3, TX3, 4, tyX3, kX3, by decide, rfl, Or.inr ⟨_, (nwm 81 (by rfl) rfl)⟩⟩
set_option maxRecDepth 100000 in
theorem fl_RX5_9 : aFl RX5 9 5 0 := ⟨RX5, TX5, 5, tyX5, kX5, by decide, rfl, Or.inl (gwm 103 (by rfl) rfl)⟩
set_option maxRecDepth 100000 in
theorem ff_RX5_9 : aFf RX5 9 5 0 := ⟨RX5, TX5, 5, tyX5, kX5, by decide, rfl, rfl, (gwm 103 (by rfl) rfl), rfl, fun a => ⟨rfl, rfl⟩⟩
set_option maxRecDepth 100000 in
theorem fl_RX5_15 : aFl RX5 15 5 1 := ⟨RX5, TX5, 5, tyX5, kX5, by decide, rfl, Or.inl (gwm 106 (by rfl) rfl)⟩
set_option maxRecDepth 100000 in
theorem ff_RX5_15 : aFf RX5 15 5 1 := ⟨RX5, TX5, 5, tyX5, kX5, by decide, rfl, rfl, (gwm 106 (by rfl) rfl), rfl, fun a => ⟨rfl, rfl⟩⟩
set_option maxRecDepth 100000 in
theorem fl_RX5_18 : aFl RX5 18 5 2 := ⟨RX5, TX5, 5, tyX5, kX5, by decide, rfl, Or.inl (gwm 109 (by rfl) rfl)⟩
set_option maxRecDepth 100000 in
theorem ff_RX5_18 : aFf RX5 18 5 2 := ⟨RX5, TX5, 5, tyX5, kX5, by decide, rfl, rfl, (gwm 109 (by rfl) rfl), rfl, fun a => ⟨rfl, rfl⟩⟩
set_option maxRecDepth 100000 in
theorem fl_RX5_21 : aFl RX5 21 5 3 := ⟨RX5, TX5, 5, tyX5, kX5, by decide, rfl, Or.inl (gwm 112 (by rfl) rfl)⟩
set_option maxRecDepth 100000 in
theorem ff_RX5_21 : aFf RX5 21 5 3 := ⟨RX5, TX5, 5, tyX5, kX5, by decide, rfl, rfl, (gwm 112 (by rfl) rfl), rfl, fun a => ⟨rfl, rfl⟩⟩
set_option maxRecDepth 100000 in
theorem fl_RX5_24 : aFl RX5 24 5 4 := ⟨RX5, TX5, 5, tyX5, kX5, by decide, rfl, Or.inl (gwm 115 (by rfl) rfl)⟩
set_option maxRecDepth 100000 in
theorem ff_RX5_24 : aFf RX5 24 5 4 := ⟨RX5, TX5, 5, tyX5, kX5, by decide, rfl, rfl, (gwm 115 (by rfl) rfl), rfl, fun a => ⟨rfl, rfl⟩⟩
set_option maxRecDepth 100000 in
theorem fl_RX5_56 : aFl RX5 56 3 0 := ⟨RX3, TX3, 4, tyX3, kX3, by decide, rfl, Or.inr ⟨_, (nwm 77 (by rfl) rfl)⟩⟩
set_option maxRecDepth 100000 in
theorem fl_RX5_59 : aFl RX5 59 3 1 := ⟨RX3, TX3, 4, tyX3, kX3, by decide, rfl, Or.inr ⟨_, (nwm 82 (by rfl) rfl)⟩⟩
set_option maxRecDepth 100000 in
theorem fl_RX6_9 : aFl RX6 9 6 0 := ⟨RX6, TX6, 4, tyX6, kX6, by decide, rfl, Or.inl (gwm 263 (by rfl) rfl)⟩
set_option maxRecDepth 100000 in
theorem ff_RX6_9 : aFf RX6 9 6 0 := ⟨RX6, TX6, 4, tyX6, kX6, by decide, rfl, rfl, (gwm 263 (by rfl) rfl), rfl, fun a => ⟨rfl, rfl⟩⟩
set_option maxRecDepth 100000 in
theorem fl_RX6_15 : aFl RX6 15 6 1 := ⟨RX6, TX6, 4, tyX6, kX6, by decide, rfl, Or.inl (gwm 264 (by rfl) rfl)⟩
set_option maxRecDepth 100000 in
theorem fn_RX6_15 : aFn RX6 15 6 1 false := ⟨RX6, TX6, 4, tyX6, kX6, by decide, rfl, Or.inl (gwm 264 (by rfl) rfl), rfl, rfl⟩
set_option maxRecDepth 100000 in
theorem fl_RX6_19 : aFl RX6 19 6 2 := ⟨RX6, TX6, 4, tyX6, kX6, by decide, rfl, Or.inl (gwm 266 (by rfl) rfl)⟩
set_option maxRecDepth 100000 in
theorem fn_RX6_19 : aFn RX6 19 6 2 false := ⟨RX6, TX6, 4, tyX6, kX6, by decide, rfl, Or.inl (gwm 266 (by rfl) rfl), rfl, rfl⟩
set_option maxRecDepth 100000 in
theorem fl_RX6_22 : aFl RX6 22 6 3 := ⟨RX6, TX6, 4, tyX6, kX6, by decide, rfl, Or.inl (gwm 268 (by rfl) rfl)⟩
set_option maxRecDepth 100000 in
theorem fn_RX6_22 : aFn RX6 22 6 3 false := ⟨RX6, TX6, 4, tyX6, kX6, by decide, rfl, Or.inl (gwm 268 (by rfl) rfl), rfl, rfl⟩
set_option maxRecDepth 100000 in
theorem fl_RX7_9 : aFl RX7 9 7 0 := ⟨RX7, TX7, 2, tyX7, kX7, by decide, rfl, Or.inl (gwm 135 (by rfl) rfl)⟩
set_option maxRecDepth 100000 in
theorem ff_RX7_9 : aFf RX7 9 7 0 := ⟨RX7, TX7, 2, tyX7, kX7, by decide, rfl, rfl, (gwm 135 (by rfl) rfl), rfl, fun a => ⟨rfl, rfl⟩⟩
set_option maxRecDepth 100000 in
theorem fl_RX7_15 : aFl RX7 15 7 1 := ⟨RX7, TX7, 2, tyX7, kX7, by decide, rfl, Or.inl (gwm 138 (by rfl) rfl)⟩
set_option maxRecDepth 100000 in
theorem ff_RX7_15 : aFf RX7 15 7 1 := ⟨RX7, TX7, 2, tyX7, kX7, by decide, rfl, rfl, (gwm 138 (by rfl) rfl), rfl, fun a => ⟨rfl, rfl⟩⟩
set_option maxRecDepth 100000 in
theorem ol_RX8_1 : Cond.methodLink RX8 1 objectInit ∈ GW := (gwm 58 (by rfl) rfl)
set_option maxRecDepth 100000 in
theorem mi_RX8_9 : aMI RX8 9 mX0_init 0 := ⟨Or.inr ⟨_, (nwm 63 (by rfl) rfl)⟩, (gwm 64 (by rfl) rfl), rfl, rfl, ⟨(gwm 43 (by rfl) rfl), (gwm 65 (by rfl) rfl), by decide +kernel, by decide +kernel, by decide +kernel⟩⟩
set_option maxRecDepth 100000 in
theorem mi_RX8_18 : aMI RX8 18 mX2_init 0 := ⟨Or.inr ⟨_, (nwm 171 (by rfl) rfl)⟩, (gwm 172 (by rfl) rfl), rfl, rfl, ⟨(gwm 47 (by rfl) rfl), (gwm 173 (by rfl) rfl), by decide +kernel, by decide +kernel, by decide +kernel⟩⟩
set_option maxRecDepth 100000 in
theorem mi_RX8_25 : aMI RX8 25 mX1_init 0 := ⟨Or.inr ⟨_, (nwm 191 (by rfl) rfl)⟩, (gwm 192 (by rfl) rfl), rfl, rfl, ⟨(gwm 48 (by rfl) rfl), (gwm 193 (by rfl) rfl), by decide +kernel, by decide +kernel, by decide +kernel⟩⟩
set_option maxRecDepth 100000 in
theorem mi_RX8_32 : aMI RX8 32 mX5_init 0 := ⟨Or.inr ⟨_, (nwm 221 (by rfl) rfl)⟩, (gwm 100 (by rfl) rfl), rfl, rfl, ⟨(gwm 45 (by rfl) rfl), (gwm 101 (by rfl) rfl), by decide +kernel, by decide +kernel, by decide +kernel⟩⟩
set_option maxRecDepth 100000 in
theorem mi_RX8_39 : aMI RX8 39 mX4_init 0 := ⟨Or.inr ⟨_, (nwm 224 (by rfl) rfl)⟩, (gwm 225 (by rfl) rfl), rfl, rfl, ⟨(gwm 49 (by rfl) rfl), (gwm 226 (by rfl) rfl), by decide +kernel, by decide +kernel, by decide +kernel⟩⟩
set_option maxRecDepth 100000 in
theorem mi_RX8_46 : aMI RX8 46 mX6_init 0 := ⟨Or.inr ⟨_, (nwm 259 (by rfl) rfl)⟩, (gwm 260 (by rfl) rfl), rfl, rfl, ⟨(gwm 50 (by rfl) rfl), (gwm 261 (by rfl) rfl), by decide +kernel, by decide +kernel, by decide +kernel⟩⟩
set_option maxRecDepth 100000 in
theorem ms_RX8_55 : aMS RX8 55 mX8_within 3 := ⟨Or.inl ⟨(gwm 306 (by rfl) rfl), rfl⟩, (gwm 307 (by rfl) rfl), ⟨(gwm 42 (by rfl) rfl), (gwm 308 (by rfl) rfl), by decide +kernel, by decide +kernel, by decide +kernel⟩⟩
set_option maxRecDepth 100000 in
theorem mv_RX8_69 : aMV RX8 69 mX2_keep 2 1 := ⟨Or.inr ⟨_, (nwm 457 (by rfl) rfl)⟩, (gwm 459 (by rfl) rfl), (gwm 19 (by rfl) rfl), ⟨(gwm 47 (by rfl) rfl), (gwm 460 (by rfl) rfl), by decide +kernel, by decide +kernel, by decide +kernel⟩, TX2, 3, rfl⟩
set_option maxRecDepth 100000 in
theorem mv_RX8_73 : aMV RX8 73 mX3_append 3 3 := ⟨Or.inr ⟨_, (nwm 462 (by rfl) rfl)⟩, (gwm 464 (by rfl) rfl), (gwm 20 (by rfl) rfl), ⟨(gwm 44 (by rfl) rfl), (gwm 465 (by rfl) rfl), by decide +kernel, by decide +kernel, by decide +kernel⟩, TX3, 4, rfl⟩
set_option maxRecDepth 100000 in
theorem mv_RX8_77 : aMV RX8 77 mX8_isColor 8 1 := ⟨Or.inl (gwm 436 (by rfl) rfl), (gwm 438 (by rfl) rfl), (gwm 16 (by rfl) rfl), ⟨(gwm 42 (by rfl) rfl), (gwm 439 (by rfl) rfl), by decide +kernel, by decide +kernel, by decide +kernel⟩, TX8, 7, rfl⟩
set_option maxRecDepth 100000 in
theorem mv_RX8_91 : aMV RX8 91 mX3_pullOf 3 1 := ⟨Or.inr ⟨_, (nwm 440 (by rfl) rfl)⟩, (gwm 403 (by rfl) rfl), (gwm 12 (by rfl) rfl), ⟨(gwm 44 (by rfl) rfl), (gwm 404 (by rfl) rfl), by decide +kernel, by decide +kernel, by decide +kernel⟩, TX3, 4, rfl⟩
set_option maxRecDepth 100000 in
theorem mv_RX8_98 : aMV RX8 98 mX5_layersOfColor 5 1 := ⟨Or.inr ⟨_, (nwm 441 (by rfl) rfl)⟩, (gwm 443 (by rfl) rfl), (gwm 17 (by rfl) rfl), ⟨(gwm 45 (by rfl) rfl), (gwm 444 (by rfl) rfl), by decide +kernel, by decide +kernel, by decide +kernel⟩, TX5, 5, rfl⟩
set_option maxRecDepth 100000 in
theorem mv_RX8_105 : aMV RX8 105 mX7_timesOfColor 7 1 := ⟨Or.inr ⟨_, (nwm 445 (by rfl) rfl)⟩, (gwm 447 (by rfl) rfl), (gwm 18 (by rfl) rfl), ⟨(gwm 46 (by rfl) rfl), (gwm 448 (by rfl) rfl), by decide +kernel, by decide +kernel, by decide +kernel⟩, TX7, 2, rfl⟩
set_option maxRecDepth 100000 in
theorem ms_RX8_110 : aMS RX8 110 mX8_isField 1 := ⟨Or.inl ⟨(gwm 385 (by rfl) rfl), rfl⟩, (gwm 386 (by rfl) rfl), ⟨(gwm 42 (by rfl) rfl), (gwm 387 (by rfl) rfl), by decide +kernel, by decide +kernel, by decide +kernel⟩⟩
set_option maxRecDepth 100000 in
theorem mv_RX8_113 : aMV RX8 113 mX5_outermostIsRaw 5 1 := ⟨Or.inr ⟨_, (nwm 470 (by rfl) rfl)⟩, (gwm 472 (by rfl) rfl), (gwm 21 (by rfl) rfl), ⟨(gwm 45 (by rfl) rfl), (gwm 473 (by rfl) rfl), by decide +kernel, by decide +kernel, by decide +kernel⟩, TX5, 5, rfl⟩
set_option maxRecDepth 100000 in
theorem mv_RX8_122 : aMV RX8 122 mX5_append 5 2 := ⟨Or.inr ⟨_, (nwm 474 (by rfl) rfl)⟩, (gwm 476 (by rfl) rfl), (gwm 22 (by rfl) rfl), ⟨(gwm 45 (by rfl) rfl), (gwm 477 (by rfl) rfl), by decide +kernel, by decide +kernel, by decide +kernel⟩, TX5, 5, rfl⟩
set_option maxRecDepth 100000 in
theorem mv_RX8_125 : aMV RX8 125 mX5_removeOutermost 5 1 := ⟨Or.inr ⟨_, (nwm 482 (by rfl) rfl)⟩, (gwm 484 (by rfl) rfl), (gwm 23 (by rfl) rfl), ⟨(gwm 45 (by rfl) rfl), (gwm 485 (by rfl) rfl), by decide +kernel, by decide +kernel, by decide +kernel⟩, TX5, 5, rfl⟩
set_option maxRecDepth 100000 in
theorem mv_RX8_128 : aMV RX8 128 mX5_layers 5 0 := ⟨Or.inr ⟨_, (nwm 320 (by rfl) rfl)⟩, (gwm 322 (by rfl) rfl), (gwm 2 (by rfl) rfl), ⟨(gwm 45 (by rfl) rfl), (gwm 323 (by rfl) rfl), by decide +kernel, by decide +kernel, by decide +kernel⟩, TX5, 5, rfl⟩
set_option maxRecDepth 100000 in
theorem mv_RX8_132 : aMV RX8 132 mX5_makeBare 5 0 := ⟨Or.inr ⟨_, (nwm 649 (by rfl) rfl)⟩, (gwm 651 (by rfl) rfl), (gwm 40 (by rfl) rfl), ⟨(gwm 45 (by rfl) rfl), (gwm 652 (by rfl) rfl), by decide +kernel, by decide +kernel, by decide +kernel⟩, TX5, 5, rfl⟩
set_option maxRecDepth 100000 in
theorem ms_RX8_135 : aMS RX8 135 mX8_placeOf 2 := ⟨Or.inl ⟨(gwm 388 (by rfl) rfl), rfl⟩, (gwm 318 (by rfl) rfl), ⟨(gwm 42 (by rfl) rfl), (gwm 319 (by rfl) rfl), by decide +kernel, by decide +kernel, by decide +kernel⟩⟩
set_option maxRecDepth 100000 in
theorem mv_RX8_147 : aMV RX8 147 mX5_pullOf 5 2 := ⟨Or.inr ⟨_, (nwm 393 (by rfl) rfl)⟩, (gwm 395 (by rfl) rfl), (gwm 10 (by rfl) rfl), ⟨(gwm 45 (by rfl) rfl), (gwm 396 (by rfl) rfl), by decide +kernel, by decide +kernel, by decide +kernel⟩, TX5, 5, rfl⟩
set_option maxRecDepth 100000 in
theorem mv_RX8_150 : aMV RX8 150 mX5_strainOf 5 2 := ⟨Or.inr ⟨_, (nwm 405 (by rfl) rfl)⟩, (gwm 407 (by rfl) rfl), (gwm 13 (by rfl) rfl), ⟨(gwm 45 (by rfl) rfl), (gwm 408 (by rfl) rfl), by decide +kernel, by decide +kernel, by decide +kernel⟩, TX5, 5, rfl⟩
set_option maxRecDepth 100000 in
theorem mv_RX8_156 : aMV RX8 156 mX5_heatThatMelts 5 2 := ⟨Or.inr ⟨_, (nwm 413 (by rfl) rfl)⟩, (gwm 415 (by rfl) rfl), (gwm 14 (by rfl) rfl), ⟨(gwm 45 (by rfl) rfl), (gwm 416 (by rfl) rfl), by decide +kernel, by decide +kernel, by decide +kernel⟩, TX5, 5, rfl⟩
set_option maxRecDepth 100000 in
theorem mv_RX8_159 : aMV RX8 159 mX5_heatThatSpares 5 2 := ⟨Or.inr ⟨_, (nwm 420 (by rfl) rfl)⟩, (gwm 422 (by rfl) rfl), (gwm 15 (by rfl) rfl), ⟨(gwm 45 (by rfl) rfl), (gwm 423 (by rfl) rfl), by decide +kernel, by decide +kernel, by decide +kernel⟩, TX5, 5, rfl⟩
set_option maxRecDepth 100000 in
theorem mv_RX8_171 : aMV RX8 171 mX5_layersOfState 5 1 := ⟨Or.inr ⟨_, (nwm 309 (by rfl) rfl)⟩, (gwm 311 (by rfl) rfl), (gwm 0 (by rfl) rfl), ⟨(gwm 45 (by rfl) rfl), (gwm 312 (by rfl) rfl), by decide +kernel, by decide +kernel, by decide +kernel⟩, TX5, 5, rfl⟩
set_option maxRecDepth 100000 in
theorem mv_RX8_174 : aMV RX8 174 mX5_crackedFields 5 0 := ⟨Or.inr ⟨_, (nwm 324 (by rfl) rfl)⟩, (gwm 326 (by rfl) rfl), (gwm 3 (by rfl) rfl), ⟨(gwm 45 (by rfl) rfl), (gwm 327 (by rfl) rfl), by decide +kernel, by decide +kernel, by decide +kernel⟩, TX5, 5, rfl⟩
set_option maxRecDepth 100000 in
theorem mv_RX8_177 : aMV RX8 177 mX7_colorsTogether 7 0 := ⟨Or.inr ⟨_, (nwm 328 (by rfl) rfl)⟩, (gwm 330 (by rfl) rfl), (gwm 4 (by rfl) rfl), ⟨(gwm 46 (by rfl) rfl), (gwm 331 (by rfl) rfl), by decide +kernel, by decide +kernel, by decide +kernel⟩, TX7, 2, rfl⟩
set_option maxRecDepth 100000 in
theorem mv_RX8_184 : aMV RX8 184 mX1_happen 1 4 := ⟨Or.inr ⟨_, (nwm 498 (by rfl) rfl)⟩, (gwm 500 (by rfl) rfl), (gwm 24 (by rfl) rfl), ⟨(gwm 48 (by rfl) rfl), (gwm 501 (by rfl) rfl), by decide +kernel, by decide +kernel, by decide +kernel⟩, TX1, 6, rfl⟩
set_option maxRecDepth 100000 in
theorem mv_RX8_202 : aMV RX8 202 mX8_tryHeat 8 1 := ⟨Or.inl (gwm 529 (by rfl) rfl), (gwm 531 (by rfl) rfl), (gwm 30 (by rfl) rfl), ⟨(gwm 42 (by rfl) rfl), (gwm 532 (by rfl) rfl), by decide +kernel, by decide +kernel, by decide +kernel⟩, TX8, 7, rfl⟩
set_option maxRecDepth 100000 in
theorem ms_RX8_206 : aMS RX8 206 mX8_isFrontField 1 := ⟨Or.inl ⟨(gwm 429 (by rfl) rfl), rfl⟩, (gwm 430 (by rfl) rfl), ⟨(gwm 42 (by rfl) rfl), (gwm 431 (by rfl) rfl), by decide +kernel, by decide +kernel, by decide +kernel⟩⟩
set_option maxRecDepth 100000 in
theorem mv_RX8_210 : aMV RX8 210 mX7_append 7 2 := ⟨Or.inr ⟨_, (nwm 538 (by rfl) rfl)⟩, (gwm 540 (by rfl) rfl), (gwm 31 (by rfl) rfl), ⟨(gwm 46 (by rfl) rfl), (gwm 541 (by rfl) rfl), by decide +kernel, by decide +kernel, by decide +kernel⟩, TX7, 2, rfl⟩
set_option maxRecDepth 100000 in
theorem mv_RX8_214 : aMV RX8 214 mX8_bringPlanUpToDate 8 0 := ⟨Or.inl (gwm 546 (by rfl) rfl), (gwm 548 (by rfl) rfl), (gwm 32 (by rfl) rfl), ⟨(gwm 42 (by rfl) rfl), (gwm 549 (by rfl) rfl), by decide +kernel, by decide +kernel, by decide +kernel⟩, TX8, 7, rfl⟩
set_option maxRecDepth 100000 in
theorem mv_RX8_227 : aMV RX8 227 mX5_greatestStrainWith 5 2 := ⟨Or.inr ⟨_, (nwm 638 (by rfl) rfl)⟩, (gwm 640 (by rfl) rfl), (gwm 39 (by rfl) rfl), ⟨(gwm 45 (by rfl) rfl), (gwm 641 (by rfl) rfl), by decide +kernel, by decide +kernel, by decide +kernel⟩, TX5, 5, rfl⟩
set_option maxRecDepth 100000 in
theorem mv_RX8_230 : aMV RX8 230 mX2_restore 2 1 := ⟨Or.inr ⟨_, (nwm 336 (by rfl) rfl)⟩, (gwm 338 (by rfl) rfl), (gwm 5 (by rfl) rfl), ⟨(gwm 47 (by rfl) rfl), (gwm 339 (by rfl) rfl), by decide +kernel, by decide +kernel, by decide +kernel⟩, TX2, 3, rfl⟩
set_option maxRecDepth 100000 in
theorem mv_RX8_233 : aMV RX8 233 mX6_append 6 1 := ⟨Or.inr ⟨_, (nwm 581 (by rfl) rfl)⟩, (gwm 583 (by rfl) rfl), (gwm 36 (by rfl) rfl), ⟨(gwm 50 (by rfl) rfl), (gwm 584 (by rfl) rfl), by decide +kernel, by decide +kernel, by decide +kernel⟩, TX6, 4, rfl⟩
set_option maxRecDepth 100000 in
theorem mv_RX8_236 : aMV RX8 236 mX6_lookForFault 6 1 := ⟨Or.inr ⟨_, (nwm 589 (by rfl) rfl)⟩, (gwm 591 (by rfl) rfl), (gwm 37 (by rfl) rfl), ⟨(gwm 50 (by rfl) rfl), (gwm 592 (by rfl) rfl), by decide +kernel, by decide +kernel, by decide +kernel⟩, TX6, 4, rfl⟩
set_option maxRecDepth 100000 in
theorem mv_RX8_239 : aMV RX8 239 mX6_hasFault 6 0 := ⟨Or.inr ⟨_, (nwm 607 (by rfl) rfl)⟩, (gwm 605 (by rfl) rfl), (gwm 38 (by rfl) rfl), ⟨(gwm 50 (by rfl) rfl), (gwm 606 (by rfl) rfl), by decide +kernel, by decide +kernel, by decide +kernel⟩, TX6, 4, rfl⟩
set_option maxRecDepth 100000 in
theorem mv_RX8_253 : aMV RX8 253 mX5_copyFrom 5 1 := ⟨Or.inr ⟨_, (nwm 533 (by rfl) rfl)⟩, (gwm 359 (by rfl) rfl), (gwm 8 (by rfl) rfl), ⟨(gwm 45 (by rfl) rfl), (gwm 360 (by rfl) rfl), by decide +kernel, by decide +kernel, by decide +kernel⟩, TX5, 5, rfl⟩
set_option maxRecDepth 100000 in
theorem mv_RX8_257 : aMV RX8 257 mX4_search 4 2 := ⟨Or.inr ⟨_, (nwm 550 (by rfl) rfl)⟩, (gwm 552 (by rfl) rfl), (gwm 33 (by rfl) rfl), ⟨(gwm 49 (by rfl) rfl), (gwm 553 (by rfl) rfl), by decide +kernel, by decide +kernel, by decide +kernel⟩, TX4, 8, rfl⟩
set_option maxRecDepth 100000 in
theorem jl_RX8_261 : Cond.methodLink RX8 261 Lib.Math.min.name ∈ GW := (gwm 351 (by rfl) rfl)
set_option maxRecDepth 100000 in
theorem jl_RX8_266 : Cond.methodLink RX8 266 arraycopyName ∈ GW := (gwm 354 (by rfl) rfl)
set_option maxRecDepth 100000 in
theorem ol_RX0_3 : Cond.methodLink RX0 3 objectInit ∈ GW := (gwm 66 (by rfl) rfl)
set_option maxRecDepth 100000 in
theorem mi_RX0_11 : aMI RX0 11 mX3_init 0 := ⟨Or.inr ⟨_, (nwm 69 (by rfl) rfl)⟩, (gwm 70 (by rfl) rfl), rfl, rfl, ⟨(gwm 44 (by rfl) rfl), (gwm 71 (by rfl) rfl), by decide +kernel, by decide +kernel, by decide +kernel⟩⟩
set_option maxRecDepth 100000 in
theorem mi_RX0_20 : aMI RX0 20 mX5_init 0 := ⟨Or.inr ⟨_, (nwm 99 (by rfl) rfl)⟩, (gwm 100 (by rfl) rfl), rfl, rfl, ⟨(gwm 45 (by rfl) rfl), (gwm 101 (by rfl) rfl), by decide +kernel, by decide +kernel, by decide +kernel⟩⟩
set_option maxRecDepth 100000 in
theorem mi_RX0_27 : aMI RX0 27 mX7_init 0 := ⟨Or.inr ⟨_, (nwm 131 (by rfl) rfl)⟩, (gwm 132 (by rfl) rfl), rfl, rfl, ⟨(gwm 46 (by rfl) rfl), (gwm 133 (by rfl) rfl), by decide +kernel, by decide +kernel, by decide +kernel⟩⟩
set_option maxRecDepth 100000 in
theorem mv_RX0_39 : aMV RX0 39 mX3_copyFrom 3 1 := ⟨Or.inr ⟨_, (nwm 344 (by rfl) rfl)⟩, (gwm 346 (by rfl) rfl), (gwm 7 (by rfl) rfl), ⟨(gwm 44 (by rfl) rfl), (gwm 347 (by rfl) rfl), by decide +kernel, by decide +kernel, by decide +kernel⟩, TX3, 4, rfl⟩
set_option maxRecDepth 100000 in
theorem mv_RX0_43 : aMV RX0 43 mX5_copyFrom 5 1 := ⟨Or.inr ⟨_, (nwm 357 (by rfl) rfl)⟩, (gwm 359 (by rfl) rfl), (gwm 8 (by rfl) rfl), ⟨(gwm 45 (by rfl) rfl), (gwm 360 (by rfl) rfl), by decide +kernel, by decide +kernel, by decide +kernel⟩, TX5, 5, rfl⟩
set_option maxRecDepth 100000 in
theorem mv_RX0_46 : aMV RX0 46 mX7_copyFrom 7 1 := ⟨Or.inr ⟨_, (nwm 362 (by rfl) rfl)⟩, (gwm 364 (by rfl) rfl), (gwm 9 (by rfl) rfl), ⟨(gwm 46 (by rfl) rfl), (gwm 365 (by rfl) rfl), by decide +kernel, by decide +kernel, by decide +kernel⟩, TX7, 2, rfl⟩
set_option maxRecDepth 100000 in
theorem ms_RX0_49 : aMS RX0 49 mX8_copyRow 2 := ⟨Or.inr ⟨_, (nwm 367 (by rfl) rfl)⟩, (gwm 349 (by rfl) rfl), ⟨(gwm 42 (by rfl) rfl), (gwm 350 (by rfl) rfl), by decide +kernel, by decide +kernel, by decide +kernel⟩⟩
set_option maxRecDepth 100000 in
theorem ol_RX1_3 : Cond.methodLink RX1 3 objectInit ∈ GW := (gwm 194 (by rfl) rfl)
set_option maxRecDepth 100000 in
theorem ms_RX1_42 : aMS RX1 42 mX8_placeOf 2 := ⟨Or.inr ⟨_, (nwm 502 (by rfl) rfl)⟩, (gwm 318 (by rfl) rfl), ⟨(gwm 42 (by rfl) rfl), (gwm 319 (by rfl) rfl), by decide +kernel, by decide +kernel, by decide +kernel⟩⟩
set_option maxRecDepth 100000 in
theorem mv_RX1_46 : aMV RX1 46 mX1_heatLayer 1 5 := ⟨Or.inl (gwm 503 (by rfl) rfl), (gwm 505 (by rfl) rfl), (gwm 25 (by rfl) rfl), ⟨(gwm 48 (by rfl) rfl), (gwm 506 (by rfl) rfl), by decide +kernel, by decide +kernel, by decide +kernel⟩, TX1, 6, rfl⟩
set_option maxRecDepth 100000 in
theorem mv_RX1_50 : aMV RX1 50 mX1_mendField 1 2 := ⟨Or.inl (gwm 512 (by rfl) rfl), (gwm 514 (by rfl) rfl), (gwm 27 (by rfl) rfl), ⟨(gwm 48 (by rfl) rfl), (gwm 515 (by rfl) rfl), by decide +kernel, by decide +kernel, by decide +kernel⟩, TX1, 6, rfl⟩
set_option maxRecDepth 100000 in
theorem mv_RX1_54 : aMV RX1 54 mX1_coolField 1 3 := ⟨Or.inl (gwm 516 (by rfl) rfl), (gwm 518 (by rfl) rfl), (gwm 28 (by rfl) rfl), ⟨(gwm 48 (by rfl) rfl), (gwm 519 (by rfl) rfl), by decide +kernel, by decide +kernel, by decide +kernel⟩, TX1, 6, rfl⟩
set_option maxRecDepth 100000 in
theorem mv_RX1_76 : aMV RX1 76 mX5_holdsOn 5 1 := ⟨Or.inr ⟨_, (nwm 507 (by rfl) rfl)⟩, (gwm 399 (by rfl) rfl), (gwm 11 (by rfl) rfl), ⟨(gwm 45 (by rfl) rfl), (gwm 400 (by rfl) rfl), by decide +kernel, by decide +kernel, by decide +kernel⟩, TX5, 5, rfl⟩
set_option maxRecDepth 100000 in
theorem mv_RX1_80 : aMV RX1 80 mX1_soften 1 3 := ⟨Or.inl (gwm 508 (by rfl) rfl), (gwm 510 (by rfl) rfl), (gwm 26 (by rfl) rfl), ⟨(gwm 48 (by rfl) rfl), (gwm 511 (by rfl) rfl), by decide +kernel, by decide +kernel, by decide +kernel⟩, TX1, 6, rfl⟩
set_option maxRecDepth 100000 in
theorem mv_RX1_89 : aMV RX1 89 mX5_hasHold 5 1 := ⟨Or.inr ⟨_, (nwm 520 (by rfl) rfl)⟩, (gwm 522 (by rfl) rfl), (gwm 29 (by rfl) rfl), ⟨(gwm 45 (by rfl) rfl), (gwm 523 (by rfl) rfl), by decide +kernel, by decide +kernel, by decide +kernel⟩, TX5, 5, rfl⟩
set_option maxRecDepth 100000 in
theorem mv_RX1_92 : aMV RX1 92 mX5_strainOf 5 2 := ⟨Or.inr ⟨_, (nwm 524 (by rfl) rfl)⟩, (gwm 407 (by rfl) rfl), (gwm 13 (by rfl) rfl), ⟨(gwm 45 (by rfl) rfl), (gwm 408 (by rfl) rfl), by decide +kernel, by decide +kernel, by decide +kernel⟩, TX5, 5, rfl⟩
set_option maxRecDepth 100000 in
theorem ol_RX2_3 : Cond.methodLink RX2 3 objectInit ∈ GW := (gwm 174 (by rfl) rfl)
set_option maxRecDepth 100000 in
theorem mi_RX2_11 : aMI RX2 11 mX0_init 0 := ⟨Or.inr ⟨_, (nwm 177 (by rfl) rfl)⟩, (gwm 64 (by rfl) rfl), rfl, rfl, ⟨(gwm 43 (by rfl) rfl), (gwm 65 (by rfl) rfl), by decide +kernel, by decide +kernel, by decide +kernel⟩⟩
set_option maxRecDepth 100000 in
theorem mv_RX2_25 : aMV RX2 25 mX0_copyFrom 0 1 := ⟨Or.inr ⟨_, (nwm 340 (by rfl) rfl)⟩, (gwm 342 (by rfl) rfl), (gwm 6 (by rfl) rfl), ⟨(gwm 43 (by rfl) rfl), (gwm 343 (by rfl) rfl), by decide +kernel, by decide +kernel, by decide +kernel⟩, TX0, 5, rfl⟩
set_option maxRecDepth 100000 in
theorem jl_RX2_29 : Cond.methodLink RX2 29 Lib.Math.min.name ∈ GW := (gwm 461 (by rfl) rfl)
set_option maxRecDepth 100000 in
theorem ol_RX3_3 : Cond.methodLink RX3 3 objectInit ∈ GW := (gwm 72 (by rfl) rfl)
set_option maxRecDepth 100000 in
theorem ms_RX3_25 : aMS RX3 25 mX8_copyRow 2 := ⟨Or.inr ⟨_, (nwm 348 (by rfl) rfl)⟩, (gwm 349 (by rfl) rfl), ⟨(gwm 42 (by rfl) rfl), (gwm 350 (by rfl) rfl), by decide +kernel, by decide +kernel, by decide +kernel⟩⟩
set_option maxRecDepth 100000 in
theorem ol_RX4_5 : Cond.methodLink RX4 5 objectInit ∈ GW := (gwm 227 (by rfl) rfl)
set_option maxRecDepth 100000 in
theorem ms_RX4_38 : aMS RX4 38 mX4_lastStage 1 := ⟨Or.inl ⟨(gwm 554 (by rfl) rfl), rfl⟩, (gwm 555 (by rfl) rfl), ⟨(gwm 49 (by rfl) rfl), (gwm 556 (by rfl) rfl), by decide +kernel, by decide +kernel, by decide +kernel⟩⟩
set_option maxRecDepth 100000 in
theorem ms_RX4_42 : aMS RX4 42 mX4_isStage 2 := ⟨Or.inl ⟨(gwm 557 (by rfl) rfl), rfl⟩, (gwm 558 (by rfl) rfl), ⟨(gwm 49 (by rfl) rfl), (gwm 559 (by rfl) rfl), by decide +kernel, by decide +kernel, by decide +kernel⟩⟩
set_option maxRecDepth 100000 in
theorem mv_RX4_46 : aMV RX4 46 mX4_bestSet 4 3 := ⟨Or.inl (gwm 563 (by rfl) rfl), (gwm 565 (by rfl) rfl), (gwm 34 (by rfl) rfl), ⟨(gwm 49 (by rfl) rfl), (gwm 566 (by rfl) rfl), by decide +kernel, by decide +kernel, by decide +kernel⟩, TX4, 8, rfl⟩
set_option maxRecDepth 100000 in
theorem ms_RX4_55 : aMS RX4 55 mX4_layersAt 2 := ⟨Or.inl ⟨(gwm 560 (by rfl) rfl), rfl⟩, (gwm 561 (by rfl) rfl), ⟨(gwm 49 (by rfl) rfl), (gwm 562 (by rfl) rfl), by decide +kernel, by decide +kernel, by decide +kernel⟩⟩
set_option maxRecDepth 100000 in
theorem mv_RX4_59 : aMV RX4 59 mX4_lookAtNext 4 3 := ⟨Or.inl (gwm 567 (by rfl) rfl), (gwm 569 (by rfl) rfl), (gwm 35 (by rfl) rfl), ⟨(gwm 49 (by rfl) rfl), (gwm 570 (by rfl) rfl), by decide +kernel, by decide +kernel, by decide +kernel⟩, TX4, 8, rfl⟩
set_option maxRecDepth 100000 in
theorem ms_RX4_62 : aMS RX4 62 mX4_burningOfPut 3 := ⟨Or.inl ⟨(gwm 572 (by rfl) rfl), rfl⟩, (gwm 573 (by rfl) rfl), ⟨(gwm 49 (by rfl) rfl), (gwm 574 (by rfl) rfl), by decide +kernel, by decide +kernel, by decide +kernel⟩⟩
set_option maxRecDepth 100000 in
theorem jl_RX4_65 : Cond.methodLink RX4 65 Lib.Math.max.name ∈ GW := (gwm 576 (by rfl) rfl)
set_option maxRecDepth 100000 in
theorem jl_RX4_70 : Cond.methodLink RX4 70 Lib.Math.min.name ∈ GW := (gwm 575 (by rfl) rfl)
set_option maxRecDepth 100000 in
theorem ms_RX4_76 : aMS RX4 76 mX8_placeOf 2 := ⟨Or.inr ⟨_, (nwm 571 (by rfl) rfl)⟩, (gwm 318 (by rfl) rfl), ⟨(gwm 42 (by rfl) rfl), (gwm 319 (by rfl) rfl), by decide +kernel, by decide +kernel, by decide +kernel⟩⟩
set_option maxRecDepth 100000 in
theorem ol_RX5_3 : Cond.methodLink RX5 3 objectInit ∈ GW := (gwm 102 (by rfl) rfl)
set_option maxRecDepth 100000 in
theorem ms_RX5_27 : aMS RX5 27 mX8_placeOf 2 := ⟨Or.inr ⟨_, (nwm 317 (by rfl) rfl)⟩, (gwm 318 (by rfl) rfl), ⟨(gwm 42 (by rfl) rfl), (gwm 319 (by rfl) rfl), by decide +kernel, by decide +kernel, by decide +kernel⟩⟩
set_option maxRecDepth 100000 in
theorem mv_RX5_31 : aMV RX5 31 mX5_layersWith 5 2 := ⟨Or.inl (gwm 313 (by rfl) rfl), (gwm 315 (by rfl) rfl), (gwm 1 (by rfl) rfl), ⟨(gwm 45 (by rfl) rfl), (gwm 316 (by rfl) rfl), by decide +kernel, by decide +kernel, by decide +kernel⟩, TX5, 5, rfl⟩
set_option maxRecDepth 100000 in
theorem mv_RX5_35 : aMV RX5 35 mX5_holdsOn 5 1 := ⟨Or.inl (gwm 397 (by rfl) rfl), (gwm 399 (by rfl) rfl), (gwm 11 (by rfl) rfl), ⟨(gwm 45 (by rfl) rfl), (gwm 400 (by rfl) rfl), by decide +kernel, by decide +kernel, by decide +kernel⟩, TX5, 5, rfl⟩
set_option maxRecDepth 100000 in
theorem mv_RX5_39 : aMV RX5 39 mX3_pullOf 3 1 := ⟨Or.inr ⟨_, (nwm 401 (by rfl) rfl)⟩, (gwm 403 (by rfl) rfl), (gwm 12 (by rfl) rfl), ⟨(gwm 44 (by rfl) rfl), (gwm 404 (by rfl) rfl), by decide +kernel, by decide +kernel, by decide +kernel⟩, TX3, 4, rfl⟩
set_option maxRecDepth 100000 in
theorem mv_RX5_45 : aMV RX5 45 mX5_pullOf 5 2 := ⟨Or.inl (gwm 409 (by rfl) rfl), (gwm 395 (by rfl) rfl), (gwm 10 (by rfl) rfl), ⟨(gwm 45 (by rfl) rfl), (gwm 396 (by rfl) rfl), by decide +kernel, by decide +kernel, by decide +kernel⟩, TX5, 5, rfl⟩
set_option maxRecDepth 100000 in
theorem jl_RX5_48 : Cond.methodLink RX5 48 Lib.Math.abs.name ∈ GW := (gwm 410 (by rfl) rfl)
set_option maxRecDepth 100000 in
theorem jl_RX5_53 : Cond.methodLink RX5 53 Lib.Math.max.name ∈ GW := (gwm 417 (by rfl) rfl)
set_option maxRecDepth 100000 in
theorem jl_RX5_62 : Cond.methodLink RX5 62 Lib.Math.min.name ∈ GW := (gwm 424 (by rfl) rfl)
set_option maxRecDepth 100000 in
theorem ms_RX5_65 : aMS RX5 65 mX8_copyRow 2 := ⟨Or.inr ⟨_, (nwm 361 (by rfl) rfl)⟩, (gwm 349 (by rfl) rfl), ⟨(gwm 42 (by rfl) rfl), (gwm 350 (by rfl) rfl), by decide +kernel, by decide +kernel, by decide +kernel⟩⟩
set_option maxRecDepth 100000 in
theorem ol_RX6_3 : Cond.methodLink RX6 3 objectInit ∈ GW := (gwm 262 (by rfl) rfl)
set_option maxRecDepth 100000 in
theorem ms_RX6_25 : aMS RX6 25 mX6_reasonOf 3 := ⟨Or.inl ⟨(gwm 593 (by rfl) rfl), rfl⟩, (gwm 594 (by rfl) rfl), ⟨(gwm 50 (by rfl) rfl), (gwm 595 (by rfl) rfl), by decide +kernel, by decide +kernel, by decide +kernel⟩⟩
set_option maxRecDepth 100000 in
theorem mv_RX6_29 : aMV RX6 29 mX6_hasFault 6 0 := ⟨Or.inl (gwm 603 (by rfl) rfl), (gwm 605 (by rfl) rfl), (gwm 38 (by rfl) rfl), ⟨(gwm 50 (by rfl) rfl), (gwm 606 (by rfl) rfl), by decide +kernel, by decide +kernel, by decide +kernel⟩, TX6, 4, rfl⟩
set_option maxRecDepth 100000 in
theorem ms_RX6_33 : aMS RX6 33 mX6_isFieldDigit 1 := ⟨Or.inl ⟨(gwm 596 (by rfl) rfl), rfl⟩, (gwm 597 (by rfl) rfl), ⟨(gwm 50 (by rfl) rfl), (gwm 598 (by rfl) rfl), by decide +kernel, by decide +kernel, by decide +kernel⟩⟩
set_option maxRecDepth 100000 in
theorem ms_RX6_37 : aMS RX6 37 mX6_isLetter 1 := ⟨Or.inl ⟨(gwm 600 (by rfl) rfl), rfl⟩, (gwm 601 (by rfl) rfl), ⟨(gwm 50 (by rfl) rfl), (gwm 602 (by rfl) rfl), by decide +kernel, by decide +kernel, by decide +kernel⟩⟩
set_option maxRecDepth 100000 in
theorem ms_RX6_40 : aMS RX6 40 mX8_within 3 := ⟨Or.inr ⟨_, (nwm 599 (by rfl) rfl)⟩, (gwm 307 (by rfl) rfl), ⟨(gwm 42 (by rfl) rfl), (gwm 308 (by rfl) rfl), by decide +kernel, by decide +kernel, by decide +kernel⟩⟩
set_option maxRecDepth 100000 in
theorem ol_RX7_3 : Cond.methodLink RX7 3 objectInit ∈ GW := (gwm 134 (by rfl) rfl)
set_option maxRecDepth 100000 in
theorem ms_RX7_18 : aMS RX7 18 mX8_placeOf 2 := ⟨Or.inr ⟨_, (nwm 449 (by rfl) rfl)⟩, (gwm 318 (by rfl) rfl), ⟨(gwm 42 (by rfl) rfl), (gwm 319 (by rfl) rfl), by decide +kernel, by decide +kernel, by decide +kernel⟩⟩
set_option maxRecDepth 100000 in
theorem ms_RX7_22 : aMS RX7 22 mX8_copyRow 2 := ⟨Or.inr ⟨_, (nwm 366 (by rfl) rfl)⟩, (gwm 349 (by rfl) rfl), ⟨(gwm 42 (by rfl) rfl), (gwm 350 (by rfl) rfl), by decide +kernel, by decide +kernel, by decide +kernel⟩⟩
set_option maxRecDepth 100000 in
theorem mv_RL_13 : aMV RL 13 mX8_count 8 1 := ⟨Or.inl (gwm 302 (by rfl) rfl), (gwm 303 (by rfl) rfl), (gwm 304 (by rfl) rfl), ⟨(gwm 42 (by rfl) rfl), (gwm 305 (by rfl) rfl), by decide +kernel, by decide +kernel, by decide +kernel⟩, TX8, 7, rfl⟩
set_option maxRecDepth 100000 in
theorem mv_RL_19 : aMV RL 19 mX8_layer 8 3 := ⟨Or.inl (gwm 381 (by rfl) rfl), (gwm 382 (by rfl) rfl), (gwm 383 (by rfl) rfl), ⟨(gwm 42 (by rfl) rfl), (gwm 384 (by rfl) rfl), by decide +kernel, by decide +kernel, by decide +kernel⟩, TX8, 7, rfl⟩
set_option maxRecDepth 100000 in
theorem mv_RL_23 : aMV RL 23 mX8_field 8 2 := ⟨Or.inl (gwm 389 (by rfl) rfl), (gwm 390 (by rfl) rfl), (gwm 391 (by rfl) rfl), ⟨(gwm 42 (by rfl) rfl), (gwm 392 (by rfl) rfl), by decide +kernel, by decide +kernel, by decide +kernel⟩, TX8, 7, rfl⟩
set_option maxRecDepth 100000 in
theorem mv_RL_27 : aMV RL 27 mX8_wished 8 2 := ⟨Or.inl (gwm 425 (by rfl) rfl), (gwm 426 (by rfl) rfl), (gwm 427 (by rfl) rfl), ⟨(gwm 42 (by rfl) rfl), (gwm 428 (by rfl) rfl), by decide +kernel, by decide +kernel, by decide +kernel⟩, TX8, 7, rfl⟩
set_option maxRecDepth 100000 in
theorem mv_RL_30 : aMV RL 30 mX8_colorInfo 8 2 := ⟨Or.inl (gwm 432 (by rfl) rfl), (gwm 433 (by rfl) rfl), (gwm 434 (by rfl) rfl), ⟨(gwm 42 (by rfl) rfl), (gwm 435 (by rfl) rfl), by decide +kernel, by decide +kernel, by decide +kernel⟩, TX8, 7, rfl⟩
set_option maxRecDepth 100000 in
theorem ms_RL_33 : aMS RL 33 mL_print 1 := ⟨Or.inl ⟨(gwm 376 (by rfl) rfl), rfl⟩, (gwm 377 (by rfl) rfl), ⟨(gwm 41 (by rfl) rfl), (gwm 378 (by rfl) rfl), by decide +kernel, by decide +kernel, by decide +kernel⟩⟩
set_option maxRecDepth 100000 in
theorem mv_RL_39 : aMV RL 39 mX8_color 8 3 := ⟨Or.inl (gwm 453 (by rfl) rfl), (gwm 454 (by rfl) rfl), (gwm 455 (by rfl) rfl), ⟨(gwm 42 (by rfl) rfl), (gwm 456 (by rfl) rfl), by decide +kernel, by decide +kernel, by decide +kernel⟩, TX8, 7, rfl⟩
set_option maxRecDepth 100000 in
theorem mv_RL_42 : aMV RL 42 mX8_put 8 2 := ⟨Or.inl (gwm 466 (by rfl) rfl), (gwm 467 (by rfl) rfl), (gwm 468 (by rfl) rfl), ⟨(gwm 42 (by rfl) rfl), (gwm 469 (by rfl) rfl), by decide +kernel, by decide +kernel, by decide +kernel⟩, TX8, 7, rfl⟩
set_option maxRecDepth 100000 in
theorem mv_RL_45 : aMV RL 45 mX8_takeOff 8 1 := ⟨Or.inl (gwm 478 (by rfl) rfl), (gwm 479 (by rfl) rfl), (gwm 480 (by rfl) rfl), ⟨(gwm 42 (by rfl) rfl), (gwm 481 (by rfl) rfl), by decide +kernel, by decide +kernel, by decide +kernel⟩, TX8, 7, rfl⟩
set_option maxRecDepth 100000 in
theorem mv_RL_48 : aMV RL 48 mX8_set 8 2 := ⟨Or.inl (gwm 486 (by rfl) rfl), (gwm 487 (by rfl) rfl), (gwm 488 (by rfl) rfl), ⟨(gwm 42 (by rfl) rfl), (gwm 489 (by rfl) rfl), by decide +kernel, by decide +kernel, by decide +kernel⟩, TX8, 7, rfl⟩
set_option maxRecDepth 100000 in
theorem mv_RL_51 : aMV RL 51 mX8_fire 8 2 := ⟨Or.inl (gwm 494 (by rfl) rfl), (gwm 495 (by rfl) rfl), (gwm 496 (by rfl) rfl), ⟨(gwm 42 (by rfl) rfl), (gwm 497 (by rfl) rfl), by decide +kernel, by decide +kernel, by decide +kernel⟩, TX8, 7, rfl⟩
set_option maxRecDepth 100000 in
theorem mv_RL_54 : aMV RL 54 mX8_ifFired 8 2 := ⟨Or.inl (gwm 525 (by rfl) rfl), (gwm 526 (by rfl) rfl), (gwm 527 (by rfl) rfl), ⟨(gwm 42 (by rfl) rfl), (gwm 528 (by rfl) rfl), by decide +kernel, by decide +kernel, by decide +kernel⟩, TX8, 7, rfl⟩
set_option maxRecDepth 100000 in
theorem mv_RL_57 : aMV RL 57 mX8_wish 8 2 := ⟨Or.inl (gwm 534 (by rfl) rfl), (gwm 535 (by rfl) rfl), (gwm 536 (by rfl) rfl), ⟨(gwm 42 (by rfl) rfl), (gwm 537 (by rfl) rfl), by decide +kernel, by decide +kernel, by decide +kernel⟩, TX8, 7, rfl⟩
set_option maxRecDepth 100000 in
theorem mv_RL_60 : aMV RL 60 mX8_planned 8 2 := ⟨Or.inl (gwm 542 (by rfl) rfl), (gwm 543 (by rfl) rfl), (gwm 544 (by rfl) rfl), ⟨(gwm 42 (by rfl) rfl), (gwm 545 (by rfl) rfl), by decide +kernel, by decide +kernel, by decide +kernel⟩, TX8, 7, rfl⟩
set_option maxRecDepth 100000 in
theorem mv_RL_63 : aMV RL 63 mX8_type 8 1 := ⟨Or.inl (gwm 577 (by rfl) rfl), (gwm 578 (by rfl) rfl), (gwm 579 (by rfl) rfl), ⟨(gwm 42 (by rfl) rfl), (gwm 580 (by rfl) rfl), by decide +kernel, by decide +kernel, by decide +kernel⟩, TX8, 7, rfl⟩
set_option maxRecDepth 100000 in
theorem mv_RL_66 : aMV RL 66 mX8_fault 8 1 := ⟨Or.inl (gwm 585 (by rfl) rfl), (gwm 586 (by rfl) rfl), (gwm 587 (by rfl) rfl), ⟨(gwm 42 (by rfl) rfl), (gwm 588 (by rfl) rfl), by decide +kernel, by decide +kernel, by decide +kernel⟩, TX8, 7, rfl⟩
set_option maxRecDepth 100000 in
theorem ms_RL_69 : aMS RL 69 mL_size 1 := ⟨Or.inl ⟨(gwm 611 (by rfl) rfl), rfl⟩, (gwm 612 (by rfl) rfl), ⟨(gwm 41 (by rfl) rfl), (gwm 613 (by rfl) rfl), by decide +kernel, by decide +kernel, by decide +kernel⟩⟩
set_option maxRecDepth 100000 in
theorem ms_RL_72 : aMS RL 72 mL_areLayers 1 := ⟨Or.inl ⟨(gwm 608 (by rfl) rfl), rfl⟩, (gwm 609 (by rfl) rfl), ⟨(gwm 41 (by rfl) rfl), (gwm 610 (by rfl) rfl), by decide +kernel, by decide +kernel, by decide +kernel⟩⟩
set_option maxRecDepth 100000 in
theorem mv_RL_76 : aMV RL 76 mX8_undo 8 0 := ⟨Or.inl (gwm 332 (by rfl) rfl), (gwm 333 (by rfl) rfl), (gwm 334 (by rfl) rfl), ⟨(gwm 42 (by rfl) rfl), (gwm 335 (by rfl) rfl), by decide +kernel, by decide +kernel, by decide +kernel⟩, TX8, 7, rfl⟩
set_option maxRecDepth 100000 in
theorem mv_RL_80 : aMV RL 80 mX8_bestHeat 8 0 := ⟨Or.inl (gwm 620 (by rfl) rfl), (gwm 621 (by rfl) rfl), (gwm 622 (by rfl) rfl), ⟨(gwm 42 (by rfl) rfl), (gwm 623 (by rfl) rfl), by decide +kernel, by decide +kernel, by decide +kernel⟩, TX8, 7, rfl⟩
set_option maxRecDepth 100000 in
theorem mv_RL_83 : aMV RL 83 mX8_leastFirings 8 0 := ⟨Or.inl (gwm 627 (by rfl) rfl), (gwm 628 (by rfl) rfl), (gwm 629 (by rfl) rfl), ⟨(gwm 42 (by rfl) rfl), (gwm 630 (by rfl) rfl), by decide +kernel, by decide +kernel, by decide +kernel⟩, TX8, 7, rfl⟩
set_option maxRecDepth 100000 in
theorem mv_RL_86 : aMV RL 86 mX8_counter 8 0 := ⟨Or.inl (gwm 634 (by rfl) rfl), (gwm 635 (by rfl) rfl), (gwm 636 (by rfl) rfl), ⟨(gwm 42 (by rfl) rfl), (gwm 637 (by rfl) rfl), by decide +kernel, by decide +kernel, by decide +kernel⟩, TX8, 7, rfl⟩
set_option maxRecDepth 100000 in
theorem ms_RL_89 : aMS RL 89 mL_low 2 := ⟨Or.inl ⟨(gwm 372 (by rfl) rfl), rfl⟩, (gwm 373 (by rfl) rfl), ⟨(gwm 41 (by rfl) rfl), (gwm 374 (by rfl) rfl), by decide +kernel, by decide +kernel, by decide +kernel⟩⟩
set_option maxRecDepth 100000 in
theorem mv_RL_92 : aMV RL 92 mX8_clean 8 0 := ⟨Or.inl (gwm 645 (by rfl) rfl), (gwm 646 (by rfl) rfl), (gwm 647 (by rfl) rfl), ⟨(gwm 42 (by rfl) rfl), (gwm 648 (by rfl) rfl), by decide +kernel, by decide +kernel, by decide +kernel⟩, TX8, 7, rfl⟩
set_option maxRecDepth 100000 in
theorem mi_RL_95 : aMI RL 95 mX8_init 0 := ⟨Or.inl (gwm 55 (by rfl) rfl), (gwm 56 (by rfl) rfl), rfl, rfl, ⟨(gwm 42 (by rfl) rfl), (gwm 57 (by rfl) rfl), by decide +kernel, by decide +kernel, by decide +kernel⟩⟩
set_option maxRecDepth 100000 in
theorem ms_RL_96 : aMS RL 96 mL_refused 1 := ⟨Or.inl ⟨(gwm 450 (by rfl) rfl), rfl⟩, (gwm 451 (by rfl) rfl), ⟨(gwm 41 (by rfl) rfl), (gwm 452 (by rfl) rfl), by decide +kernel, by decide +kernel, by decide +kernel⟩⟩
set_option maxRecDepth 100000 in
theorem ms_RL_99 : aMS RL 99 mL_isPlan 1 := ⟨Or.inl ⟨(gwm 624 (by rfl) rfl), rfl⟩, (gwm 625 (by rfl) rfl), ⟨(gwm 41 (by rfl) rfl), (gwm 626 (by rfl) rfl), by decide +kernel, by decide +kernel, by decide +kernel⟩⟩
set_option maxRecDepth 100000 in
theorem ms_RL_102 : aMS RL 102 mL_isBest 1 := ⟨Or.inl ⟨(gwm 617 (by rfl) rfl), rfl⟩, (gwm 618 (by rfl) rfl), ⟨(gwm 41 (by rfl) rfl), (gwm 619 (by rfl) rfl), by decide +kernel, by decide +kernel, by decide +kernel⟩⟩
set_option maxRecDepth 100000 in
theorem ms_RL_105 : aMS RL 105 mL_isCounter 1 := ⟨Or.inl ⟨(gwm 631 (by rfl) rfl), rfl⟩, (gwm 632 (by rfl) rfl), ⟨(gwm 41 (by rfl) rfl), (gwm 633 (by rfl) rfl), by decide +kernel, by decide +kernel, by decide +kernel⟩⟩
set_option maxRecDepth 100000 in
theorem ms_RL_108 : aMS RL 108 mL_cell 2 := ⟨Or.inl ⟨(gwm 368 (by rfl) rfl), rfl⟩, (gwm 369 (by rfl) rfl), ⟨(gwm 41 (by rfl) rfl), (gwm 370 (by rfl) rfl), by decide +kernel, by decide +kernel, by decide +kernel⟩⟩
set_option maxRecDepth 100000 in
theorem ms_RL_114 : aMS RL 114 mL_acts 3 := ⟨Or.inl ⟨(gwm 642 (by rfl) rfl), rfl⟩, (gwm 643 (by rfl) rfl), ⟨(gwm 41 (by rfl) rfl), (gwm 644 (by rfl) rfl), by decide +kernel, by decide +kernel, by decide +kernel⟩⟩
set_option maxRecDepth 100000 in
theorem ms_RL_118 : aMS RL 118 mL_isFired 2 := ⟨Or.inl ⟨(gwm 614 (by rfl) rfl), rfl⟩, (gwm 615 (by rfl) rfl), ⟨(gwm 41 (by rfl) rfl), (gwm 616 (by rfl) rfl), by decide +kernel, by decide +kernel, by decide +kernel⟩⟩
set_option maxRecDepth 100000 in
theorem jw_max : Cond.static Lib.Math.max.name ∈ GW ∧ Cond.initialized "java/lang/Math" ∈ GW ∧ Cond.code Lib.Math.max.name Lib.Math.max.code 2 (some .int) ∈ GW := ⟨(gwm 418 (by rfl) rfl), (gwm 51 (by rfl) rfl), (gwm 419 (by rfl) rfl)⟩
set_option maxRecDepth 100000 in
theorem jw_min : Cond.static Lib.Math.min.name ∈ GW ∧ Cond.initialized "java/lang/Math" ∈ GW ∧ Cond.code Lib.Math.min.name Lib.Math.min.code 2 (some .int) ∈ GW := ⟨(gwm 352 (by rfl) rfl), (gwm 51 (by rfl) rfl), (gwm 353 (by rfl) rfl)⟩
set_option maxRecDepth 100000 in
theorem jw_abs : Cond.static Lib.Math.abs.name ∈ GW ∧ Cond.initialized "java/lang/Math" ∈ GW ∧ Cond.code Lib.Math.abs.name Lib.Math.abs.code 1 (some .int) ∈ GW := ⟨(gwm 411 (by rfl) rfl), (gwm 51 (by rfl) rfl), (gwm 412 (by rfl) rfl)⟩
set_option maxRecDepth 100000 in
theorem jw_copy : Cond.native arraycopyName ∈ GW ∧ Cond.static arraycopyName ∈ GW ∧ Cond.initialized "java/lang/System" ∈ GW := ⟨(gwm 356 (by rfl) rfl), (gwm 355 (by rfl) rfl), (gwm 52 (by rfl) rfl)⟩
set_option maxRecDepth 100000 in
theorem ow_init : Cond.instanceMethod objectInit ∈ GW ∧ Cond.code objectInit ⟨#[0xb1]⟩ 1 none ∈ GW := ⟨(gwm 59 (by rfl) rfl), (gwm 60 (by rfl) rfl)⟩
set_option maxRecDepth 100000 in
theorem kl_RX8_7 : Cond.classLink RX8 7 RX0 ∈ GW := (gwm 61 (by rfl) rfl)
set_option maxRecDepth 100000 in
theorem kl_RX8_16 : Cond.classLink RX8 16 RX2 ∈ GW := (gwm 169 (by rfl) rfl)
set_option maxRecDepth 100000 in
theorem kl_RX8_23 : Cond.classLink RX8 23 RX1 ∈ GW := (gwm 189 (by rfl) rfl)
set_option maxRecDepth 100000 in
theorem kl_RX8_30 : Cond.classLink RX8 30 RX5 ∈ GW := (gwm 220 (by rfl) rfl)
set_option maxRecDepth 100000 in
theorem kl_RX8_37 : Cond.classLink RX8 37 RX4 ∈ GW := (gwm 222 (by rfl) rfl)
set_option maxRecDepth 100000 in
theorem kl_RX8_44 : Cond.classLink RX8 44 RX6 ∈ GW := (gwm 257 (by rfl) rfl)
set_option maxRecDepth 100000 in
theorem kl_RX0_9 : Cond.classLink RX0 9 RX3 ∈ GW := (gwm 67 (by rfl) rfl)
set_option maxRecDepth 100000 in
theorem kl_RX0_18 : Cond.classLink RX0 18 RX5 ∈ GW := (gwm 97 (by rfl) rfl)
set_option maxRecDepth 100000 in
theorem kl_RX0_25 : Cond.classLink RX0 25 RX7 ∈ GW := (gwm 129 (by rfl) rfl)
set_option maxRecDepth 100000 in
theorem kl_RX2_9 : Cond.classLink RX2 9 RX0 ∈ GW := (gwm 175 (by rfl) rfl)
set_option maxRecDepth 100000 in
theorem kl_RL_14 : Cond.classLink RL 14 RX8 ∈ GW := (gwm 53 (by rfl) rfl)
set_option maxRecDepth 100000 in
theorem ki_RX8 : Cond.instantiable RX8 7 ∈ GW := (gwm 54 (by rfl) rfl)
set_option maxRecDepth 100000 in
theorem kn_RX8 : Cond.initialized RX8 ∈ GW := (gwm 42 (by rfl) rfl)
set_option maxRecDepth 100000 in
theorem ki_RX0 : Cond.instantiable RX0 5 ∈ GW := (gwm 62 (by rfl) rfl)
set_option maxRecDepth 100000 in
theorem kn_RX0 : Cond.initialized RX0 ∈ GW := (gwm 43 (by rfl) rfl)
set_option maxRecDepth 100000 in
theorem ki_RX1 : Cond.instantiable RX1 6 ∈ GW := (gwm 190 (by rfl) rfl)
set_option maxRecDepth 100000 in
theorem kn_RX1 : Cond.initialized RX1 ∈ GW := (gwm 48 (by rfl) rfl)
set_option maxRecDepth 100000 in
theorem ki_RX2 : Cond.instantiable RX2 3 ∈ GW := (gwm 170 (by rfl) rfl)
set_option maxRecDepth 100000 in
theorem kn_RX2 : Cond.initialized RX2 ∈ GW := (gwm 47 (by rfl) rfl)
set_option maxRecDepth 100000 in
theorem ki_RX3 : Cond.instantiable RX3 4 ∈ GW := (gwm 68 (by rfl) rfl)
set_option maxRecDepth 100000 in
theorem kn_RX3 : Cond.initialized RX3 ∈ GW := (gwm 44 (by rfl) rfl)
set_option maxRecDepth 100000 in
theorem ki_RX4 : Cond.instantiable RX4 8 ∈ GW := (gwm 223 (by rfl) rfl)
set_option maxRecDepth 100000 in
theorem kn_RX4 : Cond.initialized RX4 ∈ GW := (gwm 49 (by rfl) rfl)
set_option maxRecDepth 100000 in
theorem ki_RX5 : Cond.instantiable RX5 5 ∈ GW := (gwm 98 (by rfl) rfl)
set_option maxRecDepth 100000 in
theorem kn_RX5 : Cond.initialized RX5 ∈ GW := (gwm 45 (by rfl) rfl)
set_option maxRecDepth 100000 in
theorem ki_RX6 : Cond.instantiable RX6 4 ∈ GW := (gwm 258 (by rfl) rfl)
set_option maxRecDepth 100000 in
theorem kn_RX6 : Cond.initialized RX6 ∈ GW := (gwm 50 (by rfl) rfl)
set_option maxRecDepth 100000 in
theorem ki_RX7 : Cond.instantiable RX7 2 ∈ GW := (gwm 130 (by rfl) rfl)
set_option maxRecDepth 100000 in
theorem kn_RX7 : Cond.initialized RX7 ∈ GW := (gwm 46 (by rfl) rfl)
set_option maxRecDepth 100000 in
theorem ka_boolean : Cond.arrayClass .boolean ∈ GW := (gwm 219 (by rfl) rfl)
set_option maxRecDepth 100000 in
theorem ka_char : Cond.arrayClass .char ∈ GW := (gwm 279 (by rfl) rfl)
set_option maxRecDepth 100000 in
theorem ka_int : Cond.arrayClass .int ∈ GW := (gwm 96 (by rfl) rfl)
set_option maxRecDepth 100000 in
theorem sl_RX8_162 : Cond.fieldLink RX8 162 RX8 "LEAST_SETTING" "[I" ∈ GW := (gwm 490 (by rfl) rfl)
set_option maxRecDepth 100000 in
theorem sl_RX8_165 : Cond.fieldLink RX8 165 RX8 "GREATEST_SETTING" "[I" ∈ GW := (gwm 492 (by rfl) rfl)
end
