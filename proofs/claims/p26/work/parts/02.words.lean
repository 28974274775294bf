theorem tb_app {a b : List Cond} {w : Cond} (h : w ∈ a ++ b) : w ∈ a ∨ w ∈ b := List.mem_append.mp h
theorem tb1_in : ∀ w ∈ tables_1_1, w ∈ lw_tbl := fun w h => List.mem_append_right _ (List.mem_append_left _ h)
theorem tb2_in : ∀ w ∈ tables_1_2, w ∈ lw_tbl := fun w h => List.mem_append_right _ (List.mem_append_right _ (List.mem_append_left _ h))
theorem tb3_in : ∀ w ∈ tables_1_3, w ∈ lw_tbl := fun w h => List.mem_append_right _ (List.mem_append_right _ (List.mem_append_right _ (h)))
theorem tb0_in : ∀ w ∈ k2_sels lw_privs, w ∈ lw_tbl := fun w h => List.mem_append_left _ h
theorem wq_1_0 : Cond.classLink RL 10 RX9 ∈ lw_tbl := tb1_in _ (List.mem_of_getElem? (i := 14) (by decide +kernel))
theorem wq_1_1 : Cond.instantiable RX9 8 ∈ lw_tbl := tb1_in _ (List.mem_of_getElem? (i := 15) (by decide +kernel))
theorem wq_1_2 : Cond.initialized RX9 ∈ lw_tbl := tb1_in _ (List.mem_of_getElem? (i := 1) (by decide +kernel))
theorem wq_1_3 : Cond.methodLink RL 75 yX9_init ∈ lw_tbl := tb1_in _ (List.mem_of_getElem? (i := 16) (by decide +kernel))
theorem wq_1_4 : Cond.instanceMethod yX9_init ∈ lw_tbl := tb1_in _ (List.mem_of_getElem? (i := 17) (by decide +kernel))
theorem wq_1_5 : Cond.code yX9_init cX9_init 1 none ∈ lw_tbl := tb1_in _ (List.mem_of_getElem? (i := 18) (by decide +kernel))
theorem wq_1_6 : Cond.methodLink RX9 3 objectInit ∈ lw_tbl := tb1_in _ (List.mem_of_getElem? (i := 19) (by decide +kernel))
theorem wq_1_7 : Cond.instanceMethod objectInit ∈ lw_tbl := tb1_in _ (List.mem_of_getElem? (i := 20) (by decide +kernel))
theorem wq_1_8 : Cond.code objectInit ⟨#[0xb1]⟩ 1 none ∈ lw_tbl := tb1_in _ (List.mem_of_getElem? (i := 21) (by decide +kernel))
theorem wq_1_9 : Cond.classLink RX9 9 RX2 ∈ lw_tbl := tb1_in _ (List.mem_of_getElem? (i := 22) (by decide +kernel))
theorem wq_1_10 : Cond.instantiable RX2 10 ∈ lw_tbl := tb1_in _ (List.mem_of_getElem? (i := 23) (by decide +kernel))
theorem wq_1_11 : Cond.initialized RX2 ∈ lw_tbl := tb1_in _ (List.mem_of_getElem? (i := 2) (by decide +kernel))
theorem wq_1_12 : Cond.fieldLink RX9 12 "SunMirrors" "field" "LSunMirrors$Field;" ∈ lw_tbl := tb1_in _ (List.mem_of_getElem? (i := 234) (by decide +kernel))
theorem wq_1_13 : Cond.classLink RX9 16 RX4 ∈ lw_tbl := tb1_in _ (List.mem_of_getElem? (i := 95) (by decide +kernel))
theorem wq_1_14 : Cond.instantiable RX4 8 ∈ lw_tbl := tb1_in _ (List.mem_of_getElem? (i := 96) (by decide +kernel))
theorem wq_1_15 : Cond.initialized RX4 ∈ lw_tbl := tb1_in _ (List.mem_of_getElem? (i := 5) (by decide +kernel))
theorem wq_1_16 : Cond.fieldLink RX9 21 "SunMirrors" "light" "LSunMirrors$Light;" ∈ lw_tbl := tb1_in _ (List.mem_of_getElem? (i := 235) (by decide +kernel))
theorem wq_1_17 : Cond.classLink RX9 25 RX0 ∈ lw_tbl := tb1_in _ (List.mem_of_getElem? (i := 128) (by decide +kernel))
theorem wq_1_18 : Cond.instantiable RX0 5 ∈ lw_tbl := tb1_in _ (List.mem_of_getElem? (i := 129) (by decide +kernel))
theorem wq_1_19 : Cond.initialized RX0 ∈ lw_tbl := tb1_in _ (List.mem_of_getElem? (i := 6) (by decide +kernel))
theorem wq_1_20 : Cond.fieldLink RX9 28 "SunMirrors" "advice" "LSunMirrors$Advice;" ∈ lw_tbl := tb1_in _ (List.mem_of_getElem? (i := 236) (by decide +kernel))
theorem wq_1_21 : Cond.classLink RX9 32 RX5 ∈ lw_tbl := tb1_in _ (List.mem_of_getElem? (i := 154) (by decide +kernel))
theorem wq_1_22 : Cond.instantiable RX5 2 ∈ lw_tbl := tb1_in _ (List.mem_of_getElem? (i := 155) (by decide +kernel))
theorem wq_1_23 : Cond.initialized RX5 ∈ lw_tbl := tb1_in _ (List.mem_of_getElem? (i := 7) (by decide +kernel))
theorem wl_r1 : ∀ w ∈ wsL_law_r1, w ∈ lw_tbl := List.forall_mem_cons.mpr ⟨wq_1_0, List.forall_mem_cons.mpr ⟨wq_1_1, List.forall_mem_cons.mpr ⟨wq_1_2, List.forall_mem_cons.mpr ⟨wq_1_3, List.forall_mem_cons.mpr ⟨wq_1_4, List.forall_mem_cons.mpr ⟨wq_1_5, List.forall_mem_cons.mpr ⟨wq_1_6, List.forall_mem_cons.mpr ⟨wq_1_7, List.forall_mem_cons.mpr ⟨wq_1_8, List.forall_mem_cons.mpr ⟨wq_1_9, List.forall_mem_cons.mpr ⟨wq_1_10, List.forall_mem_cons.mpr ⟨wq_1_11, List.forall_mem_cons.mpr ⟨wq_1_12, List.forall_mem_cons.mpr ⟨wq_1_13, List.forall_mem_cons.mpr ⟨wq_1_14, List.forall_mem_cons.mpr ⟨wq_1_15, List.forall_mem_cons.mpr ⟨wq_1_16, List.forall_mem_cons.mpr ⟨wq_1_17, List.forall_mem_cons.mpr ⟨wq_1_18, List.forall_mem_cons.mpr ⟨wq_1_19, List.forall_mem_cons.mpr ⟨wq_1_20, List.forall_mem_cons.mpr ⟨wq_1_21, List.forall_mem_cons.mpr ⟨wq_1_22, List.forall_mem_cons.mpr ⟨wq_1_23, fun _ h => absurd h List.not_mem_nil⟩⟩⟩⟩⟩⟩⟩⟩⟩⟩⟩⟩⟩⟩⟩⟩⟩⟩⟩⟩⟩⟩⟩⟩
theorem wg_r1 : ∀ w ∈ wsL_law_r1, goodWord w = true := List.all_eq_true.mp (by decide +kernel)
theorem wq_2_0 : Cond.fieldLink RX9 35 "SunMirrors" "pad" "LSunMirrors$Pad;" ∈ lw_tbl := tb1_in _ (List.mem_of_getElem? (i := 237) (by decide +kernel))
theorem wq_2_1 : Cond.classLink RX9 39 RX6 ∈ lw_tbl := tb1_in _ (List.mem_of_getElem? (i := 169) (by decide +kernel))
theorem wq_2_2 : Cond.instantiable RX6 8 ∈ lw_tbl := tb1_in _ (List.mem_of_getElem? (i := 170) (by decide +kernel))
theorem wq_2_3 : Cond.initialized RX6 ∈ lw_tbl := tb1_in _ (List.mem_of_getElem? (i := 8) (by decide +kernel))
theorem wq_2_4 : Cond.fieldLink RX9 44 "SunMirrors" "reader" "LSunMirrors$Reader;" ∈ lw_tbl := tb1_in _ (List.mem_of_getElem? (i := 238) (by decide +kernel))
theorem wq_2_5 : Cond.classLink RX9 48 RX3 ∈ lw_tbl := tb1_in _ (List.mem_of_getElem? (i := 202) (by decide +kernel))
theorem wq_2_6 : Cond.instantiable RX3 3 ∈ lw_tbl := tb1_in _ (List.mem_of_getElem? (i := 203) (by decide +kernel))
theorem wq_2_7 : Cond.initialized RX3 ∈ lw_tbl := tb1_in _ (List.mem_of_getElem? (i := 9) (by decide +kernel))
theorem wq_2_8 : Cond.fieldLink RX9 51 "SunMirrors" "history" "LSunMirrors$History;" ∈ lw_tbl := tb1_in _ (List.mem_of_getElem? (i := 239) (by decide +kernel))
theorem wq_2_9 : Cond.classLink RX9 55 RX7 ∈ lw_tbl := tb1_in _ (List.mem_of_getElem? (i := 232) (by decide +kernel))
theorem wq_2_10 : Cond.instantiable RX7 1 ∈ lw_tbl := tb1_in _ (List.mem_of_getElem? (i := 209) (by decide +kernel))
theorem wq_2_11 : Cond.initialized RX7 ∈ lw_tbl := tb1_in _ (List.mem_of_getElem? (i := 10) (by decide +kernel))
theorem wq_2_12 : Cond.fieldLink RX9 60 "SunMirrors" "slots" "LSunMirrors$Shelf;" ∈ lw_tbl := tb2_in _ (List.mem_of_getElem? (i := 0) (by decide +kernel))
theorem wq_2_13 : Cond.fieldLink RX9 64 "SunMirrors" "savedSlots" "I" ∈ lw_tbl := tb2_in _ (List.mem_of_getElem? (i := 1) (by decide +kernel))
theorem wq_2_14 : Cond.methodLink RX9 11 yX2_init ∈ lw_tbl := tb1_in _ (List.mem_of_getElem? (i := 24) (by decide +kernel))
theorem wq_2_15 : Cond.instanceMethod yX2_init ∈ lw_tbl := tb1_in _ (List.mem_of_getElem? (i := 25) (by decide +kernel))
theorem wq_2_16 : Cond.code yX2_init cX2_init 1 none ∈ lw_tbl := tb1_in _ (List.mem_of_getElem? (i := 26) (by decide +kernel))
theorem wq_2_17 : Cond.methodLink RX2 3 objectInit ∈ lw_tbl := tb1_in _ (List.mem_of_getElem? (i := 27) (by decide +kernel))
theorem wq_2_18 : Cond.classLink RX2 9 RX1 ∈ lw_tbl := tb1_in _ (List.mem_of_getElem? (i := 28) (by decide +kernel))
theorem wq_2_19 : Cond.instantiable RX1 1 ∈ lw_tbl := tb1_in _ (List.mem_of_getElem? (i := 29) (by decide +kernel))
theorem wq_2_20 : Cond.initialized RX1 ∈ lw_tbl := tb1_in _ (List.mem_of_getElem? (i := 3) (by decide +kernel))
theorem wq_2_21 : Cond.fieldLink RX2 14 "SunMirrors$Field" "settings" "LSunMirrors$Cells;" ∈ lw_tbl := tb1_in _ (List.mem_of_getElem? (i := 46) (by decide +kernel))
theorem wq_2_22 : Cond.fieldLink RX2 20 "SunMirrors$Field" "rows" "LSunMirrors$Cells;" ∈ lw_tbl := tb1_in _ (List.mem_of_getElem? (i := 49) (by decide +kernel))
theorem wq_2_23 : Cond.fieldLink RX2 23 "SunMirrors$Field" "columns" "LSunMirrors$Cells;" ∈ lw_tbl := tb1_in _ (List.mem_of_getElem? (i := 52) (by decide +kernel))
theorem wl_r2 : ∀ w ∈ wsL_law_r2, w ∈ lw_tbl := List.forall_mem_cons.mpr ⟨wq_2_0, List.forall_mem_cons.mpr ⟨wq_2_1, List.forall_mem_cons.mpr ⟨wq_2_2, List.forall_mem_cons.mpr ⟨wq_2_3, List.forall_mem_cons.mpr ⟨wq_2_4, List.forall_mem_cons.mpr ⟨wq_2_5, List.forall_mem_cons.mpr ⟨wq_2_6, List.forall_mem_cons.mpr ⟨wq_2_7, List.forall_mem_cons.mpr ⟨wq_2_8, List.forall_mem_cons.mpr ⟨wq_2_9, List.forall_mem_cons.mpr ⟨wq_2_10, List.forall_mem_cons.mpr ⟨wq_2_11, List.forall_mem_cons.mpr ⟨wq_2_12, List.forall_mem_cons.mpr ⟨wq_2_13, List.forall_mem_cons.mpr ⟨wq_2_14, List.forall_mem_cons.mpr ⟨wq_2_15, List.forall_mem_cons.mpr ⟨wq_2_16, List.forall_mem_cons.mpr ⟨wq_2_17, List.forall_mem_cons.mpr ⟨wq_2_18, List.forall_mem_cons.mpr ⟨wq_2_19, List.forall_mem_cons.mpr ⟨wq_2_20, List.forall_mem_cons.mpr ⟨wq_2_21, List.forall_mem_cons.mpr ⟨wq_2_22, List.forall_mem_cons.mpr ⟨wq_2_23, fun _ h => absurd h List.not_mem_nil⟩⟩⟩⟩⟩⟩⟩⟩⟩⟩⟩⟩⟩⟩⟩⟩⟩⟩⟩⟩⟩⟩⟩⟩
theorem wg_r2 : ∀ w ∈ wsL_law_r2, goodWord w = true := List.all_eq_true.mp (by decide +kernel)
theorem wq_3_0 : Cond.fieldLink RX2 26 "SunMirrors$Field" "aims" "LSunMirrors$Cells;" ∈ lw_tbl := tb1_in _ (List.mem_of_getElem? (i := 55) (by decide +kernel))
theorem wq_3_1 : Cond.fieldLink RX2 29 "SunMirrors$Field" "dusts" "LSunMirrors$Cells;" ∈ lw_tbl := tb1_in _ (List.mem_of_getElem? (i := 58) (by decide +kernel))
theorem wq_3_2 : Cond.fieldLink RX2 32 "SunMirrors$Field" "brought" "LSunMirrors$Cells;" ∈ lw_tbl := tb1_in _ (List.mem_of_getElem? (i := 61) (by decide +kernel))
theorem wq_3_3 : Cond.fieldLink RX2 35 "SunMirrors$Field" "mirrors" "I" ∈ lw_tbl := tb1_in _ (List.mem_of_getElem? (i := 63) (by decide +kernel))
theorem wq_3_4 : Cond.fieldLink RX2 39 "SunMirrors$Field" "wind" "I" ∈ lw_tbl := tb1_in _ (List.mem_of_getElem? (i := 67) (by decide +kernel))
theorem wq_3_5 : Cond.fieldLink RX2 42 "SunMirrors$Field" "days" "I" ∈ lw_tbl := tb1_in _ (List.mem_of_getElem? (i := 69) (by decide +kernel))
theorem wq_3_6 : Cond.fieldLink RX2 45 "SunMirrors$Field" "broughtByAll" "I" ∈ lw_tbl := tb1_in _ (List.mem_of_getElem? (i := 72) (by decide +kernel))
theorem wq_3_7 : Cond.methodLink RX2 11 yX1_init ∈ lw_tbl := tb1_in _ (List.mem_of_getElem? (i := 30) (by decide +kernel))
theorem wq_3_8 : Cond.instanceMethod yX1_init ∈ lw_tbl := tb1_in _ (List.mem_of_getElem? (i := 31) (by decide +kernel))
theorem wq_3_9 : Cond.code yX1_init cX1_init 2 none ∈ lw_tbl := tb1_in _ (List.mem_of_getElem? (i := 32) (by decide +kernel))
theorem wq_3_10 : Cond.methodLink RX1 1 objectInit ∈ lw_tbl := tb1_in _ (List.mem_of_getElem? (i := 33) (by decide +kernel))
theorem wq_3_11 : Cond.methodLink RX1 7 Lib.Math.max.name ∈ lw_tbl := tb1_in _ (List.mem_of_getElem? (i := 34) (by decide +kernel))
theorem wq_3_12 : Cond.static Lib.Math.max.name ∈ lw_tbl := tb1_in _ (List.mem_of_getElem? (i := 35) (by decide +kernel))
theorem wq_3_13 : Cond.initialized "java/lang/Math" ∈ lw_tbl := tb1_in _ (List.mem_of_getElem? (i := 4) (by decide +kernel))
theorem wq_3_14 : Cond.code Lib.Math.max.name Lib.Math.max.code 2 (some .int) ∈ lw_tbl := tb1_in _ (List.mem_of_getElem? (i := 36) (by decide +kernel))
theorem wq_3_15 : Cond.arrayClass .int ∈ lw_tbl := tb1_in _ (List.mem_of_getElem? (i := 41) (by decide +kernel))
theorem wq_3_16 : Cond.fieldLink RX1 13 "SunMirrors$Cells" "numbers" "[I" ∈ lw_tbl := tb1_in _ (List.mem_of_getElem? (i := 37) (by decide +kernel))
theorem wq_3_17 : Cond.methodLink RX2 48 yX1_write ∈ lw_tbl := tb1_in _ (List.mem_of_getElem? (i := 42) (by decide +kernel))
theorem wq_3_18 : Cond.instanceMethod yX1_write ∈ lw_tbl := tb1_in _ (List.mem_of_getElem? (i := 43) (by decide +kernel))
theorem wq_3_19 : Cond.selects RX1 yX1_write yX1_write ∈ lw_tbl := tb1_in _ (List.mem_of_getElem? (i := 44) (by decide +kernel))
theorem wq_3_20 : Cond.code yX1_write cX1_write 3 none ∈ lw_tbl := tb1_in _ (List.mem_of_getElem? (i := 45) (by decide +kernel))
theorem wq_3_21 : Cond.methodLink RX9 18 yX4_init ∈ lw_tbl := tb1_in _ (List.mem_of_getElem? (i := 97) (by decide +kernel))
theorem wq_3_22 : Cond.instanceMethod yX4_init ∈ lw_tbl := tb1_in _ (List.mem_of_getElem? (i := 98) (by decide +kernel))
theorem wq_3_23 : Cond.code yX4_init cX4_init 2 none ∈ lw_tbl := tb1_in _ (List.mem_of_getElem? (i := 99) (by decide +kernel))
theorem wl_r3 : ∀ w ∈ wsL_law_r3, w ∈ lw_tbl := List.forall_mem_cons.mpr ⟨wq_3_0, List.forall_mem_cons.mpr ⟨wq_3_1, List.forall_mem_cons.mpr ⟨wq_3_2, List.forall_mem_cons.mpr ⟨wq_3_3, List.forall_mem_cons.mpr ⟨wq_3_4, List.forall_mem_cons.mpr ⟨wq_3_5, List.forall_mem_cons.mpr ⟨wq_3_6, List.forall_mem_cons.mpr ⟨wq_3_7, List.forall_mem_cons.mpr ⟨wq_3_8, List.forall_mem_cons.mpr ⟨wq_3_9, List.forall_mem_cons.mpr ⟨wq_3_10, List.forall_mem_cons.mpr ⟨wq_3_11, List.forall_mem_cons.mpr ⟨wq_3_12, List.forall_mem_cons.mpr ⟨wq_3_13, List.forall_mem_cons.mpr ⟨wq_3_14, List.forall_mem_cons.mpr ⟨wq_3_15, List.forall_mem_cons.mpr ⟨wq_3_16, List.forall_mem_cons.mpr ⟨wq_3_17, List.forall_mem_cons.mpr ⟨wq_3_18, List.forall_mem_cons.mpr ⟨wq_3_19, List.forall_mem_cons.mpr ⟨wq_3_20, List.forall_mem_cons.mpr ⟨wq_3_21, List.forall_mem_cons.mpr ⟨wq_3_22, List.forall_mem_cons.mpr ⟨wq_3_23, fun _ h => absurd h List.not_mem_nil⟩⟩⟩⟩⟩⟩⟩⟩⟩⟩⟩⟩⟩⟩⟩⟩⟩⟩⟩⟩⟩⟩⟩⟩
theorem wg_r3 : ∀ w ∈ wsL_law_r3, goodWord w = true := List.all_eq_true.mp (by decide +kernel)
theorem wq_4_0 : Cond.methodLink RX4 3 objectInit ∈ lw_tbl := tb1_in _ (List.mem_of_getElem? (i := 100) (by decide +kernel))
theorem wq_4_1 : Cond.classLink RX4 9 RX1 ∈ lw_tbl := tb1_in _ (List.mem_of_getElem? (i := 101) (by decide +kernel))
theorem wq_4_2 : Cond.fieldLink RX4 14 "SunMirrors$Light" "places" "LSunMirrors$Cells;" ∈ lw_tbl := tb1_in _ (List.mem_of_getElem? (i := 104) (by decide +kernel))
theorem wq_4_3 : Cond.fieldLink RX4 20 "SunMirrors$Light" "shaders" "LSunMirrors$Cells;" ∈ lw_tbl := tb1_in _ (List.mem_of_getElem? (i := 105) (by decide +kernel))
theorem wq_4_4 : Cond.fieldLink RX4 23 "SunMirrors$Light" "gives" "LSunMirrors$Cells;" ∈ lw_tbl := tb1_in _ (List.mem_of_getElem? (i := 106) (by decide +kernel))
theorem wq_4_5 : Cond.fieldLink RX4 26 "SunMirrors$Light" "order" "LSunMirrors$Cells;" ∈ lw_tbl := tb1_in _ (List.mem_of_getElem? (i := 107) (by decide +kernel))
theorem wq_4_6 : Cond.fieldLink RX4 29 "SunMirrors$Light" "held" "LSunMirrors$Cells;" ∈ lw_tbl := tb1_in _ (List.mem_of_getElem? (i := 108) (by decide +kernel))
theorem wq_4_7 : Cond.fieldLink RX4 32 "SunMirrors$Light" "blocked" "I" ∈ lw_tbl := tb1_in _ (List.mem_of_getElem? (i := 109) (by decide +kernel))
theorem wq_4_8 : Cond.fieldLink RX4 36 "SunMirrors$Light" "used" "I" ∈ lw_tbl := tb1_in _ (List.mem_of_getElem? (i := 110) (by decide +kernel))
theorem wq_4_9 : Cond.fieldLink RX4 39 "SunMirrors$Light" "field" "LSunMirrors$Field;" ∈ lw_tbl := tb1_in _ (List.mem_of_getElem? (i := 103) (by decide +kernel))
theorem wq_4_10 : Cond.methodLink RX4 11 yX1_init ∈ lw_tbl := tb1_in _ (List.mem_of_getElem? (i := 102) (by decide +kernel))
theorem wq_4_11 : Cond.methodLink RX9 27 yX0_init ∈ lw_tbl := tb1_in _ (List.mem_of_getElem? (i := 130) (by decide +kernel))
theorem wq_4_12 : Cond.instanceMethod yX0_init ∈ lw_tbl := tb1_in _ (List.mem_of_getElem? (i := 131) (by decide +kernel))
theorem wq_4_13 : Cond.code yX0_init cX0_init 2 none ∈ lw_tbl := tb1_in _ (List.mem_of_getElem? (i := 132) (by decide +kernel))
theorem wq_4_14 : Cond.methodLink RX0 3 objectInit ∈ lw_tbl := tb1_in _ (List.mem_of_getElem? (i := 133) (by decide +kernel))
theorem wq_4_15 : Cond.classLink RX0 9 RX2 ∈ lw_tbl := tb1_in _ (List.mem_of_getElem? (i := 134) (by decide +kernel))
theorem wq_4_16 : Cond.fieldLink RX0 12 "SunMirrors$Advice" "trial" "LSunMirrors$Field;" ∈ lw_tbl := tb1_in _ (List.mem_of_getElem? (i := 139) (by decide +kernel))
theorem wq_4_17 : Cond.classLink RX0 18 RX4 ∈ lw_tbl := tb1_in _ (List.mem_of_getElem? (i := 136) (by decide +kernel))
theorem wq_4_18 : Cond.fieldLink RX0 23 "SunMirrors$Advice" "light" "LSunMirrors$Light;" ∈ lw_tbl := tb1_in _ (List.mem_of_getElem? (i := 140) (by decide +kernel))
theorem wq_4_19 : Cond.fieldLink RX0 27 "SunMirrors$Advice" "best" "I" ∈ lw_tbl := tb1_in _ (List.mem_of_getElem? (i := 141) (by decide +kernel))
theorem wq_4_20 : Cond.fieldLink RX0 31 "SunMirrors$Advice" "bestBrings" "I" ∈ lw_tbl := tb1_in _ (List.mem_of_getElem? (i := 142) (by decide +kernel))
theorem wq_4_21 : Cond.fieldLink RX0 34 "SunMirrors$Advice" "field" "LSunMirrors$Field;" ∈ lw_tbl := tb1_in _ (List.mem_of_getElem? (i := 138) (by decide +kernel))
theorem wq_4_22 : Cond.methodLink RX0 11 yX2_init ∈ lw_tbl := tb1_in _ (List.mem_of_getElem? (i := 135) (by decide +kernel))
theorem wq_4_23 : Cond.methodLink RX0 20 yX4_init ∈ lw_tbl := tb1_in _ (List.mem_of_getElem? (i := 137) (by decide +kernel))
theorem wl_r4 : ∀ w ∈ wsL_law_r4, w ∈ lw_tbl := List.forall_mem_cons.mpr ⟨wq_4_0, List.forall_mem_cons.mpr ⟨wq_4_1, List.forall_mem_cons.mpr ⟨wq_4_2, List.forall_mem_cons.mpr ⟨wq_4_3, List.forall_mem_cons.mpr ⟨wq_4_4, List.forall_mem_cons.mpr ⟨wq_4_5, List.forall_mem_cons.mpr ⟨wq_4_6, List.forall_mem_cons.mpr ⟨wq_4_7, List.forall_mem_cons.mpr ⟨wq_4_8, List.forall_mem_cons.mpr ⟨wq_4_9, List.forall_mem_cons.mpr ⟨wq_4_10, List.forall_mem_cons.mpr ⟨wq_4_11, List.forall_mem_cons.mpr ⟨wq_4_12, List.forall_mem_cons.mpr ⟨wq_4_13, List.forall_mem_cons.mpr ⟨wq_4_14, List.forall_mem_cons.mpr ⟨wq_4_15, List.forall_mem_cons.mpr ⟨wq_4_16, List.forall_mem_cons.mpr ⟨wq_4_17, List.forall_mem_cons.mpr ⟨wq_4_18, List.forall_mem_cons.mpr ⟨wq_4_19, List.forall_mem_cons.mpr ⟨wq_4_20, List.forall_mem_cons.mpr ⟨wq_4_21, List.forall_mem_cons.mpr ⟨wq_4_22, List.forall_mem_cons.mpr ⟨wq_4_23, fun _ h => absurd h List.not_mem_nil⟩⟩⟩⟩⟩⟩⟩⟩⟩⟩⟩⟩⟩⟩⟩⟩⟩⟩⟩⟩⟩⟩⟩⟩
theorem wg_r4 : ∀ w ∈ wsL_law_r4, goodWord w = true := List.all_eq_true.mp (by decide +kernel)
theorem wq_5_0 : Cond.instanceMethod yX5_init ∈ lw_tbl := tb1_in _ (List.mem_of_getElem? (i := 157) (by decide +kernel))
theorem wq_5_1 : Cond.code yX5_init cX5_init 1 none ∈ lw_tbl := tb1_in _ (List.mem_of_getElem? (i := 158) (by decide +kernel))
theorem wq_5_2 : Cond.methodLink RX5 3 objectInit ∈ lw_tbl := tb1_in _ (List.mem_of_getElem? (i := 159) (by decide +kernel))
theorem wq_5_3 : Cond.classLink RX5 9 RX1 ∈ lw_tbl := tb1_in _ (List.mem_of_getElem? (i := 160) (by decide +kernel))
theorem wq_5_4 : Cond.fieldLink RX5 14 "SunMirrors$Pad" "signs" "LSunMirrors$Cells;" ∈ lw_tbl := tb1_in _ (List.mem_of_getElem? (i := 162) (by decide +kernel))
theorem wq_5_5 : Cond.fieldLink RX5 20 "SunMirrors$Pad" "length" "I" ∈ lw_tbl := tb1_in _ (List.mem_of_getElem? (i := 163) (by decide +kernel))
theorem wq_5_6 : Cond.methodLink RX5 11 yX1_init ∈ lw_tbl := tb1_in _ (List.mem_of_getElem? (i := 161) (by decide +kernel))
theorem wq_5_7 : Cond.methodLink RX9 41 yX6_init ∈ lw_tbl := tb1_in _ (List.mem_of_getElem? (i := 171) (by decide +kernel))
theorem wq_5_8 : Cond.instanceMethod yX6_init ∈ lw_tbl := tb1_in _ (List.mem_of_getElem? (i := 172) (by decide +kernel))
theorem wq_5_9 : Cond.code yX6_init cX6_init 2 none ∈ lw_tbl := tb1_in _ (List.mem_of_getElem? (i := 173) (by decide +kernel))
theorem wq_5_10 : Cond.methodLink RX6 3 objectInit ∈ lw_tbl := tb1_in _ (List.mem_of_getElem? (i := 174) (by decide +kernel))
theorem wq_5_11 : Cond.classLink RX6 9 RX1 ∈ lw_tbl := tb1_in _ (List.mem_of_getElem? (i := 175) (by decide +kernel))
theorem wq_5_12 : Cond.fieldLink RX6 14 "SunMirrors$Reader" "kinds" "LSunMirrors$Cells;" ∈ lw_tbl := tb1_in _ (List.mem_of_getElem? (i := 178) (by decide +kernel))
theorem wq_5_13 : Cond.fieldLink RX6 20 "SunMirrors$Reader" "firsts" "LSunMirrors$Cells;" ∈ lw_tbl := tb1_in _ (List.mem_of_getElem? (i := 179) (by decide +kernel))
theorem wq_5_14 : Cond.fieldLink RX6 23 "SunMirrors$Reader" "seconds" "LSunMirrors$Cells;" ∈ lw_tbl := tb1_in _ (List.mem_of_getElem? (i := 180) (by decide +kernel))
theorem wq_5_15 : Cond.fieldLink RX6 26 "SunMirrors$Reader" "thirds" "LSunMirrors$Cells;" ∈ lw_tbl := tb1_in _ (List.mem_of_getElem? (i := 181) (by decide +kernel))
theorem wq_5_16 : Cond.fieldLink RX6 29 "SunMirrors$Reader" "orders" "I" ∈ lw_tbl := tb1_in _ (List.mem_of_getElem? (i := 182) (by decide +kernel))
theorem wq_5_17 : Cond.fieldLink RX6 33 "SunMirrors$Reader" "position" "I" ∈ lw_tbl := tb1_in _ (List.mem_of_getElem? (i := 183) (by decide +kernel))
theorem wq_5_18 : Cond.fieldLink RX6 36 "SunMirrors$Reader" "broken" "Z" ∈ lw_tbl := tb1_in _ (List.mem_of_getElem? (i := 184) (by decide +kernel))
theorem wq_5_19 : Cond.fieldLink RX6 40 "SunMirrors$Reader" "pad" "LSunMirrors$Pad;" ∈ lw_tbl := tb1_in _ (List.mem_of_getElem? (i := 177) (by decide +kernel))
theorem wq_5_20 : Cond.methodLink RX6 11 yX1_init ∈ lw_tbl := tb1_in _ (List.mem_of_getElem? (i := 176) (by decide +kernel))
theorem wq_5_21 : Cond.instanceMethod yX3_init ∈ lw_tbl := tb1_in _ (List.mem_of_getElem? (i := 205) (by decide +kernel))
theorem wq_5_22 : Cond.code yX3_init cX3_init 1 none ∈ lw_tbl := tb1_in _ (List.mem_of_getElem? (i := 206) (by decide +kernel))
theorem wq_5_23 : Cond.methodLink RX3 3 objectInit ∈ lw_tbl := tb1_in _ (List.mem_of_getElem? (i := 207) (by decide +kernel))
theorem wl_r5 : ∀ w ∈ wsL_law_r5, w ∈ lw_tbl := List.forall_mem_cons.mpr ⟨wq_5_0, List.forall_mem_cons.mpr ⟨wq_5_1, List.forall_mem_cons.mpr ⟨wq_5_2, List.forall_mem_cons.mpr ⟨wq_5_3, List.forall_mem_cons.mpr ⟨wq_5_4, List.forall_mem_cons.mpr ⟨wq_5_5, List.forall_mem_cons.mpr ⟨wq_5_6, List.forall_mem_cons.mpr ⟨wq_5_7, List.forall_mem_cons.mpr ⟨wq_5_8, List.forall_mem_cons.mpr ⟨wq_5_9, List.forall_mem_cons.mpr ⟨wq_5_10, List.forall_mem_cons.mpr ⟨wq_5_11, List.forall_mem_cons.mpr ⟨wq_5_12, List.forall_mem_cons.mpr ⟨wq_5_13, List.forall_mem_cons.mpr ⟨wq_5_14, List.forall_mem_cons.mpr ⟨wq_5_15, List.forall_mem_cons.mpr ⟨wq_5_16, List.forall_mem_cons.mpr ⟨wq_5_17, List.forall_mem_cons.mpr ⟨wq_5_18, List.forall_mem_cons.mpr ⟨wq_5_19, List.forall_mem_cons.mpr ⟨wq_5_20, List.forall_mem_cons.mpr ⟨wq_5_21, List.forall_mem_cons.mpr ⟨wq_5_22, List.forall_mem_cons.mpr ⟨wq_5_23, fun _ h => absurd h List.not_mem_nil⟩⟩⟩⟩⟩⟩⟩⟩⟩⟩⟩⟩⟩⟩⟩⟩⟩⟩⟩⟩⟩⟩⟩⟩
theorem wg_r5 : ∀ w ∈ wsL_law_r5, goodWord w = true := List.all_eq_true.mp (by decide +kernel)
theorem wq_6_0 : Cond.classLink RX3 9 RX7 ∈ lw_tbl := tb1_in _ (List.mem_of_getElem? (i := 208) (by decide +kernel))
theorem wq_6_1 : Cond.fieldLink RX3 16 "SunMirrors$History" "states" "LSunMirrors$Shelf;" ∈ lw_tbl := tb1_in _ (List.mem_of_getElem? (i := 222) (by decide +kernel))
theorem wq_6_2 : Cond.fieldLink RX3 20 "SunMirrors$History" "next" "I" ∈ lw_tbl := tb1_in _ (List.mem_of_getElem? (i := 223) (by decide +kernel))
theorem wq_6_3 : Cond.fieldLink RX3 24 "SunMirrors$History" "size" "I" ∈ lw_tbl := tb1_in _ (List.mem_of_getElem? (i := 224) (by decide +kernel))
theorem wq_6_4 : Cond.methodLink RX3 13 yX7_init ∈ lw_tbl := tb1_in _ (List.mem_of_getElem? (i := 210) (by decide +kernel))
theorem wq_6_5 : Cond.instanceMethod yX7_init ∈ lw_tbl := tb1_in _ (List.mem_of_getElem? (i := 211) (by decide +kernel))
theorem wq_6_6 : Cond.code yX7_init cX7_init 3 none ∈ lw_tbl := tb1_in _ (List.mem_of_getElem? (i := 212) (by decide +kernel))
theorem wq_6_7 : Cond.methodLink RX7 1 objectInit ∈ lw_tbl := tb1_in _ (List.mem_of_getElem? (i := 213) (by decide +kernel))
theorem wq_6_8 : Cond.methodLink RX7 7 Lib.Math.max.name ∈ lw_tbl := tb1_in _ (List.mem_of_getElem? (i := 214) (by decide +kernel))
theorem wq_6_9 : Cond.classLink RX7 13 RX2 ∈ lw_tbl := tb1_in _ (List.mem_of_getElem? (i := 215) (by decide +kernel))
theorem wq_6_10 : Cond.fieldLink RX7 15 "SunMirrors$Shelf" "states" "[LSunMirrors$Field;" ∈ lw_tbl := tb1_in _ (List.mem_of_getElem? (i := 218) (by decide +kernel))
theorem wq_6_11 : Cond.methodLink RX7 21 yX2_init ∈ lw_tbl := tb1_in _ (List.mem_of_getElem? (i := 217) (by decide +kernel))
theorem wq_6_12 : Cond.methodLink RX9 57 yX7_init ∈ lw_tbl := tb1_in _ (List.mem_of_getElem? (i := 233) (by decide +kernel))
theorem wq_6_13 : Cond.methodLink RL 76 yL_cell ∈ lw_tbl := tb2_in _ (List.mem_of_getElem? (i := 19) (by decide +kernel))
theorem wq_6_14 : Cond.static yL_cell ∈ lw_tbl := tb2_in _ (List.mem_of_getElem? (i := 20) (by decide +kernel))
theorem wq_6_15 : Cond.initialized RL ∈ lw_tbl := tb1_in _ (List.mem_of_getElem? (i := 0) (by decide +kernel))
theorem wq_6_16 : Cond.code yL_cell cL_cell 2 (some .int) ∈ lw_tbl := tb2_in _ (List.mem_of_getElem? (i := 21) (by decide +kernel))
theorem wq_6_17 : Cond.constant RL 7 (2132589013) ∈ lw_tbl := tb2_in _ (List.mem_of_getElem? (i := 22) (by decide +kernel))
theorem wq_6_18 : Cond.methodLink RL 80 yL_isStep ∈ lw_tbl := tb2_in _ (List.mem_of_getElem? (i := 23) (by decide +kernel))
theorem wq_6_19 : Cond.static yL_isStep ∈ lw_tbl := tb2_in _ (List.mem_of_getElem? (i := 24) (by decide +kernel))
theorem wq_6_20 : Cond.code yL_isStep cL_isStep 13 (some .boolean) ∈ lw_tbl := tb2_in _ (List.mem_of_getElem? (i := 25) rfl)
theorem wq_6_21 : Cond.methodLink RL 9 yX9_count ∈ lw_tbl := tb2_in _ (List.mem_of_getElem? (i := 26) (by decide +kernel))
theorem wq_6_22 : Cond.instanceMethod yX9_count ∈ lw_tbl := tb2_in _ (List.mem_of_getElem? (i := 27) (by decide +kernel))
theorem wq_6_23 : Cond.selects RX9 yX9_count yX9_count ∈ lw_tbl := tb2_in _ (List.mem_of_getElem? (i := 28) (by decide +kernel))
theorem wl_r6 : ∀ w ∈ wsL_law_r6, w ∈ lw_tbl := List.forall_mem_cons.mpr ⟨wq_6_0, List.forall_mem_cons.mpr ⟨wq_6_1, List.forall_mem_cons.mpr ⟨wq_6_2, List.forall_mem_cons.mpr ⟨wq_6_3, List.forall_mem_cons.mpr ⟨wq_6_4, List.forall_mem_cons.mpr ⟨wq_6_5, List.forall_mem_cons.mpr ⟨wq_6_6, List.forall_mem_cons.mpr ⟨wq_6_7, List.forall_mem_cons.mpr ⟨wq_6_8, List.forall_mem_cons.mpr ⟨wq_6_9, List.forall_mem_cons.mpr ⟨wq_6_10, List.forall_mem_cons.mpr ⟨wq_6_11, List.forall_mem_cons.mpr ⟨wq_6_12, List.forall_mem_cons.mpr ⟨wq_6_13, List.forall_mem_cons.mpr ⟨wq_6_14, List.forall_mem_cons.mpr ⟨wq_6_15, List.forall_mem_cons.mpr ⟨wq_6_16, List.forall_mem_cons.mpr ⟨wq_6_17, List.forall_mem_cons.mpr ⟨wq_6_18, List.forall_mem_cons.mpr ⟨wq_6_19, List.forall_mem_cons.mpr ⟨wq_6_20, List.forall_mem_cons.mpr ⟨wq_6_21, List.forall_mem_cons.mpr ⟨wq_6_22, List.forall_mem_cons.mpr ⟨wq_6_23, fun _ h => absurd h List.not_mem_nil⟩⟩⟩⟩⟩⟩⟩⟩⟩⟩⟩⟩⟩⟩⟩⟩⟩⟩⟩⟩⟩⟩⟩⟩
theorem wg_r6 : ∀ w ∈ wsL_law_r6, goodWord w = true := List.all_eq_true.mp (by decide +kernel)
theorem wq_7_0 : Cond.code yX9_count cX9_count 2 (some .int) ∈ lw_tbl := tb2_in _ (List.mem_of_getElem? (i := 29) (by decide +kernel))
theorem wq_7_1 : Cond.fieldLink RX9 159 "SunMirrors$Field" "days" "I" ∈ lw_tbl := tb1_in _ (List.mem_of_getElem? (i := 71) (by decide +kernel))
theorem wq_7_2 : Cond.fieldLink RX9 162 "SunMirrors$Field" "mirrors" "I" ∈ lw_tbl := tb1_in _ (List.mem_of_getElem? (i := 66) (by decide +kernel))
theorem wq_7_3 : Cond.fieldLink RX9 165 "SunMirrors$Field" "wind" "I" ∈ lw_tbl := tb1_in _ (List.mem_of_getElem? (i := 68) (by decide +kernel))
theorem wq_7_4 : Cond.fieldLink RX9 172 "SunMirrors$Field" "broughtByAll" "I" ∈ lw_tbl := tb1_in _ (List.mem_of_getElem? (i := 73) (by decide +kernel))
theorem wq_7_5 : Cond.fieldLink RX9 184 "SunMirrors$Field" "settings" "LSunMirrors$Cells;" ∈ lw_tbl := tb1_in _ (List.mem_of_getElem? (i := 48) (by decide +kernel))
theorem wq_7_6 : Cond.methodLink RX9 168 yX2_liesFlat ∈ lw_tbl := tb2_in _ (List.mem_of_getElem? (i := 30) (by decide +kernel))
theorem wq_7_7 : Cond.instanceMethod yX2_liesFlat ∈ lw_tbl := tb2_in _ (List.mem_of_getElem? (i := 31) (by decide +kernel))
theorem wq_7_8 : Cond.selects RX2 yX2_liesFlat yX2_liesFlat ∈ lw_tbl := tb2_in _ (List.mem_of_getElem? (i := 32) (by decide +kernel))
theorem wq_7_9 : Cond.code yX2_liesFlat cX2_liesFlat 1 (some .boolean) ∈ lw_tbl := tb2_in _ (List.mem_of_getElem? (i := 33) (by decide +kernel))
theorem wq_7_10 : Cond.methodLink RX2 60 yX1_read ∈ lw_tbl := tb2_in _ (List.mem_of_getElem? (i := 34) (by decide +kernel))
theorem wq_7_11 : Cond.instanceMethod yX1_read ∈ lw_tbl := tb2_in _ (List.mem_of_getElem? (i := 35) (by decide +kernel))
theorem wq_7_12 : Cond.selects RX1 yX1_read yX1_read ∈ lw_tbl := tb2_in _ (List.mem_of_getElem? (i := 36) (by decide +kernel))
theorem wq_7_13 : Cond.code yX1_read cX1_read 2 (some .int) ∈ lw_tbl := tb2_in _ (List.mem_of_getElem? (i := 37) (by decide +kernel))
theorem wq_7_14 : Cond.methodLink RX9 120 yX4_look ∈ lw_tbl := tb2_in _ (List.mem_of_getElem? (i := 38) (by decide +kernel))
theorem wq_7_15 : Cond.instanceMethod yX4_look ∈ lw_tbl := tb2_in _ (List.mem_of_getElem? (i := 39) (by decide +kernel))
theorem wq_7_16 : Cond.selects RX4 yX4_look yX4_look ∈ lw_tbl := tb2_in _ (List.mem_of_getElem? (i := 40) (by decide +kernel))
theorem wq_7_17 : Cond.code yX4_look cX4_look 3 none ∈ lw_tbl := tb2_in _ (List.mem_of_getElem? (i := 41) (by decide +kernel))
theorem wq_7_18 : Cond.fieldLink RX4 46 "SunMirrors$Field" "mirrors" "I" ∈ lw_tbl := tb1_in _ (List.mem_of_getElem? (i := 65) (by decide +kernel))
theorem wq_7_19 : Cond.fieldLink RX4 51 "SunMirrors$Field" "rows" "LSunMirrors$Cells;" ∈ lw_tbl := tb1_in _ (List.mem_of_getElem? (i := 50) (by decide +kernel))
theorem wq_7_20 : Cond.fieldLink RX4 58 "SunMirrors$Field" "columns" "LSunMirrors$Cells;" ∈ lw_tbl := tb1_in _ (List.mem_of_getElem? (i := 53) (by decide +kernel))
theorem wq_7_21 : Cond.methodLink RX4 43 yX1_fill ∈ lw_tbl := tb2_in _ (List.mem_of_getElem? (i := 42) (by decide +kernel))
theorem wq_7_22 : Cond.instanceMethod yX1_fill ∈ lw_tbl := tb2_in _ (List.mem_of_getElem? (i := 43) (by decide +kernel))
theorem wq_7_23 : Cond.selects RX1 yX1_fill yX1_fill ∈ lw_tbl := tb2_in _ (List.mem_of_getElem? (i := 44) (by decide +kernel))
theorem wl_r7 : ∀ w ∈ wsL_law_r7, w ∈ lw_tbl := List.forall_mem_cons.mpr ⟨wq_7_0, List.forall_mem_cons.mpr ⟨wq_7_1, List.forall_mem_cons.mpr ⟨wq_7_2, List.forall_mem_cons.mpr ⟨wq_7_3, List.forall_mem_cons.mpr ⟨wq_7_4, List.forall_mem_cons.mpr ⟨wq_7_5, List.forall_mem_cons.mpr ⟨wq_7_6, List.forall_mem_cons.mpr ⟨wq_7_7, List.forall_mem_cons.mpr ⟨wq_7_8, List.forall_mem_cons.mpr ⟨wq_7_9, List.forall_mem_cons.mpr ⟨wq_7_10, List.forall_mem_cons.mpr ⟨wq_7_11, List.forall_mem_cons.mpr ⟨wq_7_12, List.forall_mem_cons.mpr ⟨wq_7_13, List.forall_mem_cons.mpr ⟨wq_7_14, List.forall_mem_cons.mpr ⟨wq_7_15, List.forall_mem_cons.mpr ⟨wq_7_16, List.forall_mem_cons.mpr ⟨wq_7_17, List.forall_mem_cons.mpr ⟨wq_7_18, List.forall_mem_cons.mpr ⟨wq_7_19, List.forall_mem_cons.mpr ⟨wq_7_20, List.forall_mem_cons.mpr ⟨wq_7_21, List.forall_mem_cons.mpr ⟨wq_7_22, List.forall_mem_cons.mpr ⟨wq_7_23, fun _ h => absurd h List.not_mem_nil⟩⟩⟩⟩⟩⟩⟩⟩⟩⟩⟩⟩⟩⟩⟩⟩⟩⟩⟩⟩⟩⟩⟩⟩
theorem wg_r7 : ∀ w ∈ wsL_law_r7, goodWord w = true := List.all_eq_true.mp (by decide +kernel)
theorem wq_8_0 : Cond.code yX1_fill cX1_fill 2 none ∈ lw_tbl := tb2_in _ (List.mem_of_getElem? (i := 45) (by decide +kernel))
theorem wq_8_1 : Cond.methodLink RX1 19 yJ7_fill_53178 ∈ lw_tbl := tb2_in _ (List.mem_of_getElem? (i := 46) (by decide +kernel))
theorem wq_8_2 : Cond.static yJ7_fill_53178 ∈ lw_tbl := tb2_in _ (List.mem_of_getElem? (i := 47) (by decide +kernel))
theorem wq_8_3 : Cond.initialized RJ7 ∈ lw_tbl := tb1_in _ (List.mem_of_getElem? (i := 11) (by decide +kernel))
theorem wq_8_4 : Cond.code yJ7_fill_53178 cJ7_fill_53178 4 none ∈ lw_tbl := tb2_in _ (List.mem_of_getElem? (i := 48) (by decide +kernel))
theorem wq_8_5 : Cond.methodLink RX4 54 yX1_read ∈ lw_tbl := tb2_in _ (List.mem_of_getElem? (i := 49) (by decide +kernel))
theorem wq_8_6 : Cond.methodLink RX4 61 yX1_write ∈ lw_tbl := tb2_in _ (List.mem_of_getElem? (i := 50) (by decide +kernel))
theorem wq_8_7 : Cond.methodLink RX4 65 yX4_hasBlocker ∈ lw_tbl := tb2_in _ (List.mem_of_getElem? (i := 51) (by decide +kernel))
theorem wq_8_8 : Cond.instanceMethod yX4_hasBlocker ∈ lw_tbl := tb2_in _ (List.mem_of_getElem? (i := 53) (by decide +kernel))
theorem wq_8_9 : Cond.selects RX4 yX4_hasBlocker yX4_hasBlocker ∈ lw_tbl := tb0_in _ (List.mem_of_getElem? (i := 0) (by decide +kernel))
theorem wq_8_10 : Cond.code yX4_hasBlocker cX4_hasBlocker 7 (some .boolean) ∈ lw_tbl := tb2_in _ (List.mem_of_getElem? (i := 54) (by decide +kernel))
theorem wq_8_11 : Cond.methodLink RX4 73 yX4_inPlace ∈ lw_tbl := tb2_in _ (List.mem_of_getElem? (i := 55) (by decide +kernel))
theorem wq_8_12 : Cond.instanceMethod yX4_inPlace ∈ lw_tbl := tb2_in _ (List.mem_of_getElem? (i := 57) (by decide +kernel))
theorem wq_8_13 : Cond.selects RX4 yX4_inPlace yX4_inPlace ∈ lw_tbl := tb0_in _ (List.mem_of_getElem? (i := 1) (by decide +kernel))
theorem wq_8_14 : Cond.code yX4_inPlace cX4_inPlace 3 (some .int) ∈ lw_tbl := tb2_in _ (List.mem_of_getElem? (i := 58) (by decide +kernel))
theorem wq_8_15 : Cond.static yX9_isPlace ∈ lw_tbl := tb2_in _ (List.mem_of_getElem? (i := 60) (by decide +kernel))
theorem wq_8_16 : Cond.code yX9_isPlace cX9_isPlace 2 (some .boolean) ∈ lw_tbl := tb2_in _ (List.mem_of_getElem? (i := 61) (by decide +kernel))
theorem wq_8_17 : Cond.methodLink RX4 69 yX4_nearestShader ∈ lw_tbl := tb2_in _ (List.mem_of_getElem? (i := 62) (by decide +kernel))
theorem wq_8_18 : Cond.instanceMethod yX4_nearestShader ∈ lw_tbl := tb2_in _ (List.mem_of_getElem? (i := 64) (by decide +kernel))
theorem wq_8_19 : Cond.selects RX4 yX4_nearestShader yX4_nearestShader ∈ lw_tbl := tb0_in _ (List.mem_of_getElem? (i := 2) (by decide +kernel))
theorem wq_8_20 : Cond.code yX4_nearestShader cX4_nearestShader 8 (some .int) ∈ lw_tbl := tb2_in _ (List.mem_of_getElem? (i := 65) (by decide +kernel))
theorem wq_8_21 : Cond.methodLink RX4 76 yX8_height ∈ lw_tbl := tb2_in _ (List.mem_of_getElem? (i := 66) (by decide +kernel))
theorem wq_8_22 : Cond.static yX8_height ∈ lw_tbl := tb2_in _ (List.mem_of_getElem? (i := 67) (by decide +kernel))
theorem wq_8_23 : Cond.initialized RX8 ∈ lw_tbl := tb1_in _ (List.mem_of_getElem? (i := 12) (by decide +kernel))
theorem wl_r8 : ∀ w ∈ wsL_law_r8, w ∈ lw_tbl := List.forall_mem_cons.mpr ⟨wq_8_0, List.forall_mem_cons.mpr ⟨wq_8_1, List.forall_mem_cons.mpr ⟨wq_8_2, List.forall_mem_cons.mpr ⟨wq_8_3, List.forall_mem_cons.mpr ⟨wq_8_4, List.forall_mem_cons.mpr ⟨wq_8_5, List.forall_mem_cons.mpr ⟨wq_8_6, List.forall_mem_cons.mpr ⟨wq_8_7, List.forall_mem_cons.mpr ⟨wq_8_8, List.forall_mem_cons.mpr ⟨wq_8_9, List.forall_mem_cons.mpr ⟨wq_8_10, List.forall_mem_cons.mpr ⟨wq_8_11, List.forall_mem_cons.mpr ⟨wq_8_12, List.forall_mem_cons.mpr ⟨wq_8_13, List.forall_mem_cons.mpr ⟨wq_8_14, List.forall_mem_cons.mpr ⟨wq_8_15, List.forall_mem_cons.mpr ⟨wq_8_16, List.forall_mem_cons.mpr ⟨wq_8_17, List.forall_mem_cons.mpr ⟨wq_8_18, List.forall_mem_cons.mpr ⟨wq_8_19, List.forall_mem_cons.mpr ⟨wq_8_20, List.forall_mem_cons.mpr ⟨wq_8_21, List.forall_mem_cons.mpr ⟨wq_8_22, List.forall_mem_cons.mpr ⟨wq_8_23, fun _ h => absurd h List.not_mem_nil⟩⟩⟩⟩⟩⟩⟩⟩⟩⟩⟩⟩⟩⟩⟩⟩⟩⟩⟩⟩⟩⟩⟩⟩
theorem wg_r8 : ∀ w ∈ wsL_law_r8, goodWord w = true := List.all_eq_true.mp (by decide +kernel)
theorem wq_9_0 : Cond.code yX8_height cX8_height 1 (some .int) ∈ lw_tbl := tb2_in _ (List.mem_of_getElem? (i := 68) (by decide +kernel))
theorem wq_9_1 : Cond.methodLink RX8 9 Lib.Math.abs.name ∈ lw_tbl := tb2_in _ (List.mem_of_getElem? (i := 69) (by decide +kernel))
theorem wq_9_2 : Cond.static Lib.Math.abs.name ∈ lw_tbl := tb2_in _ (List.mem_of_getElem? (i := 70) (by decide +kernel))
theorem wq_9_3 : Cond.code Lib.Math.abs.name Lib.Math.abs.code 1 (some .int) ∈ lw_tbl := tb2_in _ (List.mem_of_getElem? (i := 71) (by decide +kernel))
theorem wq_9_4 : Cond.methodLink RX4 81 yX8_columns ∈ lw_tbl := tb2_in _ (List.mem_of_getElem? (i := 72) (by decide +kernel))
theorem wq_9_5 : Cond.static yX8_columns ∈ lw_tbl := tb2_in _ (List.mem_of_getElem? (i := 73) (by decide +kernel))
theorem wq_9_6 : Cond.code yX8_columns cX8_columns 1 (some .int) ∈ lw_tbl := tb2_in _ (List.mem_of_getElem? (i := 74) (by decide +kernel))
theorem wq_9_7 : Cond.methodLink RX9 175 yX4_day ∈ lw_tbl := tb2_in _ (List.mem_of_getElem? (i := 75) (by decide +kernel))
theorem wq_9_8 : Cond.instanceMethod yX4_day ∈ lw_tbl := tb2_in _ (List.mem_of_getElem? (i := 76) (by decide +kernel))
theorem wq_9_9 : Cond.selects RX4 yX4_day yX4_day ∈ lw_tbl := tb2_in _ (List.mem_of_getElem? (i := 77) (by decide +kernel))
theorem wq_9_10 : Cond.code yX4_day cX4_day 3 (some .int) ∈ lw_tbl := tb2_in _ (List.mem_of_getElem? (i := 78) (by decide +kernel))
theorem wq_9_11 : Cond.methodLink RX4 115 yX4_work ∈ lw_tbl := tb2_in _ (List.mem_of_getElem? (i := 79) (by decide +kernel))
theorem wq_9_12 : Cond.instanceMethod yX4_work ∈ lw_tbl := tb2_in _ (List.mem_of_getElem? (i := 80) (by decide +kernel))
theorem wq_9_13 : Cond.selects RX4 yX4_work yX4_work ∈ lw_tbl := tb2_in _ (List.mem_of_getElem? (i := 81) (by decide +kernel))
theorem wq_9_14 : Cond.code yX4_work cX4_work 6 (some .int) ∈ lw_tbl := tb2_in _ (List.mem_of_getElem? (i := 82) (by decide +kernel))
theorem wq_9_15 : Cond.methodLink RX4 87 yX2_liesFlat ∈ lw_tbl := tb2_in _ (List.mem_of_getElem? (i := 83) (by decide +kernel))
theorem wq_9_16 : Cond.methodLink RX4 91 yX4_gift ∈ lw_tbl := tb2_in _ (List.mem_of_getElem? (i := 84) (by decide +kernel))
theorem wq_9_17 : Cond.instanceMethod yX4_gift ∈ lw_tbl := tb2_in _ (List.mem_of_getElem? (i := 86) (by decide +kernel))
theorem wq_9_18 : Cond.selects RX4 yX4_gift yX4_gift ∈ lw_tbl := tb0_in _ (List.mem_of_getElem? (i := 3) (by decide +kernel))
theorem wq_9_19 : Cond.code yX4_gift cX4_gift 4 (some .int) ∈ lw_tbl := tb2_in _ (List.mem_of_getElem? (i := 87) (by decide +kernel))
theorem wq_9_20 : Cond.fieldLink RX4 106 "SunMirrors$Field" "dusts" "LSunMirrors$Cells;" ∈ lw_tbl := tb1_in _ (List.mem_of_getElem? (i := 59) (by decide +kernel))
theorem wq_9_21 : Cond.methodLink RX4 100 yX4_isBlocked ∈ lw_tbl := tb2_in _ (List.mem_of_getElem? (i := 88) (by decide +kernel))
theorem wq_9_22 : Cond.instanceMethod yX4_isBlocked ∈ lw_tbl := tb2_in _ (List.mem_of_getElem? (i := 89) (by decide +kernel))
theorem wq_9_23 : Cond.selects RX4 yX4_isBlocked yX4_isBlocked ∈ lw_tbl := tb2_in _ (List.mem_of_getElem? (i := 90) (by decide +kernel))
theorem wl_r9 : ∀ w ∈ wsL_law_r9, w ∈ lw_tbl := List.forall_mem_cons.mpr ⟨wq_9_0, List.forall_mem_cons.mpr ⟨wq_9_1, List.forall_mem_cons.mpr ⟨wq_9_2, List.forall_mem_cons.mpr ⟨wq_9_3, List.forall_mem_cons.mpr ⟨wq_9_4, List.forall_mem_cons.mpr ⟨wq_9_5, List.forall_mem_cons.mpr ⟨wq_9_6, List.forall_mem_cons.mpr ⟨wq_9_7, List.forall_mem_cons.mpr ⟨wq_9_8, List.forall_mem_cons.mpr ⟨wq_9_9, List.forall_mem_cons.mpr ⟨wq_9_10, List.forall_mem_cons.mpr ⟨wq_9_11, List.forall_mem_cons.mpr ⟨wq_9_12, List.forall_mem_cons.mpr ⟨wq_9_13, List.forall_mem_cons.mpr ⟨wq_9_14, List.forall_mem_cons.mpr ⟨wq_9_15, List.forall_mem_cons.mpr ⟨wq_9_16, List.forall_mem_cons.mpr ⟨wq_9_17, List.forall_mem_cons.mpr ⟨wq_9_18, List.forall_mem_cons.mpr ⟨wq_9_19, List.forall_mem_cons.mpr ⟨wq_9_20, List.forall_mem_cons.mpr ⟨wq_9_21, List.forall_mem_cons.mpr ⟨wq_9_22, List.forall_mem_cons.mpr ⟨wq_9_23, fun _ h => absurd h List.not_mem_nil⟩⟩⟩⟩⟩⟩⟩⟩⟩⟩⟩⟩⟩⟩⟩⟩⟩⟩⟩⟩⟩⟩⟩⟩
theorem wg_r9 : ∀ w ∈ wsL_law_r9, goodWord w = true := List.all_eq_true.mp (by decide +kernel)
theorem wq_10_0 : Cond.code yX4_isBlocked cX4_isBlocked 2 (some .boolean) ∈ lw_tbl := tb2_in _ (List.mem_of_getElem? (i := 91) (by decide +kernel))
theorem wq_10_1 : Cond.methodLink RX4 103 yX4_shader ∈ lw_tbl := tb2_in _ (List.mem_of_getElem? (i := 92) (by decide +kernel))
theorem wq_10_2 : Cond.instanceMethod yX4_shader ∈ lw_tbl := tb2_in _ (List.mem_of_getElem? (i := 93) (by decide +kernel))
theorem wq_10_3 : Cond.selects RX4 yX4_shader yX4_shader ∈ lw_tbl := tb2_in _ (List.mem_of_getElem? (i := 94) (by decide +kernel))
theorem wq_10_4 : Cond.code yX4_shader cX4_shader 3 (some .int) ∈ lw_tbl := tb2_in _ (List.mem_of_getElem? (i := 95) (by decide +kernel))
theorem wq_10_5 : Cond.methodLink RX4 94 yX4_putInOrder ∈ lw_tbl := tb2_in _ (List.mem_of_getElem? (i := 96) (by decide +kernel))
theorem wq_10_6 : Cond.instanceMethod yX4_putInOrder ∈ lw_tbl := tb2_in _ (List.mem_of_getElem? (i := 98) (by decide +kernel))
theorem wq_10_7 : Cond.selects RX4 yX4_putInOrder yX4_putInOrder ∈ lw_tbl := tb0_in _ (List.mem_of_getElem? (i := 4) (by decide +kernel))
theorem wq_10_8 : Cond.code yX4_putInOrder cX4_putInOrder 3 none ∈ lw_tbl := tb2_in _ (List.mem_of_getElem? (i := 99) (by decide +kernel))
theorem wq_10_9 : Cond.methodLink RX4 97 yX4_useIfBearable ∈ lw_tbl := tb2_in _ (List.mem_of_getElem? (i := 100) (by decide +kernel))
theorem wq_10_10 : Cond.instanceMethod yX4_useIfBearable ∈ lw_tbl := tb2_in _ (List.mem_of_getElem? (i := 102) (by decide +kernel))
theorem wq_10_11 : Cond.selects RX4 yX4_useIfBearable yX4_useIfBearable ∈ lw_tbl := tb0_in _ (List.mem_of_getElem? (i := 5) (by decide +kernel))
theorem wq_10_12 : Cond.code yX4_useIfBearable cX4_useIfBearable 4 (some .int) ∈ lw_tbl := tb2_in _ (List.mem_of_getElem? (i := 103) (by decide +kernel))
theorem wq_10_13 : Cond.fieldLink RX4 109 "SunMirrors$Field" "aims" "LSunMirrors$Cells;" ∈ lw_tbl := tb1_in _ (List.mem_of_getElem? (i := 56) (by decide +kernel))
theorem wq_10_14 : Cond.fieldLink RX4 112 "SunMirrors$Field" "settings" "LSunMirrors$Cells;" ∈ lw_tbl := tb1_in _ (List.mem_of_getElem? (i := 47) (by decide +kernel))
theorem wq_10_15 : Cond.methodLink RX9 178 yX4_blocked ∈ lw_tbl := tb2_in _ (List.mem_of_getElem? (i := 104) (by decide +kernel))
theorem wq_10_16 : Cond.instanceMethod yX4_blocked ∈ lw_tbl := tb2_in _ (List.mem_of_getElem? (i := 105) (by decide +kernel))
theorem wq_10_17 : Cond.selects RX4 yX4_blocked yX4_blocked ∈ lw_tbl := tb2_in _ (List.mem_of_getElem? (i := 106) (by decide +kernel))
theorem wq_10_18 : Cond.code yX4_blocked cX4_blocked 1 (some .int) ∈ lw_tbl := tb2_in _ (List.mem_of_getElem? (i := 107) (by decide +kernel))
theorem wq_10_19 : Cond.methodLink RX9 181 yX2_allDust ∈ lw_tbl := tb2_in _ (List.mem_of_getElem? (i := 108) (by decide +kernel))
theorem wq_10_20 : Cond.instanceMethod yX2_allDust ∈ lw_tbl := tb2_in _ (List.mem_of_getElem? (i := 109) (by decide +kernel))
theorem wq_10_21 : Cond.selects RX2 yX2_allDust yX2_allDust ∈ lw_tbl := tb2_in _ (List.mem_of_getElem? (i := 110) (by decide +kernel))
theorem wq_10_22 : Cond.code yX2_allDust cX2_allDust 3 (some .int) ∈ lw_tbl := tb2_in _ (List.mem_of_getElem? (i := 111) (by decide +kernel))
theorem wq_10_23 : Cond.methodLink RX9 106 yX1_read ∈ lw_tbl := tb2_in _ (List.mem_of_getElem? (i := 112) (by decide +kernel))
theorem wl_r10 : ∀ w ∈ wsL_law_r10, w ∈ lw_tbl := List.forall_mem_cons.mpr ⟨wq_10_0, List.forall_mem_cons.mpr ⟨wq_10_1, List.forall_mem_cons.mpr ⟨wq_10_2, List.forall_mem_cons.mpr ⟨wq_10_3, List.forall_mem_cons.mpr ⟨wq_10_4, List.forall_mem_cons.mpr ⟨wq_10_5, List.forall_mem_cons.mpr ⟨wq_10_6, List.forall_mem_cons.mpr ⟨wq_10_7, List.forall_mem_cons.mpr ⟨wq_10_8, List.forall_mem_cons.mpr ⟨wq_10_9, List.forall_mem_cons.mpr ⟨wq_10_10, List.forall_mem_cons.mpr ⟨wq_10_11, List.forall_mem_cons.mpr ⟨wq_10_12, List.forall_mem_cons.mpr ⟨wq_10_13, List.forall_mem_cons.mpr ⟨wq_10_14, List.forall_mem_cons.mpr ⟨wq_10_15, List.forall_mem_cons.mpr ⟨wq_10_16, List.forall_mem_cons.mpr ⟨wq_10_17, List.forall_mem_cons.mpr ⟨wq_10_18, List.forall_mem_cons.mpr ⟨wq_10_19, List.forall_mem_cons.mpr ⟨wq_10_20, List.forall_mem_cons.mpr ⟨wq_10_21, List.forall_mem_cons.mpr ⟨wq_10_22, List.forall_mem_cons.mpr ⟨wq_10_23, fun _ h => absurd h List.not_mem_nil⟩⟩⟩⟩⟩⟩⟩⟩⟩⟩⟩⟩⟩⟩⟩⟩⟩⟩⟩⟩⟩⟩⟩⟩
theorem wg_r10 : ∀ w ∈ wsL_law_r10, goodWord w = true := List.all_eq_true.mp (by decide +kernel)
theorem wq_11_0 : Cond.methodLink RX9 187 yX5_length ∈ lw_tbl := tb2_in _ (List.mem_of_getElem? (i := 113) (by decide +kernel))
theorem wq_11_1 : Cond.instanceMethod yX5_length ∈ lw_tbl := tb2_in _ (List.mem_of_getElem? (i := 114) (by decide +kernel))
theorem wq_11_2 : Cond.selects RX5 yX5_length yX5_length ∈ lw_tbl := tb2_in _ (List.mem_of_getElem? (i := 115) (by decide +kernel))
theorem wq_11_3 : Cond.code yX5_length cX5_length 1 (some .int) ∈ lw_tbl := tb2_in _ (List.mem_of_getElem? (i := 116) (by decide +kernel))
theorem wq_11_4 : Cond.methodLink RX9 190 yX3_size ∈ lw_tbl := tb2_in _ (List.mem_of_getElem? (i := 117) (by decide +kernel))
theorem wq_11_5 : Cond.instanceMethod yX3_size ∈ lw_tbl := tb2_in _ (List.mem_of_getElem? (i := 118) (by decide +kernel))
theorem wq_11_6 : Cond.selects RX3 yX3_size yX3_size ∈ lw_tbl := tb2_in _ (List.mem_of_getElem? (i := 119) (by decide +kernel))
theorem wq_11_7 : Cond.code yX3_size cX3_size 1 (some .int) ∈ lw_tbl := tb2_in _ (List.mem_of_getElem? (i := 120) (by decide +kernel))
theorem wq_11_8 : Cond.methodLink RL 15 yL_up ∈ lw_tbl := tb2_in _ (List.mem_of_getElem? (i := 121) (by decide +kernel))
theorem wq_11_9 : Cond.static yL_up ∈ lw_tbl := tb2_in _ (List.mem_of_getElem? (i := 122) (by decide +kernel))
theorem wq_11_10 : Cond.code yL_up cL_up 2 (some .int) ∈ lw_tbl := tb2_in _ (List.mem_of_getElem? (i := 123) (by decide +kernel))
theorem wq_11_11 : Cond.constant RL 8 (2147483647) ∈ lw_tbl := tb2_in _ (List.mem_of_getElem? (i := 124) (by decide +kernel))
theorem wq_11_12 : Cond.methodLink RL 21 yX9_in ∈ lw_tbl := tb2_in _ (List.mem_of_getElem? (i := 125) (by decide +kernel))
theorem wq_11_13 : Cond.instanceMethod yX9_in ∈ lw_tbl := tb2_in _ (List.mem_of_getElem? (i := 126) (by decide +kernel))
theorem wq_11_14 : Cond.selects RX9 yX9_in yX9_in ∈ lw_tbl := tb2_in _ (List.mem_of_getElem? (i := 127) (by decide +kernel))
theorem wq_11_15 : Cond.code yX9_in cX9_in 3 (some .int) ∈ lw_tbl := tb2_in _ (List.mem_of_getElem? (i := 128) (by decide +kernel))
theorem wq_11_16 : Cond.methodLink RX9 193 yX9_isPlace ∈ lw_tbl := tb2_in _ (List.mem_of_getElem? (i := 129) (by decide +kernel))
theorem wq_11_17 : Cond.methodLink RX9 197 yX2_mirrorIn ∈ lw_tbl := tb2_in _ (List.mem_of_getElem? (i := 130) (by decide +kernel))
theorem wq_11_18 : Cond.instanceMethod yX2_mirrorIn ∈ lw_tbl := tb2_in _ (List.mem_of_getElem? (i := 131) (by decide +kernel))
theorem wq_11_19 : Cond.selects RX2 yX2_mirrorIn yX2_mirrorIn ∈ lw_tbl := tb2_in _ (List.mem_of_getElem? (i := 132) (by decide +kernel))
theorem wq_11_20 : Cond.code yX2_mirrorIn cX2_mirrorIn 4 (some .int) ∈ lw_tbl := tb2_in _ (List.mem_of_getElem? (i := 133) (by decide +kernel))
theorem wq_11_21 : Cond.methodLink RL 24 yX9_mirror ∈ lw_tbl := tb2_in _ (List.mem_of_getElem? (i := 134) (by decide +kernel))
theorem wq_11_22 : Cond.instanceMethod yX9_mirror ∈ lw_tbl := tb2_in _ (List.mem_of_getElem? (i := 135) (by decide +kernel))
theorem wq_11_23 : Cond.selects RX9 yX9_mirror yX9_mirror ∈ lw_tbl := tb2_in _ (List.mem_of_getElem? (i := 136) (by decide +kernel))
theorem wl_r11 : ∀ w ∈ wsL_law_r11, w ∈ lw_tbl := List.forall_mem_cons.mpr ⟨wq_11_0, List.forall_mem_cons.mpr ⟨wq_11_1, List.forall_mem_cons.mpr ⟨wq_11_2, List.forall_mem_cons.mpr ⟨wq_11_3, List.forall_mem_cons.mpr ⟨wq_11_4, List.forall_mem_cons.mpr ⟨wq_11_5, List.forall_mem_cons.mpr ⟨wq_11_6, List.forall_mem_cons.mpr ⟨wq_11_7, List.forall_mem_cons.mpr ⟨wq_11_8, List.forall_mem_cons.mpr ⟨wq_11_9, List.forall_mem_cons.mpr ⟨wq_11_10, List.forall_mem_cons.mpr ⟨wq_11_11, List.forall_mem_cons.mpr ⟨wq_11_12, List.forall_mem_cons.mpr ⟨wq_11_13, List.forall_mem_cons.mpr ⟨wq_11_14, List.forall_mem_cons.mpr ⟨wq_11_15, List.forall_mem_cons.mpr ⟨wq_11_16, List.forall_mem_cons.mpr ⟨wq_11_17, List.forall_mem_cons.mpr ⟨wq_11_18, List.forall_mem_cons.mpr ⟨wq_11_19, List.forall_mem_cons.mpr ⟨wq_11_20, List.forall_mem_cons.mpr ⟨wq_11_21, List.forall_mem_cons.mpr ⟨wq_11_22, List.forall_mem_cons.mpr ⟨wq_11_23, fun _ h => absurd h List.not_mem_nil⟩⟩⟩⟩⟩⟩⟩⟩⟩⟩⟩⟩⟩⟩⟩⟩⟩⟩⟩⟩⟩⟩⟩⟩
theorem wg_r11 : ∀ w ∈ wsL_law_r11, goodWord w = true := List.all_eq_true.mp (by decide +kernel)
theorem wq_12_0 : Cond.code yX9_mirror cX9_mirror 4 (some .int) ∈ lw_tbl := tb2_in _ (List.mem_of_getElem? (i := 137) (by decide +kernel))
theorem wq_12_1 : Cond.methodLink RX9 68 yX3_note ∈ lw_tbl := tb2_in _ (List.mem_of_getElem? (i := 138) (by decide +kernel))
theorem wq_12_2 : Cond.instanceMethod yX3_note ∈ lw_tbl := tb2_in _ (List.mem_of_getElem? (i := 139) (by decide +kernel))
theorem wq_12_3 : Cond.selects RX3 yX3_note yX3_note ∈ lw_tbl := tb2_in _ (List.mem_of_getElem? (i := 140) (by decide +kernel))
theorem wq_12_4 : Cond.code yX3_note cX3_note 2 none ∈ lw_tbl := tb2_in _ (List.mem_of_getElem? (i := 141) (by decide +kernel))
theorem wq_12_5 : Cond.methodLink RX3 27 yX7_keep ∈ lw_tbl := tb2_in _ (List.mem_of_getElem? (i := 142) (by decide +kernel))
theorem wq_12_6 : Cond.instanceMethod yX7_keep ∈ lw_tbl := tb2_in _ (List.mem_of_getElem? (i := 143) (by decide +kernel))
theorem wq_12_7 : Cond.selects RX7 yX7_keep yX7_keep ∈ lw_tbl := tb2_in _ (List.mem_of_getElem? (i := 144) (by decide +kernel))
theorem wq_12_8 : Cond.code yX7_keep cX7_keep 4 none ∈ lw_tbl := tb2_in _ (List.mem_of_getElem? (i := 145) (by decide +kernel))
theorem wq_12_9 : Cond.methodLink RX7 22 yX7_state ∈ lw_tbl := tb2_in _ (List.mem_of_getElem? (i := 146) (by decide +kernel))
theorem wq_12_10 : Cond.instanceMethod yX7_state ∈ lw_tbl := tb2_in _ (List.mem_of_getElem? (i := 148) (by decide +kernel))
theorem wq_12_11 : Cond.selects RX7 yX7_state yX7_state ∈ lw_tbl := tb0_in _ (List.mem_of_getElem? (i := 6) (by decide +kernel))
theorem wq_12_12 : Cond.code yX7_state cX7_state 2 (some (.object "SunMirrors$Field")) ∈ lw_tbl := tb2_in _ (List.mem_of_getElem? (i := 149) (by decide +kernel))
theorem wq_12_13 : Cond.methodLink RX7 26 yX2_copy ∈ lw_tbl := tb2_in _ (List.mem_of_getElem? (i := 150) (by decide +kernel))
theorem wq_12_14 : Cond.instanceMethod yX2_copy ∈ lw_tbl := tb2_in _ (List.mem_of_getElem? (i := 151) (by decide +kernel))
theorem wq_12_15 : Cond.selects RX2 yX2_copy yX2_copy ∈ lw_tbl := tb2_in _ (List.mem_of_getElem? (i := 152) (by decide +kernel))
theorem wq_12_16 : Cond.code yX2_copy cX2_copy 2 none ∈ lw_tbl := tb2_in _ (List.mem_of_getElem? (i := 153) (by decide +kernel))
theorem wq_12_17 : Cond.methodLink RX2 52 yX1_copy ∈ lw_tbl := tb2_in _ (List.mem_of_getElem? (i := 154) (by decide +kernel))
theorem wq_12_18 : Cond.instanceMethod yX1_copy ∈ lw_tbl := tb2_in _ (List.mem_of_getElem? (i := 155) (by decide +kernel))
theorem wq_12_19 : Cond.selects RX1 yX1_copy yX1_copy ∈ lw_tbl := tb2_in _ (List.mem_of_getElem? (i := 156) (by decide +kernel))
theorem wq_12_20 : Cond.code yX1_copy cX1_copy 2 none ∈ lw_tbl := tb2_in _ (List.mem_of_getElem? (i := 157) (by decide +kernel))
theorem wq_12_21 : Cond.methodLink RX1 25 Lib.Math.min.name ∈ lw_tbl := tb2_in _ (List.mem_of_getElem? (i := 158) (by decide +kernel))
theorem wq_12_22 : Cond.static Lib.Math.min.name ∈ lw_tbl := tb2_in _ (List.mem_of_getElem? (i := 159) (by decide +kernel))
theorem wq_12_23 : Cond.code Lib.Math.min.name Lib.Math.min.code 2 (some .int) ∈ lw_tbl := tb2_in _ (List.mem_of_getElem? (i := 160) (by decide +kernel))
theorem wl_r12 : ∀ w ∈ wsL_law_r12, w ∈ lw_tbl := List.forall_mem_cons.mpr ⟨wq_12_0, List.forall_mem_cons.mpr ⟨wq_12_1, List.forall_mem_cons.mpr ⟨wq_12_2, List.forall_mem_cons.mpr ⟨wq_12_3, List.forall_mem_cons.mpr ⟨wq_12_4, List.forall_mem_cons.mpr ⟨wq_12_5, List.forall_mem_cons.mpr ⟨wq_12_6, List.forall_mem_cons.mpr ⟨wq_12_7, List.forall_mem_cons.mpr ⟨wq_12_8, List.forall_mem_cons.mpr ⟨wq_12_9, List.forall_mem_cons.mpr ⟨wq_12_10, List.forall_mem_cons.mpr ⟨wq_12_11, List.forall_mem_cons.mpr ⟨wq_12_12, List.forall_mem_cons.mpr ⟨wq_12_13, List.forall_mem_cons.mpr ⟨wq_12_14, List.forall_mem_cons.mpr ⟨wq_12_15, List.forall_mem_cons.mpr ⟨wq_12_16, List.forall_mem_cons.mpr ⟨wq_12_17, List.forall_mem_cons.mpr ⟨wq_12_18, List.forall_mem_cons.mpr ⟨wq_12_19, List.forall_mem_cons.mpr ⟨wq_12_20, List.forall_mem_cons.mpr ⟨wq_12_21, List.forall_mem_cons.mpr ⟨wq_12_22, List.forall_mem_cons.mpr ⟨wq_12_23, fun _ h => absurd h List.not_mem_nil⟩⟩⟩⟩⟩⟩⟩⟩⟩⟩⟩⟩⟩⟩⟩⟩⟩⟩⟩⟩⟩⟩⟩⟩
theorem wg_r12 : ∀ w ∈ wsL_law_r12, goodWord w = true := List.all_eq_true.mp (by decide +kernel)
theorem wq_13_0 : Cond.methodLink RX1 28 arraycopyName ∈ lw_tbl := tb2_in _ (List.mem_of_getElem? (i := 161) (by decide +kernel))
theorem wq_13_1 : Cond.native arraycopyName ∈ lw_tbl := tb2_in _ (List.mem_of_getElem? (i := 163) (by decide +kernel))
theorem wq_13_2 : Cond.static arraycopyName ∈ lw_tbl := tb2_in _ (List.mem_of_getElem? (i := 162) (by decide +kernel))
theorem wq_13_3 : Cond.initialized "java/lang/System" ∈ lw_tbl := tb1_in _ (List.mem_of_getElem? (i := 13) (by decide +kernel))
theorem wq_13_4 : Cond.methodLink RX9 79 yX2_place ∈ lw_tbl := tb2_in _ (List.mem_of_getElem? (i := 164) (by decide +kernel))
theorem wq_13_5 : Cond.instanceMethod yX2_place ∈ lw_tbl := tb2_in _ (List.mem_of_getElem? (i := 165) (by decide +kernel))
theorem wq_13_6 : Cond.selects RX2 yX2_place yX2_place ∈ lw_tbl := tb2_in _ (List.mem_of_getElem? (i := 166) (by decide +kernel))
theorem wq_13_7 : Cond.code yX2_place cX2_place 4 (some .int) ∈ lw_tbl := tb2_in _ (List.mem_of_getElem? (i := 167) (by decide +kernel))
theorem wq_13_8 : Cond.static yX9_isAimPoint ∈ lw_tbl := tb2_in _ (List.mem_of_getElem? (i := 170) (by decide +kernel))
theorem wq_13_9 : Cond.code yX9_isAimPoint cX9_isAimPoint 1 (some .boolean) ∈ lw_tbl := tb2_in _ (List.mem_of_getElem? (i := 171) (by decide +kernel))
theorem wq_13_10 : Cond.methodLink RX2 71 yX2_mirrorIn ∈ lw_tbl := tb2_in _ (List.mem_of_getElem? (i := 172) (by decide +kernel))
theorem wq_13_11 : Cond.methodLink RX2 75 yX2_add ∈ lw_tbl := tb2_in _ (List.mem_of_getElem? (i := 173) (by decide +kernel))
theorem wq_13_12 : Cond.instanceMethod yX2_add ∈ lw_tbl := tb2_in _ (List.mem_of_getElem? (i := 174) (by decide +kernel))
theorem wq_13_13 : Cond.selects RX2 yX2_add yX2_add ∈ lw_tbl := tb2_in _ (List.mem_of_getElem? (i := 175) (by decide +kernel))
theorem wq_13_14 : Cond.code yX2_add cX2_add 5 (some .int) ∈ lw_tbl := tb2_in _ (List.mem_of_getElem? (i := 176) (by decide +kernel))
theorem wq_13_15 : Cond.methodLink RX9 75 yX9_recorded ∈ lw_tbl := tb2_in _ (List.mem_of_getElem? (i := 177) (by decide +kernel))
theorem wq_13_16 : Cond.instanceMethod yX9_recorded ∈ lw_tbl := tb2_in _ (List.mem_of_getElem? (i := 179) (by decide +kernel))
theorem wq_13_17 : Cond.selects RX9 yX9_recorded yX9_recorded ∈ lw_tbl := tb0_in _ (List.mem_of_getElem? (i := 7) (by decide +kernel))
theorem wq_13_18 : Cond.code yX9_recorded cX9_recorded 2 (some .int) ∈ lw_tbl := tb2_in _ (List.mem_of_getElem? (i := 180) (by decide +kernel))
theorem wq_13_19 : Cond.methodLink RX9 244 yX3_keepNote ∈ lw_tbl := tb2_in _ (List.mem_of_getElem? (i := 181) (by decide +kernel))
theorem wq_13_20 : Cond.instanceMethod yX3_keepNote ∈ lw_tbl := tb2_in _ (List.mem_of_getElem? (i := 182) (by decide +kernel))
theorem wq_13_21 : Cond.selects RX3 yX3_keepNote yX3_keepNote ∈ lw_tbl := tb2_in _ (List.mem_of_getElem? (i := 183) (by decide +kernel))
theorem wq_13_22 : Cond.code yX3_keepNote cX3_keepNote 1 none ∈ lw_tbl := tb2_in _ (List.mem_of_getElem? (i := 184) (by decide +kernel))
theorem wq_13_23 : Cond.methodLink RX3 31 Lib.Math.min.name ∈ lw_tbl := tb2_in _ (List.mem_of_getElem? (i := 185) (by decide +kernel))
theorem wl_r13 : ∀ w ∈ wsL_law_r13, w ∈ lw_tbl := List.forall_mem_cons.mpr ⟨wq_13_0, List.forall_mem_cons.mpr ⟨wq_13_1, List.forall_mem_cons.mpr ⟨wq_13_2, List.forall_mem_cons.mpr ⟨wq_13_3, List.forall_mem_cons.mpr ⟨wq_13_4, List.forall_mem_cons.mpr ⟨wq_13_5, List.forall_mem_cons.mpr ⟨wq_13_6, List.forall_mem_cons.mpr ⟨wq_13_7, List.forall_mem_cons.mpr ⟨wq_13_8, List.forall_mem_cons.mpr ⟨wq_13_9, List.forall_mem_cons.mpr ⟨wq_13_10, List.forall_mem_cons.mpr ⟨wq_13_11, List.forall_mem_cons.mpr ⟨wq_13_12, List.forall_mem_cons.mpr ⟨wq_13_13, List.forall_mem_cons.mpr ⟨wq_13_14, List.forall_mem_cons.mpr ⟨wq_13_15, List.forall_mem_cons.mpr ⟨wq_13_16, List.forall_mem_cons.mpr ⟨wq_13_17, List.forall_mem_cons.mpr ⟨wq_13_18, List.forall_mem_cons.mpr ⟨wq_13_19, List.forall_mem_cons.mpr ⟨wq_13_20, List.forall_mem_cons.mpr ⟨wq_13_21, List.forall_mem_cons.mpr ⟨wq_13_22, List.forall_mem_cons.mpr ⟨wq_13_23, fun _ h => absurd h List.not_mem_nil⟩⟩⟩⟩⟩⟩⟩⟩⟩⟩⟩⟩⟩⟩⟩⟩⟩⟩⟩⟩⟩⟩⟩⟩
theorem wg_r13 : ∀ w ∈ wsL_law_r13, goodWord w = true := List.all_eq_true.mp (by decide +kernel)
theorem wq_14_0 : Cond.methodLink RL 28 yX9_of ∈ lw_tbl := tb2_in _ (List.mem_of_getElem? (i := 186) (by decide +kernel))
theorem wq_14_1 : Cond.instanceMethod yX9_of ∈ lw_tbl := tb2_in _ (List.mem_of_getElem? (i := 187) (by decide +kernel))
theorem wq_14_2 : Cond.selects RX9 yX9_of yX9_of ∈ lw_tbl := tb2_in _ (List.mem_of_getElem? (i := 188) (by decide +kernel))
theorem wq_14_3 : Cond.code yX9_of cX9_of 3 (some .int) ∈ lw_tbl := tb2_in _ (List.mem_of_getElem? (i := 189) (by decide +kernel))
theorem wq_14_4 : Cond.fieldLink RX9 102 "SunMirrors$Field" "rows" "LSunMirrors$Cells;" ∈ lw_tbl := tb1_in _ (List.mem_of_getElem? (i := 51) (by decide +kernel))
theorem wq_14_5 : Cond.fieldLink RX9 111 "SunMirrors$Field" "columns" "LSunMirrors$Cells;" ∈ lw_tbl := tb1_in _ (List.mem_of_getElem? (i := 54) (by decide +kernel))
theorem wq_14_6 : Cond.fieldLink RX9 114 "SunMirrors$Field" "aims" "LSunMirrors$Cells;" ∈ lw_tbl := tb1_in _ (List.mem_of_getElem? (i := 57) (by decide +kernel))
theorem wq_14_7 : Cond.fieldLink RX9 117 "SunMirrors$Field" "dusts" "LSunMirrors$Cells;" ∈ lw_tbl := tb1_in _ (List.mem_of_getElem? (i := 60) (by decide +kernel))
theorem wq_14_8 : Cond.fieldLink RX9 126 "SunMirrors$Field" "brought" "LSunMirrors$Cells;" ∈ lw_tbl := tb1_in _ (List.mem_of_getElem? (i := 62) (by decide +kernel))
theorem wq_14_9 : Cond.methodLink RX9 98 yX2_isMirror ∈ lw_tbl := tb2_in _ (List.mem_of_getElem? (i := 190) (by decide +kernel))
theorem wq_14_10 : Cond.instanceMethod yX2_isMirror ∈ lw_tbl := tb2_in _ (List.mem_of_getElem? (i := 191) (by decide +kernel))
theorem wq_14_11 : Cond.selects RX2 yX2_isMirror yX2_isMirror ∈ lw_tbl := tb2_in _ (List.mem_of_getElem? (i := 192) (by decide +kernel))
theorem wq_14_12 : Cond.code yX2_isMirror cX2_isMirror 2 (some .boolean) ∈ lw_tbl := tb2_in _ (List.mem_of_getElem? (i := 193) (by decide +kernel))
theorem wq_14_13 : Cond.methodLink RX9 123 yX4_isBlocked ∈ lw_tbl := tb2_in _ (List.mem_of_getElem? (i := 194) (by decide +kernel))
theorem wq_14_14 : Cond.methodLink RL 31 yX9_take ∈ lw_tbl := tb2_in _ (List.mem_of_getElem? (i := 195) (by decide +kernel))
theorem wq_14_15 : Cond.instanceMethod yX9_take ∈ lw_tbl := tb2_in _ (List.mem_of_getElem? (i := 196) (by decide +kernel))
theorem wq_14_16 : Cond.selects RX9 yX9_take yX9_take ∈ lw_tbl := tb2_in _ (List.mem_of_getElem? (i := 197) (by decide +kernel))
theorem wq_14_17 : Cond.code yX9_take cX9_take 2 (some .int) ∈ lw_tbl := tb2_in _ (List.mem_of_getElem? (i := 198) (by decide +kernel))
theorem wq_14_18 : Cond.methodLink RX9 83 yX2_remove ∈ lw_tbl := tb2_in _ (List.mem_of_getElem? (i := 199) (by decide +kernel))
theorem wq_14_19 : Cond.instanceMethod yX2_remove ∈ lw_tbl := tb2_in _ (List.mem_of_getElem? (i := 200) (by decide +kernel))
theorem wq_14_20 : Cond.selects RX2 yX2_remove yX2_remove ∈ lw_tbl := tb2_in _ (List.mem_of_getElem? (i := 201) (by decide +kernel))
theorem wq_14_21 : Cond.code yX2_remove cX2_remove 2 (some .int) ∈ lw_tbl := tb2_in _ (List.mem_of_getElem? (i := 202) (by decide +kernel))
theorem wq_14_22 : Cond.methodLink RX2 79 yX2_isMirror ∈ lw_tbl := tb2_in _ (List.mem_of_getElem? (i := 203) (by decide +kernel))
theorem wq_14_23 : Cond.methodLink RX2 82 yX1_leaveOut ∈ lw_tbl := tb2_in _ (List.mem_of_getElem? (i := 204) (by decide +kernel))
theorem wl_r14 : ∀ w ∈ wsL_law_r14, w ∈ lw_tbl := List.forall_mem_cons.mpr ⟨wq_14_0, List.forall_mem_cons.mpr ⟨wq_14_1, List.forall_mem_cons.mpr ⟨wq_14_2, List.forall_mem_cons.mpr ⟨wq_14_3, List.forall_mem_cons.mpr ⟨wq_14_4, List.forall_mem_cons.mpr ⟨wq_14_5, List.forall_mem_cons.mpr ⟨wq_14_6, List.forall_mem_cons.mpr ⟨wq_14_7, List.forall_mem_cons.mpr ⟨wq_14_8, List.forall_mem_cons.mpr ⟨wq_14_9, List.forall_mem_cons.mpr ⟨wq_14_10, List.forall_mem_cons.mpr ⟨wq_14_11, List.forall_mem_cons.mpr ⟨wq_14_12, List.forall_mem_cons.mpr ⟨wq_14_13, List.forall_mem_cons.mpr ⟨wq_14_14, List.forall_mem_cons.mpr ⟨wq_14_15, List.forall_mem_cons.mpr ⟨wq_14_16, List.forall_mem_cons.mpr ⟨wq_14_17, List.forall_mem_cons.mpr ⟨wq_14_18, List.forall_mem_cons.mpr ⟨wq_14_19, List.forall_mem_cons.mpr ⟨wq_14_20, List.forall_mem_cons.mpr ⟨wq_14_21, List.forall_mem_cons.mpr ⟨wq_14_22, List.forall_mem_cons.mpr ⟨wq_14_23, fun _ h => absurd h List.not_mem_nil⟩⟩⟩⟩⟩⟩⟩⟩⟩⟩⟩⟩⟩⟩⟩⟩⟩⟩⟩⟩⟩⟩⟩⟩
theorem wg_r14 : ∀ w ∈ wsL_law_r14, goodWord w = true := List.all_eq_true.mp (by decide +kernel)
theorem wq_15_0 : Cond.instanceMethod yX1_leaveOut ∈ lw_tbl := tb2_in _ (List.mem_of_getElem? (i := 205) (by decide +kernel))
theorem wq_15_1 : Cond.selects RX1 yX1_leaveOut yX1_leaveOut ∈ lw_tbl := tb2_in _ (List.mem_of_getElem? (i := 206) (by decide +kernel))
theorem wq_15_2 : Cond.code yX1_leaveOut cX1_leaveOut 2 none ∈ lw_tbl := tb2_in _ (List.mem_of_getElem? (i := 207) (by decide +kernel))
theorem wq_15_3 : Cond.methodLink RL 34 yX9_aim ∈ lw_tbl := tb2_in _ (List.mem_of_getElem? (i := 208) (by decide +kernel))
theorem wq_15_4 : Cond.instanceMethod yX9_aim ∈ lw_tbl := tb2_in _ (List.mem_of_getElem? (i := 209) (by decide +kernel))
theorem wq_15_5 : Cond.selects RX9 yX9_aim yX9_aim ∈ lw_tbl := tb2_in _ (List.mem_of_getElem? (i := 210) (by decide +kernel))
theorem wq_15_6 : Cond.code yX9_aim cX9_aim 3 (some .int) ∈ lw_tbl := tb2_in _ (List.mem_of_getElem? (i := 211) (by decide +kernel))
theorem wq_15_7 : Cond.methodLink RX9 86 yX2_turn ∈ lw_tbl := tb2_in _ (List.mem_of_getElem? (i := 212) (by decide +kernel))
theorem wq_15_8 : Cond.instanceMethod yX2_turn ∈ lw_tbl := tb2_in _ (List.mem_of_getElem? (i := 213) (by decide +kernel))
theorem wq_15_9 : Cond.selects RX2 yX2_turn yX2_turn ∈ lw_tbl := tb2_in _ (List.mem_of_getElem? (i := 214) (by decide +kernel))
theorem wq_15_10 : Cond.code yX2_turn cX2_turn 4 (some .int) ∈ lw_tbl := tb2_in _ (List.mem_of_getElem? (i := 215) (by decide +kernel))
theorem wq_15_11 : Cond.methodLink RL 37 yX9_wash ∈ lw_tbl := tb2_in _ (List.mem_of_getElem? (i := 216) (by decide +kernel))
theorem wq_15_12 : Cond.instanceMethod yX9_wash ∈ lw_tbl := tb2_in _ (List.mem_of_getElem? (i := 217) (by decide +kernel))
theorem wq_15_13 : Cond.selects RX9 yX9_wash yX9_wash ∈ lw_tbl := tb2_in _ (List.mem_of_getElem? (i := 218) (by decide +kernel))
theorem wq_15_14 : Cond.code yX9_wash cX9_wash 2 (some .int) ∈ lw_tbl := tb2_in _ (List.mem_of_getElem? (i := 219) (by decide +kernel))
theorem wq_15_15 : Cond.methodLink RX9 89 yX2_clean ∈ lw_tbl := tb2_in _ (List.mem_of_getElem? (i := 220) (by decide +kernel))
theorem wq_15_16 : Cond.instanceMethod yX2_clean ∈ lw_tbl := tb2_in _ (List.mem_of_getElem? (i := 221) (by decide +kernel))
theorem wq_15_17 : Cond.selects RX2 yX2_clean yX2_clean ∈ lw_tbl := tb2_in _ (List.mem_of_getElem? (i := 222) (by decide +kernel))
theorem wq_15_18 : Cond.code yX2_clean cX2_clean 3 (some .int) ∈ lw_tbl := tb2_in _ (List.mem_of_getElem? (i := 223) (by decide +kernel))
theorem wq_15_19 : Cond.methodLink RL 40 yX9_wind ∈ lw_tbl := tb2_in _ (List.mem_of_getElem? (i := 224) (by decide +kernel))
theorem wq_15_20 : Cond.instanceMethod yX9_wind ∈ lw_tbl := tb2_in _ (List.mem_of_getElem? (i := 225) (by decide +kernel))
theorem wq_15_21 : Cond.selects RX9 yX9_wind yX9_wind ∈ lw_tbl := tb2_in _ (List.mem_of_getElem? (i := 226) (by decide +kernel))
theorem wq_15_22 : Cond.code yX9_wind cX9_wind 2 (some .int) ∈ lw_tbl := tb2_in _ (List.mem_of_getElem? (i := 227) (by decide +kernel))
theorem wq_15_23 : Cond.methodLink RX9 92 yX2_blow ∈ lw_tbl := tb2_in _ (List.mem_of_getElem? (i := 228) (by decide +kernel))
theorem wl_r15 : ∀ w ∈ wsL_law_r15, w ∈ lw_tbl := List.forall_mem_cons.mpr ⟨wq_15_0, List.forall_mem_cons.mpr ⟨wq_15_1, List.forall_mem_cons.mpr ⟨wq_15_2, List.forall_mem_cons.mpr ⟨wq_15_3, List.forall_mem_cons.mpr ⟨wq_15_4, List.forall_mem_cons.mpr ⟨wq_15_5, List.forall_mem_cons.mpr ⟨wq_15_6, List.forall_mem_cons.mpr ⟨wq_15_7, List.forall_mem_cons.mpr ⟨wq_15_8, List.forall_mem_cons.mpr ⟨wq_15_9, List.forall_mem_cons.mpr ⟨wq_15_10, List.forall_mem_cons.mpr ⟨wq_15_11, List.forall_mem_cons.mpr ⟨wq_15_12, List.forall_mem_cons.mpr ⟨wq_15_13, List.forall_mem_cons.mpr ⟨wq_15_14, List.forall_mem_cons.mpr ⟨wq_15_15, List.forall_mem_cons.mpr ⟨wq_15_16, List.forall_mem_cons.mpr ⟨wq_15_17, List.forall_mem_cons.mpr ⟨wq_15_18, List.forall_mem_cons.mpr ⟨wq_15_19, List.forall_mem_cons.mpr ⟨wq_15_20, List.forall_mem_cons.mpr ⟨wq_15_21, List.forall_mem_cons.mpr ⟨wq_15_22, List.forall_mem_cons.mpr ⟨wq_15_23, fun _ h => absurd h List.not_mem_nil⟩⟩⟩⟩⟩⟩⟩⟩⟩⟩⟩⟩⟩⟩⟩⟩⟩⟩⟩⟩⟩⟩⟩⟩
theorem wg_r15 : ∀ w ∈ wsL_law_r15, goodWord w = true := List.all_eq_true.mp (by decide +kernel)
theorem wq_16_0 : Cond.instanceMethod yX2_blow ∈ lw_tbl := tb2_in _ (List.mem_of_getElem? (i := 229) (by decide +kernel))
theorem wq_16_1 : Cond.selects RX2 yX2_blow yX2_blow ∈ lw_tbl := tb2_in _ (List.mem_of_getElem? (i := 230) (by decide +kernel))
theorem wq_16_2 : Cond.code yX2_blow cX2_blow 2 (some .int) ∈ lw_tbl := tb2_in _ (List.mem_of_getElem? (i := 231) (by decide +kernel))
theorem wq_16_3 : Cond.methodLink RX2 85 yX2_liesFlat ∈ lw_tbl := tb2_in _ (List.mem_of_getElem? (i := 232) (by decide +kernel))
theorem wq_16_4 : Cond.methodLink RL 43 yX9_set ∈ lw_tbl := tb2_in _ (List.mem_of_getElem? (i := 233) (by decide +kernel))
theorem wq_16_5 : Cond.instanceMethod yX9_set ∈ lw_tbl := tb2_in _ (List.mem_of_getElem? (i := 234) (by decide +kernel))
theorem wq_16_6 : Cond.selects RX9 yX9_set yX9_set ∈ lw_tbl := tb2_in _ (List.mem_of_getElem? (i := 235) (by decide +kernel))
theorem wq_16_7 : Cond.code yX9_set cX9_set 3 (some .int) ∈ lw_tbl := tb2_in _ (List.mem_of_getElem? (i := 236) (by decide +kernel))
theorem wq_16_8 : Cond.methodLink RX9 71 yX2_changeSetting ∈ lw_tbl := tb2_in _ (List.mem_of_getElem? (i := 237) (by decide +kernel))
theorem wq_16_9 : Cond.instanceMethod yX2_changeSetting ∈ lw_tbl := tb2_in _ (List.mem_of_getElem? (i := 238) (by decide +kernel))
theorem wq_16_10 : Cond.selects RX2 yX2_changeSetting yX2_changeSetting ∈ lw_tbl := tb2_in _ (List.mem_of_getElem? (i := 239) (by decide +kernel))
theorem wq_16_11 : Cond.code yX2_changeSetting cX2_changeSetting 4 (some .int) ∈ lw_tbl := tb3_in _ (List.mem_of_getElem? (i := 0) (by decide +kernel))
theorem wq_16_12 : Cond.methodLink RX2 56 yX2_isSettingValue ∈ lw_tbl := tb3_in _ (List.mem_of_getElem? (i := 1) (by decide +kernel))
theorem wq_16_13 : Cond.static yX2_isSettingValue ∈ lw_tbl := tb3_in _ (List.mem_of_getElem? (i := 2) (by decide +kernel))
theorem wq_16_14 : Cond.code yX2_isSettingValue cX2_isSettingValue 2 (some .boolean) ∈ lw_tbl := tb3_in _ (List.mem_of_getElem? (i := 3) (by decide +kernel))
theorem wq_16_15 : Cond.methodLink RL 46 yX9_pass ∈ lw_tbl := tb3_in _ (List.mem_of_getElem? (i := 4) (by decide +kernel))
theorem wq_16_16 : Cond.instanceMethod yX9_pass ∈ lw_tbl := tb3_in _ (List.mem_of_getElem? (i := 5) (by decide +kernel))
theorem wq_16_17 : Cond.selects RX9 yX9_pass yX9_pass ∈ lw_tbl := tb3_in _ (List.mem_of_getElem? (i := 6) (by decide +kernel))
theorem wq_16_18 : Cond.code yX9_pass cX9_pass 2 (some .int) ∈ lw_tbl := tb3_in _ (List.mem_of_getElem? (i := 7) (by decide +kernel))
theorem wq_16_19 : Cond.methodLink RX9 95 yX4_spend ∈ lw_tbl := tb3_in _ (List.mem_of_getElem? (i := 8) (by decide +kernel))
theorem wq_16_20 : Cond.instanceMethod yX4_spend ∈ lw_tbl := tb3_in _ (List.mem_of_getElem? (i := 9) (by decide +kernel))
theorem wq_16_21 : Cond.selects RX4 yX4_spend yX4_spend ∈ lw_tbl := tb3_in _ (List.mem_of_getElem? (i := 10) (by decide +kernel))
theorem wq_16_22 : Cond.code yX4_spend cX4_spend 6 (some .int) ∈ lw_tbl := tb3_in _ (List.mem_of_getElem? (i := 11) (by decide +kernel))
theorem wq_16_23 : Cond.fieldLink RX4 118 "SunMirrors$Field" "days" "I" ∈ lw_tbl := tb1_in _ (List.mem_of_getElem? (i := 70) (by decide +kernel))
theorem wl_r16 : ∀ w ∈ wsL_law_r16, w ∈ lw_tbl := List.forall_mem_cons.mpr ⟨wq_16_0, List.forall_mem_cons.mpr ⟨wq_16_1, List.forall_mem_cons.mpr ⟨wq_16_2, List.forall_mem_cons.mpr ⟨wq_16_3, List.forall_mem_cons.mpr ⟨wq_16_4, List.forall_mem_cons.mpr ⟨wq_16_5, List.forall_mem_cons.mpr ⟨wq_16_6, List.forall_mem_cons.mpr ⟨wq_16_7, List.forall_mem_cons.mpr ⟨wq_16_8, List.forall_mem_cons.mpr ⟨wq_16_9, List.forall_mem_cons.mpr ⟨wq_16_10, List.forall_mem_cons.mpr ⟨wq_16_11, List.forall_mem_cons.mpr ⟨wq_16_12, List.forall_mem_cons.mpr ⟨wq_16_13, List.forall_mem_cons.mpr ⟨wq_16_14, List.forall_mem_cons.mpr ⟨wq_16_15, List.forall_mem_cons.mpr ⟨wq_16_16, List.forall_mem_cons.mpr ⟨wq_16_17, List.forall_mem_cons.mpr ⟨wq_16_18, List.forall_mem_cons.mpr ⟨wq_16_19, List.forall_mem_cons.mpr ⟨wq_16_20, List.forall_mem_cons.mpr ⟨wq_16_21, List.forall_mem_cons.mpr ⟨wq_16_22, List.forall_mem_cons.mpr ⟨wq_16_23, fun _ h => absurd h List.not_mem_nil⟩⟩⟩⟩⟩⟩⟩⟩⟩⟩⟩⟩⟩⟩⟩⟩⟩⟩⟩⟩⟩⟩⟩⟩
theorem wg_r16 : ∀ w ∈ wsL_law_r16, goodWord w = true := List.all_eq_true.mp (by decide +kernel)
theorem wq_17_0 : Cond.methodLink RX4 121 yX4_look ∈ lw_tbl := tb3_in _ (List.mem_of_getElem? (i := 12) (by decide +kernel))
theorem wq_17_1 : Cond.methodLink RX4 124 yX4_creditUsed ∈ lw_tbl := tb3_in _ (List.mem_of_getElem? (i := 13) (by decide +kernel))
theorem wq_17_2 : Cond.instanceMethod yX4_creditUsed ∈ lw_tbl := tb3_in _ (List.mem_of_getElem? (i := 15) (by decide +kernel))
theorem wq_17_3 : Cond.selects RX4 yX4_creditUsed yX4_creditUsed ∈ lw_tbl := tb0_in _ (List.mem_of_getElem? (i := 8) (by decide +kernel))
theorem wq_17_4 : Cond.code yX4_creditUsed cX4_creditUsed 2 none ∈ lw_tbl := tb3_in _ (List.mem_of_getElem? (i := 16) (by decide +kernel))
theorem wq_17_5 : Cond.methodLink RX4 130 yX4_isUsed ∈ lw_tbl := tb3_in _ (List.mem_of_getElem? (i := 17) (by decide +kernel))
theorem wq_17_6 : Cond.instanceMethod yX4_isUsed ∈ lw_tbl := tb3_in _ (List.mem_of_getElem? (i := 18) (by decide +kernel))
theorem wq_17_7 : Cond.selects RX4 yX4_isUsed yX4_isUsed ∈ lw_tbl := tb3_in _ (List.mem_of_getElem? (i := 19) (by decide +kernel))
theorem wq_17_8 : Cond.code yX4_isUsed cX4_isUsed 2 (some .boolean) ∈ lw_tbl := tb3_in _ (List.mem_of_getElem? (i := 20) (by decide +kernel))
theorem wq_17_9 : Cond.methodLink RX4 133 yX2_credit ∈ lw_tbl := tb3_in _ (List.mem_of_getElem? (i := 21) (by decide +kernel))
theorem wq_17_10 : Cond.instanceMethod yX2_credit ∈ lw_tbl := tb3_in _ (List.mem_of_getElem? (i := 22) (by decide +kernel))
theorem wq_17_11 : Cond.selects RX2 yX2_credit yX2_credit ∈ lw_tbl := tb3_in _ (List.mem_of_getElem? (i := 23) (by decide +kernel))
theorem wq_17_12 : Cond.code yX2_credit cX2_credit 3 none ∈ lw_tbl := tb3_in _ (List.mem_of_getElem? (i := 24) (by decide +kernel))
theorem wq_17_13 : Cond.methodLink RX4 127 yX2_endDay ∈ lw_tbl := tb3_in _ (List.mem_of_getElem? (i := 25) (by decide +kernel))
theorem wq_17_14 : Cond.instanceMethod yX2_endDay ∈ lw_tbl := tb3_in _ (List.mem_of_getElem? (i := 26) (by decide +kernel))
theorem wq_17_15 : Cond.selects RX2 yX2_endDay yX2_endDay ∈ lw_tbl := tb3_in _ (List.mem_of_getElem? (i := 27) (by decide +kernel))
theorem wq_17_16 : Cond.code yX2_endDay cX2_endDay 3 none ∈ lw_tbl := tb3_in _ (List.mem_of_getElem? (i := 28) (by decide +kernel))
theorem wq_17_17 : Cond.methodLink RX2 89 Lib.Math.min.name ∈ lw_tbl := tb3_in _ (List.mem_of_getElem? (i := 29) (by decide +kernel))
theorem wq_17_18 : Cond.methodLink RL 49 yX9_undo ∈ lw_tbl := tb3_in _ (List.mem_of_getElem? (i := 30) (by decide +kernel))
theorem wq_17_19 : Cond.instanceMethod yX9_undo ∈ lw_tbl := tb3_in _ (List.mem_of_getElem? (i := 31) (by decide +kernel))
theorem wq_17_20 : Cond.selects RX9 yX9_undo yX9_undo ∈ lw_tbl := tb3_in _ (List.mem_of_getElem? (i := 32) (by decide +kernel))
theorem wq_17_21 : Cond.code yX9_undo cX9_undo 1 (some .int) ∈ lw_tbl := tb3_in _ (List.mem_of_getElem? (i := 33) (by decide +kernel))
theorem wq_17_22 : Cond.methodLink RX9 230 yX3_stepBack ∈ lw_tbl := tb3_in _ (List.mem_of_getElem? (i := 34) (by decide +kernel))
theorem wq_17_23 : Cond.instanceMethod yX3_stepBack ∈ lw_tbl := tb3_in _ (List.mem_of_getElem? (i := 35) (by decide +kernel))
theorem wl_r17 : ∀ w ∈ wsL_law_r17, w ∈ lw_tbl := List.forall_mem_cons.mpr ⟨wq_17_0, List.forall_mem_cons.mpr ⟨wq_17_1, List.forall_mem_cons.mpr ⟨wq_17_2, List.forall_mem_cons.mpr ⟨wq_17_3, List.forall_mem_cons.mpr ⟨wq_17_4, List.forall_mem_cons.mpr ⟨wq_17_5, List.forall_mem_cons.mpr ⟨wq_17_6, List.forall_mem_cons.mpr ⟨wq_17_7, List.forall_mem_cons.mpr ⟨wq_17_8, List.forall_mem_cons.mpr ⟨wq_17_9, List.forall_mem_cons.mpr ⟨wq_17_10, List.forall_mem_cons.mpr ⟨wq_17_11, List.forall_mem_cons.mpr ⟨wq_17_12, List.forall_mem_cons.mpr ⟨wq_17_13, List.forall_mem_cons.mpr ⟨wq_17_14, List.forall_mem_cons.mpr ⟨wq_17_15, List.forall_mem_cons.mpr ⟨wq_17_16, List.forall_mem_cons.mpr ⟨wq_17_17, List.forall_mem_cons.mpr ⟨wq_17_18, List.forall_mem_cons.mpr ⟨wq_17_19, List.forall_mem_cons.mpr ⟨wq_17_20, List.forall_mem_cons.mpr ⟨wq_17_21, List.forall_mem_cons.mpr ⟨wq_17_22, List.forall_mem_cons.mpr ⟨wq_17_23, fun _ h => absurd h List.not_mem_nil⟩⟩⟩⟩⟩⟩⟩⟩⟩⟩⟩⟩⟩⟩⟩⟩⟩⟩⟩⟩⟩⟩⟩⟩
theorem wg_r17 : ∀ w ∈ wsL_law_r17, goodWord w = true := List.all_eq_true.mp (by decide +kernel)
theorem wq_18_0 : Cond.selects RX3 yX3_stepBack yX3_stepBack ∈ lw_tbl := tb3_in _ (List.mem_of_getElem? (i := 36) (by decide +kernel))
theorem wq_18_1 : Cond.code yX3_stepBack cX3_stepBack 2 (some .boolean) ∈ lw_tbl := tb3_in _ (List.mem_of_getElem? (i := 37) (by decide +kernel))
theorem wq_18_2 : Cond.methodLink RX3 37 yX7_bringBack ∈ lw_tbl := tb3_in _ (List.mem_of_getElem? (i := 38) (by decide +kernel))
theorem wq_18_3 : Cond.instanceMethod yX7_bringBack ∈ lw_tbl := tb3_in _ (List.mem_of_getElem? (i := 39) (by decide +kernel))
theorem wq_18_4 : Cond.selects RX7 yX7_bringBack yX7_bringBack ∈ lw_tbl := tb3_in _ (List.mem_of_getElem? (i := 40) (by decide +kernel))
theorem wq_18_5 : Cond.code yX7_bringBack cX7_bringBack 4 none ∈ lw_tbl := tb3_in _ (List.mem_of_getElem? (i := 41) (by decide +kernel))
theorem wq_18_6 : Cond.methodLink RL 53 yL_isFound ∈ lw_tbl := tb3_in _ (List.mem_of_getElem? (i := 42) (by decide +kernel))
theorem wq_18_7 : Cond.static yL_isFound ∈ lw_tbl := tb3_in _ (List.mem_of_getElem? (i := 43) (by decide +kernel))
theorem wq_18_8 : Cond.code yL_isFound cL_isFound 8 (some .boolean) ∈ lw_tbl := tb3_in _ (List.mem_of_getElem? (i := 44) rfl)
theorem wq_18_9 : Cond.methodLink RL 57 yX9_bestColumn ∈ lw_tbl := tb3_in _ (List.mem_of_getElem? (i := 45) (by decide +kernel))
theorem wq_18_10 : Cond.instanceMethod yX9_bestColumn ∈ lw_tbl := tb3_in _ (List.mem_of_getElem? (i := 46) (by decide +kernel))
theorem wq_18_11 : Cond.selects RX9 yX9_bestColumn yX9_bestColumn ∈ lw_tbl := tb3_in _ (List.mem_of_getElem? (i := 47) (by decide +kernel))
theorem wq_18_12 : Cond.code yX9_bestColumn cX9_bestColumn 4 (some .int) ∈ lw_tbl := tb3_in _ (List.mem_of_getElem? (i := 48) (by decide +kernel))
theorem wq_18_13 : Cond.methodLink RX9 146 yX9_isAimPoint ∈ lw_tbl := tb3_in _ (List.mem_of_getElem? (i := 49) (by decide +kernel))
theorem wq_18_14 : Cond.methodLink RX9 200 yX9_isChoice ∈ lw_tbl := tb3_in _ (List.mem_of_getElem? (i := 50) (by decide +kernel))
theorem wq_18_15 : Cond.static yX9_isChoice ∈ lw_tbl := tb3_in _ (List.mem_of_getElem? (i := 51) (by decide +kernel))
theorem wq_18_16 : Cond.code yX9_isChoice cX9_isChoice 1 (some .boolean) ∈ lw_tbl := tb3_in _ (List.mem_of_getElem? (i := 52) (by decide +kernel))
theorem wq_18_17 : Cond.methodLink RX9 206 yX0_columnForOneMore ∈ lw_tbl := tb3_in _ (List.mem_of_getElem? (i := 53) (by decide +kernel))
theorem wq_18_18 : Cond.instanceMethod yX0_columnForOneMore ∈ lw_tbl := tb3_in _ (List.mem_of_getElem? (i := 54) (by decide +kernel))
theorem wq_18_19 : Cond.selects RX0 yX0_columnForOneMore yX0_columnForOneMore ∈ lw_tbl := tb3_in _ (List.mem_of_getElem? (i := 55) (by decide +kernel))
theorem wq_18_20 : Cond.code yX0_columnForOneMore cX0_columnForOneMore 5 (some .int) ∈ lw_tbl := tb3_in _ (List.mem_of_getElem? (i := 56) (by decide +kernel))
theorem wq_18_21 : Cond.methodLink RX0 37 yX0_forgetBest ∈ lw_tbl := tb3_in _ (List.mem_of_getElem? (i := 57) (by decide +kernel))
theorem wq_18_22 : Cond.instanceMethod yX0_forgetBest ∈ lw_tbl := tb3_in _ (List.mem_of_getElem? (i := 59) (by decide +kernel))
theorem wq_18_23 : Cond.selects RX0 yX0_forgetBest yX0_forgetBest ∈ lw_tbl := tb0_in _ (List.mem_of_getElem? (i := 9) (by decide +kernel))
theorem wl_r18 : ∀ w ∈ wsL_law_r18, w ∈ lw_tbl := List.forall_mem_cons.mpr ⟨wq_18_0, List.forall_mem_cons.mpr ⟨wq_18_1, List.forall_mem_cons.mpr ⟨wq_18_2, List.forall_mem_cons.mpr ⟨wq_18_3, List.forall_mem_cons.mpr ⟨wq_18_4, List.forall_mem_cons.mpr ⟨wq_18_5, List.forall_mem_cons.mpr ⟨wq_18_6, List.forall_mem_cons.mpr ⟨wq_18_7, List.forall_mem_cons.mpr ⟨wq_18_8, List.forall_mem_cons.mpr ⟨wq_18_9, List.forall_mem_cons.mpr ⟨wq_18_10, List.forall_mem_cons.mpr ⟨wq_18_11, List.forall_mem_cons.mpr ⟨wq_18_12, List.forall_mem_cons.mpr ⟨wq_18_13, List.forall_mem_cons.mpr ⟨wq_18_14, List.forall_mem_cons.mpr ⟨wq_18_15, List.forall_mem_cons.mpr ⟨wq_18_16, List.forall_mem_cons.mpr ⟨wq_18_17, List.forall_mem_cons.mpr ⟨wq_18_18, List.forall_mem_cons.mpr ⟨wq_18_19, List.forall_mem_cons.mpr ⟨wq_18_20, List.forall_mem_cons.mpr ⟨wq_18_21, List.forall_mem_cons.mpr ⟨wq_18_22, List.forall_mem_cons.mpr ⟨wq_18_23, fun _ h => absurd h List.not_mem_nil⟩⟩⟩⟩⟩⟩⟩⟩⟩⟩⟩⟩⟩⟩⟩⟩⟩⟩⟩⟩⟩⟩⟩⟩
theorem wg_r18 : ∀ w ∈ wsL_law_r18, goodWord w = true := List.all_eq_true.mp (by decide +kernel)
theorem wq_19_0 : Cond.code yX0_forgetBest cX0_forgetBest 1 none ∈ lw_tbl := tb3_in _ (List.mem_of_getElem? (i := 60) (by decide +kernel))
theorem wq_19_1 : Cond.methodLink RX0 57 yX2_mirrorIn ∈ lw_tbl := tb3_in _ (List.mem_of_getElem? (i := 61) (by decide +kernel))
theorem wq_19_2 : Cond.methodLink RX0 43 yX2_copy ∈ lw_tbl := tb3_in _ (List.mem_of_getElem? (i := 62) (by decide +kernel))
theorem wq_19_3 : Cond.methodLink RX0 61 yX2_add ∈ lw_tbl := tb3_in _ (List.mem_of_getElem? (i := 63) (by decide +kernel))
theorem wq_19_4 : Cond.methodLink RX0 50 yX0_weigh ∈ lw_tbl := tb3_in _ (List.mem_of_getElem? (i := 64) (by decide +kernel))
theorem wq_19_5 : Cond.instanceMethod yX0_weigh ∈ lw_tbl := tb3_in _ (List.mem_of_getElem? (i := 66) (by decide +kernel))
theorem wq_19_6 : Cond.selects RX0 yX0_weigh yX0_weigh ∈ lw_tbl := tb0_in _ (List.mem_of_getElem? (i := 10) (by decide +kernel))
theorem wq_19_7 : Cond.code yX0_weigh cX0_weigh 3 none ∈ lw_tbl := tb3_in _ (List.mem_of_getElem? (i := 67) (by decide +kernel))
theorem wq_19_8 : Cond.methodLink RX0 71 yX4_look ∈ lw_tbl := tb3_in _ (List.mem_of_getElem? (i := 68) (by decide +kernel))
theorem wq_19_9 : Cond.methodLink RX0 89 yX4_day ∈ lw_tbl := tb3_in _ (List.mem_of_getElem? (i := 69) (by decide +kernel))
theorem wq_19_10 : Cond.methodLink RX0 54 yX0_answer ∈ lw_tbl := tb3_in _ (List.mem_of_getElem? (i := 70) (by decide +kernel))
theorem wq_19_11 : Cond.instanceMethod yX0_answer ∈ lw_tbl := tb3_in _ (List.mem_of_getElem? (i := 72) (by decide +kernel))
theorem wq_19_12 : Cond.selects RX0 yX0_answer yX0_answer ∈ lw_tbl := tb0_in _ (List.mem_of_getElem? (i := 11) (by decide +kernel))
theorem wq_19_13 : Cond.code yX0_answer cX0_answer 2 (some .int) ∈ lw_tbl := tb3_in _ (List.mem_of_getElem? (i := 73) (by decide +kernel))
theorem wq_19_14 : Cond.methodLink RL 60 yX9_worthLeast ∈ lw_tbl := tb3_in _ (List.mem_of_getElem? (i := 74) (by decide +kernel))
theorem wq_19_15 : Cond.instanceMethod yX9_worthLeast ∈ lw_tbl := tb3_in _ (List.mem_of_getElem? (i := 75) (by decide +kernel))
theorem wq_19_16 : Cond.selects RX9 yX9_worthLeast yX9_worthLeast ∈ lw_tbl := tb3_in _ (List.mem_of_getElem? (i := 76) (by decide +kernel))
theorem wq_19_17 : Cond.code yX9_worthLeast cX9_worthLeast 2 (some .int) ∈ lw_tbl := tb3_in _ (List.mem_of_getElem? (i := 77) (by decide +kernel))
theorem wq_19_18 : Cond.methodLink RX9 203 yX0_leastWorth ∈ lw_tbl := tb3_in _ (List.mem_of_getElem? (i := 78) (by decide +kernel))
theorem wq_19_19 : Cond.instanceMethod yX0_leastWorth ∈ lw_tbl := tb3_in _ (List.mem_of_getElem? (i := 79) (by decide +kernel))
theorem wq_19_20 : Cond.selects RX0 yX0_leastWorth yX0_leastWorth ∈ lw_tbl := tb3_in _ (List.mem_of_getElem? (i := 80) (by decide +kernel))
theorem wq_19_21 : Cond.code yX0_leastWorth cX0_leastWorth 3 (some .int) ∈ lw_tbl := tb3_in _ (List.mem_of_getElem? (i := 81) (by decide +kernel))
theorem wq_19_22 : Cond.fieldLink RX0 40 "SunMirrors$Field" "mirrors" "I" ∈ lw_tbl := tb1_in _ (List.mem_of_getElem? (i := 64) (by decide +kernel))
theorem wq_19_23 : Cond.methodLink RX0 46 yX2_remove ∈ lw_tbl := tb3_in _ (List.mem_of_getElem? (i := 82) (by decide +kernel))
theorem wl_r19 : ∀ w ∈ wsL_law_r19, w ∈ lw_tbl := List.forall_mem_cons.mpr ⟨wq_19_0, List.forall_mem_cons.mpr ⟨wq_19_1, List.forall_mem_cons.mpr ⟨wq_19_2, List.forall_mem_cons.mpr ⟨wq_19_3, List.forall_mem_cons.mpr ⟨wq_19_4, List.forall_mem_cons.mpr ⟨wq_19_5, List.forall_mem_cons.mpr ⟨wq_19_6, List.forall_mem_cons.mpr ⟨wq_19_7, List.forall_mem_cons.mpr ⟨wq_19_8, List.forall_mem_cons.mpr ⟨wq_19_9, List.forall_mem_cons.mpr ⟨wq_19_10, List.forall_mem_cons.mpr ⟨wq_19_11, List.forall_mem_cons.mpr ⟨wq_19_12, List.forall_mem_cons.mpr ⟨wq_19_13, List.forall_mem_cons.mpr ⟨wq_19_14, List.forall_mem_cons.mpr ⟨wq_19_15, List.forall_mem_cons.mpr ⟨wq_19_16, List.forall_mem_cons.mpr ⟨wq_19_17, List.forall_mem_cons.mpr ⟨wq_19_18, List.forall_mem_cons.mpr ⟨wq_19_19, List.forall_mem_cons.mpr ⟨wq_19_20, List.forall_mem_cons.mpr ⟨wq_19_21, List.forall_mem_cons.mpr ⟨wq_19_22, List.forall_mem_cons.mpr ⟨wq_19_23, fun _ h => absurd h List.not_mem_nil⟩⟩⟩⟩⟩⟩⟩⟩⟩⟩⟩⟩⟩⟩⟩⟩⟩⟩⟩⟩⟩⟩⟩⟩
theorem wg_r19 : ∀ w ∈ wsL_law_r19, goodWord w = true := List.all_eq_true.mp (by decide +kernel)
theorem wq_20_0 : Cond.methodLink RL 63 yX9_toWash ∈ lw_tbl := tb3_in _ (List.mem_of_getElem? (i := 83) (by decide +kernel))
theorem wq_20_1 : Cond.instanceMethod yX9_toWash ∈ lw_tbl := tb3_in _ (List.mem_of_getElem? (i := 84) (by decide +kernel))
theorem wq_20_2 : Cond.selects RX9 yX9_toWash yX9_toWash ∈ lw_tbl := tb3_in _ (List.mem_of_getElem? (i := 85) (by decide +kernel))
theorem wq_20_3 : Cond.code yX9_toWash cX9_toWash 1 (some .int) ∈ lw_tbl := tb3_in _ (List.mem_of_getElem? (i := 86) (by decide +kernel))
theorem wq_20_4 : Cond.methodLink RX9 209 yX0_mirrorToWash ∈ lw_tbl := tb3_in _ (List.mem_of_getElem? (i := 87) (by decide +kernel))
theorem wq_20_5 : Cond.instanceMethod yX0_mirrorToWash ∈ lw_tbl := tb3_in _ (List.mem_of_getElem? (i := 88) (by decide +kernel))
theorem wq_20_6 : Cond.selects RX0 yX0_mirrorToWash yX0_mirrorToWash ∈ lw_tbl := tb3_in _ (List.mem_of_getElem? (i := 89) (by decide +kernel))
theorem wq_20_7 : Cond.code yX0_mirrorToWash cX0_mirrorToWash 2 (some .int) ∈ lw_tbl := tb3_in _ (List.mem_of_getElem? (i := 90) (by decide +kernel))
theorem wq_20_8 : Cond.methodLink RX0 65 yX2_clean ∈ lw_tbl := tb3_in _ (List.mem_of_getElem? (i := 91) (by decide +kernel))
theorem wq_20_9 : Cond.methodLink RL 66 yX9_leastLimit ∈ lw_tbl := tb3_in _ (List.mem_of_getElem? (i := 92) (by decide +kernel))
theorem wq_20_10 : Cond.instanceMethod yX9_leastLimit ∈ lw_tbl := tb3_in _ (List.mem_of_getElem? (i := 93) (by decide +kernel))
theorem wq_20_11 : Cond.selects RX9 yX9_leastLimit yX9_leastLimit ∈ lw_tbl := tb3_in _ (List.mem_of_getElem? (i := 94) (by decide +kernel))
theorem wq_20_12 : Cond.code yX9_leastLimit cX9_leastLimit 1 (some .int) ∈ lw_tbl := tb3_in _ (List.mem_of_getElem? (i := 95) (by decide +kernel))
theorem wq_20_13 : Cond.methodLink RX9 212 yX0_limitForAll ∈ lw_tbl := tb3_in _ (List.mem_of_getElem? (i := 96) (by decide +kernel))
theorem wq_20_14 : Cond.instanceMethod yX0_limitForAll ∈ lw_tbl := tb3_in _ (List.mem_of_getElem? (i := 97) (by decide +kernel))
theorem wq_20_15 : Cond.selects RX0 yX0_limitForAll yX0_limitForAll ∈ lw_tbl := tb3_in _ (List.mem_of_getElem? (i := 98) (by decide +kernel))
theorem wq_20_16 : Cond.code yX0_limitForAll cX0_limitForAll 5 (some .int) ∈ lw_tbl := tb3_in _ (List.mem_of_getElem? (i := 99) (by decide +kernel))
theorem wq_20_17 : Cond.methodLink RX0 84 Lib.Math.max.name ∈ lw_tbl := tb3_in _ (List.mem_of_getElem? (i := 110) (by decide +kernel))
theorem wq_20_18 : Cond.methodLink RX0 68 yX2_changeSetting ∈ lw_tbl := tb3_in _ (List.mem_of_getElem? (i := 100) (by decide +kernel))
theorem wq_20_19 : Cond.methodLink RX0 74 yX4_work ∈ lw_tbl := tb3_in _ (List.mem_of_getElem? (i := 101) (by decide +kernel))
theorem wq_20_20 : Cond.methodLink RX0 77 yX4_used ∈ lw_tbl := tb3_in _ (List.mem_of_getElem? (i := 102) (by decide +kernel))
theorem wq_20_21 : Cond.instanceMethod yX4_used ∈ lw_tbl := tb3_in _ (List.mem_of_getElem? (i := 103) (by decide +kernel))
theorem wq_20_22 : Cond.selects RX4 yX4_used yX4_used ∈ lw_tbl := tb3_in _ (List.mem_of_getElem? (i := 104) (by decide +kernel))
theorem wq_20_23 : Cond.code yX4_used cX4_used 1 (some .int) ∈ lw_tbl := tb3_in _ (List.mem_of_getElem? (i := 105) (by decide +kernel))
theorem wl_r20 : ∀ w ∈ wsL_law_r20, w ∈ lw_tbl := List.forall_mem_cons.mpr ⟨wq_20_0, List.forall_mem_cons.mpr ⟨wq_20_1, List.forall_mem_cons.mpr ⟨wq_20_2, List.forall_mem_cons.mpr ⟨wq_20_3, List.forall_mem_cons.mpr ⟨wq_20_4, List.forall_mem_cons.mpr ⟨wq_20_5, List.forall_mem_cons.mpr ⟨wq_20_6, List.forall_mem_cons.mpr ⟨wq_20_7, List.forall_mem_cons.mpr ⟨wq_20_8, List.forall_mem_cons.mpr ⟨wq_20_9, List.forall_mem_cons.mpr ⟨wq_20_10, List.forall_mem_cons.mpr ⟨wq_20_11, List.forall_mem_cons.mpr ⟨wq_20_12, List.forall_mem_cons.mpr ⟨wq_20_13, List.forall_mem_cons.mpr ⟨wq_20_14, List.forall_mem_cons.mpr ⟨wq_20_15, List.forall_mem_cons.mpr ⟨wq_20_16, List.forall_mem_cons.mpr ⟨wq_20_17, List.forall_mem_cons.mpr ⟨wq_20_18, List.forall_mem_cons.mpr ⟨wq_20_19, List.forall_mem_cons.mpr ⟨wq_20_20, List.forall_mem_cons.mpr ⟨wq_20_21, List.forall_mem_cons.mpr ⟨wq_20_22, List.forall_mem_cons.mpr ⟨wq_20_23, fun _ h => absurd h List.not_mem_nil⟩⟩⟩⟩⟩⟩⟩⟩⟩⟩⟩⟩⟩⟩⟩⟩⟩⟩⟩⟩⟩⟩⟩⟩
theorem wg_r20 : ∀ w ∈ wsL_law_r20, goodWord w = true := List.all_eq_true.mp (by decide +kernel)
theorem wq_21_0 : Cond.methodLink RX0 81 yX4_held ∈ lw_tbl := tb3_in _ (List.mem_of_getElem? (i := 106) (by decide +kernel))
theorem wq_21_1 : Cond.instanceMethod yX4_held ∈ lw_tbl := tb3_in _ (List.mem_of_getElem? (i := 107) (by decide +kernel))
theorem wq_21_2 : Cond.selects RX4 yX4_held yX4_held ∈ lw_tbl := tb3_in _ (List.mem_of_getElem? (i := 108) (by decide +kernel))
theorem wq_21_3 : Cond.code yX4_held cX4_held 2 (some .int) ∈ lw_tbl := tb3_in _ (List.mem_of_getElem? (i := 109) (by decide +kernel))
theorem wq_21_4 : Cond.methodLink RL 83 yL_isWell ∈ lw_tbl := tb3_in _ (List.mem_of_getElem? (i := 138) (by decide +kernel))
theorem wq_21_5 : Cond.static yL_isWell ∈ lw_tbl := tb3_in _ (List.mem_of_getElem? (i := 139) (by decide +kernel))
theorem wq_21_6 : Cond.code yL_isWell cL_isWell 20 (some .boolean) ∈ lw_tbl := tb3_in _ (List.mem_of_getElem? (i := 140) rfl)
theorem wq_21_7 : Cond.methodLink RL 72 yX9_point ∈ lw_tbl := tb3_in _ (List.mem_of_getElem? (i := 128) (by decide +kernel))
theorem wq_21_8 : Cond.instanceMethod yX9_point ∈ lw_tbl := tb3_in _ (List.mem_of_getElem? (i := 129) (by decide +kernel))
theorem wq_21_9 : Cond.selects RX9 yX9_point yX9_point ∈ lw_tbl := tb3_in _ (List.mem_of_getElem? (i := 130) (by decide +kernel))
theorem wq_21_10 : Cond.code yX9_point cX9_point 4 (some .int) ∈ lw_tbl := tb3_in _ (List.mem_of_getElem? (i := 131) (by decide +kernel))
theorem wq_21_11 : Cond.methodLink RX9 129 yX8_isHour ∈ lw_tbl := tb3_in _ (List.mem_of_getElem? (i := 118) (by decide +kernel))
theorem wq_21_12 : Cond.static yX8_isHour ∈ lw_tbl := tb3_in _ (List.mem_of_getElem? (i := 119) (by decide +kernel))
theorem wq_21_13 : Cond.code yX8_isHour cX8_isHour 1 (some .boolean) ∈ lw_tbl := tb3_in _ (List.mem_of_getElem? (i := 120) (by decide +kernel))
theorem wq_21_14 : Cond.methodLink RX9 134 yX4_work ∈ lw_tbl := tb3_in _ (List.mem_of_getElem? (i := 121) (by decide +kernel))
theorem wq_21_15 : Cond.methodLink RX9 149 yX4_held ∈ lw_tbl := tb3_in _ (List.mem_of_getElem? (i := 132) (by decide +kernel))
theorem wq_21_16 : Cond.methodLink RX9 152 yX2_mirrorsOf ∈ lw_tbl := tb3_in _ (List.mem_of_getElem? (i := 133) (by decide +kernel))
theorem wq_21_17 : Cond.instanceMethod yX2_mirrorsOf ∈ lw_tbl := tb3_in _ (List.mem_of_getElem? (i := 134) (by decide +kernel))
theorem wq_21_18 : Cond.selects RX2 yX2_mirrorsOf yX2_mirrorsOf ∈ lw_tbl := tb3_in _ (List.mem_of_getElem? (i := 135) (by decide +kernel))
theorem wq_21_19 : Cond.code yX2_mirrorsOf cX2_mirrorsOf 4 (some .int) ∈ lw_tbl := tb3_in _ (List.mem_of_getElem? (i := 136) (by decide +kernel))
theorem wq_21_20 : Cond.methodLink RX9 155 yX4_used ∈ lw_tbl := tb3_in _ (List.mem_of_getElem? (i := 137) (by decide +kernel))
theorem wq_21_21 : Cond.methodLink RL 69 yX9_at ∈ lw_tbl := tb3_in _ (List.mem_of_getElem? (i := 114) (by decide +kernel))
theorem wq_21_22 : Cond.instanceMethod yX9_at ∈ lw_tbl := tb3_in _ (List.mem_of_getElem? (i := 115) (by decide +kernel))
theorem wq_21_23 : Cond.selects RX9 yX9_at yX9_at ∈ lw_tbl := tb3_in _ (List.mem_of_getElem? (i := 116) (by decide +kernel))
theorem wl_r21 : ∀ w ∈ wsL_law_r21, w ∈ lw_tbl := List.forall_mem_cons.mpr ⟨wq_21_0, List.forall_mem_cons.mpr ⟨wq_21_1, List.forall_mem_cons.mpr ⟨wq_21_2, List.forall_mem_cons.mpr ⟨wq_21_3, List.forall_mem_cons.mpr ⟨wq_21_4, List.forall_mem_cons.mpr ⟨wq_21_5, List.forall_mem_cons.mpr ⟨wq_21_6, List.forall_mem_cons.mpr ⟨wq_21_7, List.forall_mem_cons.mpr ⟨wq_21_8, List.forall_mem_cons.mpr ⟨wq_21_9, List.forall_mem_cons.mpr ⟨wq_21_10, List.forall_mem_cons.mpr ⟨wq_21_11, List.forall_mem_cons.mpr ⟨wq_21_12, List.forall_mem_cons.mpr ⟨wq_21_13, List.forall_mem_cons.mpr ⟨wq_21_14, List.forall_mem_cons.mpr ⟨wq_21_15, List.forall_mem_cons.mpr ⟨wq_21_16, List.forall_mem_cons.mpr ⟨wq_21_17, List.forall_mem_cons.mpr ⟨wq_21_18, List.forall_mem_cons.mpr ⟨wq_21_19, List.forall_mem_cons.mpr ⟨wq_21_20, List.forall_mem_cons.mpr ⟨wq_21_21, List.forall_mem_cons.mpr ⟨wq_21_22, List.forall_mem_cons.mpr ⟨wq_21_23, fun _ h => absurd h List.not_mem_nil⟩⟩⟩⟩⟩⟩⟩⟩⟩⟩⟩⟩⟩⟩⟩⟩⟩⟩⟩⟩⟩⟩⟩⟩
theorem wg_r21 : ∀ w ∈ wsL_law_r21, goodWord w = true := List.all_eq_true.mp (by decide +kernel)
theorem wq_22_0 : Cond.code yX9_at cX9_at 4 (some .int) ∈ lw_tbl := tb3_in _ (List.mem_of_getElem? (i := 117) (by decide +kernel))
theorem wq_22_1 : Cond.methodLink RX9 137 yX4_shader ∈ lw_tbl := tb3_in _ (List.mem_of_getElem? (i := 122) (by decide +kernel))
theorem wq_22_2 : Cond.methodLink RX9 140 yX4_given ∈ lw_tbl := tb3_in _ (List.mem_of_getElem? (i := 123) (by decide +kernel))
theorem wq_22_3 : Cond.instanceMethod yX4_given ∈ lw_tbl := tb3_in _ (List.mem_of_getElem? (i := 124) (by decide +kernel))
theorem wq_22_4 : Cond.selects RX4 yX4_given yX4_given ∈ lw_tbl := tb3_in _ (List.mem_of_getElem? (i := 125) (by decide +kernel))
theorem wq_22_5 : Cond.code yX4_given cX4_given 2 (some .int) ∈ lw_tbl := tb3_in _ (List.mem_of_getElem? (i := 126) (by decide +kernel))
theorem wq_22_6 : Cond.methodLink RX9 143 yX4_isUsed ∈ lw_tbl := tb3_in _ (List.mem_of_getElem? (i := 127) (by decide +kernel))
theorem wq_22_7 : Cond.methodLink RL 87 yL_areAlike ∈ lw_tbl := tb3_in _ (List.mem_of_getElem? (i := 111) (by decide +kernel))
theorem wq_22_8 : Cond.static yL_areAlike ∈ lw_tbl := tb3_in _ (List.mem_of_getElem? (i := 112) (by decide +kernel))
theorem wq_22_9 : Cond.code yL_areAlike cL_areAlike 5 (some .boolean) ∈ lw_tbl := tb3_in _ (List.mem_of_getElem? (i := 113) rfl)
theorem wl_r22 : ∀ w ∈ wsL_law_r22, w ∈ lw_tbl := List.forall_mem_cons.mpr ⟨wq_22_0, List.forall_mem_cons.mpr ⟨wq_22_1, List.forall_mem_cons.mpr ⟨wq_22_2, List.forall_mem_cons.mpr ⟨wq_22_3, List.forall_mem_cons.mpr ⟨wq_22_4, List.forall_mem_cons.mpr ⟨wq_22_5, List.forall_mem_cons.mpr ⟨wq_22_6, List.forall_mem_cons.mpr ⟨wq_22_7, List.forall_mem_cons.mpr ⟨wq_22_8, List.forall_mem_cons.mpr ⟨wq_22_9, fun _ h => absurd h List.not_mem_nil⟩⟩⟩⟩⟩⟩⟩⟩⟩⟩
theorem wg_r22 : ∀ w ∈ wsL_law_r22, goodWord w = true := List.all_eq_true.mp (by decide +kernel)
theorem wl_X0 : ∀ w ∈ wsX00, w ∈ lw_tbl := by
  intro w h
  obtain ⟨k, hk, rfl⟩ := List.mem_map.mp h
  have hk := List.mem_range.mp hk
  match k, hk with
  | 0, _ => exact tb1_in _ (List.mem_of_getElem? (i := 143) (by decide +kernel))
  | 1, _ => exact tb1_in _ (List.mem_of_getElem? (i := 145) (by decide +kernel))
  | 2, _ => exact tb1_in _ (List.mem_of_getElem? (i := 147) (by decide +kernel))
  | 3, _ => exact tb1_in _ (List.mem_of_getElem? (i := 149) (by decide +kernel))
  | 4, _ => exact tb1_in _ (List.mem_of_getElem? (i := 151) (by decide +kernel))
  | k + 5, hk => exact absurd hk (by omega)
theorem wg_X0 : ∀ w ∈ wsX00, goodWord w = true := List.all_eq_true.mp (by decide +kernel)
theorem wl_X1 : ∀ w ∈ wsX10, w ∈ lw_tbl := by
  intro w h
  obtain ⟨k, hk, rfl⟩ := List.mem_map.mp h
  have hk := List.mem_range.mp hk
  match k, hk with
  | 0, _ => exact tb1_in _ (List.mem_of_getElem? (i := 38) (by decide +kernel))
  | k + 1, hk => exact absurd hk (by omega)
theorem wg_X1 : ∀ w ∈ wsX10, goodWord w = true := List.all_eq_true.mp (by decide +kernel)
theorem wl_X2 : ∀ w ∈ wsX20, w ∈ lw_tbl := by
  intro w h
  obtain ⟨k, hk, rfl⟩ := List.mem_map.mp h
  have hk := List.mem_range.mp hk
  match k, hk with
  | 0, _ => exact tb1_in _ (List.mem_of_getElem? (i := 74) (by decide +kernel))
  | 1, _ => exact tb1_in _ (List.mem_of_getElem? (i := 76) (by decide +kernel))
  | 2, _ => exact tb1_in _ (List.mem_of_getElem? (i := 78) (by decide +kernel))
  | 3, _ => exact tb1_in _ (List.mem_of_getElem? (i := 80) (by decide +kernel))
  | 4, _ => exact tb1_in _ (List.mem_of_getElem? (i := 82) (by decide +kernel))
  | 5, _ => exact tb1_in _ (List.mem_of_getElem? (i := 84) (by decide +kernel))
  | 6, _ => exact tb1_in _ (List.mem_of_getElem? (i := 86) (by decide +kernel))
  | 7, _ => exact tb1_in _ (List.mem_of_getElem? (i := 88) (by decide +kernel))
  | 8, _ => exact tb1_in _ (List.mem_of_getElem? (i := 90) (by decide +kernel))
  | 9, _ => exact tb1_in _ (List.mem_of_getElem? (i := 92) (by decide +kernel))
  | k + 10, hk => exact absurd hk (by omega)
theorem wg_X2 : ∀ w ∈ wsX20, goodWord w = true := List.all_eq_true.mp (by decide +kernel)
theorem wl_X3 : ∀ w ∈ wsX30, w ∈ lw_tbl := by
  intro w h
  obtain ⟨k, hk, rfl⟩ := List.mem_map.mp h
  have hk := List.mem_range.mp hk
  match k, hk with
  | 0, _ => exact tb1_in _ (List.mem_of_getElem? (i := 225) (by decide +kernel))
  | 1, _ => exact tb1_in _ (List.mem_of_getElem? (i := 227) (by decide +kernel))
  | 2, _ => exact tb1_in _ (List.mem_of_getElem? (i := 229) (by decide +kernel))
  | k + 3, hk => exact absurd hk (by omega)
theorem wg_X3 : ∀ w ∈ wsX30, goodWord w = true := List.all_eq_true.mp (by decide +kernel)
theorem wl_X4 : ∀ w ∈ wsX40, w ∈ lw_tbl := by
  intro w h
  obtain ⟨k, hk, rfl⟩ := List.mem_map.mp h
  have hk := List.mem_range.mp hk
  match k, hk with
  | 0, _ => exact tb1_in _ (List.mem_of_getElem? (i := 111) (by decide +kernel))
  | 1, _ => exact tb1_in _ (List.mem_of_getElem? (i := 113) (by decide +kernel))
  | 2, _ => exact tb1_in _ (List.mem_of_getElem? (i := 115) (by decide +kernel))
  | 3, _ => exact tb1_in _ (List.mem_of_getElem? (i := 117) (by decide +kernel))
  | 4, _ => exact tb1_in _ (List.mem_of_getElem? (i := 119) (by decide +kernel))
  | 5, _ => exact tb1_in _ (List.mem_of_getElem? (i := 121) (by decide +kernel))
  | 6, _ => exact tb1_in _ (List.mem_of_getElem? (i := 123) (by decide +kernel))
  | 7, _ => exact tb1_in _ (List.mem_of_getElem? (i := 125) (by decide +kernel))
  | k + 8, hk => exact absurd hk (by omega)
theorem wg_X4 : ∀ w ∈ wsX40, goodWord w = true := List.all_eq_true.mp (by decide +kernel)
theorem wl_X5 : ∀ w ∈ wsX50, w ∈ lw_tbl := by
  intro w h
  obtain ⟨k, hk, rfl⟩ := List.mem_map.mp h
  have hk := List.mem_range.mp hk
  match k, hk with
  | 0, _ => exact tb1_in _ (List.mem_of_getElem? (i := 164) (by decide +kernel))
  | 1, _ => exact tb1_in _ (List.mem_of_getElem? (i := 166) (by decide +kernel))
  | k + 2, hk => exact absurd hk (by omega)
theorem wg_X5 : ∀ w ∈ wsX50, goodWord w = true := List.all_eq_true.mp (by decide +kernel)
theorem wl_X6 : ∀ w ∈ wsX60, w ∈ lw_tbl := by
  intro w h
  obtain ⟨k, hk, rfl⟩ := List.mem_map.mp h
  have hk := List.mem_range.mp hk
  match k, hk with
  | 0, _ => exact tb1_in _ (List.mem_of_getElem? (i := 185) (by decide +kernel))
  | 1, _ => exact tb1_in _ (List.mem_of_getElem? (i := 187) (by decide +kernel))
  | 2, _ => exact tb1_in _ (List.mem_of_getElem? (i := 189) (by decide +kernel))
  | 3, _ => exact tb1_in _ (List.mem_of_getElem? (i := 191) (by decide +kernel))
  | 4, _ => exact tb1_in _ (List.mem_of_getElem? (i := 193) (by decide +kernel))
  | 5, _ => exact tb1_in _ (List.mem_of_getElem? (i := 195) (by decide +kernel))
  | 6, _ => exact tb1_in _ (List.mem_of_getElem? (i := 197) (by decide +kernel))
  | 7, _ => exact tb1_in _ (List.mem_of_getElem? (i := 199) (by decide +kernel))
  | k + 8, hk => exact absurd hk (by omega)
theorem wg_X6 : ∀ w ∈ wsX60, goodWord w = true := List.all_eq_true.mp (by decide +kernel)
theorem wl_X7 : ∀ w ∈ wsX70, w ∈ lw_tbl := by
  intro w h
  obtain ⟨k, hk, rfl⟩ := List.mem_map.mp h
  have hk := List.mem_range.mp hk
  match k, hk with
  | 0, _ => exact tb1_in _ (List.mem_of_getElem? (i := 219) (by decide +kernel))
  | k + 1, hk => exact absurd hk (by omega)
theorem wg_X7 : ∀ w ∈ wsX70, goodWord w = true := List.all_eq_true.mp (by decide +kernel)
theorem wl_X8 : ∀ w ∈ wsX80, w ∈ lw_tbl := by
  intro w h
  obtain ⟨k, hk, rfl⟩ := List.mem_map.mp h
  have hk := List.mem_range.mp hk
  match k, hk with

  | k + 0, hk => exact absurd hk (by omega)
theorem wg_X8 : ∀ w ∈ wsX80, goodWord w = true := List.all_eq_true.mp (by decide +kernel)
theorem wl_X9 : ∀ w ∈ wsX90, w ∈ lw_tbl := by
  intro w h
  obtain ⟨k, hk, rfl⟩ := List.mem_map.mp h
  have hk := List.mem_range.mp hk
  match k, hk with
  | 0, _ => exact tb2_in _ (List.mem_of_getElem? (i := 2) (by decide +kernel))
  | 1, _ => exact tb2_in _ (List.mem_of_getElem? (i := 4) (by decide +kernel))
  | 2, _ => exact tb2_in _ (List.mem_of_getElem? (i := 6) (by decide +kernel))
  | 3, _ => exact tb2_in _ (List.mem_of_getElem? (i := 8) (by decide +kernel))
  | 4, _ => exact tb2_in _ (List.mem_of_getElem? (i := 10) (by decide +kernel))
  | 5, _ => exact tb2_in _ (List.mem_of_getElem? (i := 12) (by decide +kernel))
  | 6, _ => exact tb2_in _ (List.mem_of_getElem? (i := 14) (by decide +kernel))
  | 7, _ => exact tb2_in _ (List.mem_of_getElem? (i := 16) (by decide +kernel))
  | k + 8, hk => exact absurd hk (by omega)
theorem wg_X9 : ∀ w ∈ wsX90, goodWord w = true := List.all_eq_true.mp (by decide +kernel)
theorem wl_X10 : ∀ w ∈ wsX100, w ∈ lw_tbl := by
  intro w h
  obtain ⟨k, hk, rfl⟩ := List.mem_map.mp h
  have hk := List.mem_range.mp hk
  match k, hk with

  | k + 0, hk => exact absurd hk (by omega)
theorem wg_X10 : ∀ w ∈ wsX100, goodWord w = true := List.all_eq_true.mp (by decide +kernel)
theorem wsL_law_in : ∀ w ∈ wsL_law, w ∈ lw_tbl := fun w h => by
  have h1 := h
  unfold wsL_law at h1
  rcases tb_app h1 with h1 | h1
  case inr => exact absurd h1 List.not_mem_nil
  rcases tb_app h1 with h1 | h1
  case inr => exact wl_X1 w h1
  rcases tb_app h1 with h1 | h1
  case inr => exact wl_X7 w h1
  rcases tb_app h1 with h1 | h1
  case inr => exact wl_X3 w h1
  rcases tb_app h1 with h1 | h1
  case inr => exact wl_X6 w h1
  rcases tb_app h1 with h1 | h1
  case inr => exact wl_X5 w h1
  rcases tb_app h1 with h1 | h1
  case inr => exact wl_X0 w h1
  rcases tb_app h1 with h1 | h1
  case inr => exact wl_X4 w h1
  rcases tb_app h1 with h1 | h1
  case inr => exact wl_X2 w h1
  rcases tb_app h1 with h1 | h1
  case inr => exact wl_X9 w h1
  rcases tb_app h1 with h1 | h1
  case inl => exact wl_r1 w h1
  rcases tb_app h1 with h1 | h1
  case inl => exact wl_r2 w h1
  rcases tb_app h1 with h1 | h1
  case inl => exact wl_r3 w h1
  rcases tb_app h1 with h1 | h1
  case inl => exact wl_r4 w h1
  rcases tb_app h1 with h1 | h1
  case inl => exact wl_r5 w h1
  rcases tb_app h1 with h1 | h1
  case inl => exact wl_r6 w h1
  rcases tb_app h1 with h1 | h1
  case inl => exact wl_r7 w h1
  rcases tb_app h1 with h1 | h1
  case inl => exact wl_r8 w h1
  rcases tb_app h1 with h1 | h1
  case inl => exact wl_r9 w h1
  rcases tb_app h1 with h1 | h1
  case inl => exact wl_r10 w h1
  rcases tb_app h1 with h1 | h1
  case inl => exact wl_r11 w h1
  rcases tb_app h1 with h1 | h1
  case inl => exact wl_r12 w h1
  rcases tb_app h1 with h1 | h1
  case inl => exact wl_r13 w h1
  rcases tb_app h1 with h1 | h1
  case inl => exact wl_r14 w h1
  rcases tb_app h1 with h1 | h1
  case inl => exact wl_r15 w h1
  rcases tb_app h1 with h1 | h1
  case inl => exact wl_r16 w h1
  rcases tb_app h1 with h1 | h1
  case inl => exact wl_r17 w h1
  rcases tb_app h1 with h1 | h1
  case inl => exact wl_r18 w h1
  rcases tb_app h1 with h1 | h1
  case inl => exact wl_r19 w h1
  rcases tb_app h1 with h1 | h1
  case inl => exact wl_r20 w h1
  rcases tb_app h1 with h1 | h1
  case inl => exact wl_r21 w h1
  exact wl_r22 w h1
theorem wsL_law_good : ∀ w ∈ wsL_law, goodWord w = true := fun w h => by
  have h1 := h
  unfold wsL_law at h1
  rcases tb_app h1 with h1 | h1
  case inr => exact absurd h1 List.not_mem_nil
  rcases tb_app h1 with h1 | h1
  case inr => exact wg_X1 w h1
  rcases tb_app h1 with h1 | h1
  case inr => exact wg_X7 w h1
  rcases tb_app h1 with h1 | h1
  case inr => exact wg_X3 w h1
  rcases tb_app h1 with h1 | h1
  case inr => exact wg_X6 w h1
  rcases tb_app h1 with h1 | h1
  case inr => exact wg_X5 w h1
  rcases tb_app h1 with h1 | h1
  case inr => exact wg_X0 w h1
  rcases tb_app h1 with h1 | h1
  case inr => exact wg_X4 w h1
  rcases tb_app h1 with h1 | h1
  case inr => exact wg_X2 w h1
  rcases tb_app h1 with h1 | h1
  case inr => exact wg_X9 w h1
  rcases tb_app h1 with h1 | h1
  case inl => exact wg_r1 w h1
  rcases tb_app h1 with h1 | h1
  case inl => exact wg_r2 w h1
  rcases tb_app h1 with h1 | h1
  case inl => exact wg_r3 w h1
  rcases tb_app h1 with h1 | h1
  case inl => exact wg_r4 w h1
  rcases tb_app h1 with h1 | h1
  case inl => exact wg_r5 w h1
  rcases tb_app h1 with h1 | h1
  case inl => exact wg_r6 w h1
  rcases tb_app h1 with h1 | h1
  case inl => exact wg_r7 w h1
  rcases tb_app h1 with h1 | h1
  case inl => exact wg_r8 w h1
  rcases tb_app h1 with h1 | h1
  case inl => exact wg_r9 w h1
  rcases tb_app h1 with h1 | h1
  case inl => exact wg_r10 w h1
  rcases tb_app h1 with h1 | h1
  case inl => exact wg_r11 w h1
  rcases tb_app h1 with h1 | h1
  case inl => exact wg_r12 w h1
  rcases tb_app h1 with h1 | h1
  case inl => exact wg_r13 w h1
  rcases tb_app h1 with h1 | h1
  case inl => exact wg_r14 w h1
  rcases tb_app h1 with h1 | h1
  case inl => exact wg_r15 w h1
  rcases tb_app h1 with h1 | h1
  case inl => exact wg_r16 w h1
  rcases tb_app h1 with h1 | h1
  case inl => exact wg_r17 w h1
  rcases tb_app h1 with h1 | h1
  case inl => exact wg_r18 w h1
  rcases tb_app h1 with h1 | h1
  case inl => exact wg_r19 w h1
  rcases tb_app h1 with h1 | h1
  case inl => exact wg_r20 w h1
  rcases tb_app h1 with h1 | h1
  case inl => exact wg_r21 w h1
  exact wg_r22 w h1
theorem m_r1 {w : Cond} (p : Nat) (hp : wsL_law_r1[p]? = some w) : w ∈ wsL_law := by
  have h := List.mem_of_getElem? hp
  exact List.mem_append_left _ (List.mem_append_left _ (List.mem_append_left _ (List.mem_append_left _ (List.mem_append_left _ (List.mem_append_left _ (List.mem_append_left _ (List.mem_append_left _ (List.mem_append_left _ (List.mem_append_left _ (List.mem_append_left _ h))))))))))
theorem m_r2 {w : Cond} (p : Nat) (hp : wsL_law_r2[p]? = some w) : w ∈ wsL_law := by
  have h := List.mem_of_getElem? hp
  exact List.mem_append_left _ (List.mem_append_left _ (List.mem_append_left _ (List.mem_append_left _ (List.mem_append_left _ (List.mem_append_left _ (List.mem_append_left _ (List.mem_append_left _ (List.mem_append_left _ (List.mem_append_left _ (List.mem_append_right _ (List.mem_append_left _ h)))))))))))
theorem m_r3 {w : Cond} (p : Nat) (hp : wsL_law_r3[p]? = some w) : w ∈ wsL_law := by
  have h := List.mem_of_getElem? hp
  exact List.mem_append_left _ (List.mem_append_left _ (List.mem_append_left _ (List.mem_append_left _ (List.mem_append_left _ (List.mem_append_left _ (List.mem_append_left _ (List.mem_append_left _ (List.mem_append_left _ (List.mem_append_left _ (List.mem_append_right _ (List.mem_append_right _ (List.mem_append_left _ h))))))))))))
theorem m_r4 {w : Cond} (p : Nat) (hp : wsL_law_r4[p]? = some w) : w ∈ wsL_law := by
  have h := List.mem_of_getElem? hp
  exact List.mem_append_left _ (List.mem_append_left _ (List.mem_append_left _ (List.mem_append_left _ (List.mem_append_left _ (List.mem_append_left _ (List.mem_append_left _ (List.mem_append_left _ (List.mem_append_left _ (List.mem_append_left _ (List.mem_append_right _ (List.mem_append_right _ (List.mem_append_right _ (List.mem_append_left _ h)))))))))))))
theorem m_r5 {w : Cond} (p : Nat) (hp : wsL_law_r5[p]? = some w) : w ∈ wsL_law := by
  have h := List.mem_of_getElem? hp
  exact List.mem_append_left _ (List.mem_append_left _ (List.mem_append_left _ (List.mem_append_left _ (List.mem_append_left _ (List.mem_append_left _ (List.mem_append_left _ (List.mem_append_left _ (List.mem_append_left _ (List.mem_append_left _ (List.mem_append_right _ (List.mem_append_right _ (List.mem_append_right _ (List.mem_append_right _ (List.mem_append_left _ h))))))))))))))
theorem m_r6 {w : Cond} (p : Nat) (hp : wsL_law_r6[p]? = some w) : w ∈ wsL_law := by
  have h := List.mem_of_getElem? hp
  exact List.mem_append_left _ (List.mem_append_left _ (List.mem_append_left _ (List.mem_append_left _ (List.mem_append_left _ (List.mem_append_left _ (List.mem_append_left _ (List.mem_append_left _ (List.mem_append_left _ (List.mem_append_left _ (List.mem_append_right _ (List.mem_append_right _ (List.mem_append_right _ (List.mem_append_right _ (List.mem_append_right _ (List.mem_append_left _ h)))))))))))))))
theorem m_r7 {w : Cond} (p : Nat) (hp : wsL_law_r7[p]? = some w) : w ∈ wsL_law := by
  have h := List.mem_of_getElem? hp
  exact List.mem_append_left _ (List.mem_append_left _ (List.mem_append_left _ (List.mem_append_left _ (List.mem_append_left _ (List.mem_append_left _ (List.mem_append_left _ (List.mem_append_left _ (List.mem_append_left _ (List.mem_append_left _ (List.mem_append_right _ (List.mem_append_right _ (List.mem_append_right _ (List.mem_append_right _ (List.mem_append_right _ (List.mem_append_right _ (List.mem_append_left _ h))))))))))))))))
theorem m_r8 {w : Cond} (p : Nat) (hp : wsL_law_r8[p]? = some w) : w ∈ wsL_law := by
  have h := List.mem_of_getElem? hp
  exact List.mem_append_left _ (List.mem_append_left _ (List.mem_append_left _ (List.mem_append_left _ (List.mem_append_left _ (List.mem_append_left _ (List.mem_append_left _ (List.mem_append_left _ (List.mem_append_left _ (List.mem_append_left _ (List.mem_append_right _ (List.mem_append_right _ (List.mem_append_right _ (List.mem_append_right _ (List.mem_append_right _ (List.mem_append_right _ (List.mem_append_right _ (List.mem_append_left _ h)))))))))))))))))
theorem m_r9 {w : Cond} (p : Nat) (hp : wsL_law_r9[p]? = some w) : w ∈ wsL_law := by
  have h := List.mem_of_getElem? hp
  exact List.mem_append_left _ (List.mem_append_left _ (List.mem_append_left _ (List.mem_append_left _ (List.mem_append_left _ (List.mem_append_left _ (List.mem_append_left _ (List.mem_append_left _ (List.mem_append_left _ (List.mem_append_left _ (List.mem_append_right _ (List.mem_append_right _ (List.mem_append_right _ (List.mem_append_right _ (List.mem_append_right _ (List.mem_append_right _ (List.mem_append_right _ (List.mem_append_right _ (List.mem_append_left _ h))))))))))))))))))
theorem m_r10 {w : Cond} (p : Nat) (hp : wsL_law_r10[p]? = some w) : w ∈ wsL_law := by
  have h := List.mem_of_getElem? hp
  exact List.mem_append_left _ (List.mem_append_left _ (List.mem_append_left _ (List.mem_append_left _ (List.mem_append_left _ (List.mem_append_left _ (List.mem_append_left _ (List.mem_append_left _ (List.mem_append_left _ (List.mem_append_left _ (List.mem_append_right _ (List.mem_append_right _ (List.mem_append_right _ (List.mem_append_right _ (List.mem_append_right _ (List.mem_append_right _ (List.mem_append_right _ (List.mem_append_right _ (List.mem_append_right _ (List.mem_append_left _ h)))))))))))))))))))
theorem m_r11 {w : Cond} (p : Nat) (hp : wsL_law_r11[p]? = some w) : w ∈ wsL_law := by
  have h := List.mem_of_getElem? hp
  exact List.mem_append_left _ (List.mem_append_left _ (List.mem_append_left _ (List.mem_append_left _ (List.mem_append_left _ (List.mem_append_left _ (List.mem_append_left _ (List.mem_append_left _ (List.mem_append_left _ (List.mem_append_left _ (List.mem_append_right _ (List.mem_append_right _ (List.mem_append_right _ (List.mem_append_right _ (List.mem_append_right _ (List.mem_append_right _ (List.mem_append_right _ (List.mem_append_right _ (List.mem_append_right _ (List.mem_append_right _ (List.mem_append_left _ h))))))))))))))))))))
theorem m_r12 {w : Cond} (p : Nat) (hp : wsL_law_r12[p]? = some w) : w ∈ wsL_law := by
  have h := List.mem_of_getElem? hp
  exact List.mem_append_left _ (List.mem_append_left _ (List.mem_append_left _ (List.mem_append_left _ (List.mem_append_left _ (List.mem_append_left _ (List.mem_append_left _ (List.mem_append_left _ (List.mem_append_left _ (List.mem_append_left _ (List.mem_append_right _ (List.mem_append_right _ (List.mem_append_right _ (List.mem_append_right _ (List.mem_append_right _ (List.mem_append_right _ (List.mem_append_right _ (List.mem_append_right _ (List.mem_append_right _ (List.mem_append_right _ (List.mem_append_right _ (List.mem_append_left _ h)))))))))))))))))))))
theorem m_r13 {w : Cond} (p : Nat) (hp : wsL_law_r13[p]? = some w) : w ∈ wsL_law := by
  have h := List.mem_of_getElem? hp
  exact List.mem_append_left _ (List.mem_append_left _ (List.mem_append_left _ (List.mem_append_left _ (List.mem_append_left _ (List.mem_append_left _ (List.mem_append_left _ (List.mem_append_left _ (List.mem_append_left _ (List.mem_append_left _ (List.mem_append_right _ (List.mem_append_right _ (List.mem_append_right _ (List.mem_append_right _ (List.mem_append_right _ (List.mem_append_right _ (List.mem_append_right _ (List.mem_append_right _ (List.mem_append_right _ (List.mem_append_right _ (List.mem_append_right _ (List.mem_append_right _ (List.mem_append_left _ h))))))))))))))))))))))
theorem m_r14 {w : Cond} (p : Nat) (hp : wsL_law_r14[p]? = some w) : w ∈ wsL_law := by
  have h := List.mem_of_getElem? hp
  exact List.mem_append_left _ (List.mem_append_left _ (List.mem_append_left _ (List.mem_append_left _ (List.mem_append_left _ (List.mem_append_left _ (List.mem_append_left _ (List.mem_append_left _ (List.mem_append_left _ (List.mem_append_left _ (List.mem_append_right _ (List.mem_append_right _ (List.mem_append_right _ (List.mem_append_right _ (List.mem_append_right _ (List.mem_append_right _ (List.mem_append_right _ (List.mem_append_right _ (List.mem_append_right _ (List.mem_append_right _ (List.mem_append_right _ (List.mem_append_right _ (List.mem_append_right _ (List.mem_append_left _ h)))))))))))))))))))))))
theorem m_r15 {w : Cond} (p : Nat) (hp : wsL_law_r15[p]? = some w) : w ∈ wsL_law := by
  have h := List.mem_of_getElem? hp
  exact List.mem_append_left _ (List.mem_append_left _ (List.mem_append_left _ (List.mem_append_left _ (List.mem_append_left _ (List.mem_append_left _ (List.mem_append_left _ (List.mem_append_left _ (List.mem_append_left _ (List.mem_append_left _ (List.mem_append_right _ (List.mem_append_right _ (List.mem_append_right _ (List.mem_append_right _ (List.mem_append_right _ (List.mem_append_right _ (List.mem_append_right _ (List.mem_append_right _ (List.mem_append_right _ (List.mem_append_right _ (List.mem_append_right _ (List.mem_append_right _ (List.mem_append_right _ (List.mem_append_right _ (List.mem_append_left _ h))))))))))))))))))))))))
theorem m_r16 {w : Cond} (p : Nat) (hp : wsL_law_r16[p]? = some w) : w ∈ wsL_law := by
  have h := List.mem_of_getElem? hp
  exact List.mem_append_left _ (List.mem_append_left _ (List.mem_append_left _ (List.mem_append_left _ (List.mem_append_left _ (List.mem_append_left _ (List.mem_append_left _ (List.mem_append_left _ (List.mem_append_left _ (List.mem_append_left _ (List.mem_append_right _ (List.mem_append_right _ (List.mem_append_right _ (List.mem_append_right _ (List.mem_append_right _ (List.mem_append_right _ (List.mem_append_right _ (List.mem_append_right _ (List.mem_append_right _ (List.mem_append_right _ (List.mem_append_right _ (List.mem_append_right _ (List.mem_append_right _ (List.mem_append_right _ (List.mem_append_right _ (List.mem_append_left _ h)))))))))))))))))))))))))
theorem m_r17 {w : Cond} (p : Nat) (hp : wsL_law_r17[p]? = some w) : w ∈ wsL_law := by
  have h := List.mem_of_getElem? hp
  exact List.mem_append_left _ (List.mem_append_left _ (List.mem_append_left _ (List.mem_append_left _ (List.mem_append_left _ (List.mem_append_left _ (List.mem_append_left _ (List.mem_append_left _ (List.mem_append_left _ (List.mem_append_left _ (List.mem_append_right _ (List.mem_append_right _ (List.mem_append_right _ (List.mem_append_right _ (List.mem_append_right _ (List.mem_append_right _ (List.mem_append_right _ (List.mem_append_right _ (List.mem_append_right _ (List.mem_append_right _ (List.mem_append_right _ (List.mem_append_right _ (List.mem_append_right _ (List.mem_append_right _ (List.mem_append_right _ (List.mem_append_right _ (List.mem_append_left _ h))))))))))))))))))))))))))
theorem m_r18 {w : Cond} (p : Nat) (hp : wsL_law_r18[p]? = some w) : w ∈ wsL_law := by
  have h := List.mem_of_getElem? hp
  exact List.mem_append_left _ (List.mem_append_left _ (List.mem_append_left _ (List.mem_append_left _ (List.mem_append_left _ (List.mem_append_left _ (List.mem_append_left _ (List.mem_append_left _ (List.mem_append_left _ (List.mem_append_left _ (List.mem_append_right _ (List.mem_append_right _ (List.mem_append_right _ (List.mem_append_right _ (List.mem_append_right _ (List.mem_append_right _ (List.mem_append_right _ (List.mem_append_right _ (List.mem_append_right _ (List.mem_append_right _ (List.mem_append_right _ (List.mem_append_right _ (List.mem_append_right _ (List.mem_append_right _ (List.mem_append_right _ (List.mem_append_right _ (List.mem_append_right _ (List.mem_append_left _ h)))))))))))))))))))))))))))
theorem m_r19 {w : Cond} (p : Nat) (hp : wsL_law_r19[p]? = some w) : w ∈ wsL_law := by
  have h := List.mem_of_getElem? hp
  exact List.mem_append_left _ (List.mem_append_left _ (List.mem_append_left _ (List.mem_append_left _ (List.mem_append_left _ (List.mem_append_left _ (List.mem_append_left _ (List.mem_append_left _ (List.mem_append_left _ (List.mem_append_left _ (List.mem_append_right _ (List.mem_append_right _ (List.mem_append_right _ (List.mem_append_right _ (List.mem_append_right _ (List.mem_append_right _ (List.mem_append_right _ (List.mem_append_right _ (List.mem_append_right _ (List.mem_append_right _ (List.mem_append_right _ (List.mem_append_right _ (List.mem_append_right _ (List.mem_append_right _ (List.mem_append_right _ (List.mem_append_right _ (List.mem_append_right _ (List.mem_append_right _ (List.mem_append_left _ h))))))))))))))))))))))))))))
theorem m_r20 {w : Cond} (p : Nat) (hp : wsL_law_r20[p]? = some w) : w ∈ wsL_law := by
  have h := List.mem_of_getElem? hp
  exact List.mem_append_left _ (List.mem_append_left _ (List.mem_append_left _ (List.mem_append_left _ (List.mem_append_left _ (List.mem_append_left _ (List.mem_append_left _ (List.mem_append_left _ (List.mem_append_left _ (List.mem_append_left _ (List.mem_append_right _ (List.mem_append_right _ (List.mem_append_right _ (List.mem_append_right _ (List.mem_append_right _ (List.mem_append_right _ (List.mem_append_right _ (List.mem_append_right _ (List.mem_append_right _ (List.mem_append_right _ (List.mem_append_right _ (List.mem_append_right _ (List.mem_append_right _ (List.mem_append_right _ (List.mem_append_right _ (List.mem_append_right _ (List.mem_append_right _ (List.mem_append_right _ (List.mem_append_right _ (List.mem_append_left _ h)))))))))))))))))))))))))))))
theorem m_r21 {w : Cond} (p : Nat) (hp : wsL_law_r21[p]? = some w) : w ∈ wsL_law := by
  have h := List.mem_of_getElem? hp
  exact List.mem_append_left _ (List.mem_append_left _ (List.mem_append_left _ (List.mem_append_left _ (List.mem_append_left _ (List.mem_append_left _ (List.mem_append_left _ (List.mem_append_left _ (List.mem_append_left _ (List.mem_append_left _ (List.mem_append_right _ (List.mem_append_right _ (List.mem_append_right _ (List.mem_append_right _ (List.mem_append_right _ (List.mem_append_right _ (List.mem_append_right _ (List.mem_append_right _ (List.mem_append_right _ (List.mem_append_right _ (List.mem_append_right _ (List.mem_append_right _ (List.mem_append_right _ (List.mem_append_right _ (List.mem_append_right _ (List.mem_append_right _ (List.mem_append_right _ (List.mem_append_right _ (List.mem_append_right _ (List.mem_append_right _ (List.mem_append_left _ h))))))))))))))))))))))))))))))
theorem m_r22 {w : Cond} (p : Nat) (hp : wsL_law_r22[p]? = some w) : w ∈ wsL_law := by
  have h := List.mem_of_getElem? hp
  exact List.mem_append_left _ (List.mem_append_left _ (List.mem_append_left _ (List.mem_append_left _ (List.mem_append_left _ (List.mem_append_left _ (List.mem_append_left _ (List.mem_append_left _ (List.mem_append_left _ (List.mem_append_left _ (List.mem_append_right _ (List.mem_append_right _ (List.mem_append_right _ (List.mem_append_right _ (List.mem_append_right _ (List.mem_append_right _ (List.mem_append_right _ (List.mem_append_right _ (List.mem_append_right _ (List.mem_append_right _ (List.mem_append_right _ (List.mem_append_right _ (List.mem_append_right _ (List.mem_append_right _ (List.mem_append_right _ (List.mem_append_right _ (List.mem_append_right _ (List.mem_append_right _ (List.mem_append_right _ (List.mem_append_right _ (List.mem_append_right _ (h)))))))))))))))))))))))))))))))
theorem inlX0 : ∀ w ∈ wsX00, w ∈ wsL_law := fun _ h => List.mem_append_left _ (List.mem_append_left _ (List.mem_append_left _ (List.mem_append_left _ (List.mem_append_left _ (List.mem_append_left _ (List.mem_append_right _ h))))))
theorem inlX1 : ∀ w ∈ wsX10, w ∈ wsL_law := fun _ h => List.mem_append_left _ (List.mem_append_right _ h)
theorem inlX2 : ∀ w ∈ wsX20, w ∈ wsL_law := fun _ h => List.mem_append_left _ (List.mem_append_left _ (List.mem_append_left _ (List.mem_append_left _ (List.mem_append_left _ (List.mem_append_left _ (List.mem_append_left _ (List.mem_append_left _ (List.mem_append_right _ h))))))))
theorem inlX3 : ∀ w ∈ wsX30, w ∈ wsL_law := fun _ h => List.mem_append_left _ (List.mem_append_left _ (List.mem_append_left _ (List.mem_append_right _ h)))
theorem inlX4 : ∀ w ∈ wsX40, w ∈ wsL_law := fun _ h => List.mem_append_left _ (List.mem_append_left _ (List.mem_append_left _ (List.mem_append_left _ (List.mem_append_left _ (List.mem_append_left _ (List.mem_append_left _ (List.mem_append_right _ h)))))))
theorem inlX5 : ∀ w ∈ wsX50, w ∈ wsL_law := fun _ h => List.mem_append_left _ (List.mem_append_left _ (List.mem_append_left _ (List.mem_append_left _ (List.mem_append_left _ (List.mem_append_right _ h)))))
theorem inlX6 : ∀ w ∈ wsX60, w ∈ wsL_law := fun _ h => List.mem_append_left _ (List.mem_append_left _ (List.mem_append_left _ (List.mem_append_left _ (List.mem_append_right _ h))))
theorem inlX7 : ∀ w ∈ wsX70, w ∈ wsL_law := fun _ h => List.mem_append_left _ (List.mem_append_left _ (List.mem_append_right _ h))
theorem inlX9 : ∀ w ∈ wsX90, w ∈ wsL_law := fun _ h => List.mem_append_left _ (List.mem_append_left _ (List.mem_append_left _ (List.mem_append_left _ (List.mem_append_left _ (List.mem_append_left _ (List.mem_append_left _ (List.mem_append_left _ (List.mem_append_left _ (List.mem_append_right _ h)))))))))
