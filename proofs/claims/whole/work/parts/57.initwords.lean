theorem w_inst : Cond.instanceMethod objectInit ∈ gW := gW_in (List.mem_of_getElem? (i := 67) (by decide +kernel)) rfl
set_option maxRecDepth 100000 in
theorem w_code : Cond.code objectInit ⟨#[0xb1]⟩ 1 none ∈ gW := gW_in (List.mem_of_getElem? (i := 68) (by rfl)) rfl
theorem w_arr_int : Cond.arrayClass .int ∈ gW := gW_in (List.mem_of_getElem? (i := 140) (by decide +kernel)) rfl
theorem w_arr_byte : Cond.arrayClass .byte ∈ gW := gW_in (List.mem_of_getElem? (i := 82) (by decide +kernel)) rfl
theorem w_arr_boolean : Cond.arrayClass .boolean ∈ gW := gW_in (List.mem_of_getElem? (i := 108) (by decide +kernel)) rfl
theorem w_arr_long : Cond.arrayClass .long ∈ gW := gW_in (List.mem_of_getElem? (i := 1082) (by decide +kernel)) rfl
abbrev mX0_init : rM := (RX0, yX0_init, cX0_init, 1, none, 1, 12)
abbrev rmX0 : Room := { frames := 1, cells := 8, slots := 320, locals := 12 }
set_option maxRecDepth 100000 in
theorem oX0_init : okM mX0_init 0 := ⟨gW_in (List.mem_of_getElem? (i := 145) (by rfl)) rfl, gW_in (List.mem_of_getElem? (i := 48) (by decide +kernel)) rfl, by decide +kernel, by decide +kernel⟩
theorem oiX0_init : Cond.instanceMethod (mY mX0_init) ∈ gW := gW_in (List.mem_of_getElem? (i := 144) (by decide +kernel)) rfl
theorem nwX0 : Cond.instantiable RX0 9 ∈ gW := gW_in (List.mem_of_getElem? (i := 142) (by decide +kernel)) rfl
theorem niX0 : Cond.initialized RX0 ∈ gW := gW_in (List.mem_of_getElem? (i := 48) (by decide +kernel)) rfl
abbrev mX1_init : rM := (RX1, yX1_init, cX1_init, 2, none, 1, 12)
abbrev rmX1 : Room := { frames := 1, cells := 1, slots := 4, locals := 12 }
set_option maxRecDepth 100000 in
theorem oX1_init : okM mX1_init 1 := ⟨gW_in (List.mem_of_getElem? (i := 87) (by rfl)) rfl, gW_in (List.mem_of_getElem? (i := 46) (by decide +kernel)) rfl, by decide +kernel, by decide +kernel⟩
theorem oiX1_init : Cond.instanceMethod (mY mX1_init) ∈ gW := gW_in (List.mem_of_getElem? (i := 86) (by decide +kernel)) rfl
theorem nwX1 : Cond.instantiable RX1 6 ∈ gW := gW_in (List.mem_of_getElem? (i := 84) (by decide +kernel)) rfl
theorem niX1 : Cond.initialized RX1 ∈ gW := gW_in (List.mem_of_getElem? (i := 46) (by decide +kernel)) rfl
abbrev mX2_init : rM := (RX2, yX2_init, cX2_init, 2, none, 1, 12)
abbrev rmX2 : Room := { frames := 1, cells := 7, slots := 108, locals := 12 }
set_option maxRecDepth 100000 in
theorem oX2_init : okM mX2_init 0 := ⟨gW_in (List.mem_of_getElem? (i := 113) (by rfl)) rfl, gW_in (List.mem_of_getElem? (i := 47) (by decide +kernel)) rfl, by decide +kernel, by decide +kernel⟩
theorem oiX2_init : Cond.instanceMethod (mY mX2_init) ∈ gW := gW_in (List.mem_of_getElem? (i := 112) (by decide +kernel)) rfl
theorem nwX2 : Cond.instantiable RX2 8 ∈ gW := gW_in (List.mem_of_getElem? (i := 110) (by decide +kernel)) rfl
theorem niX2 : Cond.initialized RX2 ∈ gW := gW_in (List.mem_of_getElem? (i := 47) (by decide +kernel)) rfl
abbrev mX3_init : rM := (RX3, yX3_init, cX3_init, 1, none, 1, 12)
abbrev rmX3 : Room := { frames := 1, cells := 4, slots := 40, locals := 12 }
set_option maxRecDepth 100000 in
theorem oX3_init : okM mX3_init 0 := ⟨gW_in (List.mem_of_getElem? (i := 179) (by rfl)) rfl, gW_in (List.mem_of_getElem? (i := 49) (by decide +kernel)) rfl, by decide +kernel, by decide +kernel⟩
theorem oiX3_init : Cond.instanceMethod (mY mX3_init) ∈ gW := gW_in (List.mem_of_getElem? (i := 178) (by decide +kernel)) rfl
theorem nwX3 : Cond.instantiable RX3 5 ∈ gW := gW_in (List.mem_of_getElem? (i := 176) (by decide +kernel)) rfl
theorem niX3 : Cond.initialized RX3 ∈ gW := gW_in (List.mem_of_getElem? (i := 49) (by decide +kernel)) rfl
abbrev mX4_init : rM := (RX4, yX4_init, cX4_init, 1, none, 1, 12)
abbrev rmX4 : Room := { frames := 1, cells := 1, slots := 600, locals := 12 }
set_option maxRecDepth 100000 in
theorem oX4_init : okM mX4_init 0 := ⟨gW_in (List.mem_of_getElem? (i := 73) (by rfl)) rfl, gW_in (List.mem_of_getElem? (i := 45) (by decide +kernel)) rfl, by decide +kernel, by decide +kernel⟩
theorem oiX4_init : Cond.instanceMethod (mY mX4_init) ∈ gW := gW_in (List.mem_of_getElem? (i := 72) (by decide +kernel)) rfl
theorem nwX4 : Cond.instantiable RX4 2 ∈ gW := gW_in (List.mem_of_getElem? (i := 70) (by decide +kernel)) rfl
theorem niX4 : Cond.initialized RX4 ∈ gW := gW_in (List.mem_of_getElem? (i := 45) (by decide +kernel)) rfl
abbrev mX5_init : rM := (RX5, yX5_init, cX5_init, 2, none, 2, 33)
abbrev rmX5 : Room := { frames := 2, cells := 39, slots := 1263, locals := 33 }
set_option maxRecDepth 100000 in
theorem oX5_init : okM mX5_init 0 := ⟨gW_in (List.mem_of_getElem? (i := 65) (by rfl)) rfl, gW_in (List.mem_of_getElem? (i := 44) (by decide +kernel)) rfl, by decide +kernel, by decide +kernel⟩
theorem oiX5_init : Cond.instanceMethod (mY mX5_init) ∈ gW := gW_in (List.mem_of_getElem? (i := 64) (by decide +kernel)) rfl
theorem nwX5 : Cond.instantiable RX5 11 ∈ gW := gW_in (List.mem_of_getElem? (i := 62) (by decide +kernel)) rfl
theorem niX5 : Cond.initialized RX5 ∈ gW := gW_in (List.mem_of_getElem? (i := 44) (by decide +kernel)) rfl
abbrev mX6_init : rM := (RX6, yX6_init, cX6_init, 1, none, 1, 12)
abbrev rmX6 : Room := { frames := 1, cells := 20, slots := 1438, locals := 12 }
set_option maxRecDepth 100000 in
theorem oX6_init : okM mX6_init 0 := ⟨gW_in (List.mem_of_getElem? (i := 805) (by rfl)) rfl, gW_in (List.mem_of_getElem? (i := 50) (by decide +kernel)) rfl, by decide +kernel, by decide +kernel⟩
theorem oiX6_init : Cond.instanceMethod (mY mX6_init) ∈ gW := gW_in (List.mem_of_getElem? (i := 804) (by decide +kernel)) rfl
theorem nwX6 : Cond.instantiable RX6 37 ∈ gW := gW_in (List.mem_of_getElem? (i := 802) (by decide +kernel)) rfl
theorem niX6 : Cond.initialized RX6 ∈ gW := gW_in (List.mem_of_getElem? (i := 50) (by decide +kernel)) rfl
theorem obX0 : Cond.methodLink RX0 3 objectInit ∈ gW := gW_in (List.mem_of_getElem? (i := 146) (by decide +kernel)) rfl
theorem obX1 : Cond.methodLink RX1 3 objectInit ∈ gW := gW_in (List.mem_of_getElem? (i := 88) (by decide +kernel)) rfl
theorem obX2 : Cond.methodLink RX2 3 objectInit ∈ gW := gW_in (List.mem_of_getElem? (i := 114) (by decide +kernel)) rfl
theorem obX3 : Cond.methodLink RX3 3 objectInit ∈ gW := gW_in (List.mem_of_getElem? (i := 180) (by decide +kernel)) rfl
theorem obX4 : Cond.methodLink RX4 3 objectInit ∈ gW := gW_in (List.mem_of_getElem? (i := 74) (by decide +kernel)) rfl
theorem obX5 : Cond.methodLink RX5 1 objectInit ∈ gW := gW_in (List.mem_of_getElem? (i := 66) (by decide +kernel)) rfl
theorem nlX5_7 : Cond.classLink RX5 7 RX4 ∈ gW := gW_in (List.mem_of_getElem? (i := 69) (by decide +kernel)) rfl
theorem lX5_9 : Cond.methodLink RX5 9 yX4_init ∈ gW := gW_in (List.mem_of_getElem? (i := 71) (by decide +kernel)) rfl
theorem nlX5_16 : Cond.classLink RX5 16 RX1 ∈ gW := gW_in (List.mem_of_getElem? (i := 83) (by decide +kernel)) rfl
theorem lX5_18 : Cond.methodLink RX5 18 yX1_init ∈ gW := gW_in (List.mem_of_getElem? (i := 85) (by decide +kernel)) rfl
theorem nlX5_25 : Cond.classLink RX5 25 RX2 ∈ gW := gW_in (List.mem_of_getElem? (i := 109) (by decide +kernel)) rfl
theorem lX5_27 : Cond.methodLink RX5 27 yX2_init ∈ gW := gW_in (List.mem_of_getElem? (i := 111) (by decide +kernel)) rfl
theorem nlX5_35 : Cond.classLink RX5 35 RX0 ∈ gW := gW_in (List.mem_of_getElem? (i := 141) (by decide +kernel)) rfl
theorem lX5_37 : Cond.methodLink RX5 37 yX0_init ∈ gW := gW_in (List.mem_of_getElem? (i := 143) (by decide +kernel)) rfl
theorem nlX5_42 : Cond.classLink RX5 42 RX3 ∈ gW := gW_in (List.mem_of_getElem? (i := 175) (by decide +kernel)) rfl
theorem lX5_44 : Cond.methodLink RX5 44 yX3_init ∈ gW := gW_in (List.mem_of_getElem? (i := 177) (by decide +kernel)) rfl
theorem obX6 : Cond.methodLink RX6 1 objectInit ∈ gW := gW_in (List.mem_of_getElem? (i := 806) (by decide +kernel)) rfl
