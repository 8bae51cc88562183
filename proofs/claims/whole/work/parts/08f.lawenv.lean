theorem tb_0 : Cond.fieldLinkNest "KelpShores" 73 "KelpShores$Tape" "length" "I" "KelpShores" ∈ tables_1 := (List.mem_append_left _ (List.mem_of_getElem? (l := tables_1_1) (i := 41) (by decide +kernel)))
theorem tb_1 : Cond.fieldLinkNest "KelpShores" 87 "KelpShores$Tape" "at" "I" "KelpShores" ∈ tables_1 := (List.mem_append_left _ (List.mem_of_getElem? (l := tables_1_1) (i := 44) (by decide +kernel)))
theorem tb_2 : Cond.fieldLinkNest "KelpShores" 347 "KelpShores$Rights" "size" "I" "KelpShores" ∈ tables_1 := (List.mem_append_left _ (List.mem_of_getElem? (l := tables_1_1) (i := 65) (by decide +kernel)))
theorem tb_3 : Cond.fieldLinkNest "KelpShores$Tape" 57 "KelpShores$Rights" "rest" "I" "KelpShores" ∈ tables_1 := (List.mem_append_left _ (List.mem_of_getElem? (l := tables_1_1) (i := 67) (by decide +kernel)))
theorem tb_4 : Cond.fieldLinkNest "KelpShores" 228 "KelpShores$Rights" "rest" "I" "KelpShores" ∈ tables_1 := (List.mem_append_left _ (List.mem_of_getElem? (l := tables_1_1) (i := 68) (by decide +kernel)))
theorem tb_5 : Cond.fieldLinkNest "KelpShores" 344 "KelpShores$Store" "size" "I" "KelpShores" ∈ tables_1 := (List.mem_append_left _ (List.mem_of_getElem? (l := tables_1_1) (i := 104) (by decide +kernel)))
theorem tb_6 : Cond.fieldLinkNest "KelpShores" 335 "KelpShores$Forecast" "days" "I" "KelpShores" ∈ tables_1 := (List.mem_append_left _ (List.mem_of_getElem? (l := tables_1_1) (i := 128) (by decide +kernel)))
theorem tb_7 : Cond.fieldLinkNest "KelpShores" 141 "KelpShores$Family" "hands" "I" "KelpShores" ∈ tables_1 := (List.mem_append_left _ (List.mem_of_getElem? (l := tables_1_1) (i := 152) (by decide +kernel)))
theorem tb_8 : Cond.fieldLinkNest "KelpShores" 219 "KelpShores$Family" "worked" "I" "KelpShores" ∈ tables_1 := (List.mem_append_left _ (List.mem_of_getElem? (l := tables_1_1) (i := 154) (by decide +kernel)))
theorem tb_9 : Cond.fieldLinkNest "KelpShores" 171 "KelpShores$Family" "wet" "I" "KelpShores" ∈ tables_1 := (List.mem_append_left _ (List.mem_of_getElem? (l := tables_1_1) (i := 156) (by decide +kernel)))
theorem tb_10 : Cond.fieldLinkNest "KelpShores$Pit" 19 "KelpShores$Family" "dry" "I" "KelpShores" ∈ tables_1 := (List.mem_append_left _ (List.mem_of_getElem? (l := tables_1_1) (i := 157) (by decide +kernel)))
theorem tb_11 : Cond.fieldLinkNest "KelpShores" 174 "KelpShores$Family" "dry" "I" "KelpShores" ∈ tables_1 := (List.mem_append_left _ (List.mem_of_getElem? (l := tables_1_1) (i := 159) (by decide +kernel)))
theorem tb_12 : Cond.fieldLinkNest "KelpShores$Pit" 30 "KelpShores$Family" "ash" "I" "KelpShores" ∈ tables_1 := (List.mem_append_left _ (List.mem_of_getElem? (l := tables_1_1) (i := 160) (by decide +kernel)))
theorem tb_13 : Cond.fieldLinkNest "KelpShores" 177 "KelpShores$Family" "ash" "I" "KelpShores" ∈ tables_1 := (List.mem_append_left _ (List.mem_of_getElem? (l := tables_1_1) (i := 161) (by decide +kernel)))
theorem tb_14 : Cond.fieldLinkNest "KelpShores" 184 "KelpShores$Family" "spoilt" "I" "KelpShores" ∈ tables_1 := (List.mem_append_left _ (List.mem_of_getElem? (l := tables_1_1) (i := 163) (by decide +kernel)))
theorem tb_15 : Cond.fieldLinkNest "KelpShores$Pit" 24 "KelpShores$Family" "lost" "I" "KelpShores" ∈ tables_1 := (List.mem_append_left _ (List.mem_of_getElem? (l := tables_1_1) (i := 164) (by decide +kernel)))
theorem tb_16 : Cond.fieldLinkNest "KelpShores" 187 "KelpShores$Family" "lost" "I" "KelpShores" ∈ tables_1 := (List.mem_append_left _ (List.mem_of_getElem? (l := tables_1_1) (i := 165) (by decide +kernel)))
theorem tb_17 : Cond.fieldLinkNest "KelpShores" 124 "KelpShores$Shore" "rocks" "[LKelpShores$Rock;" "KelpShores" ∈ tables_1 := (List.mem_append_right _ (List.mem_append_left _ (List.mem_of_getElem? (l := tables_1_2) (i := 142) (by decide +kernel))))
theorem tb_18 : Cond.fieldLinkNest "KelpShores" 121 "KelpShores$Shore" "rockCount" "I" "KelpShores" ∈ tables_1 := (List.mem_append_right _ (List.mem_append_left _ (List.mem_of_getElem? (l := tables_1_2) (i := 144) (by decide +kernel))))
theorem tb_19 : Cond.fieldLinkNest "KelpShores" 168 "KelpShores$Shore" "castWeed" "I" "KelpShores" ∈ tables_1 := (List.mem_append_right _ (List.mem_append_left _ (List.mem_of_getElem? (l := tables_1_2) (i := 146) (by decide +kernel))))
theorem tb_20 : Cond.fieldLinkNest "KelpShores" 225 "KelpShores$Rock" "depth" "I" "KelpShores" ∈ tables_1 := (List.mem_append_right _ (List.mem_append_left _ (List.mem_of_getElem? (l := tables_1_2) (i := 210) (by decide +kernel))))
theorem tb_21 : Cond.fieldLinkNest "KelpShores" 148 "KelpShores$Rock" "weed" "I" "KelpShores" ∈ tables_1 := (List.mem_append_right _ (List.mem_append_left _ (List.mem_of_getElem? (l := tables_1_2) (i := 213) (by decide +kernel))))
theorem tb_22 : Cond.fieldLinkNest "KelpShores" 154 "KelpShores$Rock" "grown" "I" "KelpShores" ∈ tables_1 := (List.mem_append_right _ (List.mem_append_left _ (List.mem_of_getElem? (l := tables_1_2) (i := 215) (by decide +kernel))))
theorem tb_23 : Cond.fieldLinkNest "KelpShores" 157 "KelpShores$Rock" "cutInAll" "I" "KelpShores" ∈ tables_1 := (List.mem_append_right _ (List.mem_append_left _ (List.mem_of_getElem? (l := tables_1_2) (i := 217) (by decide +kernel))))
theorem tb_24 : Cond.fieldLinkNest "KelpShores" 160 "KelpShores$Rock" "takenByStorms" "I" "KelpShores" ∈ tables_1 := (List.mem_append_right _ (List.mem_append_left _ (List.mem_of_getElem? (l := tables_1_2) (i := 219) (by decide +kernel))))
theorem tb_25 : Cond.fieldLinkNest "KelpShores" 151 "KelpShores$Rock" "cutYear" "I" "KelpShores" ∈ tables_1 := (List.mem_append_right _ (List.mem_append_left _ (List.mem_of_getElem? (l := tables_1_2) (i := 221) (by decide +kernel))))
theorem tb_26 : Cond.fieldLinkNest "KelpShores" 263 "KelpShores$Pit" "owner" "LKelpShores$Family;" "KelpShores" ∈ tables_1 := (List.mem_append_right _ (List.mem_append_right _ (List.mem_append_right _ (List.mem_append_left _ (List.mem_of_getElem? (l := tables_1_4) (i := 61) (by decide +kernel))))))
theorem tb_27 : Cond.fieldLinkNest "KelpShores" 267 "KelpShores$Pit" "load" "I" "KelpShores" ∈ tables_1 := (List.mem_append_right _ (List.mem_append_right _ (List.mem_append_right _ (List.mem_append_left _ (List.mem_of_getElem? (l := tables_1_4) (i := 63) (by decide +kernel))))))
theorem tb_28 : Cond.fieldLinkNest "KelpShores" 260 "KelpShores$Pit" "daysLeft" "I" "KelpShores" ∈ tables_1 := (List.mem_append_right _ (List.mem_append_right _ (List.mem_append_right _ (List.mem_append_left _ (List.mem_of_getElem? (l := tables_1_4) (i := 65) (by decide +kernel))))))
theorem tb_29 : Cond.fieldLinkNest "KelpShores" 294 "KelpShores$Lot" "family" "I" "KelpShores" ∈ tables_1 := (List.mem_append_right _ (List.mem_append_right _ (List.mem_append_right _ (List.mem_append_left _ (List.mem_of_getElem? (l := tables_1_4) (i := 128) (by decide +kernel))))))
theorem tb_30 : Cond.fieldLinkNest "KelpShores" 297 "KelpShores$Lot" "amount" "I" "KelpShores" ∈ tables_1 := (List.mem_append_right _ (List.mem_append_right _ (List.mem_append_right _ (List.mem_append_left _ (List.mem_of_getElem? (l := tables_1_4) (i := 130) (by decide +kernel))))))
theorem tb_31 : Cond.fieldLinkNest "KelpShores" 300 "KelpShores$Lot" "strength" "I" "KelpShores" ∈ tables_1 := (List.mem_append_right _ (List.mem_append_right _ (List.mem_append_right _ (List.mem_append_left _ (List.mem_of_getElem? (l := tables_1_4) (i := 132) (by decide +kernel))))))
theorem tb_32 : Cond.fieldLinkNest "KelpShores" 303 "KelpShores$Lot" "doubted" "Z" "KelpShores" ∈ tables_1 := (List.mem_append_right _ (List.mem_append_right _ (List.mem_append_right _ (List.mem_append_left _ (List.mem_of_getElem? (l := tables_1_4) (i := 134) (by decide +kernel))))))
theorem tb_33 : Cond.fieldLinkNest "KelpShores" 307 "KelpShores$Lot" "entry" "I" "KelpShores" ∈ tables_1 := (List.mem_append_right _ (List.mem_append_right _ (List.mem_append_right _ (List.mem_append_left _ (List.mem_of_getElem? (l := tables_1_4) (i := 136) (by decide +kernel))))))
theorem tb_34 : Cond.methodLinkNest "KelpShores" 9 ⟨"KelpShores$Tape", "<init>", "()V"⟩ "KelpShores" ∈ tables_1 := (List.mem_append_left _ (List.mem_of_getElem? (l := tables_1_1) (i := 36) (by decide +kernel)))
theorem tb_35 : Cond.methodLinkNest "KelpShores" 18 ⟨"KelpShores$Rights", "<init>", "()V"⟩ "KelpShores" ∈ tables_1 := (List.mem_append_left _ (List.mem_of_getElem? (l := tables_1_1) (i := 55) (by decide +kernel)))
theorem tb_36 : Cond.methodLinkNest "KelpShores" 60 ⟨"KelpShores$Store", "<init>", "()V"⟩ "KelpShores" ∈ tables_1 := (List.mem_append_left _ (List.mem_of_getElem? (l := tables_1_1) (i := 94) (by decide +kernel)))
theorem tb_37 : Cond.methodLinkNest "KelpShores" 67 ⟨"KelpShores$Forecast", "<init>", "()V"⟩ "KelpShores" ∈ tables_1 := (List.mem_append_left _ (List.mem_of_getElem? (l := tables_1_1) (i := 120) (by decide +kernel)))
theorem tb_38 : Cond.methodLinkNest "KelpShores" 72 ⟨"KelpShores$Family", "<init>", "()V"⟩ "KelpShores" ∈ tables_1 := (List.mem_append_left _ (List.mem_of_getElem? (l := tables_1_1) (i := 146) (by decide +kernel)))
theorem tb_39 : Cond.methodLinkNest "KelpShores" 114 ⟨"KelpShores$Shore", "<init>", "()V"⟩ "KelpShores" ∈ tables_1 := (List.mem_append_right _ (List.mem_append_left _ (List.mem_of_getElem? (l := tables_1_2) (i := 135) (by decide +kernel))))
theorem tb_40 : Cond.methodLinkNest "KelpShores$Tape" 80 ⟨"KelpShores", "isWithin", "(III)Z"⟩ "KelpShores" ∈ tables_1 := (List.mem_append_right _ (List.mem_append_right _ (List.mem_append_left _ (List.mem_of_getElem? (l := tables_1_3) (i := 100) (by decide +kernel)))))
theorem tb_41 : Cond.methodLinkNest "KelpShores$Rights" 34 ⟨"KelpShores", "isWithin", "(III)Z"⟩ "KelpShores" ∈ tables_1 := (List.mem_append_right _ (List.mem_append_right _ (List.mem_append_left _ (List.mem_of_getElem? (l := tables_1_3) (i := 134) (by decide +kernel)))))
theorem tb_42 : Cond.methodLinkNest "KelpShores$Family" 41 ⟨"KelpShores", "isWithin", "(III)Z"⟩ "KelpShores" ∈ tables_1 := (List.mem_append_right _ (List.mem_append_right _ (List.mem_append_left _ (List.mem_of_getElem? (l := tables_1_3) (i := 229) (by decide +kernel)))))
theorem tb_43 : Cond.castable "java/lang/IndexOutOfBoundsException" "java/lang/IndexOutOfBoundsException" ∈ tables_1 := (List.mem_append_right _ (List.mem_append_left _ (List.mem_of_getElem? (l := tables_1_2) (i := 169) (by decide +kernel))))
theorem tb_44 : Cond.castable "java/lang/IllegalArgumentException" "java/lang/IllegalArgumentException" ∈ tables_1 := (List.mem_append_right _ (List.mem_append_left _ (List.mem_of_getElem? (l := tables_1_2) (i := 188) (by decide +kernel))))
theorem tb_45 : Cond.castable "java/lang/UnsupportedOperationException" "java/lang/UnsupportedOperationException" ∈ tables_1 := (List.mem_append_right _ (List.mem_append_left _ (List.mem_of_getElem? (l := tables_1_2) (i := 67) (by decide +kernel))))
theorem tb_46 : Cond.castable "java/util/NoSuchElementException" "java/util/NoSuchElementException" ∈ tables_1 := (List.mem_append_right _ (List.mem_append_right _ (List.mem_append_right _ (List.mem_append_left _ (List.mem_of_getElem? (l := tables_1_4) (i := 7) (by decide +kernel))))))
theorem tb_47 : Cond.declares ⟨"java/lang/RuntimeException", "<init>", "(Ljava/lang/String;)V"⟩ ∈ tables_1 := (List.mem_append_right _ (List.mem_append_left _ (List.mem_of_getElem? (l := tables_1_2) (i := 69) (by decide +kernel))))
theorem tb_48 : Cond.declares ⟨"java/lang/Exception", "<init>", "(Ljava/lang/String;)V"⟩ ∈ tables_1 := (List.mem_append_right _ (List.mem_append_left _ (List.mem_of_getElem? (l := tables_1_2) (i := 71) (by decide +kernel))))
theorem tb_49 : Cond.declares ⟨"java/lang/Throwable", "<init>", "(Ljava/lang/String;)V"⟩ ∈ tables_1 := (List.mem_append_right _ (List.mem_append_left _ (List.mem_of_getElem? (l := tables_1_2) (i := 73) (by decide +kernel))))
theorem tb_50 : Cond.arrayOver (.object "KelpShores$Family") ∈ tables_1 := (List.mem_append_left _ (List.mem_of_getElem? (l := tables_1_1) (i := 87) (by decide +kernel)))
theorem tb_51 : Cond.arrayOver (.object "KelpShores$Lot") ∈ tables_1 := (List.mem_append_left _ (List.mem_of_getElem? (l := tables_1_1) (i := 91) (by decide +kernel)))
theorem tb_52 : Cond.arrayOver (.object "KelpShores$Pit") ∈ tables_1 := (List.mem_append_left _ (List.mem_of_getElem? (l := tables_1_1) (i := 89) (by decide +kernel)))
theorem tb_53 : Cond.arrayOver (.object "KelpShores$Rock") ∈ tables_1 := (List.mem_append_right _ (List.mem_append_left _ (List.mem_of_getElem? (l := tables_1_2) (i := 140) (by decide +kernel))))
theorem tb_54 : Cond.arrayOver (.object "KelpShores$Shore") ∈ tables_1 := (List.mem_append_left _ (List.mem_of_getElem? (l := tables_1_1) (i := 85) (by decide +kernel)))
theorem nr_0 : Cond.not (Cond.castable "java/lang/IllegalArgumentException" "java/lang/IndexOutOfBoundsException") ∈ flatC (Jvm.Cond.and given_1 narrow_1) := List.mem_of_getElem? (i := 34) (by decide +kernel)
theorem nr_1 : Cond.not (Cond.castable "java/lang/UnsupportedOperationException" "java/lang/IndexOutOfBoundsException") ∈ flatC (Jvm.Cond.and given_1 narrow_1) := List.mem_of_getElem? (i := 32) (by decide +kernel)
theorem nr_2 : Cond.not (Cond.castable "java/lang/UnsupportedOperationException" "java/lang/IllegalArgumentException") ∈ flatC (Jvm.Cond.and given_1 narrow_1) := List.mem_of_getElem? (i := 46) (by decide +kernel)
theorem nr_3 : Cond.not (Cond.castable "java/util/NoSuchElementException" "java/lang/IndexOutOfBoundsException") ∈ flatC (Jvm.Cond.and given_1 narrow_1) := List.mem_of_getElem? (i := 36) (by decide +kernel)
theorem nr_4 : Cond.eq (.elem (.field (.string "KelpShores$Tape" 38) "java/lang/String" "value" "[B") (.int 0)) (.int 114) ∈ flatC (Jvm.Cond.and given_1 narrow_1) := List.mem_of_getElem? (i := 248) (by decide +kernel)
theorem nr_5 : Cond.eq (.elem (.field (.string "KelpShores$Tape" 38) "java/lang/String" "value" "[B") (.int 1)) (.int 101) ∈ flatC (Jvm.Cond.and given_1 narrow_1) := List.mem_of_getElem? (i := 249) (by decide +kernel)
theorem nr_6 : Cond.eq (.elem (.field (.string "KelpShores$Tape" 38) "java/lang/String" "value" "[B") (.int 2)) (.int 115) ∈ flatC (Jvm.Cond.and given_1 narrow_1) := List.mem_of_getElem? (i := 250) (by decide +kernel)
theorem nr_7 : Cond.eq (.elem (.field (.string "KelpShores$Tape" 38) "java/lang/String" "value" "[B") (.int 3)) (.int 116) ∈ flatC (Jvm.Cond.and given_1 narrow_1) := List.mem_of_getElem? (i := 251) (by decide +kernel)
theorem nr_8 : Cond.exactly (.string "KelpShores$Tape" 38) "java/lang/String" ∈ flatC (Jvm.Cond.and given_1 narrow_1) := List.mem_of_getElem? (i := 244) (by decide +kernel)
theorem nr_9 : Cond.eq (.field (.string "KelpShores$Tape" 38) "java/lang/String" "coder" "B") (.int 0) ∈ flatC (Jvm.Cond.and given_1 narrow_1) := List.mem_of_getElem? (i := 245) (by decide +kernel)
theorem nr_10 : Cond.arrayOf (.field (.string "KelpShores$Tape" 38) "java/lang/String" "value" "[B") .byte ∈ flatC (Jvm.Cond.and given_1 narrow_1) := List.mem_of_getElem? (i := 246) (by decide +kernel)
theorem nr_11 : Cond.eq (.length (.field (.string "KelpShores$Tape" 38) "java/lang/String" "value" "[B")) (.int 4) ∈ flatC (Jvm.Cond.and given_1 narrow_1) := List.mem_of_getElem? (i := 247) (by decide +kernel)
theorem nr_12 : Cond.eq (.elem (.field (.string "KelpShores$Tape" 48) "java/lang/String" "value" "[B") (.int 0)) (.int 115) ∈ flatC (Jvm.Cond.and given_1 narrow_1) := List.mem_of_getElem? (i := 256) (by decide +kernel)
theorem nr_13 : Cond.eq (.elem (.field (.string "KelpShores$Tape" 48) "java/lang/String" "value" "[B") (.int 1)) (.int 104) ∈ flatC (Jvm.Cond.and given_1 narrow_1) := List.mem_of_getElem? (i := 257) (by decide +kernel)
theorem nr_14 : Cond.eq (.elem (.field (.string "KelpShores$Tape" 48) "java/lang/String" "value" "[B") (.int 2)) (.int 111) ∈ flatC (Jvm.Cond.and given_1 narrow_1) := List.mem_of_getElem? (i := 258) (by decide +kernel)
theorem nr_15 : Cond.eq (.elem (.field (.string "KelpShores$Tape" 48) "java/lang/String" "value" "[B") (.int 3)) (.int 114) ∈ flatC (Jvm.Cond.and given_1 narrow_1) := List.mem_of_getElem? (i := 259) (by decide +kernel)
theorem nr_16 : Cond.eq (.elem (.field (.string "KelpShores$Tape" 48) "java/lang/String" "value" "[B") (.int 4)) (.int 101) ∈ flatC (Jvm.Cond.and given_1 narrow_1) := List.mem_of_getElem? (i := 260) (by decide +kernel)
theorem nr_17 : Cond.exactly (.string "KelpShores$Tape" 48) "java/lang/String" ∈ flatC (Jvm.Cond.and given_1 narrow_1) := List.mem_of_getElem? (i := 252) (by decide +kernel)
theorem nr_18 : Cond.eq (.field (.string "KelpShores$Tape" 48) "java/lang/String" "coder" "B") (.int 0) ∈ flatC (Jvm.Cond.and given_1 narrow_1) := List.mem_of_getElem? (i := 253) (by decide +kernel)
theorem nr_19 : Cond.arrayOf (.field (.string "KelpShores$Tape" 48) "java/lang/String" "value" "[B") .byte ∈ flatC (Jvm.Cond.and given_1 narrow_1) := List.mem_of_getElem? (i := 254) (by decide +kernel)
theorem nr_20 : Cond.eq (.length (.field (.string "KelpShores$Tape" 48) "java/lang/String" "value" "[B")) (.int 5) ∈ flatC (Jvm.Cond.and given_1 narrow_1) := List.mem_of_getElem? (i := 255) (by decide +kernel)
theorem nr_21 : Cond.eq (.elem (.field (.string "KelpShores$Tape" 59) "java/lang/String" "value" "[B") (.int 0)) (.int 102) ∈ flatC (Jvm.Cond.and given_1 narrow_1) := List.mem_of_getElem? (i := 265) (by decide +kernel)
theorem nr_22 : Cond.eq (.elem (.field (.string "KelpShores$Tape" 59) "java/lang/String" "value" "[B") (.int 1)) (.int 97) ∈ flatC (Jvm.Cond.and given_1 narrow_1) := List.mem_of_getElem? (i := 266) (by decide +kernel)
theorem nr_23 : Cond.eq (.elem (.field (.string "KelpShores$Tape" 59) "java/lang/String" "value" "[B") (.int 2)) (.int 109) ∈ flatC (Jvm.Cond.and given_1 narrow_1) := List.mem_of_getElem? (i := 267) (by decide +kernel)
theorem nr_24 : Cond.eq (.elem (.field (.string "KelpShores$Tape" 59) "java/lang/String" "value" "[B") (.int 3)) (.int 105) ∈ flatC (Jvm.Cond.and given_1 narrow_1) := List.mem_of_getElem? (i := 268) (by decide +kernel)
theorem nr_25 : Cond.eq (.elem (.field (.string "KelpShores$Tape" 59) "java/lang/String" "value" "[B") (.int 4)) (.int 108) ∈ flatC (Jvm.Cond.and given_1 narrow_1) := List.mem_of_getElem? (i := 269) (by decide +kernel)
theorem nr_26 : Cond.eq (.elem (.field (.string "KelpShores$Tape" 59) "java/lang/String" "value" "[B") (.int 5)) (.int 121) ∈ flatC (Jvm.Cond.and given_1 narrow_1) := List.mem_of_getElem? (i := 270) (by decide +kernel)
theorem nr_27 : Cond.exactly (.string "KelpShores$Tape" 59) "java/lang/String" ∈ flatC (Jvm.Cond.and given_1 narrow_1) := List.mem_of_getElem? (i := 261) (by decide +kernel)
theorem nr_28 : Cond.eq (.field (.string "KelpShores$Tape" 59) "java/lang/String" "coder" "B") (.int 0) ∈ flatC (Jvm.Cond.and given_1 narrow_1) := List.mem_of_getElem? (i := 262) (by decide +kernel)
theorem nr_29 : Cond.arrayOf (.field (.string "KelpShores$Tape" 59) "java/lang/String" "value" "[B") .byte ∈ flatC (Jvm.Cond.and given_1 narrow_1) := List.mem_of_getElem? (i := 263) (by decide +kernel)
theorem nr_30 : Cond.eq (.length (.field (.string "KelpShores$Tape" 59) "java/lang/String" "value" "[B")) (.int 6) ∈ flatC (Jvm.Cond.and given_1 narrow_1) := List.mem_of_getElem? (i := 264) (by decide +kernel)
theorem nr_31 : Cond.eq (.elem (.field (.string "KelpShores$Tape" 61) "java/lang/String" "value" "[B") (.int 0)) (.int 102) ∈ flatC (Jvm.Cond.and given_1 narrow_1) := List.mem_of_getElem? (i := 275) (by decide +kernel)
theorem nr_32 : Cond.eq (.elem (.field (.string "KelpShores$Tape" 61) "java/lang/String" "value" "[B") (.int 1)) (.int 114) ∈ flatC (Jvm.Cond.and given_1 narrow_1) := List.mem_of_getElem? (i := 276) (by decide +kernel)
theorem nr_33 : Cond.eq (.elem (.field (.string "KelpShores$Tape" 61) "java/lang/String" "value" "[B") (.int 2)) (.int 111) ∈ flatC (Jvm.Cond.and given_1 narrow_1) := List.mem_of_getElem? (i := 277) (by decide +kernel)
theorem nr_34 : Cond.eq (.elem (.field (.string "KelpShores$Tape" 61) "java/lang/String" "value" "[B") (.int 3)) (.int 109) ∈ flatC (Jvm.Cond.and given_1 narrow_1) := List.mem_of_getElem? (i := 278) (by decide +kernel)
theorem nr_35 : Cond.exactly (.string "KelpShores$Tape" 61) "java/lang/String" ∈ flatC (Jvm.Cond.and given_1 narrow_1) := List.mem_of_getElem? (i := 271) (by decide +kernel)
theorem nr_36 : Cond.eq (.field (.string "KelpShores$Tape" 61) "java/lang/String" "coder" "B") (.int 0) ∈ flatC (Jvm.Cond.and given_1 narrow_1) := List.mem_of_getElem? (i := 272) (by decide +kernel)
theorem nr_37 : Cond.arrayOf (.field (.string "KelpShores$Tape" 61) "java/lang/String" "value" "[B") .byte ∈ flatC (Jvm.Cond.and given_1 narrow_1) := List.mem_of_getElem? (i := 273) (by decide +kernel)
theorem nr_38 : Cond.eq (.length (.field (.string "KelpShores$Tape" 61) "java/lang/String" "value" "[B")) (.int 4) ∈ flatC (Jvm.Cond.and given_1 narrow_1) := List.mem_of_getElem? (i := 274) (by decide +kernel)
theorem nr_39 : Cond.eq (.elem (.field (.string "KelpShores$Tape" 63) "java/lang/String" "value" "[B") (.int 0)) (.int 116) ∈ flatC (Jvm.Cond.and given_1 narrow_1) := List.mem_of_getElem? (i := 283) (by decide +kernel)
theorem nr_40 : Cond.eq (.elem (.field (.string "KelpShores$Tape" 63) "java/lang/String" "value" "[B") (.int 1)) (.int 111) ∈ flatC (Jvm.Cond.and given_1 narrow_1) := List.mem_of_getElem? (i := 284) (by decide +kernel)
theorem nr_41 : Cond.exactly (.string "KelpShores$Tape" 63) "java/lang/String" ∈ flatC (Jvm.Cond.and given_1 narrow_1) := List.mem_of_getElem? (i := 279) (by decide +kernel)
theorem nr_42 : Cond.eq (.field (.string "KelpShores$Tape" 63) "java/lang/String" "coder" "B") (.int 0) ∈ flatC (Jvm.Cond.and given_1 narrow_1) := List.mem_of_getElem? (i := 280) (by decide +kernel)
theorem nr_43 : Cond.arrayOf (.field (.string "KelpShores$Tape" 63) "java/lang/String" "value" "[B") .byte ∈ flatC (Jvm.Cond.and given_1 narrow_1) := List.mem_of_getElem? (i := 281) (by decide +kernel)
theorem nr_44 : Cond.eq (.length (.field (.string "KelpShores$Tape" 63) "java/lang/String" "value" "[B")) (.int 2) ∈ flatC (Jvm.Cond.and given_1 narrow_1) := List.mem_of_getElem? (i := 282) (by decide +kernel)
theorem nr_45 : Cond.eq (.elem (.field (.string "KelpShores$Tape" 65) "java/lang/String" "value" "[B") (.int 0)) (.int 115) ∈ flatC (Jvm.Cond.and given_1 narrow_1) := List.mem_of_getElem? (i := 289) (by decide +kernel)
theorem nr_46 : Cond.eq (.elem (.field (.string "KelpShores$Tape" 65) "java/lang/String" "value" "[B") (.int 1)) (.int 104) ∈ flatC (Jvm.Cond.and given_1 narrow_1) := List.mem_of_getElem? (i := 290) (by decide +kernel)
theorem nr_47 : Cond.eq (.elem (.field (.string "KelpShores$Tape" 65) "java/lang/String" "value" "[B") (.int 2)) (.int 97) ∈ flatC (Jvm.Cond.and given_1 narrow_1) := List.mem_of_getElem? (i := 291) (by decide +kernel)
theorem nr_48 : Cond.eq (.elem (.field (.string "KelpShores$Tape" 65) "java/lang/String" "value" "[B") (.int 3)) (.int 114) ∈ flatC (Jvm.Cond.and given_1 narrow_1) := List.mem_of_getElem? (i := 292) (by decide +kernel)
theorem nr_49 : Cond.eq (.elem (.field (.string "KelpShores$Tape" 65) "java/lang/String" "value" "[B") (.int 4)) (.int 101) ∈ flatC (Jvm.Cond.and given_1 narrow_1) := List.mem_of_getElem? (i := 293) (by decide +kernel)
theorem nr_50 : Cond.exactly (.string "KelpShores$Tape" 65) "java/lang/String" ∈ flatC (Jvm.Cond.and given_1 narrow_1) := List.mem_of_getElem? (i := 285) (by decide +kernel)
theorem nr_51 : Cond.eq (.field (.string "KelpShores$Tape" 65) "java/lang/String" "coder" "B") (.int 0) ∈ flatC (Jvm.Cond.and given_1 narrow_1) := List.mem_of_getElem? (i := 286) (by decide +kernel)
theorem nr_52 : Cond.arrayOf (.field (.string "KelpShores$Tape" 65) "java/lang/String" "value" "[B") .byte ∈ flatC (Jvm.Cond.and given_1 narrow_1) := List.mem_of_getElem? (i := 287) (by decide +kernel)
theorem nr_53 : Cond.eq (.length (.field (.string "KelpShores$Tape" 65) "java/lang/String" "value" "[B")) (.int 5) ∈ flatC (Jvm.Cond.and given_1 narrow_1) := List.mem_of_getElem? (i := 288) (by decide +kernel)
theorem nr_54 : Cond.exactly (.string "KelpShores" 111) "java/lang/String" ∈ flatC (Jvm.Cond.and given_1 narrow_1) := List.mem_of_getElem? (i := 67) (by decide +kernel)
theorem nr_55 : Cond.exactly (.string "KelpShores" 350) "java/lang/String" ∈ flatC (Jvm.Cond.and given_1 narrow_1) := List.mem_of_getElem? (i := 111) (by decide +kernel)
theorem nr_56 : Cond.exactly (.string "KelpShores" 119) "java/lang/String" ∈ flatC (Jvm.Cond.and given_1 narrow_1) := List.mem_of_getElem? (i := 128) (by decide +kernel)
theorem nr_57 : Cond.exactly (.string "KelpShores" 128) "java/lang/String" ∈ flatC (Jvm.Cond.and given_1 narrow_1) := List.mem_of_getElem? (i := 153) (by decide +kernel)
theorem nr_58 : Cond.exactly (.string "KelpShores" 354) "java/lang/String" ∈ flatC (Jvm.Cond.and given_1 narrow_1) := List.mem_of_getElem? (i := 199) (by decide +kernel)
theorem nr_59 : Cond.exactly (.string "KelpShores" 139) "java/lang/String" ∈ flatC (Jvm.Cond.and given_1 narrow_1) := List.mem_of_getElem? (i := 217) (by decide +kernel)
theorem nr_60 : Cond.exactly (.string "KelpShores" 92) "java/lang/String" ∈ flatC (Jvm.Cond.and given_1 narrow_1) := List.mem_of_getElem? (i := 294) (by decide +kernel)
theorem nr_61 : Cond.exactly (.string "KelpShores" 200) "java/lang/String" ∈ flatC (Jvm.Cond.and given_1 narrow_1) := List.mem_of_getElem? (i := 329) (by decide +kernel)
theorem nr_62 : Cond.exactly (.string "KelpShores" 205) "java/lang/String" ∈ flatC (Jvm.Cond.and given_1 narrow_1) := List.mem_of_getElem? (i := 348) (by decide +kernel)
theorem nr_63 : Cond.exactly (.string "KelpShores" 352) "java/lang/String" ∈ flatC (Jvm.Cond.and given_1 narrow_1) := List.mem_of_getElem? (i := 373) (by decide +kernel)
theorem nr_64 : Cond.exactly (.string "KelpShores" 348) "java/lang/String" ∈ flatC (Jvm.Cond.and given_1 narrow_1) := List.mem_of_getElem? (i := 389) (by decide +kernel)
theorem nr_65 : Cond.exactly (.string "KelpShores" 165) "java/lang/String" ∈ flatC (Jvm.Cond.and given_1 narrow_1) := List.mem_of_getElem? (i := 407) (by decide +kernel)
theorem nr_66 : Cond.exactly (.string "KelpShores" 190) "java/lang/String" ∈ flatC (Jvm.Cond.and given_1 narrow_1) := List.mem_of_getElem? (i := 444) (by decide +kernel)
theorem nr_67 : Cond.exactly (.string "KelpShores" 249) "java/lang/String" ∈ flatC (Jvm.Cond.and given_1 narrow_1) := List.mem_of_getElem? (i := 483) (by decide +kernel)
theorem nr_68 : Cond.exactly (.string "KelpShores" 356) "java/lang/String" ∈ flatC (Jvm.Cond.and given_1 narrow_1) := List.mem_of_getElem? (i := 525) (by decide +kernel)
theorem nr_69 : Cond.exactly (.string "KelpShores" 258) "java/lang/String" ∈ flatC (Jvm.Cond.and given_1 narrow_1) := List.mem_of_getElem? (i := 540) (by decide +kernel)
theorem nr_70 : Cond.exactly (.string "KelpShores" 379) "java/lang/String" ∈ flatC (Jvm.Cond.and given_1 narrow_1) := List.mem_of_getElem? (i := 556) (by decide +kernel)
theorem nr_71 : Cond.exactly (.string "KelpShores" 358) "java/lang/String" ∈ flatC (Jvm.Cond.and given_1 narrow_1) := List.mem_of_getElem? (i := 573) (by decide +kernel)
theorem nr_72 : Cond.exactly (.string "KelpShores" 310) "java/lang/String" ∈ flatC (Jvm.Cond.and given_1 narrow_1) := List.mem_of_getElem? (i := 588) (by decide +kernel)
theorem nr_73 : Cond.exactly (.string "KelpShores" 314) "java/lang/String" ∈ flatC (Jvm.Cond.and given_1 narrow_1) := List.mem_of_getElem? (i := 624) (by decide +kernel)
theorem nr_74 : Cond.exactly (.string "KelpShores" 321) "java/lang/String" ∈ flatC (Jvm.Cond.and given_1 narrow_1) := List.mem_of_getElem? (i := 648) (by decide +kernel)
theorem tb_55 : Cond.stringRef "KelpShores" 111 "there are as many shores as there may be" ∈ tables_1 := (List.mem_append_right _ (List.mem_append_left _ (List.mem_of_getElem? (l := tables_1_2) (i := 107) (by decide +kernel))))
theorem tb_56 : Cond.stringRef "KelpShores" 350 "no such shore" ∈ tables_1 := (List.mem_append_right _ (List.mem_append_left _ (List.mem_of_getElem? (l := tables_1_2) (i := 176) (by decide +kernel))))
theorem tb_57 : Cond.stringRef "KelpShores" 119 "no such depth or room" ∈ tables_1 := (List.mem_append_right _ (List.mem_append_left _ (List.mem_of_getElem? (l := tables_1_2) (i := 195) (by decide +kernel))))
theorem tb_58 : Cond.stringRef "KelpShores" 128 "the shore has as many rocks as it may have" ∈ tables_1 := (List.mem_append_right _ (List.mem_append_left _ (List.mem_of_getElem? (l := tables_1_2) (i := 202) (by decide +kernel))))
theorem tb_59 : Cond.stringRef "KelpShores" 354 "no such family" ∈ tables_1 := (List.mem_append_right _ (List.mem_append_right _ (List.mem_append_left _ (List.mem_of_getElem? (l := tables_1_3) (i := 18) (by decide +kernel)))))
theorem tb_60 : Cond.stringRef "KelpShores" 139 "no such number of hands" ∈ tables_1 := (List.mem_append_right _ (List.mem_append_right _ (List.mem_append_left _ (List.mem_of_getElem? (l := tables_1_3) (i := 19) (by decide +kernel)))))
theorem tb_61 : Cond.stringRef "KelpShores$Tape" 38 "rest" ∈ tables_1 := (List.mem_append_right _ (List.mem_append_right _ (List.mem_append_left _ (List.mem_of_getElem? (l := tables_1_3) (i := 39) (by decide +kernel)))))
theorem tb_62 : Cond.stringRef "KelpShores$Tape" 48 "shore" ∈ tables_1 := (List.mem_append_right _ (List.mem_append_right _ (List.mem_append_left _ (List.mem_of_getElem? (l := tables_1_3) (i := 109) (by decide +kernel)))))
theorem tb_63 : Cond.stringRef "KelpShores$Tape" 59 "family" ∈ tables_1 := (List.mem_append_right _ (List.mem_append_right _ (List.mem_append_left _ (List.mem_of_getElem? (l := tables_1_3) (i := 114) (by decide +kernel)))))
theorem tb_64 : Cond.stringRef "KelpShores$Tape" 61 "from" ∈ tables_1 := (List.mem_append_right _ (List.mem_append_right _ (List.mem_append_left _ (List.mem_of_getElem? (l := tables_1_3) (i := 115) (by decide +kernel)))))
theorem tb_65 : Cond.stringRef "KelpShores$Tape" 63 "to" ∈ tables_1 := (List.mem_append_right _ (List.mem_append_right _ (List.mem_append_left _ (List.mem_of_getElem? (l := tables_1_3) (i := 116) (by decide +kernel)))))
theorem tb_66 : Cond.stringRef "KelpShores$Tape" 65 "share" ∈ tables_1 := (List.mem_append_right _ (List.mem_append_right _ (List.mem_append_left _ (List.mem_of_getElem? (l := tables_1_3) (i := 117) (by decide +kernel)))))
theorem tb_67 : Cond.stringRef "KelpShores" 92 "the text of the rights is wrong" ∈ tables_1 := (List.mem_append_right _ (List.mem_append_right _ (List.mem_append_left _ (List.mem_of_getElem? (l := tables_1_3) (i := 122) (by decide +kernel)))))
theorem tb_68 : Cond.stringRef "KelpShores" 200 "no such weather" ∈ tables_1 := (List.mem_append_right _ (List.mem_append_right _ (List.mem_append_left _ (List.mem_of_getElem? (l := tables_1_3) (i := 145) (by decide +kernel)))))
theorem tb_69 : Cond.stringRef "KelpShores" 205 "the last day has come" ∈ tables_1 := (List.mem_append_right _ (List.mem_append_right _ (List.mem_append_left _ (List.mem_of_getElem? (l := tables_1_3) (i := 146) (by decide +kernel)))))
theorem tb_70 : Cond.stringRef "KelpShores" 352 "no such rock" ∈ tables_1 := (List.mem_append_right _ (List.mem_append_right _ (List.mem_append_left _ (List.mem_of_getElem? (l := tables_1_3) (i := 193) (by decide +kernel)))))
theorem tb_71 : Cond.stringRef "KelpShores" 348 "no such amount" ∈ tables_1 := (List.mem_append_right _ (List.mem_append_right _ (List.mem_append_left _ (List.mem_of_getElem? (l := tables_1_3) (i := 197) (by decide +kernel)))))
theorem tb_72 : Cond.stringRef "KelpShores" 165 "nothing of a rock has this number" ∈ tables_1 := (List.mem_append_right _ (List.mem_append_right _ (List.mem_append_right _ (List.mem_append_left _ (List.mem_of_getElem? (l := tables_1_4) (i := 14) (by decide +kernel))))))
theorem tb_73 : Cond.stringRef "KelpShores" 190 "nothing of a family has this number" ∈ tables_1 := (List.mem_append_right _ (List.mem_append_right _ (List.mem_append_right _ (List.mem_append_left _ (List.mem_of_getElem? (l := tables_1_4) (i := 35) (by decide +kernel))))))
theorem tb_74 : Cond.stringRef "KelpShores" 249 "there are as many pits as there may be" ∈ tables_1 := (List.mem_append_right _ (List.mem_append_right _ (List.mem_append_right _ (List.mem_append_left _ (List.mem_of_getElem? (l := tables_1_4) (i := 54) (by decide +kernel))))))
theorem tb_75 : Cond.stringRef "KelpShores" 356 "no such pit" ∈ tables_1 := (List.mem_append_right _ (List.mem_append_right _ (List.mem_append_right _ (List.mem_append_left _ (List.mem_of_getElem? (l := tables_1_4) (i := 84) (by decide +kernel))))))
theorem tb_76 : Cond.stringRef "KelpShores" 258 "no such load" ∈ tables_1 := (List.mem_append_right _ (List.mem_append_right _ (List.mem_append_right _ (List.mem_append_left _ (List.mem_of_getElem? (l := tables_1_4) (i := 85) (by decide +kernel))))))
theorem tb_77 : Cond.stringRef "KelpShores" 379 "no such tests" ∈ tables_1 := (List.mem_append_right _ (List.mem_append_right _ (List.mem_append_right _ (List.mem_append_left _ (List.mem_of_getElem? (l := tables_1_4) (i := 104) (by decide +kernel))))))
theorem tb_78 : Cond.stringRef "KelpShores" 358 "no such lot" ∈ tables_1 := (List.mem_append_right _ (List.mem_append_right _ (List.mem_append_right _ (List.mem_append_left _ (List.mem_of_getElem? (l := tables_1_4) (i := 159) (by decide +kernel))))))
theorem tb_79 : Cond.stringRef "KelpShores" 310 "nothing of a lot has this number" ∈ tables_1 := (List.mem_append_right _ (List.mem_append_right _ (List.mem_append_right _ (List.mem_append_left _ (List.mem_of_getElem? (l := tables_1_4) (i := 160) (by decide +kernel))))))
theorem tb_80 : Cond.stringRef "KelpShores" 314 "no such money or day" ∈ tables_1 := (List.mem_append_right _ (List.mem_append_right _ (List.mem_append_right _ (List.mem_append_left _ (List.mem_of_getElem? (l := tables_1_4) (i := 170) (by decide +kernel))))))
theorem tb_81 : Cond.stringRef "KelpShores" 321 "no such entry" ∈ tables_1 := (List.mem_append_right _ (List.mem_append_right _ (List.mem_append_right _ (List.mem_append_left _ (List.mem_of_getElem? (l := tables_1_4) (i := 182) (by decide +kernel))))))
theorem tb_82 : Cond.stringRef "KelpShoresModel" 237 "rest" ∈ tables_1 := (List.mem_append_right _ (List.mem_append_right _ (List.mem_append_right _ (List.mem_append_right _ (List.mem_append_right _ (List.mem_of_getElem? (l := tables_1_6) (i := 30) (by decide +kernel)))))))
theorem nr_75 : Cond.eq (.string "KelpShores$Tape" 38) (.string "KelpShoresModel" 237) ∈ flatC (Jvm.Cond.and given_1 narrow_1) := List.mem_of_getElem? (i := 673) (by decide +kernel)
theorem tb_83 : Cond.stringRef "KelpShoresModel" 241 "shore" ∈ tables_1 := (List.mem_append_right _ (List.mem_append_right _ (List.mem_append_right _ (List.mem_append_right _ (List.mem_append_right _ (List.mem_of_getElem? (l := tables_1_6) (i := 41) (by decide +kernel)))))))
theorem nr_76 : Cond.eq (.string "KelpShores$Tape" 48) (.string "KelpShoresModel" 241) ∈ flatC (Jvm.Cond.and given_1 narrow_1) := List.mem_of_getElem? (i := 683) (by decide +kernel)
theorem tb_84 : Cond.stringRef "KelpShoresModel" 246 "family" ∈ tables_1 := (List.mem_append_right _ (List.mem_append_right _ (List.mem_append_right _ (List.mem_append_right _ (List.mem_append_right _ (List.mem_of_getElem? (l := tables_1_6) (i := 42) (by decide +kernel)))))))
theorem nr_77 : Cond.eq (.string "KelpShores$Tape" 59) (.string "KelpShoresModel" 246) ∈ flatC (Jvm.Cond.and given_1 narrow_1) := List.mem_of_getElem? (i := 694) (by decide +kernel)
theorem tb_85 : Cond.stringRef "KelpShoresModel" 252 "from" ∈ tables_1 := (List.mem_append_right _ (List.mem_append_right _ (List.mem_append_right _ (List.mem_append_right _ (List.mem_append_right _ (List.mem_of_getElem? (l := tables_1_6) (i := 47) (by decide +kernel)))))))
theorem nr_78 : Cond.eq (.string "KelpShores$Tape" 61) (.string "KelpShoresModel" 252) ∈ flatC (Jvm.Cond.and given_1 narrow_1) := List.mem_of_getElem? (i := 703) (by decide +kernel)
theorem tb_86 : Cond.stringRef "KelpShoresModel" 254 "to" ∈ tables_1 := (List.mem_append_right _ (List.mem_append_right _ (List.mem_append_right _ (List.mem_append_right _ (List.mem_append_right _ (List.mem_of_getElem? (l := tables_1_6) (i := 48) (by decide +kernel)))))))
theorem nr_79 : Cond.eq (.string "KelpShores$Tape" 63) (.string "KelpShoresModel" 254) ∈ flatC (Jvm.Cond.and given_1 narrow_1) := List.mem_of_getElem? (i := 710) (by decide +kernel)
theorem tb_87 : Cond.stringRef "KelpShoresModel" 256 "share" ∈ tables_1 := (List.mem_append_right _ (List.mem_append_right _ (List.mem_append_right _ (List.mem_append_right _ (List.mem_append_right _ (List.mem_of_getElem? (l := tables_1_6) (i := 49) (by decide +kernel)))))))
theorem nr_80 : Cond.eq (.string "KelpShores$Tape" 65) (.string "KelpShoresModel" 256) ∈ flatC (Jvm.Cond.and given_1 narrow_1) := List.mem_of_getElem? (i := 720) (by decide +kernel)
theorem tb_88 : Cond.laysStatic "java/lang/Throwable" "UNASSIGNED_STACK" "[Ljava/lang/StackTraceElement;" ∈ tables_1 := (List.mem_append_right _ (List.mem_append_left _ (List.mem_of_getElem? (l := tables_1_2) (i := 92) (by decide +kernel))))
theorem tb_89 : Cond.initialized "java/lang/Throwable" ∈ tables_1 := (List.mem_append_left _ (List.mem_of_getElem? (l := tables_1_1) (i := 8) (by decide +kernel)))
theorem nr_81 : Cond.isRef (.static "java/lang/Throwable" "UNASSIGNED_STACK" "[Ljava/lang/StackTraceElement;") ∈ flatC (Jvm.Cond.and given_1 narrow_1) := List.mem_of_getElem? (i := 4) (by decide +kernel)
theorem tb_90 : Cond.laysStatic "java/lang/Throwable" "SUPPRESSED_SENTINEL" "Ljava/util/List;" ∈ tables_1 := (List.mem_append_right _ (List.mem_append_left _ (List.mem_of_getElem? (l := tables_1_2) (i := 94) (by decide +kernel))))
theorem nr_82 : Cond.isRef (.static "java/lang/Throwable" "SUPPRESSED_SENTINEL" "Ljava/util/List;") ∈ flatC (Jvm.Cond.and given_1 narrow_1) := List.mem_of_getElem? (i := 5) (by decide +kernel)
theorem tb_91 : Cond.laysStatic "java/lang/String" "COMPACT_STRINGS" "Z" ∈ tables_1 := (List.mem_append_right _ (List.mem_append_right _ (List.mem_append_left _ (List.mem_of_getElem? (l := tables_1_3) (i := 61) (by decide +kernel)))))
theorem tb_92 : Cond.initialized "java/lang/String" ∈ tables_1 := (List.mem_append_left _ (List.mem_of_getElem? (l := tables_1_1) (i := 16) (by decide +kernel)))
theorem nr_83 : Cond.eq (.static "java/lang/String" "COMPACT_STRINGS" "Z") (.int 1) ∈ flatC (Jvm.Cond.and given_1 narrow_1) := List.mem_of_getElem? (i := 6) (by decide +kernel)
theorem tb_93 : Cond.laysStatic "jdk/internal/util/Preconditions" "SIOOBE_FORMATTER" "Ljava/util/function/BiFunction;" ∈ tables_1 := (List.mem_append_right _ (List.mem_append_right _ (List.mem_append_left _ (List.mem_of_getElem? (l := tables_1_3) (i := 77) (by decide +kernel)))))
theorem tb_94 : Cond.initialized "jdk/internal/util/Preconditions" ∈ tables_1 := (List.mem_append_left _ (List.mem_of_getElem? (l := tables_1_1) (i := 18) (by decide +kernel)))
theorem nr_84 : Cond.isRef (.static "jdk/internal/util/Preconditions" "SIOOBE_FORMATTER" "Ljava/util/function/BiFunction;") ∈ flatC (Jvm.Cond.and given_1 narrow_1) := List.mem_of_getElem? (i := 7) (by decide +kernel)
theorem tb_95 : Cond.arrayClass .byte ∈ tables_1 := (List.mem_append_right _ (List.mem_append_left _ (List.mem_of_getElem? (l := tables_1_2) (i := 133) (by decide +kernel))))
theorem tb_96 : Cond.arrayClass .int ∈ tables_1 := (List.mem_append_left _ (List.mem_of_getElem? (l := tables_1_1) (i := 52) (by decide +kernel)))
theorem tb_97 : Cond.arrayClass .boolean ∈ tables_1 := (List.mem_append_left _ (List.mem_of_getElem? (l := tables_1_1) (i := 144) (by decide +kernel)))
theorem tb_98 : Cond.arrayClass .long ∈ tables_1 := (List.mem_append_right _ (List.mem_append_right _ (List.mem_append_right _ (List.mem_append_right _ (List.mem_append_right _ (List.mem_of_getElem? (l := tables_1_6) (i := 100) (by decide +kernel)))))))
theorem lw_eF {s : State} {b : Nat} (hts : ∀ w ∈ tables_1, w.before #[Value.ref b] s = true) : ∀ q ∈ envF, va_Nw (.fieldLinkNest q.1 q.2.1 q.2.2.1 q.2.2.2.1 q.2.2.2.2 "KelpShores") s := by
  unfold envF
  exact List.forall_mem_cons.mpr ⟨va_Nw.of rfl (hts _ tb_0), List.forall_mem_cons.mpr ⟨va_Nw.of rfl (hts _ tb_1), List.forall_mem_cons.mpr ⟨va_Nw.of rfl (hts _ tb_2), List.forall_mem_cons.mpr ⟨va_Nw.of rfl (hts _ tb_3), List.forall_mem_cons.mpr ⟨va_Nw.of rfl (hts _ tb_4), List.forall_mem_cons.mpr ⟨va_Nw.of rfl (hts _ tb_5), List.forall_mem_cons.mpr ⟨va_Nw.of rfl (hts _ tb_6), List.forall_mem_cons.mpr ⟨va_Nw.of rfl (hts _ tb_7), List.forall_mem_cons.mpr ⟨va_Nw.of rfl (hts _ tb_8), List.forall_mem_cons.mpr ⟨va_Nw.of rfl (hts _ tb_9), List.forall_mem_cons.mpr ⟨va_Nw.of rfl (hts _ tb_10), List.forall_mem_cons.mpr ⟨va_Nw.of rfl (hts _ tb_11), List.forall_mem_cons.mpr ⟨va_Nw.of rfl (hts _ tb_12), List.forall_mem_cons.mpr ⟨va_Nw.of rfl (hts _ tb_13), List.forall_mem_cons.mpr ⟨va_Nw.of rfl (hts _ tb_14), List.forall_mem_cons.mpr ⟨va_Nw.of rfl (hts _ tb_15), List.forall_mem_cons.mpr ⟨va_Nw.of rfl (hts _ tb_16), List.forall_mem_cons.mpr ⟨va_Nw.of rfl (hts _ tb_17), List.forall_mem_cons.mpr ⟨va_Nw.of rfl (hts _ tb_18), List.forall_mem_cons.mpr ⟨va_Nw.of rfl (hts _ tb_19), List.forall_mem_cons.mpr ⟨va_Nw.of rfl (hts _ tb_20), List.forall_mem_cons.mpr ⟨va_Nw.of rfl (hts _ tb_21), List.forall_mem_cons.mpr ⟨va_Nw.of rfl (hts _ tb_22), List.forall_mem_cons.mpr ⟨va_Nw.of rfl (hts _ tb_23), List.forall_mem_cons.mpr ⟨va_Nw.of rfl (hts _ tb_24), List.forall_mem_cons.mpr ⟨va_Nw.of rfl (hts _ tb_25), List.forall_mem_cons.mpr ⟨va_Nw.of rfl (hts _ tb_26), List.forall_mem_cons.mpr ⟨va_Nw.of rfl (hts _ tb_27), List.forall_mem_cons.mpr ⟨va_Nw.of rfl (hts _ tb_28), List.forall_mem_cons.mpr ⟨va_Nw.of rfl (hts _ tb_29), List.forall_mem_cons.mpr ⟨va_Nw.of rfl (hts _ tb_30), List.forall_mem_cons.mpr ⟨va_Nw.of rfl (hts _ tb_31), List.forall_mem_cons.mpr ⟨va_Nw.of rfl (hts _ tb_32), List.forall_mem_cons.mpr ⟨va_Nw.of rfl (hts _ tb_33), fun _ h => absurd h List.not_mem_nil⟩⟩⟩⟩⟩⟩⟩⟩⟩⟩⟩⟩⟩⟩⟩⟩⟩⟩⟩⟩⟩⟩⟩⟩⟩⟩⟩⟩⟩⟩⟩⟩⟩⟩
theorem lw_eM {s : State} {b : Nat} (hts : ∀ w ∈ tables_1, w.before #[Value.ref b] s = true) : ∀ q ∈ envM, va_Nw (.methodLinkNest q.1 q.2.1 q.2.2 "KelpShores") s := by
  unfold envM
  exact List.forall_mem_cons.mpr ⟨va_Nw.of rfl (hts _ tb_34), List.forall_mem_cons.mpr ⟨va_Nw.of rfl (hts _ tb_35), List.forall_mem_cons.mpr ⟨va_Nw.of rfl (hts _ tb_36), List.forall_mem_cons.mpr ⟨va_Nw.of rfl (hts _ tb_37), List.forall_mem_cons.mpr ⟨va_Nw.of rfl (hts _ tb_38), List.forall_mem_cons.mpr ⟨va_Nw.of rfl (hts _ tb_39), List.forall_mem_cons.mpr ⟨va_Nw.of rfl (hts _ tb_40), List.forall_mem_cons.mpr ⟨va_Nw.of rfl (hts _ tb_41), List.forall_mem_cons.mpr ⟨va_Nw.of rfl (hts _ tb_42), fun _ h => absurd h List.not_mem_nil⟩⟩⟩⟩⟩⟩⟩⟩⟩
theorem lw_eC {s : State} {b : Nat} (hts : ∀ w ∈ tables_1, w.before #[Value.ref b] s = true) : ∀ q ∈ envC, va_Nw (.castable q q) s := by
  unfold envC
  exact List.forall_mem_cons.mpr ⟨va_Nw.of rfl (hts _ tb_43), List.forall_mem_cons.mpr ⟨va_Nw.of rfl (hts _ tb_44), List.forall_mem_cons.mpr ⟨va_Nw.of rfl (hts _ tb_45), List.forall_mem_cons.mpr ⟨va_Nw.of rfl (hts _ tb_46), fun _ h => absurd h List.not_mem_nil⟩⟩⟩⟩
theorem lw_eD {s : State} {b : Nat} (hts : ∀ w ∈ tables_1, w.before #[Value.ref b] s = true) : ∀ q ∈ envD, va_Nw (.declares q) s := by
  unfold envD
  exact List.forall_mem_cons.mpr ⟨va_Nw.of rfl (hts _ tb_47), List.forall_mem_cons.mpr ⟨va_Nw.of rfl (hts _ tb_48), List.forall_mem_cons.mpr ⟨va_Nw.of rfl (hts _ tb_49), fun _ h => absurd h List.not_mem_nil⟩⟩⟩
theorem lw_eO {s : State} {b : Nat} (hts : ∀ w ∈ tables_1, w.before #[Value.ref b] s = true) : ∀ q ∈ envO, va_AO q s := by
  unfold envO
  exact List.forall_mem_cons.mpr ⟨va_AO.of (hts _ tb_50), List.forall_mem_cons.mpr ⟨va_AO.of (hts _ tb_51), List.forall_mem_cons.mpr ⟨va_AO.of (hts _ tb_52), List.forall_mem_cons.mpr ⟨va_AO.of (hts _ tb_53), List.forall_mem_cons.mpr ⟨va_AO.of (hts _ tb_54), fun _ h => absurd h List.not_mem_nil⟩⟩⟩⟩⟩
theorem lw_eN {s : State} {b : Nat} (hs : ∀ w ∈ flatC (Jvm.Cond.and given_1 narrow_1), w.before #[Value.ref b] s = true) : ∀ q ∈ envN, va_Nc q.1 q.2 s := by
  unfold envN
  exact List.forall_mem_cons.mpr ⟨va_Nc.of (hs _ nr_0), List.forall_mem_cons.mpr ⟨va_Nc.of (hs _ nr_1), List.forall_mem_cons.mpr ⟨va_Nc.of (hs _ nr_2), List.forall_mem_cons.mpr ⟨va_Nc.of (hs _ nr_3), fun _ h => absurd h List.not_mem_nil⟩⟩⟩⟩
def lw_tm (i : Nat) : Term := match i with
  | 0 => .string "KelpShores$Tape" 38
  | 1 => .string "KelpShores$Tape" 48
  | 2 => .string "KelpShores$Tape" 59
  | 3 => .string "KelpShores$Tape" 61
  | 4 => .string "KelpShores$Tape" 63
  | 5 => .string "KelpShores$Tape" 65
  | 6 => .string "KelpShores" 111
  | 7 => .string "KelpShores" 350
  | 8 => .string "KelpShores" 119
  | 9 => .string "KelpShores" 128
  | 10 => .string "KelpShores" 354
  | 11 => .string "KelpShores" 139
  | 12 => .string "KelpShores" 92
  | 13 => .string "KelpShores" 200
  | 14 => .string "KelpShores" 205
  | 15 => .string "KelpShores" 352
  | 16 => .string "KelpShores" 348
  | 17 => .string "KelpShores" 165
  | 18 => .string "KelpShores" 190
  | 19 => .string "KelpShores" 249
  | 20 => .string "KelpShores" 356
  | 21 => .string "KelpShores" 258
  | 22 => .string "KelpShores" 379
  | 23 => .string "KelpShores" 358
  | 24 => .string "KelpShores" 310
  | 25 => .string "KelpShores" 314
  | _ => .string "KelpShores" 321
theorem lw_str0 {s : State} {b : Nat} (hs : ∀ w ∈ flatC (Jvm.Cond.and given_1 narrow_1), w.before #[Value.ref b] s = true) : ∃ a v : Nat, (lw_tm 0).eval #[Value.ref b] s none [] s = some (.ref a) ∧ va_O "java/lang/String" a (fun q : Nat => s.heap.size ≤ q) s s.heap ∧ va_OF "java/lang/String" "coder" "B" (.int 0) a (fun q : Nat => s.heap.size ≤ q) s s.heap ∧ va_OF "java/lang/String" "value" "[B" (.ref v) a (fun q : Nat => s.heap.size ≤ q) s s.heap ∧ va_T .byte v 4 (fun j => .int (([114, 101, 115, 116] : List Int32).getD j 0)) (fun q : Nat => s.heap.size ≤ q) s s.heap := by
  obtain ⟨K, V, h1, h2⟩ := vk_Sof (args := #[Value.ref b]) (s := s) (N := 1) (tm := fun _ => .string "KelpShores$Tape" 38) (len := [4]) (byt := [[114, 101, 115, 116]]) (A := (fun q : Nat => s.heap.size ≤ q)) (by decide) (fun _ _ => hs _ nr_8) (fun _ _ => hs _ nr_9) (fun _ _ => hs _ nr_10) (fun k hk => by
      obtain rfl : k = 0 := by omega
      exact hs _ nr_11) (fun k hk j hj => by
      obtain rfl : k = 0 := by omega
      match j, hj with
      | 0, _ => exact hs _ nr_4
      | 1, _ => exact hs _ nr_5
      | 2, _ => exact hs _ nr_6
      | 3, _ => exact hs _ nr_7
      | k + 4, h => exact absurd h (Nat.not_lt.mpr (Nat.le_add_left _ _))) (fun i j hi hj h => absurd (show i = j by omega) h) (fun a h => Nat.not_le.mpr h)
  obtain ⟨a1, a2, a3, a4⟩ := h1.1 0 (by decide)
  exact ⟨K 0, V 0, h2 0 (by decide), a1, a2, a3, a4⟩
theorem lw_str1 {s : State} {b : Nat} (hs : ∀ w ∈ flatC (Jvm.Cond.and given_1 narrow_1), w.before #[Value.ref b] s = true) : ∃ a v : Nat, (lw_tm 1).eval #[Value.ref b] s none [] s = some (.ref a) ∧ va_O "java/lang/String" a (fun q : Nat => s.heap.size ≤ q) s s.heap ∧ va_OF "java/lang/String" "coder" "B" (.int 0) a (fun q : Nat => s.heap.size ≤ q) s s.heap ∧ va_OF "java/lang/String" "value" "[B" (.ref v) a (fun q : Nat => s.heap.size ≤ q) s s.heap ∧ va_T .byte v 5 (fun j => .int (([115, 104, 111, 114, 101] : List Int32).getD j 0)) (fun q : Nat => s.heap.size ≤ q) s s.heap := by
  obtain ⟨K, V, h1, h2⟩ := vk_Sof (args := #[Value.ref b]) (s := s) (N := 1) (tm := fun _ => .string "KelpShores$Tape" 48) (len := [5]) (byt := [[115, 104, 111, 114, 101]]) (A := (fun q : Nat => s.heap.size ≤ q)) (by decide) (fun _ _ => hs _ nr_17) (fun _ _ => hs _ nr_18) (fun _ _ => hs _ nr_19) (fun k hk => by
      obtain rfl : k = 0 := by omega
      exact hs _ nr_20) (fun k hk j hj => by
      obtain rfl : k = 0 := by omega
      match j, hj with
      | 0, _ => exact hs _ nr_12
      | 1, _ => exact hs _ nr_13
      | 2, _ => exact hs _ nr_14
      | 3, _ => exact hs _ nr_15
      | 4, _ => exact hs _ nr_16
      | k + 5, h => exact absurd h (Nat.not_lt.mpr (Nat.le_add_left _ _))) (fun i j hi hj h => absurd (show i = j by omega) h) (fun a h => Nat.not_le.mpr h)
  obtain ⟨a1, a2, a3, a4⟩ := h1.1 0 (by decide)
  exact ⟨K 0, V 0, h2 0 (by decide), a1, a2, a3, a4⟩
theorem lw_str2 {s : State} {b : Nat} (hs : ∀ w ∈ flatC (Jvm.Cond.and given_1 narrow_1), w.before #[Value.ref b] s = true) : ∃ a v : Nat, (lw_tm 2).eval #[Value.ref b] s none [] s = some (.ref a) ∧ va_O "java/lang/String" a (fun q : Nat => s.heap.size ≤ q) s s.heap ∧ va_OF "java/lang/String" "coder" "B" (.int 0) a (fun q : Nat => s.heap.size ≤ q) s s.heap ∧ va_OF "java/lang/String" "value" "[B" (.ref v) a (fun q : Nat => s.heap.size ≤ q) s s.heap ∧ va_T .byte v 6 (fun j => .int (([102, 97, 109, 105, 108, 121] : List Int32).getD j 0)) (fun q : Nat => s.heap.size ≤ q) s s.heap := by
  obtain ⟨K, V, h1, h2⟩ := vk_Sof (args := #[Value.ref b]) (s := s) (N := 1) (tm := fun _ => .string "KelpShores$Tape" 59) (len := [6]) (byt := [[102, 97, 109, 105, 108, 121]]) (A := (fun q : Nat => s.heap.size ≤ q)) (by decide) (fun _ _ => hs _ nr_27) (fun _ _ => hs _ nr_28) (fun _ _ => hs _ nr_29) (fun k hk => by
      obtain rfl : k = 0 := by omega
      exact hs _ nr_30) (fun k hk j hj => by
      obtain rfl : k = 0 := by omega
      match j, hj with
      | 0, _ => exact hs _ nr_21
      | 1, _ => exact hs _ nr_22
      | 2, _ => exact hs _ nr_23
      | 3, _ => exact hs _ nr_24
      | 4, _ => exact hs _ nr_25
      | 5, _ => exact hs _ nr_26
      | k + 6, h => exact absurd h (Nat.not_lt.mpr (Nat.le_add_left _ _))) (fun i j hi hj h => absurd (show i = j by omega) h) (fun a h => Nat.not_le.mpr h)
  obtain ⟨a1, a2, a3, a4⟩ := h1.1 0 (by decide)
  exact ⟨K 0, V 0, h2 0 (by decide), a1, a2, a3, a4⟩
theorem lw_str3 {s : State} {b : Nat} (hs : ∀ w ∈ flatC (Jvm.Cond.and given_1 narrow_1), w.before #[Value.ref b] s = true) : ∃ a v : Nat, (lw_tm 3).eval #[Value.ref b] s none [] s = some (.ref a) ∧ va_O "java/lang/String" a (fun q : Nat => s.heap.size ≤ q) s s.heap ∧ va_OF "java/lang/String" "coder" "B" (.int 0) a (fun q : Nat => s.heap.size ≤ q) s s.heap ∧ va_OF "java/lang/String" "value" "[B" (.ref v) a (fun q : Nat => s.heap.size ≤ q) s s.heap ∧ va_T .byte v 4 (fun j => .int (([102, 114, 111, 109] : List Int32).getD j 0)) (fun q : Nat => s.heap.size ≤ q) s s.heap := by
  obtain ⟨K, V, h1, h2⟩ := vk_Sof (args := #[Value.ref b]) (s := s) (N := 1) (tm := fun _ => .string "KelpShores$Tape" 61) (len := [4]) (byt := [[102, 114, 111, 109]]) (A := (fun q : Nat => s.heap.size ≤ q)) (by decide) (fun _ _ => hs _ nr_35) (fun _ _ => hs _ nr_36) (fun _ _ => hs _ nr_37) (fun k hk => by
      obtain rfl : k = 0 := by omega
      exact hs _ nr_38) (fun k hk j hj => by
      obtain rfl : k = 0 := by omega
      match j, hj with
      | 0, _ => exact hs _ nr_31
      | 1, _ => exact hs _ nr_32
      | 2, _ => exact hs _ nr_33
      | 3, _ => exact hs _ nr_34
      | k + 4, h => exact absurd h (Nat.not_lt.mpr (Nat.le_add_left _ _))) (fun i j hi hj h => absurd (show i = j by omega) h) (fun a h => Nat.not_le.mpr h)
  obtain ⟨a1, a2, a3, a4⟩ := h1.1 0 (by decide)
  exact ⟨K 0, V 0, h2 0 (by decide), a1, a2, a3, a4⟩
theorem lw_str4 {s : State} {b : Nat} (hs : ∀ w ∈ flatC (Jvm.Cond.and given_1 narrow_1), w.before #[Value.ref b] s = true) : ∃ a v : Nat, (lw_tm 4).eval #[Value.ref b] s none [] s = some (.ref a) ∧ va_O "java/lang/String" a (fun q : Nat => s.heap.size ≤ q) s s.heap ∧ va_OF "java/lang/String" "coder" "B" (.int 0) a (fun q : Nat => s.heap.size ≤ q) s s.heap ∧ va_OF "java/lang/String" "value" "[B" (.ref v) a (fun q : Nat => s.heap.size ≤ q) s s.heap ∧ va_T .byte v 2 (fun j => .int (([116, 111] : List Int32).getD j 0)) (fun q : Nat => s.heap.size ≤ q) s s.heap := by
  obtain ⟨K, V, h1, h2⟩ := vk_Sof (args := #[Value.ref b]) (s := s) (N := 1) (tm := fun _ => .string "KelpShores$Tape" 63) (len := [2]) (byt := [[116, 111]]) (A := (fun q : Nat => s.heap.size ≤ q)) (by decide) (fun _ _ => hs _ nr_41) (fun _ _ => hs _ nr_42) (fun _ _ => hs _ nr_43) (fun k hk => by
      obtain rfl : k = 0 := by omega
      exact hs _ nr_44) (fun k hk j hj => by
      obtain rfl : k = 0 := by omega
      match j, hj with
      | 0, _ => exact hs _ nr_39
      | 1, _ => exact hs _ nr_40
      | k + 2, h => exact absurd h (Nat.not_lt.mpr (Nat.le_add_left _ _))) (fun i j hi hj h => absurd (show i = j by omega) h) (fun a h => Nat.not_le.mpr h)
  obtain ⟨a1, a2, a3, a4⟩ := h1.1 0 (by decide)
  exact ⟨K 0, V 0, h2 0 (by decide), a1, a2, a3, a4⟩
theorem lw_str5 {s : State} {b : Nat} (hs : ∀ w ∈ flatC (Jvm.Cond.and given_1 narrow_1), w.before #[Value.ref b] s = true) : ∃ a v : Nat, (lw_tm 5).eval #[Value.ref b] s none [] s = some (.ref a) ∧ va_O "java/lang/String" a (fun q : Nat => s.heap.size ≤ q) s s.heap ∧ va_OF "java/lang/String" "coder" "B" (.int 0) a (fun q : Nat => s.heap.size ≤ q) s s.heap ∧ va_OF "java/lang/String" "value" "[B" (.ref v) a (fun q : Nat => s.heap.size ≤ q) s s.heap ∧ va_T .byte v 5 (fun j => .int (([115, 104, 97, 114, 101] : List Int32).getD j 0)) (fun q : Nat => s.heap.size ≤ q) s s.heap := by
  obtain ⟨K, V, h1, h2⟩ := vk_Sof (args := #[Value.ref b]) (s := s) (N := 1) (tm := fun _ => .string "KelpShores$Tape" 65) (len := [5]) (byt := [[115, 104, 97, 114, 101]]) (A := (fun q : Nat => s.heap.size ≤ q)) (by decide) (fun _ _ => hs _ nr_50) (fun _ _ => hs _ nr_51) (fun _ _ => hs _ nr_52) (fun k hk => by
      obtain rfl : k = 0 := by omega
      exact hs _ nr_53) (fun k hk j hj => by
      obtain rfl : k = 0 := by omega
      match j, hj with
      | 0, _ => exact hs _ nr_45
      | 1, _ => exact hs _ nr_46
      | 2, _ => exact hs _ nr_47
      | 3, _ => exact hs _ nr_48
      | 4, _ => exact hs _ nr_49
      | k + 5, h => exact absurd h (Nat.not_lt.mpr (Nat.le_add_left _ _))) (fun i j hi hj h => absurd (show i = j by omega) h) (fun a h => Nat.not_le.mpr h)
  obtain ⟨a1, a2, a3, a4⟩ := h1.1 0 (by decide)
  exact ⟨K 0, V 0, h2 0 (by decide), a1, a2, a3, a4⟩
theorem lw_ex {s : State} {b : Nat} {t : Term} (h : (Cond.exactly t "java/lang/String").before #[Value.ref b] s = true) : ∃ a : Nat, t.eval #[Value.ref b] s none [] s = some (.ref a) := by
  obtain ⟨a, c, cA, kA, q1, -⟩ := Cond.exactly_spec (args := #[Value.ref b]) (first := s) (o := none) (s := s) (idx := []) (t := t) (cls := "java/lang/String") h
  exact ⟨a, q1⟩
theorem lw_ofv {s : State} {A : Nat → Prop} {a v v2 : Nat} (h : va_OF "java/lang/String" "value" "[B" (.ref v) a A s s.heap) (h2 : va_OF "java/lang/String" "value" "[B" (.ref v2) a A s s.heap) : v = v2 := by
  obtain ⟨cf, k, i, f, cell, e1, -, e2, -, e3, -⟩ := h
  obtain ⟨cf2, k2, i2, f2, cell2, g1, -, g2, -, g3, -⟩ := h2
  rw [e1] at g1
  cases g1
  rw [e2] at g2
  cases g2
  rw [e3] at g3
  cases g3
  rfl
theorem lw_tv {s : State} {A : Nat → Prop} {v n n2 : Nat} {f f2 : Nat → Value} (hn : n < 2 ^ 31) (hn2 : n2 < 2 ^ 31) (h : va_T .byte v n f A s s.heap) (h2 : va_T .byte v n2 f2 A s s.heap) : n = n2 ∧ ∀ j, j < n → f j = f2 j := by
  obtain ⟨cell, e1, -, -, -, e2, e3, -⟩ := h
  obtain ⟨cell2, g1, -, -, -, g2, g3, -⟩ := h2
  rw [e1] at g1
  cases g1
  rw [e2] at g2
  have e : n = n2 := (nI_eq hn hn2).mp g2
  subst e
  refine ⟨rfl, fun j hj => ?_⟩
  have := (e3 j hj).symm.trans (g3 j hj)
  exact Option.some.inj this
theorem lw_apart : ∀ i, i < 6 → ∀ j, j < 6 → envL.getD i 0 = envL.getD j 0 → (∀ k, k < envL.getD i 0 → (envB.getD i []).getD k 0 = (envB.getD j []).getD k 0) → i = j := by decide +kernel
theorem lw_lens : ∀ i, i < 6 → envL.getD i 0 < 2 ^ 31 := by decide +kernel
theorem lw_env {s : State} {b : Nat} (hts : ∀ w ∈ tables_1, w.before #[Value.ref b] s = true) (hs : ∀ w ∈ flatC (Jvm.Cond.and given_1 narrow_1), w.before #[Value.ref b] s = true) : ∃ ad adV : Nat → Nat, hpEnv ad adV (fun q : Nat => s.heap.size ≤ q) s s.heap := by
  have hA : ∀ a : Nat, a < s.heap.size → ¬ (fun q : Nat => s.heap.size ≤ q) a := fun a h => Nat.not_le.mpr h
  have h0 : ∀ i : Nat, ∃ q : Nat × Nat, (i < 27 → (lw_tm i).eval #[Value.ref b] s none [] s = some (.ref q.1)) ∧ (i < 6 → va_O "java/lang/String" q.1 (fun q : Nat => s.heap.size ≤ q) s s.heap ∧ va_OF "java/lang/String" "coder" "B" (.int 0) q.1 (fun q : Nat => s.heap.size ≤ q) s s.heap ∧ va_OF "java/lang/String" "value" "[B" (.ref q.2) q.1 (fun q : Nat => s.heap.size ≤ q) s s.heap ∧ va_T .byte q.2 (envL.getD i 0) (fun j => .int ((envB.getD i []).getD j 0)) (fun q : Nat => s.heap.size ≤ q) s s.heap) := by
    intro i
    match i with
    | 0 => obtain ⟨a, v, h1, h2⟩ := lw_str0 hs; exact ⟨(a, v), fun _ => h1, fun _ => h2⟩
    | 1 => obtain ⟨a, v, h1, h2⟩ := lw_str1 hs; exact ⟨(a, v), fun _ => h1, fun _ => h2⟩
    | 2 => obtain ⟨a, v, h1, h2⟩ := lw_str2 hs; exact ⟨(a, v), fun _ => h1, fun _ => h2⟩
    | 3 => obtain ⟨a, v, h1, h2⟩ := lw_str3 hs; exact ⟨(a, v), fun _ => h1, fun _ => h2⟩
    | 4 => obtain ⟨a, v, h1, h2⟩ := lw_str4 hs; exact ⟨(a, v), fun _ => h1, fun _ => h2⟩
    | 5 => obtain ⟨a, v, h1, h2⟩ := lw_str5 hs; exact ⟨(a, v), fun _ => h1, fun _ => h2⟩
    | 6 => obtain ⟨a, h1⟩ := lw_ex (hs _ nr_54); exact ⟨(a, 0), fun _ => h1, fun h => absurd h (by decide)⟩
    | 7 => obtain ⟨a, h1⟩ := lw_ex (hs _ nr_55); exact ⟨(a, 0), fun _ => h1, fun h => absurd h (by decide)⟩
    | 8 => obtain ⟨a, h1⟩ := lw_ex (hs _ nr_56); exact ⟨(a, 0), fun _ => h1, fun h => absurd h (by decide)⟩
    | 9 => obtain ⟨a, h1⟩ := lw_ex (hs _ nr_57); exact ⟨(a, 0), fun _ => h1, fun h => absurd h (by decide)⟩
    | 10 => obtain ⟨a, h1⟩ := lw_ex (hs _ nr_58); exact ⟨(a, 0), fun _ => h1, fun h => absurd h (by decide)⟩
    | 11 => obtain ⟨a, h1⟩ := lw_ex (hs _ nr_59); exact ⟨(a, 0), fun _ => h1, fun h => absurd h (by decide)⟩
    | 12 => obtain ⟨a, h1⟩ := lw_ex (hs _ nr_60); exact ⟨(a, 0), fun _ => h1, fun h => absurd h (by decide)⟩
    | 13 => obtain ⟨a, h1⟩ := lw_ex (hs _ nr_61); exact ⟨(a, 0), fun _ => h1, fun h => absurd h (by decide)⟩
    | 14 => obtain ⟨a, h1⟩ := lw_ex (hs _ nr_62); exact ⟨(a, 0), fun _ => h1, fun h => absurd h (by decide)⟩
    | 15 => obtain ⟨a, h1⟩ := lw_ex (hs _ nr_63); exact ⟨(a, 0), fun _ => h1, fun h => absurd h (by decide)⟩
    | 16 => obtain ⟨a, h1⟩ := lw_ex (hs _ nr_64); exact ⟨(a, 0), fun _ => h1, fun h => absurd h (by decide)⟩
    | 17 => obtain ⟨a, h1⟩ := lw_ex (hs _ nr_65); exact ⟨(a, 0), fun _ => h1, fun h => absurd h (by decide)⟩
    | 18 => obtain ⟨a, h1⟩ := lw_ex (hs _ nr_66); exact ⟨(a, 0), fun _ => h1, fun h => absurd h (by decide)⟩
    | 19 => obtain ⟨a, h1⟩ := lw_ex (hs _ nr_67); exact ⟨(a, 0), fun _ => h1, fun h => absurd h (by decide)⟩
    | 20 => obtain ⟨a, h1⟩ := lw_ex (hs _ nr_68); exact ⟨(a, 0), fun _ => h1, fun h => absurd h (by decide)⟩
    | 21 => obtain ⟨a, h1⟩ := lw_ex (hs _ nr_69); exact ⟨(a, 0), fun _ => h1, fun h => absurd h (by decide)⟩
    | 22 => obtain ⟨a, h1⟩ := lw_ex (hs _ nr_70); exact ⟨(a, 0), fun _ => h1, fun h => absurd h (by decide)⟩
    | 23 => obtain ⟨a, h1⟩ := lw_ex (hs _ nr_71); exact ⟨(a, 0), fun _ => h1, fun h => absurd h (by decide)⟩
    | 24 => obtain ⟨a, h1⟩ := lw_ex (hs _ nr_72); exact ⟨(a, 0), fun _ => h1, fun h => absurd h (by decide)⟩
    | 25 => obtain ⟨a, h1⟩ := lw_ex (hs _ nr_73); exact ⟨(a, 0), fun _ => h1, fun h => absurd h (by decide)⟩
    | 26 => obtain ⟨a, h1⟩ := lw_ex (hs _ nr_74); exact ⟨(a, 0), fun _ => h1, fun h => absurd h (by decide)⟩
    | n + 27 => exact ⟨(0, 0), fun h => absurd h (by omega), fun h => absurd h (by omega)⟩
  obtain ⟨q, hq⟩ := Classical.axiomOfChoice h0
  have hev := fun i h => (hq i).1 h
  refine ⟨fun i => (q i).1, fun i => (q i).2, lw_eF hts, lw_eM hts, lw_eC hts, lw_eD hts, lw_eO hts, vx_Zqof (hts _ tb_88) (hts _ tb_89) (hs _ nr_81) hA, vx_Zqof (hts _ tb_90) (hts _ tb_89) (hs _ nr_82) hA, va_Zof (hts _ tb_91) (hts _ tb_92) (va_eqt (hs _ nr_83)) hA, ?_, ⟨fun i hi => (hq i).2 hi, fun i j hi hj e => ?_⟩, va_Zqof (hts _ tb_93) (hts _ tb_94) (hs _ nr_84) hA, lw_eN hs⟩
  · unfold envS
    exact List.forall_mem_cons.mpr ⟨vk_R.of (hts _ tb_55) (hev 6 (by decide)), List.forall_mem_cons.mpr ⟨vk_R.of (hts _ tb_56) (hev 7 (by decide)), List.forall_mem_cons.mpr ⟨vk_R.of (hts _ tb_57) (hev 8 (by decide)), List.forall_mem_cons.mpr ⟨vk_R.of (hts _ tb_58) (hev 9 (by decide)), List.forall_mem_cons.mpr ⟨vk_R.of (hts _ tb_59) (hev 10 (by decide)), List.forall_mem_cons.mpr ⟨vk_R.of (hts _ tb_60) (hev 11 (by decide)), List.forall_mem_cons.mpr ⟨vk_R.of (hts _ tb_61) (hev 0 (by decide)), List.forall_mem_cons.mpr ⟨vk_R.of (hts _ tb_62) (hev 1 (by decide)), List.forall_mem_cons.mpr ⟨vk_R.of (hts _ tb_63) (hev 2 (by decide)), List.forall_mem_cons.mpr ⟨vk_R.of (hts _ tb_64) (hev 3 (by decide)), List.forall_mem_cons.mpr ⟨vk_R.of (hts _ tb_65) (hev 4 (by decide)), List.forall_mem_cons.mpr ⟨vk_R.of (hts _ tb_66) (hev 5 (by decide)), List.forall_mem_cons.mpr ⟨vk_R.of (hts _ tb_67) (hev 12 (by decide)), List.forall_mem_cons.mpr ⟨vk_R.of (hts _ tb_68) (hev 13 (by decide)), List.forall_mem_cons.mpr ⟨vk_R.of (hts _ tb_69) (hev 14 (by decide)), List.forall_mem_cons.mpr ⟨vk_R.of (hts _ tb_70) (hev 15 (by decide)), List.forall_mem_cons.mpr ⟨vk_R.of (hts _ tb_71) (hev 16 (by decide)), List.forall_mem_cons.mpr ⟨vk_R.of (hts _ tb_72) (hev 17 (by decide)), List.forall_mem_cons.mpr ⟨vk_R.of (hts _ tb_73) (hev 18 (by decide)), List.forall_mem_cons.mpr ⟨vk_R.of (hts _ tb_74) (hev 19 (by decide)), List.forall_mem_cons.mpr ⟨vk_R.of (hts _ tb_75) (hev 20 (by decide)), List.forall_mem_cons.mpr ⟨vk_R.of (hts _ tb_76) (hev 21 (by decide)), List.forall_mem_cons.mpr ⟨vk_R.of (hts _ tb_77) (hev 22 (by decide)), List.forall_mem_cons.mpr ⟨vk_R.of (hts _ tb_78) (hev 23 (by decide)), List.forall_mem_cons.mpr ⟨vk_R.of (hts _ tb_79) (hev 24 (by decide)), List.forall_mem_cons.mpr ⟨vk_R.of (hts _ tb_80) (hev 25 (by decide)), List.forall_mem_cons.mpr ⟨vk_R.of (hts _ tb_81) (hev 26 (by decide)), List.forall_mem_cons.mpr ⟨vk_R.of (hts _ tb_82) (va_eqR (hs _ nr_75) (hev 0 (by decide))), List.forall_mem_cons.mpr ⟨vk_R.of (hts _ tb_83) (va_eqR (hs _ nr_76) (hev 1 (by decide))), List.forall_mem_cons.mpr ⟨vk_R.of (hts _ tb_84) (va_eqR (hs _ nr_77) (hev 2 (by decide))), List.forall_mem_cons.mpr ⟨vk_R.of (hts _ tb_85) (va_eqR (hs _ nr_78) (hev 3 (by decide))), List.forall_mem_cons.mpr ⟨vk_R.of (hts _ tb_86) (va_eqR (hs _ nr_79) (hev 4 (by decide))), List.forall_mem_cons.mpr ⟨vk_R.of (hts _ tb_87) (va_eqR (hs _ nr_80) (hev 5 (by decide))), fun _ h => absurd h List.not_mem_nil⟩⟩⟩⟩⟩⟩⟩⟩⟩⟩⟩⟩⟩⟩⟩⟩⟩⟩⟩⟩⟩⟩⟩⟩⟩⟩⟩⟩⟩⟩⟩⟩⟩
  · obtain ⟨-, -, i3, i4⟩ := (hq i).2 hi
    obtain ⟨-, -, j3, j4⟩ := (hq j).2 hj
    have e : (q i).1 = (q j).1 := e
    rw [e] at i3
    have e2 := lw_ofv i3 j3
    rw [e2] at i4
    obtain ⟨e3, e4⟩ := lw_tv (lw_lens i hi) (lw_lens j hj) i4 j4
    exact lw_apart i hi j hj e3 (fun k hk => by have := e4 k hk; injection this)
theorem lw_a0 {s : State} {b : Nat} (hts : ∀ w ∈ tables_1, w.before #[Value.ref b] s = true) : ∃ c : ClassId, ArrOfT s c .byte ∧ va_RA s c .byte := by
  obtain ⟨c, k, comp, e1, e2, e3⟩ := Cond.arrayClass_spec (args := #[Value.ref b]) (first := s) (o := none) (s := s) (idx := []) (hts _ tb_95)
  exact ⟨c, fun N z => ⟨(fun k h => by cases h), k, e2, comp, e3⟩, e1⟩
theorem lw_a1 {s : State} {b : Nat} (hts : ∀ w ∈ tables_1, w.before #[Value.ref b] s = true) : ∃ c : ClassId, ArrOfT s c .int ∧ va_RA s c .int := by
  obtain ⟨c, k, comp, e1, e2, e3⟩ := Cond.arrayClass_spec (args := #[Value.ref b]) (first := s) (o := none) (s := s) (idx := []) (hts _ tb_96)
  exact ⟨c, fun N z => ⟨(fun k h => by cases h), k, e2, comp, e3⟩, e1⟩
theorem lw_a2 {s : State} {b : Nat} (hts : ∀ w ∈ tables_1, w.before #[Value.ref b] s = true) : ∃ c : ClassId, ArrOfT s c .boolean ∧ va_RA s c .boolean := by
  obtain ⟨c, k, comp, e1, e2, e3⟩ := Cond.arrayClass_spec (args := #[Value.ref b]) (first := s) (o := none) (s := s) (idx := []) (hts _ tb_97)
  exact ⟨c, fun N z => ⟨(fun k h => by cases h), k, e2, comp, e3⟩, e1⟩
theorem lw_a8 {s : State} {b : Nat} (hts : ∀ w ∈ tables_1, w.before #[Value.ref b] s = true) : ∃ c : ClassId, ArrOfT s c .long ∧ va_RA s c .long := by
  obtain ⟨c, k, comp, e1, e2, e3⟩ := Cond.arrayClass_spec (args := #[Value.ref b]) (first := s) (o := none) (s := s) (idx := []) (hts _ tb_98)
  exact ⟨c, fun N z => ⟨(fun k h => by cases h), k, e2, comp, e3⟩, e1⟩
theorem lw_a3 {s : State} {b : Nat} (hts : ∀ w ∈ tables_1, w.before #[Value.ref b] s = true) : ∃ c : ClassId, ArrOfT s c (.object "KelpShores$Family") ∧ va_RA s c (.object "KelpShores$Family") := by
  obtain ⟨comp, c, k, e1, -, e2, e3, e4⟩ := Cond.arrayOver_spec (args := #[Value.ref b]) (first := s) (o := none) (s := s) (idx := []) (hts _ tb_50)
  exact ⟨c, fun N z => ⟨(fun k h => by cases h), k, e2, comp, e3⟩, k, comp, e2, e3, e1, e4⟩
theorem lw_a4 {s : State} {b : Nat} (hts : ∀ w ∈ tables_1, w.before #[Value.ref b] s = true) : ∃ c : ClassId, ArrOfT s c (.object "KelpShores$Lot") ∧ va_RA s c (.object "KelpShores$Lot") := by
  obtain ⟨comp, c, k, e1, -, e2, e3, e4⟩ := Cond.arrayOver_spec (args := #[Value.ref b]) (first := s) (o := none) (s := s) (idx := []) (hts _ tb_51)
  exact ⟨c, fun N z => ⟨(fun k h => by cases h), k, e2, comp, e3⟩, k, comp, e2, e3, e1, e4⟩
theorem lw_a5 {s : State} {b : Nat} (hts : ∀ w ∈ tables_1, w.before #[Value.ref b] s = true) : ∃ c : ClassId, ArrOfT s c (.object "KelpShores$Pit") ∧ va_RA s c (.object "KelpShores$Pit") := by
  obtain ⟨comp, c, k, e1, -, e2, e3, e4⟩ := Cond.arrayOver_spec (args := #[Value.ref b]) (first := s) (o := none) (s := s) (idx := []) (hts _ tb_52)
  exact ⟨c, fun N z => ⟨(fun k h => by cases h), k, e2, comp, e3⟩, k, comp, e2, e3, e1, e4⟩
theorem lw_a6 {s : State} {b : Nat} (hts : ∀ w ∈ tables_1, w.before #[Value.ref b] s = true) : ∃ c : ClassId, ArrOfT s c (.object "KelpShores$Rock") ∧ va_RA s c (.object "KelpShores$Rock") := by
  obtain ⟨comp, c, k, e1, -, e2, e3, e4⟩ := Cond.arrayOver_spec (args := #[Value.ref b]) (first := s) (o := none) (s := s) (idx := []) (hts _ tb_53)
  exact ⟨c, fun N z => ⟨(fun k h => by cases h), k, e2, comp, e3⟩, k, comp, e2, e3, e1, e4⟩
theorem lw_a7 {s : State} {b : Nat} (hts : ∀ w ∈ tables_1, w.before #[Value.ref b] s = true) : ∃ c : ClassId, ArrOfT s c (.object "KelpShores$Shore") ∧ va_RA s c (.object "KelpShores$Shore") := by
  obtain ⟨comp, c, k, e1, -, e2, e3, e4⟩ := Cond.arrayOver_spec (args := #[Value.ref b]) (first := s) (o := none) (s := s) (idx := []) (hts _ tb_54)
  exact ⟨c, fun N z => ⟨(fun k h => by cases h), k, e2, comp, e3⟩, k, comp, e2, e3, e1, e4⟩
theorem lw_arr {s : State} {b : Nat} (hts : ∀ w ∈ tables_1, w.before #[Value.ref b] s = true) : ∃ ac : Nat → ClassId, ∀ (k : Nat) (q : ClassId × FieldType), (aT ac)[k]? = some q → ArrOfT s q.1 q.2 ∧ va_RA s q.1 q.2 := by
  obtain ⟨c0, h0⟩ := lw_a0 hts
  obtain ⟨c1, h1⟩ := lw_a1 hts
  obtain ⟨c2, h2⟩ := lw_a2 hts
  obtain ⟨c3, h3⟩ := lw_a3 hts
  obtain ⟨c4, h4⟩ := lw_a4 hts
  obtain ⟨c5, h5⟩ := lw_a5 hts
  obtain ⟨c6, h6⟩ := lw_a6 hts
  obtain ⟨c7, h7⟩ := lw_a7 hts
  obtain ⟨c8, h8⟩ := lw_a8 hts
  refine ⟨fun k => match k with
    | 0 => c0
    | 1 => c1
    | 2 => c2
    | 3 => c3
    | 4 => c4
    | 5 => c5
    | 6 => c6
    | 7 => c7
    | _ => c8, fun k q hq => ?_⟩
  match k, hq with
  | 0, hq => cases hq; exact h0
  | 1, hq => cases hq; exact h1
  | 2, hq => cases hq; exact h2
  | 3, hq => cases hq; exact h3
  | 4, hq => cases hq; exact h4
  | 5, hq => cases hq; exact h5
  | 6, hq => cases hq; exact h6
  | 7, hq => cases hq; exact h7
  | 8, hq => cases hq; exact h8
  | k + 9, hq => cases hq
