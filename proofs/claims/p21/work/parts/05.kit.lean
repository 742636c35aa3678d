def nw_all : List Cond := [.methodLinkNest "TrolleyGang" 119 ⟨"TrolleyGang$Wires", "spansUpBehind", "(I)I"⟩ "TrolleyGang", .methodLinkNest "TrolleyGang" 131 ⟨"TrolleyGang$Wires", "isDown", "(I)Z"⟩ "TrolleyGang", .methodLinkNest "TrolleyGang" 135 ⟨"TrolleyGang$Ring", "busesAt", "(I)I"⟩ "TrolleyGang", .methodLinkNest "TrolleyGang$Ring" 159 ⟨"TrolleyGang", "oneIf", "(Z)I"⟩ "TrolleyGang", .methodLinkNest "TrolleyGang" 142 ⟨"TrolleyGang$Gang", "placeOf", "(I)I"⟩ "TrolleyGang", .methodLinkNest "TrolleyGang" 159 ⟨"TrolleyGang$Gang", "takeOut", "(I)V"⟩ "TrolleyGang", .methodLinkNest "TrolleyGang" 172 ⟨"TrolleyGang$Gang", "hoursToFirst", "()I"⟩ "TrolleyGang", .methodLinkNest "TrolleyGang" 176 ⟨"TrolleyGang$Ring", "tally", "(I)I"⟩ "TrolleyGang", .methodLinkNest "TrolleyGang$Ring" 56 ⟨"TrolleyGang", "isNightAt", "(I)Z"⟩ "TrolleyGang", .methodLinkNest "TrolleyGang$Ring" 166 ⟨"TrolleyGang$Wires", "spansDown", "()I"⟩ "TrolleyGang", .methodLinkNest "TrolleyGang$Wires" 37 ⟨"TrolleyGang", "oneIf", "(Z)I"⟩ "TrolleyGang", .methodLinkNest "TrolleyGang$Ring" 169 ⟨"TrolleyGang$Wires", "wornInAll", "()I"⟩ "TrolleyGang", .methodLinkNest "TrolleyGang$Ring" 172 ⟨"TrolleyGang$Wires", "frostInAll", "()I"⟩ "TrolleyGang", .methodLinkNest "TrolleyGang" 185 ⟨"TrolleyGang$Ring", "letGoBy", "(ILTrolleyGang$Tables;)V"⟩ "TrolleyGang", .methodLinkNest "TrolleyGang$Ring" 72 ⟨"TrolleyGang$Wires", "freeze", "(I)V"⟩ "TrolleyGang", .methodLinkNest "TrolleyGang$Ring" 76 ⟨"TrolleyGang$Wires", "thaw", "()V"⟩ "TrolleyGang", .methodLinkNest "TrolleyGang$Ring" 96 ⟨"TrolleyGang$Wires", "isDown", "(I)Z"⟩ "TrolleyGang", .methodLinkNest "TrolleyGang$Ring" 99 ⟨"TrolleyGang$Wires", "wear", "(II)V"⟩ "TrolleyGang", .methodLinkNest "TrolleyGang$Ring" 85 ⟨"TrolleyGang$Tables", "fare", "(Z)I"⟩ "TrolleyGang", .methodLinkNest "TrolleyGang$Ring" 128 ⟨"TrolleyGang$Gang", "goToFirst", "()V"⟩ "TrolleyGang", .methodLinkNest "TrolleyGang$Ring" 147 ⟨"TrolleyGang$Wires", "mend", "(II)V"⟩ "TrolleyGang", .methodLinkNest "TrolleyGang$Ring" 153 ⟨"TrolleyGang$Wires", "putUp", "(I)V"⟩ "TrolleyGang", .methodLinkNest "TrolleyGang$Ring" 144 ⟨"TrolleyGang$Gang", "takeOut", "(I)V"⟩ "TrolleyGang", .methodLinkNest "TrolleyGang" 189 ⟨"TrolleyGang$Ring", "copyFrom", "(LTrolleyGang$Ring;)V"⟩ "TrolleyGang", .methodLinkNest "TrolleyGang$Ring" 32 ⟨"TrolleyGang$Wires", "copyFrom", "(LTrolleyGang$Wires;)V"⟩ "TrolleyGang", .methodLinkNest "TrolleyGang$Ring" 36 ⟨"TrolleyGang$Gang", "copyFrom", "(LTrolleyGang$Gang;)V"⟩ "TrolleyGang", .methodLinkNest "TrolleyGang$Ring" 43 ⟨"TrolleyGang$Bus", "copyFrom", "(LTrolleyGang$Bus;)V"⟩ "TrolleyGang", .methodLinkNest "TrolleyGang" 223 ⟨"TrolleyGang$Gang", "haveOnly", "(I)V"⟩ "TrolleyGang", .methodLinkNest "TrolleyGang" 9 ⟨"TrolleyGang$Tables", "<init>", "()V"⟩ "TrolleyGang", .fieldLinkNest "TrolleyGang" 38 "TrolleyGang$Tables" "colds" "[I" "TrolleyGang", .fieldLinkNest "TrolleyGang$Ring" 60 "TrolleyGang$Tables" "colds" "[I" "TrolleyGang", .fieldLinkNest "TrolleyGang" 46 "TrolleyGang$Tables" "swans" "[I" "TrolleyGang", .fieldLinkNest "TrolleyGang$Ring" 79 "TrolleyGang$Tables" "swans" "[I" "TrolleyGang", .fieldLinkNest "TrolleyGang" 59 "TrolleyGang$Tables" "fareByDay" "I" "TrolleyGang", .fieldLinkNest "TrolleyGang" 55 "TrolleyGang$Tables" "fareByNight" "I" "TrolleyGang", .methodLinkNest "TrolleyGang" 18 ⟨"TrolleyGang$Ring", "<init>", "()V"⟩ "TrolleyGang", .methodLinkNest "TrolleyGang$Ring" 11 ⟨"TrolleyGang$Wires", "<init>", "()V"⟩ "TrolleyGang", .fieldLinkNest "TrolleyGang$Ring" 150 "TrolleyGang$Wires" "worn" "[I" "TrolleyGang", .fieldLinkNest "TrolleyGang" 125 "TrolleyGang$Wires" "worn" "[I" "TrolleyGang", .fieldLinkNest "TrolleyGang$Ring" 122 "TrolleyGang$Wires" "frost" "[I" "TrolleyGang", .fieldLinkNest "TrolleyGang" 128 "TrolleyGang$Wires" "frost" "[I" "TrolleyGang", .methodLinkNest "TrolleyGang$Ring" 20 ⟨"TrolleyGang$Gang", "<init>", "()V"⟩ "TrolleyGang", .fieldLinkNest "TrolleyGang$Ring" 132 "TrolleyGang$Gang" "orders" "[I" "TrolleyGang", .fieldLinkNest "TrolleyGang" 154 "TrolleyGang$Gang" "orders" "[I" "TrolleyGang", .fieldLinkNest "TrolleyGang$Ring" 125 "TrolleyGang$Gang" "orderCount" "I" "TrolleyGang", .fieldLinkNest "TrolleyGang" 147 "TrolleyGang$Gang" "orderCount" "I" "TrolleyGang", .fieldLinkNest "TrolleyGang$Ring" 131 "TrolleyGang$Gang" "at" "I" "TrolleyGang", .fieldLinkNest "TrolleyGang" 162 "TrolleyGang$Gang" "at" "I" "TrolleyGang", .fieldLinkNest "TrolleyGang$Ring" 135 "TrolleyGang$Gang" "worksAtFirst" "I" "TrolleyGang", .fieldLinkNest "TrolleyGang" 163 "TrolleyGang$Gang" "worksAtFirst" "I" "TrolleyGang", .fieldLinkNest "TrolleyGang$Ring" 138 "TrolleyGang$Gang" "worksInAll" "I" "TrolleyGang", .fieldLinkNest "TrolleyGang" 166 "TrolleyGang$Gang" "worksInAll" "I" "TrolleyGang", .fieldLinkNest "TrolleyGang$Ring" 156 "TrolleyGang$Gang" "putUpInAll" "I" "TrolleyGang", .fieldLinkNest "TrolleyGang" 169 "TrolleyGang$Gang" "putUpInAll" "I" "TrolleyGang", .methodLinkNest "TrolleyGang$Ring" 31 ⟨"TrolleyGang$Bus", "<init>", "()V"⟩ "TrolleyGang", .fieldLinkNest "TrolleyGang$Ring" 107 "TrolleyGang$Bus" "at" "I" "TrolleyGang", .fieldLinkNest "TrolleyGang" 93 "TrolleyGang$Bus" "at" "I" "TrolleyGang", .fieldLinkNest "TrolleyGang$Ring" 119 "TrolleyGang$Bus" "hasScraper" "Z" "TrolleyGang", .fieldLinkNest "TrolleyGang" 87 "TrolleyGang$Bus" "hasScraper" "Z" "TrolleyGang", .fieldLinkNest "TrolleyGang$Ring" 103 "TrolleyGang$Bus" "runs" "Z" "TrolleyGang", .fieldLinkNest "TrolleyGang" 96 "TrolleyGang$Bus" "runs" "Z" "TrolleyGang", .fieldLinkNest "TrolleyGang$Ring" 113 "TrolleyGang$Bus" "spansInAll" "I" "TrolleyGang", .fieldLinkNest "TrolleyGang" 106 "TrolleyGang$Bus" "spansInAll" "I" "TrolleyGang", .fieldLinkNest "TrolleyGang$Ring" 116 "TrolleyGang$Bus" "faresInAll" "I" "TrolleyGang", .fieldLinkNest "TrolleyGang" 109 "TrolleyGang$Bus" "faresInAll" "I" "TrolleyGang", .fieldLinkNest "TrolleyGang$Ring" 110 "TrolleyGang$Bus" "hoursStuck" "I" "TrolleyGang", .fieldLinkNest "TrolleyGang" 112 "TrolleyGang$Bus" "hoursStuck" "I" "TrolleyGang", .fieldLinkNest "TrolleyGang" 115 "TrolleyGang$Ring" "wires" "LTrolleyGang$Wires;" "TrolleyGang", .fieldLinkNest "TrolleyGang" 138 "TrolleyGang$Ring" "gang" "LTrolleyGang$Gang;" "TrolleyGang", .fieldLinkNest "TrolleyGang" 74 "TrolleyGang$Ring" "buses" "[LTrolleyGang$Bus;" "TrolleyGang", .fieldLinkNest "TrolleyGang" 66 "TrolleyGang$Ring" "busCount" "I" "TrolleyGang", .fieldLinkNest "TrolleyGang" 182 "TrolleyGang$Ring" "coins" "I" "TrolleyGang", .methodLinkNest "TrolleyGang" 51 ⟨"TrolleyGang$Tables", "fare", "(Z)I"⟩ "TrolleyGang", .methodLinkNest "TrolleyGang" 78 ⟨"TrolleyGang$Bus", "come", "(IZ)V"⟩ "TrolleyGang"]
theorem nq_0 : (.methodLinkNest "TrolleyGang" 119 ⟨"TrolleyGang$Wires", "spansUpBehind", "(I)I"⟩ "TrolleyGang" : Cond) ∈ nw_all := List.mem_of_getElem? (i := 0) rfl
theorem nq_1 : (.methodLinkNest "TrolleyGang" 131 ⟨"TrolleyGang$Wires", "isDown", "(I)Z"⟩ "TrolleyGang" : Cond) ∈ nw_all := List.mem_of_getElem? (i := 1) rfl
theorem nq_2 : (.methodLinkNest "TrolleyGang" 135 ⟨"TrolleyGang$Ring", "busesAt", "(I)I"⟩ "TrolleyGang" : Cond) ∈ nw_all := List.mem_of_getElem? (i := 2) rfl
theorem nq_3 : (.methodLinkNest "TrolleyGang$Ring" 159 ⟨"TrolleyGang", "oneIf", "(Z)I"⟩ "TrolleyGang" : Cond) ∈ nw_all := List.mem_of_getElem? (i := 3) rfl
theorem nq_4 : (.methodLinkNest "TrolleyGang" 142 ⟨"TrolleyGang$Gang", "placeOf", "(I)I"⟩ "TrolleyGang" : Cond) ∈ nw_all := List.mem_of_getElem? (i := 4) rfl
theorem nq_5 : (.methodLinkNest "TrolleyGang" 159 ⟨"TrolleyGang$Gang", "takeOut", "(I)V"⟩ "TrolleyGang" : Cond) ∈ nw_all := List.mem_of_getElem? (i := 5) rfl
theorem nq_6 : (.methodLinkNest "TrolleyGang" 172 ⟨"TrolleyGang$Gang", "hoursToFirst", "()I"⟩ "TrolleyGang" : Cond) ∈ nw_all := List.mem_of_getElem? (i := 6) rfl
theorem nq_7 : (.methodLinkNest "TrolleyGang" 176 ⟨"TrolleyGang$Ring", "tally", "(I)I"⟩ "TrolleyGang" : Cond) ∈ nw_all := List.mem_of_getElem? (i := 7) rfl
theorem nq_8 : (.methodLinkNest "TrolleyGang$Ring" 56 ⟨"TrolleyGang", "isNightAt", "(I)Z"⟩ "TrolleyGang" : Cond) ∈ nw_all := List.mem_of_getElem? (i := 8) rfl
theorem nq_9 : (.methodLinkNest "TrolleyGang$Ring" 166 ⟨"TrolleyGang$Wires", "spansDown", "()I"⟩ "TrolleyGang" : Cond) ∈ nw_all := List.mem_of_getElem? (i := 9) rfl
theorem nq_10 : (.methodLinkNest "TrolleyGang$Wires" 37 ⟨"TrolleyGang", "oneIf", "(Z)I"⟩ "TrolleyGang" : Cond) ∈ nw_all := List.mem_of_getElem? (i := 10) rfl
theorem nq_11 : (.methodLinkNest "TrolleyGang$Ring" 169 ⟨"TrolleyGang$Wires", "wornInAll", "()I"⟩ "TrolleyGang" : Cond) ∈ nw_all := List.mem_of_getElem? (i := 11) rfl
theorem nq_12 : (.methodLinkNest "TrolleyGang$Ring" 172 ⟨"TrolleyGang$Wires", "frostInAll", "()I"⟩ "TrolleyGang" : Cond) ∈ nw_all := List.mem_of_getElem? (i := 12) rfl
theorem nq_13 : (.methodLinkNest "TrolleyGang" 185 ⟨"TrolleyGang$Ring", "letGoBy", "(ILTrolleyGang$Tables;)V"⟩ "TrolleyGang" : Cond) ∈ nw_all := List.mem_of_getElem? (i := 13) rfl
theorem nq_14 : (.methodLinkNest "TrolleyGang$Ring" 72 ⟨"TrolleyGang$Wires", "freeze", "(I)V"⟩ "TrolleyGang" : Cond) ∈ nw_all := List.mem_of_getElem? (i := 14) rfl
theorem nq_15 : (.methodLinkNest "TrolleyGang$Ring" 76 ⟨"TrolleyGang$Wires", "thaw", "()V"⟩ "TrolleyGang" : Cond) ∈ nw_all := List.mem_of_getElem? (i := 15) rfl
theorem nq_16 : (.methodLinkNest "TrolleyGang$Ring" 96 ⟨"TrolleyGang$Wires", "isDown", "(I)Z"⟩ "TrolleyGang" : Cond) ∈ nw_all := List.mem_of_getElem? (i := 16) rfl
theorem nq_17 : (.methodLinkNest "TrolleyGang$Ring" 99 ⟨"TrolleyGang$Wires", "wear", "(II)V"⟩ "TrolleyGang" : Cond) ∈ nw_all := List.mem_of_getElem? (i := 17) rfl
theorem nq_18 : (.methodLinkNest "TrolleyGang$Ring" 85 ⟨"TrolleyGang$Tables", "fare", "(Z)I"⟩ "TrolleyGang" : Cond) ∈ nw_all := List.mem_of_getElem? (i := 18) rfl
theorem nq_19 : (.methodLinkNest "TrolleyGang$Ring" 128 ⟨"TrolleyGang$Gang", "goToFirst", "()V"⟩ "TrolleyGang" : Cond) ∈ nw_all := List.mem_of_getElem? (i := 19) rfl
theorem nq_20 : (.methodLinkNest "TrolleyGang$Ring" 147 ⟨"TrolleyGang$Wires", "mend", "(II)V"⟩ "TrolleyGang" : Cond) ∈ nw_all := List.mem_of_getElem? (i := 20) rfl
theorem nq_21 : (.methodLinkNest "TrolleyGang$Ring" 153 ⟨"TrolleyGang$Wires", "putUp", "(I)V"⟩ "TrolleyGang" : Cond) ∈ nw_all := List.mem_of_getElem? (i := 21) rfl
theorem nq_22 : (.methodLinkNest "TrolleyGang$Ring" 144 ⟨"TrolleyGang$Gang", "takeOut", "(I)V"⟩ "TrolleyGang" : Cond) ∈ nw_all := List.mem_of_getElem? (i := 22) rfl
theorem nq_23 : (.methodLinkNest "TrolleyGang" 189 ⟨"TrolleyGang$Ring", "copyFrom", "(LTrolleyGang$Ring;)V"⟩ "TrolleyGang" : Cond) ∈ nw_all := List.mem_of_getElem? (i := 23) rfl
theorem nq_24 : (.methodLinkNest "TrolleyGang$Ring" 32 ⟨"TrolleyGang$Wires", "copyFrom", "(LTrolleyGang$Wires;)V"⟩ "TrolleyGang" : Cond) ∈ nw_all := List.mem_of_getElem? (i := 24) rfl
theorem nq_25 : (.methodLinkNest "TrolleyGang$Ring" 36 ⟨"TrolleyGang$Gang", "copyFrom", "(LTrolleyGang$Gang;)V"⟩ "TrolleyGang" : Cond) ∈ nw_all := List.mem_of_getElem? (i := 25) rfl
theorem nq_26 : (.methodLinkNest "TrolleyGang$Ring" 43 ⟨"TrolleyGang$Bus", "copyFrom", "(LTrolleyGang$Bus;)V"⟩ "TrolleyGang" : Cond) ∈ nw_all := List.mem_of_getElem? (i := 26) rfl
theorem nq_27 : (.methodLinkNest "TrolleyGang" 223 ⟨"TrolleyGang$Gang", "haveOnly", "(I)V"⟩ "TrolleyGang" : Cond) ∈ nw_all := List.mem_of_getElem? (i := 27) rfl
theorem nq_28 : (.methodLinkNest "TrolleyGang" 9 ⟨"TrolleyGang$Tables", "<init>", "()V"⟩ "TrolleyGang" : Cond) ∈ nw_all := List.mem_of_getElem? (i := 28) rfl
theorem nq_29 : (.fieldLinkNest "TrolleyGang" 38 "TrolleyGang$Tables" "colds" "[I" "TrolleyGang" : Cond) ∈ nw_all := List.mem_of_getElem? (i := 29) rfl
theorem nq_30 : (.fieldLinkNest "TrolleyGang$Ring" 60 "TrolleyGang$Tables" "colds" "[I" "TrolleyGang" : Cond) ∈ nw_all := List.mem_of_getElem? (i := 30) rfl
theorem nq_31 : (.fieldLinkNest "TrolleyGang" 46 "TrolleyGang$Tables" "swans" "[I" "TrolleyGang" : Cond) ∈ nw_all := List.mem_of_getElem? (i := 31) rfl
theorem nq_32 : (.fieldLinkNest "TrolleyGang$Ring" 79 "TrolleyGang$Tables" "swans" "[I" "TrolleyGang" : Cond) ∈ nw_all := List.mem_of_getElem? (i := 32) rfl
theorem nq_33 : (.fieldLinkNest "TrolleyGang" 59 "TrolleyGang$Tables" "fareByDay" "I" "TrolleyGang" : Cond) ∈ nw_all := List.mem_of_getElem? (i := 33) rfl
theorem nq_34 : (.fieldLinkNest "TrolleyGang" 55 "TrolleyGang$Tables" "fareByNight" "I" "TrolleyGang" : Cond) ∈ nw_all := List.mem_of_getElem? (i := 34) rfl
theorem nq_35 : (.methodLinkNest "TrolleyGang" 18 ⟨"TrolleyGang$Ring", "<init>", "()V"⟩ "TrolleyGang" : Cond) ∈ nw_all := List.mem_of_getElem? (i := 35) rfl
theorem nq_36 : (.methodLinkNest "TrolleyGang$Ring" 11 ⟨"TrolleyGang$Wires", "<init>", "()V"⟩ "TrolleyGang" : Cond) ∈ nw_all := List.mem_of_getElem? (i := 36) rfl
theorem nq_37 : (.fieldLinkNest "TrolleyGang$Ring" 150 "TrolleyGang$Wires" "worn" "[I" "TrolleyGang" : Cond) ∈ nw_all := List.mem_of_getElem? (i := 37) rfl
theorem nq_38 : (.fieldLinkNest "TrolleyGang" 125 "TrolleyGang$Wires" "worn" "[I" "TrolleyGang" : Cond) ∈ nw_all := List.mem_of_getElem? (i := 38) rfl
theorem nq_39 : (.fieldLinkNest "TrolleyGang$Ring" 122 "TrolleyGang$Wires" "frost" "[I" "TrolleyGang" : Cond) ∈ nw_all := List.mem_of_getElem? (i := 39) rfl
theorem nq_40 : (.fieldLinkNest "TrolleyGang" 128 "TrolleyGang$Wires" "frost" "[I" "TrolleyGang" : Cond) ∈ nw_all := List.mem_of_getElem? (i := 40) rfl
theorem nq_41 : (.methodLinkNest "TrolleyGang$Ring" 20 ⟨"TrolleyGang$Gang", "<init>", "()V"⟩ "TrolleyGang" : Cond) ∈ nw_all := List.mem_of_getElem? (i := 41) rfl
theorem nq_42 : (.fieldLinkNest "TrolleyGang$Ring" 132 "TrolleyGang$Gang" "orders" "[I" "TrolleyGang" : Cond) ∈ nw_all := List.mem_of_getElem? (i := 42) rfl
theorem nq_43 : (.fieldLinkNest "TrolleyGang" 154 "TrolleyGang$Gang" "orders" "[I" "TrolleyGang" : Cond) ∈ nw_all := List.mem_of_getElem? (i := 43) rfl
theorem nq_44 : (.fieldLinkNest "TrolleyGang$Ring" 125 "TrolleyGang$Gang" "orderCount" "I" "TrolleyGang" : Cond) ∈ nw_all := List.mem_of_getElem? (i := 44) rfl
theorem nq_45 : (.fieldLinkNest "TrolleyGang" 147 "TrolleyGang$Gang" "orderCount" "I" "TrolleyGang" : Cond) ∈ nw_all := List.mem_of_getElem? (i := 45) rfl
theorem nq_46 : (.fieldLinkNest "TrolleyGang$Ring" 131 "TrolleyGang$Gang" "at" "I" "TrolleyGang" : Cond) ∈ nw_all := List.mem_of_getElem? (i := 46) rfl
theorem nq_47 : (.fieldLinkNest "TrolleyGang" 162 "TrolleyGang$Gang" "at" "I" "TrolleyGang" : Cond) ∈ nw_all := List.mem_of_getElem? (i := 47) rfl
theorem nq_48 : (.fieldLinkNest "TrolleyGang$Ring" 135 "TrolleyGang$Gang" "worksAtFirst" "I" "TrolleyGang" : Cond) ∈ nw_all := List.mem_of_getElem? (i := 48) rfl
theorem nq_49 : (.fieldLinkNest "TrolleyGang" 163 "TrolleyGang$Gang" "worksAtFirst" "I" "TrolleyGang" : Cond) ∈ nw_all := List.mem_of_getElem? (i := 49) rfl
theorem nq_50 : (.fieldLinkNest "TrolleyGang$Ring" 138 "TrolleyGang$Gang" "worksInAll" "I" "TrolleyGang" : Cond) ∈ nw_all := List.mem_of_getElem? (i := 50) rfl
theorem nq_51 : (.fieldLinkNest "TrolleyGang" 166 "TrolleyGang$Gang" "worksInAll" "I" "TrolleyGang" : Cond) ∈ nw_all := List.mem_of_getElem? (i := 51) rfl
theorem nq_52 : (.fieldLinkNest "TrolleyGang$Ring" 156 "TrolleyGang$Gang" "putUpInAll" "I" "TrolleyGang" : Cond) ∈ nw_all := List.mem_of_getElem? (i := 52) rfl
theorem nq_53 : (.fieldLinkNest "TrolleyGang" 169 "TrolleyGang$Gang" "putUpInAll" "I" "TrolleyGang" : Cond) ∈ nw_all := List.mem_of_getElem? (i := 53) rfl
theorem nq_54 : (.methodLinkNest "TrolleyGang$Ring" 31 ⟨"TrolleyGang$Bus", "<init>", "()V"⟩ "TrolleyGang" : Cond) ∈ nw_all := List.mem_of_getElem? (i := 54) rfl
theorem nq_55 : (.fieldLinkNest "TrolleyGang$Ring" 107 "TrolleyGang$Bus" "at" "I" "TrolleyGang" : Cond) ∈ nw_all := List.mem_of_getElem? (i := 55) rfl
theorem nq_56 : (.fieldLinkNest "TrolleyGang" 93 "TrolleyGang$Bus" "at" "I" "TrolleyGang" : Cond) ∈ nw_all := List.mem_of_getElem? (i := 56) rfl
theorem nq_57 : (.fieldLinkNest "TrolleyGang$Ring" 119 "TrolleyGang$Bus" "hasScraper" "Z" "TrolleyGang" : Cond) ∈ nw_all := List.mem_of_getElem? (i := 57) rfl
theorem nq_58 : (.fieldLinkNest "TrolleyGang" 87 "TrolleyGang$Bus" "hasScraper" "Z" "TrolleyGang" : Cond) ∈ nw_all := List.mem_of_getElem? (i := 58) rfl
theorem nq_59 : (.fieldLinkNest "TrolleyGang$Ring" 103 "TrolleyGang$Bus" "runs" "Z" "TrolleyGang" : Cond) ∈ nw_all := List.mem_of_getElem? (i := 59) rfl
theorem nq_60 : (.fieldLinkNest "TrolleyGang" 96 "TrolleyGang$Bus" "runs" "Z" "TrolleyGang" : Cond) ∈ nw_all := List.mem_of_getElem? (i := 60) rfl
theorem nq_61 : (.fieldLinkNest "TrolleyGang$Ring" 113 "TrolleyGang$Bus" "spansInAll" "I" "TrolleyGang" : Cond) ∈ nw_all := List.mem_of_getElem? (i := 61) rfl
theorem nq_62 : (.fieldLinkNest "TrolleyGang" 106 "TrolleyGang$Bus" "spansInAll" "I" "TrolleyGang" : Cond) ∈ nw_all := List.mem_of_getElem? (i := 62) rfl
theorem nq_63 : (.fieldLinkNest "TrolleyGang$Ring" 116 "TrolleyGang$Bus" "faresInAll" "I" "TrolleyGang" : Cond) ∈ nw_all := List.mem_of_getElem? (i := 63) rfl
theorem nq_64 : (.fieldLinkNest "TrolleyGang" 109 "TrolleyGang$Bus" "faresInAll" "I" "TrolleyGang" : Cond) ∈ nw_all := List.mem_of_getElem? (i := 64) rfl
theorem nq_65 : (.fieldLinkNest "TrolleyGang$Ring" 110 "TrolleyGang$Bus" "hoursStuck" "I" "TrolleyGang" : Cond) ∈ nw_all := List.mem_of_getElem? (i := 65) rfl
theorem nq_66 : (.fieldLinkNest "TrolleyGang" 112 "TrolleyGang$Bus" "hoursStuck" "I" "TrolleyGang" : Cond) ∈ nw_all := List.mem_of_getElem? (i := 66) rfl
theorem nq_67 : (.fieldLinkNest "TrolleyGang" 115 "TrolleyGang$Ring" "wires" "LTrolleyGang$Wires;" "TrolleyGang" : Cond) ∈ nw_all := List.mem_of_getElem? (i := 67) rfl
theorem nq_68 : (.fieldLinkNest "TrolleyGang" 138 "TrolleyGang$Ring" "gang" "LTrolleyGang$Gang;" "TrolleyGang" : Cond) ∈ nw_all := List.mem_of_getElem? (i := 68) rfl
theorem nq_69 : (.fieldLinkNest "TrolleyGang" 74 "TrolleyGang$Ring" "buses" "[LTrolleyGang$Bus;" "TrolleyGang" : Cond) ∈ nw_all := List.mem_of_getElem? (i := 69) rfl
theorem nq_70 : (.fieldLinkNest "TrolleyGang" 66 "TrolleyGang$Ring" "busCount" "I" "TrolleyGang" : Cond) ∈ nw_all := List.mem_of_getElem? (i := 70) rfl
theorem nq_71 : (.fieldLinkNest "TrolleyGang" 182 "TrolleyGang$Ring" "coins" "I" "TrolleyGang" : Cond) ∈ nw_all := List.mem_of_getElem? (i := 71) rfl
theorem nq_72 : (.methodLinkNest "TrolleyGang" 51 ⟨"TrolleyGang$Tables", "fare", "(Z)I"⟩ "TrolleyGang" : Cond) ∈ nw_all := List.mem_of_getElem? (i := 72) rfl
theorem nq_73 : (.methodLinkNest "TrolleyGang" 78 ⟨"TrolleyGang$Bus", "come", "(IZ)V"⟩ "TrolleyGang" : Cond) ∈ nw_all := List.mem_of_getElem? (i := 73) rfl
def nw_is : Cond → Bool
  | .fieldLinkNest _ _ _ _ _ _ => true
  | .methodLinkNest _ _ _ _ => true
  | _ => false
theorem nw_all_is : nw_all.all nw_is = true := by decide +kernel
/-- the words of the nest mates' private members hold -/
def NW (U : State) : Prop := ∀ w ∈ nw_all, va_Nw w U
theorem NW.warm {s U : State} (hW : s.WarmedH U.vm) (h : NW s) : NW U := by
  intro w hw
  have h1 := List.all_eq_true.mp nw_all_is w hw
  have h2 := h w hw
  cases w <;> first
    | exact va_Nw.warmF hW h2
    | exact va_Nw.warmM hW h2
    | exact absurd h1 (by decide)
    | cases h1
theorem NW.same {s U : State} (hvm : s.vm = U.vm) (h : NW s) : NW U := by
  intro w hw
  have h1 := List.all_eq_true.mp nw_all_is w hw
  have h2 := h w hw
  cases w <;> first
    | exact va_Nw.same rfl hvm h2
    | exact absurd h1 (by decide)
    | cases h1
theorem NW.use {s : State} {args : Array Value} (h : NW s) {w : Cond} (hw : w ∈ nw_all) : w.before args s = true := by
  have h1 := List.all_eq_true.mp nw_all_is w hw
  have h2 := h w hw
  cases w <;> first
    | exact va_Nw.use rfl h2
    | exact absurd h1 (by decide)
    | cases h1
abbrev tysOf (cyI cyO cyL : ClassId) : List (ClassId × FieldType) := [(cyI, .int), (cyO, .object RX0), (cyI, .int)]
/-- what the tables say of the classes, the rows and the nest -/
def KK (D : va_G) (cyI cyO cyL : ClassId) (U : State) : Prop := va_K D vwCl (tysOf cyI cyO cyL) U ∧ NW U
theorem KK.warm {D : va_G} {cyI cyO cyL : ClassId} {s U : State} (hW : s.WarmedH U.vm) (h : KK D cyI cyO cyL s) : KK D cyI cyO cyL U := ⟨va_K.moved hW.alike h.1, h.2.warm hW⟩
/-- a method's start: the world W, the heap's size, the tables -/
def PP (D : va_G) (cyI cyO cyL : ClassId) (W : va_W) (sz : Nat) (U : State) : Prop := U.heap.size = sz ∧ va_P D vwCl W U.heap ∧ KK D cyI cyO cyL U ∧ va_D (fun _ => True) W
theorem PP_blind {D : va_G} {cyI cyO cyL : ClassId} {W : va_W} {sz : Nat} {As : List Value} : FrameBlind (va_Pc As (PP D cyI cyO cyL W sz)) := by
  intro a U g mk q
  obtain ⟨q0, q1, qP, qK, qD⟩ := q
  exact ⟨q0, q1, qP, ⟨va_K.moved (u := U) (U := U.calling g mk a) (Vm.Alike.refl U.vm) qK.1, NW.same (s := U) (U := U.calling g mk a) rfl qK.2⟩, qD⟩
/-- contracts: the world W becomes W', the answer is r -/
def cV (l : Launch) (y : MethodName) (wy : List Cond) (rm : Room) (D : va_G) (cyI cyO cyL : ClassId) (As : List Value) (W W' : va_W) : Prop :=
  ∀ sz : Nat, Met l y wy rm (va_Pc As (PP D cyI cyO cyL W sz)) (va_Qv (fun _ : Unit => True) (fun _ t => va_P D vwCl W' t.heap) (va_A W sz)) 0 0 (va_A W sz)
def cI (l : Launch) (y : MethodName) (wy : List Cond) (rm : Room) (D : va_G) (cyI cyO cyL : ClassId) (As : List Value) (W W' : va_W) (r : Int32) : Prop :=
  ∀ sz : Nat, Met l y wy rm (va_Pc As (PP D cyI cyO cyL W sz)) (va_Qi (fun (x : Int32) (_ : Unit) => x = r) (fun _ t => va_P D vwCl W' t.heap) (va_A W sz)) 0 0 (va_A W sz)
def cL (l : Launch) (y : MethodName) (wy : List Cond) (rm : Room) (D : va_G) (cyI cyO cyL : ClassId) (As : List Value) (W W' : va_W) (r : Int64) : Prop :=
  ∀ sz : Nat, Met l y wy rm (va_Pc As (PP D cyI cyO cyL W sz)) (va_Ql (fun (x : Int64) (_ : Unit) => x = r) (fun _ t => va_P D vwCl W' t.heap) (va_A W sz)) 0 0 (va_A W sz)
def cD (l : Launch) (y : MethodName) (wy : List Cond) (rm : Room) (D : va_G) (cyI cyO cyL : ClassId) (As : List Value) (W W' : va_W) (r : UInt64) : Prop :=
  ∀ sz : Nat, Met l y wy rm (va_Pc As (PP D cyI cyO cyL W sz)) (va_Qd (fun (x : UInt64) (_ : Unit) => x = r) (fun _ t => va_P D vwCl W' t.heap) (va_A W sz)) 0 0 (va_A W sz)
/-- cells of ws replaced, by their places -/
def rpl1 (ws : va_W) : List Nat → va_W → va_W
  | i :: is, q :: qs => rpl1 (ws.set i q) is qs
  | _, _ => ws
theorem rpl1_get : ∀ (is : List Nat) (W' ws : va_W) (k : Nat) (q : Nat × va_E), is.length = W'.length → (rpl1 ws is W')[k]? = some q → (∃ j : Nat, is[j]? = some k ∧ W'[j]? = some q) ∨ (k ∉ is ∧ ws[k]? = some q)
  | [], [], ws, k, q, _, h => Or.inr ⟨List.not_mem_nil, h⟩
  | i :: is, q0 :: W', ws, k, q, hl, h => by
    have hl' : is.length = W'.length := by simpa using hl
    rcases rpl1_get is W' (ws.set i q0) k q hl' h with ⟨j, h1, h2⟩ | ⟨h1, h2⟩
    · exact Or.inl ⟨j + 1, by simpa using h1, by simpa using h2⟩
    · by_cases hk : i = k
      · subst hk
        rw [List.getElem?_set] at h2
        refine Or.inl ⟨0, rfl, ?_⟩
        simp only [if_true] at h2
        split at h2
        · exact h2
        · cases h2
      · rw [List.getElem?_set_ne hk] at h2
        exact Or.inr ⟨fun h9 => (List.mem_cons.mp h9).elim (fun e => hk e.symm) h1, h2⟩
theorem rpl1_fst : ∀ (is : List Nat) (W' ws : va_W), (∀ (j i : Nat) (q : Nat × va_E), is[j]? = some i → W'[j]? = some q → ∃ r : Nat × va_E, ws[i]? = some r ∧ r.1 = q.1) → ∀ k : Nat, ((rpl1 ws is W')[k]?).map (fun q => q.1) = (ws[k]?).map (fun q => q.1)
  | [], W', _, _, _ => by cases W' <;> rfl
  | _ :: _, [], _, _, _ => rfl
  | i :: is, q0 :: W', ws, hj, k => by
    obtain ⟨r0, g1, g2⟩ := hj 0 i q0 rfl rfl
    have hset : ∀ z : Nat, ((ws.set i q0)[z]?).map (fun q => q.1) = (ws[z]?).map (fun q => q.1) := by
      intro z
      by_cases hz : i = z
      · subst hz
        have hlt : i < ws.length := (List.getElem?_eq_some_iff.mp g1).1
        rw [List.getElem?_set_self hlt, g1]
        exact congrArg some g2.symm
      · rw [List.getElem?_set_ne hz]
    have := rpl1_fst is W' (ws.set i q0) (fun j z q h1 h2 => by
      obtain ⟨r, e1, e2⟩ := hj (j + 1) z q (by simpa using h1) (by simpa using h2)
      have h3 := hset z
      rw [e1] at h3
      cases h4 : (ws.set i q0)[z]? with
      | none => rw [h4] at h3; cases h3
      | some r' =>
        rw [h4] at h3
        exact ⟨r', rfl, (Option.some.inj h3).trans e2⟩) k
    exact this.trans (hset k)
theorem va_D_fst {A : Nat → Prop} {ws ws1 : va_W} (h : ∀ k : Nat, (ws1[k]?).map (fun q => q.1) = (ws[k]?).map (fun q => q.1)) (hD : va_D A ws) : va_D A ws1 := by
  have key : ∀ (k : Nat) (q : Nat × va_E), ws1[k]? = some q → ∃ r : Nat × va_E, ws[k]? = some r ∧ r.1 = q.1 := by
    intro k q hq
    have h1 := h k
    rw [hq] at h1
    cases h4 : ws[k]? with
    | none => rw [h4] at h1; cases h1
    | some r => rw [h4] at h1; exact ⟨r, rfl, (Option.some.inj h1).symm⟩
  refine ⟨fun i j x y hi hj hxy => ?_, fun k q hk => ?_⟩
  · obtain ⟨r1, a1, b1⟩ := key i x hi
    obtain ⟨r2, a2, b2⟩ := key j y hj
    exact hD.1 i j r1 r2 a1 a2 (by rw [b1, b2, hxy])
  · obtain ⟨r, a1, b1⟩ := key k q hk
    have := hD.2 k r a1
    rw [b1] at this
    exact this
theorem at_places {is : List Nat} {ws w : va_W} (hs : is.map (fun i => ws[i]?) = w.map some) (k : Nat) (q : Nat × va_E) (hq : w[k]? = some q) : ∃ i, is[k]? = some i ∧ ws[i]? = some q := by
  have h1 : (is.map (fun i => ws[i]?))[k]? = some (some q) := by rw [hs, List.getElem?_map, hq]; rfl
  rw [List.getElem?_map] at h1
  cases hi : is[k]? with
  | none => rw [hi] at h1; cases h1
  | some i => rw [hi] at h1; exact ⟨i, rfl, Option.some.inj h1⟩
/-- behind a call: the callee's cells in their places, all else as it was -/
theorem call_post {A0 : Nat → Prop} {D : va_G} {cl : List vw_C} {ws W W' : va_W} {H H1 : Heap} (hP : va_P D cl ws H) (hD : va_D A0 ws) (isC : List Nat) (hC : isC.map (fun i => ws[i]?) = W.map some) (hf : W'.map (fun q => q.1) = W.map (fun q => q.1)) (hk : ∀ q : Nat, q < H.size → ¬ va_A W H.size q → H1[q]? = H[q]?) (hP1 : va_P D cl W' H1) : va_P D cl (rpl1 ws isC W') H1 ∧ va_D A0 (rpl1 ws isC W') := by
  have hlen : isC.length = W'.length := by
    have h1 := congrArg List.length hC
    have h2 := congrArg List.length hf
    simp only [List.length_map] at h1 h2
    omega
  refine ⟨fun k q hq => ?_, va_D_fst (rpl1_fst isC W' ws fun j i q h1 h2 => ?_) hD⟩
  · rcases rpl1_get isC W' ws k q hlen hq with ⟨j, h1, h2⟩ | ⟨h1, h2⟩
    · exact hP1 j q h2
    · have hl := (hP k q h2).lt
      refine (hP k q h2).kept (hk q.1 hl fun h => ?_)
      rcases h with ⟨k2, e, h⟩ | h
      · obtain ⟨j, h3, h4⟩ := at_places hC k2 (q.1, e) h
        have hij := hD.1 k j q (q.1, e) h2 h4 rfl
        subst hij
        exact h1 (List.mem_of_getElem? h3)
      · omega
  · have h3 : (W.map (fun q => q.1))[j]? = some q.1 := by rw [← hf, List.getElem?_map, h2]; rfl
    rw [List.getElem?_map] at h3
    cases h4 : W[j]? with
    | none => rw [h4] at h3; cases h3
    | some r =>
      rw [h4] at h3
      obtain ⟨i', e1, e2⟩ := at_places hC j r h4
      have : i' = i := Option.some.inj (e1.symm.trans h1)
      subst this
      exact ⟨r, e2, Option.some.inj h3⟩
/-- the same, where caller and callee share a tail of cells -/
theorem rpl1_app : ∀ (is : List Nat) (W' X pl : va_W), (∀ i ∈ is, i < X.length) → rpl1 (X ++ pl) is W' = rpl1 X is W' ++ pl
  | [], W', _, _, _ => by cases W' <;> rfl
  | _ :: _, [], _, _, _ => rfl
  | i :: is, q :: W', X, pl, h => by
    have hi : i < X.length := h i List.mem_cons_self
    show rpl1 ((X ++ pl).set i q) is W' = rpl1 (X.set i q) is W' ++ pl
    rw [List.set_append_left _ _ hi]
    exact rpl1_app is W' (X.set i q) pl (fun z hz => by rw [List.length_set]; exact h z (List.mem_cons_of_mem _ hz))
theorem rpl1_len : ∀ (is : List Nat) (W' X : va_W), (rpl1 X is W').length = X.length
  | [], W', _ => by cases W' <;> rfl
  | _ :: _, [], _ => rfl
  | i :: is, q :: W', X => by
    show (rpl1 (X.set i q) is W').length = X.length
    rw [rpl1_len is W' (X.set i q), List.length_set]
theorem call_postB {A0 : Nat → Prop} {D : va_G} {cl : List vw_C} {X cx cx' pl pl' : va_W} {H H1 : Heap} (hP : va_P D cl (X ++ pl) H) (hD : va_D A0 (X ++ pl)) (isC : List Nat) (hC : isC.map (fun i => X[i]?) = cx.map some) (hf : cx'.map (fun q => q.1) = cx.map (fun q => q.1)) (hfp : pl'.map (fun q => q.1) = pl.map (fun q => q.1)) (hk : ∀ q : Nat, q < H.size → ¬ va_A (cx ++ pl) H.size q → H1[q]? = H[q]?) (hP1 : va_P D cl (cx' ++ pl') H1) : va_P D cl (rpl1 X isC cx' ++ pl') H1 ∧ va_D A0 (rpl1 X isC cx' ++ pl') := by
  have hlen : isC.length = cx'.length := by
    have h1 := congrArg List.length hC
    have h2 := congrArg List.length hf
    simp only [List.length_map] at h1 h2
    omega
  have hXl := rpl1_len isC cx' X
  have hcl : cx'.length = cx.length := by simpa using congrArg List.length hf
  have hfst : ∀ k : Nat, ((rpl1 X isC cx')[k]?).map (fun q => q.1) = (X[k]?).map (fun q => q.1) := rpl1_fst isC cx' X fun j i q h1 h2 => by
    have h3 : (cx.map (fun q => q.1))[j]? = some q.1 := by rw [← hf, List.getElem?_map, h2]; rfl
    rw [List.getElem?_map] at h3
    cases h4 : cx[j]? with
    | none => rw [h4] at h3; cases h3
    | some r =>
      rw [h4] at h3
      obtain ⟨i', e1, e2⟩ := at_places hC j r h4
      have : i' = i := Option.some.inj (e1.symm.trans h1)
      subst this
      exact ⟨r, e2, Option.some.inj h3⟩
  refine ⟨fun k q hq => ?_, va_D_fst (fun k => ?_) hD⟩
  · by_cases hkl : k < X.length
    · rw [List.getElem?_append_left (by omega)] at hq
      rcases rpl1_get isC cx' X k q hlen hq with ⟨j, h1, h2⟩ | ⟨h1, h2⟩
      · refine hP1 j q ?_
        rw [List.getElem?_append_left (List.getElem?_eq_some_iff.mp h2).1]
        exact h2
      · have h2' : (X ++ pl)[k]? = some q := by rw [List.getElem?_append_left hkl]; exact h2
        have hl := (hP k q h2').lt
        refine (hP k q h2').kept (hk q.1 hl fun h => ?_)
        rcases h with ⟨k2, e, h⟩ | h
        · by_cases hk2 : k2 < cx.length
          · rw [List.getElem?_append_left hk2] at h
            obtain ⟨j, h3, h4⟩ := at_places hC k2 (q.1, e) h
            have h4' : (X ++ pl)[j]? = some (q.1, e) := by rw [List.getElem?_append_left (List.getElem?_eq_some_iff.mp h4).1]; exact h4
            have hij := hD.1 k j q (q.1, e) h2' h4' rfl
            subst hij
            exact h1 (List.mem_of_getElem? h3)
          · rw [List.getElem?_append_right (by omega)] at h
            have h4' : (X ++ pl)[X.length + (k2 - cx.length)]? = some (q.1, e) := by rw [List.getElem?_append_right (by omega)]; rw [show X.length + (k2 - cx.length) - X.length = k2 - cx.length by omega]; exact h
            have hij := hD.1 k _ q (q.1, e) h2' h4' rfl
            omega
        · omega
    · rw [List.getElem?_append_right (by omega), hXl] at hq
      refine hP1 (cx'.length + (k - X.length)) q ?_
      rw [List.getElem?_append_right (by omega), show cx'.length + (k - X.length) - cx'.length = k - X.length by omega]
      exact hq
  · by_cases hkl : k < X.length
    · rw [List.getElem?_append_left (by omega), List.getElem?_append_left hkl]
      exact hfst k
    · rw [List.getElem?_append_right (by omega), List.getElem?_append_right (by omega), hXl, ← List.getElem?_map, ← List.getElem?_map, hfp]
