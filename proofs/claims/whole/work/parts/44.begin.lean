theorem nz_lt3 {P : Nat → Prop} (h0 : P 0) (h1 : P 1) (h2 : P 2) : ∀ j : Nat, j < 3 → P j
  | 0, _ => h0 | 1, _ => h1 | 2, _ => h2
  | j + 3, h => absurd h (by omega)
theorem nz_lt5 {P : Nat → Prop} (h0 : P 0) (h1 : P 1) (h2 : P 2) (h3 : P 3) (h4 : P 4) : ∀ j : Nat, j < 5 → P j
  | 0, _ => h0 | 1, _ => h1 | 2, _ => h2 | 3, _ => h3 | 4, _ => h4
  | j + 5, h => absurd h (by omega)
theorem nz_lt6 {P : Nat → Prop} (h0 : P 0) (h1 : P 1) (h2 : P 2) (h3 : P 3) (h4 : P 4) (h5 : P 5) : ∀ j : Nat, j < 6 → P j
  | 0, _ => h0 | 1, _ => h1 | 2, _ => h2 | 3, _ => h3 | 4, _ => h4 | 5, _ => h5
  | j + 6, h => absurd h (by omega)
theorem nf_4 : (Cond.eq (Term.static "java/lang/String" "COMPACT_STRINGS" "Z") (Term.int 1)) ∈ flatC (Jvm.Cond.and given_1 narrow_1) := List.mem_of_getElem? (i := 4) rfl
theorem nf_5 : (Cond.isRef (Term.static "jdk/internal/util/Preconditions" "SIOOBE_FORMATTER" "Ljava/util/function/BiFunction;")) ∈ flatC (Jvm.Cond.and given_1 narrow_1) := List.mem_of_getElem? (i := 5) rfl
theorem nf_10 : (Cond.arrayOf (Term.static "NightStones$Asker" "ARE" "[I") FieldType.int) ∈ flatC (Jvm.Cond.and given_1 narrow_1) := List.mem_of_getElem? (i := 10) rfl
theorem nf_11 : (Cond.eq (Term.length (Term.static "NightStones$Asker" "ARE" "[I")) (Term.int 6)) ∈ flatC (Jvm.Cond.and given_1 narrow_1) := List.mem_of_getElem? (i := 11) rfl
theorem nf_12 : (Cond.eq (Term.elem (Term.static "NightStones$Asker" "ARE" "[I") (Term.int 0)) (Term.int 1)) ∈ flatC (Jvm.Cond.and given_1 narrow_1) := List.mem_of_getElem? (i := 12) rfl
theorem nf_13 : (Cond.eq (Term.elem (Term.static "NightStones$Asker" "ARE" "[I") (Term.int 1)) (Term.int 3)) ∈ flatC (Jvm.Cond.and given_1 narrow_1) := List.mem_of_getElem? (i := 13) rfl
theorem nf_14 : (Cond.eq (Term.elem (Term.static "NightStones$Asker" "ARE" "[I") (Term.int 2)) (Term.int 7)) ∈ flatC (Jvm.Cond.and given_1 narrow_1) := List.mem_of_getElem? (i := 14) rfl
theorem nf_15 : (Cond.eq (Term.elem (Term.static "NightStones$Asker" "ARE" "[I") (Term.int 3)) (Term.int 11)) ∈ flatC (Jvm.Cond.and given_1 narrow_1) := List.mem_of_getElem? (i := 15) rfl
theorem nf_16 : (Cond.eq (Term.elem (Term.static "NightStones$Asker" "ARE" "[I") (Term.int 4)) (Term.int 17)) ∈ flatC (Jvm.Cond.and given_1 narrow_1) := List.mem_of_getElem? (i := 16) rfl
theorem nf_17 : (Cond.eq (Term.elem (Term.static "NightStones$Asker" "ARE" "[I") (Term.int 5)) (Term.int 49)) ∈ flatC (Jvm.Cond.and given_1 narrow_1) := List.mem_of_getElem? (i := 17) rfl
theorem nf_18 : (Cond.exactly (Term.string "NightStones$Reader" 76) "java/lang/String") ∈ flatC (Jvm.Cond.and given_1 narrow_1) := List.mem_of_getElem? (i := 18) rfl
theorem nf_19 : (Cond.eq (Term.field (Term.string "NightStones$Reader" 76) "java/lang/String" "coder" "B") (Term.int 0)) ∈ flatC (Jvm.Cond.and given_1 narrow_1) := List.mem_of_getElem? (i := 19) rfl
theorem nf_20 : (Cond.arrayOf (Term.field (Term.string "NightStones$Reader" 76) "java/lang/String" "value" "[B") FieldType.byte) ∈ flatC (Jvm.Cond.and given_1 narrow_1) := List.mem_of_getElem? (i := 20) rfl
theorem nf_21 : (Cond.eq (Term.length (Term.field (Term.string "NightStones$Reader" 76) "java/lang/String" "value" "[B")) (Term.int 3)) ∈ flatC (Jvm.Cond.and given_1 narrow_1) := List.mem_of_getElem? (i := 21) rfl
theorem nf_22 : (Cond.eq (Term.elem (Term.field (Term.string "NightStones$Reader" 76) "java/lang/String" "value" "[B") (Term.int 0)) (Term.int 108)) ∈ flatC (Jvm.Cond.and given_1 narrow_1) := List.mem_of_getElem? (i := 22) rfl
theorem nf_23 : (Cond.eq (Term.elem (Term.field (Term.string "NightStones$Reader" 76) "java/lang/String" "value" "[B") (Term.int 1)) (Term.int 97)) ∈ flatC (Jvm.Cond.and given_1 narrow_1) := List.mem_of_getElem? (i := 23) rfl
theorem nf_24 : (Cond.eq (Term.elem (Term.field (Term.string "NightStones$Reader" 76) "java/lang/String" "value" "[B") (Term.int 2)) (Term.int 119)) ∈ flatC (Jvm.Cond.and given_1 narrow_1) := List.mem_of_getElem? (i := 24) rfl
theorem nf_25 : (Cond.exactly (Term.string "NightStones$Reader" 104) "java/lang/String") ∈ flatC (Jvm.Cond.and given_1 narrow_1) := List.mem_of_getElem? (i := 25) rfl
theorem nf_26 : (Cond.eq (Term.field (Term.string "NightStones$Reader" 104) "java/lang/String" "coder" "B") (Term.int 0)) ∈ flatC (Jvm.Cond.and given_1 narrow_1) := List.mem_of_getElem? (i := 26) rfl
theorem nf_27 : (Cond.arrayOf (Term.field (Term.string "NightStones$Reader" 104) "java/lang/String" "value" "[B") FieldType.byte) ∈ flatC (Jvm.Cond.and given_1 narrow_1) := List.mem_of_getElem? (i := 27) rfl
theorem nf_28 : (Cond.eq (Term.length (Term.field (Term.string "NightStones$Reader" 104) "java/lang/String" "value" "[B")) (Term.int 5)) ∈ flatC (Jvm.Cond.and given_1 narrow_1) := List.mem_of_getElem? (i := 28) rfl
theorem nf_29 : (Cond.eq (Term.elem (Term.field (Term.string "NightStones$Reader" 104) "java/lang/String" "value" "[B") (Term.int 0)) (Term.int 115)) ∈ flatC (Jvm.Cond.and given_1 narrow_1) := List.mem_of_getElem? (i := 29) rfl
theorem nf_30 : (Cond.eq (Term.elem (Term.field (Term.string "NightStones$Reader" 104) "java/lang/String" "value" "[B") (Term.int 1)) (Term.int 116)) ∈ flatC (Jvm.Cond.and given_1 narrow_1) := List.mem_of_getElem? (i := 30) rfl
theorem nf_31 : (Cond.eq (Term.elem (Term.field (Term.string "NightStones$Reader" 104) "java/lang/String" "value" "[B") (Term.int 2)) (Term.int 111)) ∈ flatC (Jvm.Cond.and given_1 narrow_1) := List.mem_of_getElem? (i := 31) rfl
theorem nf_32 : (Cond.eq (Term.elem (Term.field (Term.string "NightStones$Reader" 104) "java/lang/String" "value" "[B") (Term.int 3)) (Term.int 110)) ∈ flatC (Jvm.Cond.and given_1 narrow_1) := List.mem_of_getElem? (i := 32) rfl
theorem nf_33 : (Cond.eq (Term.elem (Term.field (Term.string "NightStones$Reader" 104) "java/lang/String" "value" "[B") (Term.int 4)) (Term.int 101)) ∈ flatC (Jvm.Cond.and given_1 narrow_1) := List.mem_of_getElem? (i := 33) rfl
theorem nf_34 : (Cond.not (Cond.eq (Term.string "NightStones$Reader" 76) (Term.string "NightStones$Reader" 104))) ∈ flatC (Jvm.Cond.and given_1 narrow_1) := List.mem_of_getElem? (i := 34) rfl
theorem nf_35 : (Cond.exactly (Term.string "NightStones$Reader" 116) "java/lang/String") ∈ flatC (Jvm.Cond.and given_1 narrow_1) := List.mem_of_getElem? (i := 35) rfl
theorem nf_36 : (Cond.eq (Term.field (Term.string "NightStones$Reader" 116) "java/lang/String" "coder" "B") (Term.int 0)) ∈ flatC (Jvm.Cond.and given_1 narrow_1) := List.mem_of_getElem? (i := 36) rfl
theorem nf_37 : (Cond.arrayOf (Term.field (Term.string "NightStones$Reader" 116) "java/lang/String" "value" "[B") FieldType.byte) ∈ flatC (Jvm.Cond.and given_1 narrow_1) := List.mem_of_getElem? (i := 37) rfl
theorem nf_38 : (Cond.eq (Term.length (Term.field (Term.string "NightStones$Reader" 116) "java/lang/String" "value" "[B")) (Term.int 5)) ∈ flatC (Jvm.Cond.and given_1 narrow_1) := List.mem_of_getElem? (i := 38) rfl
theorem nf_39 : (Cond.eq (Term.elem (Term.field (Term.string "NightStones$Reader" 116) "java/lang/String" "value" "[B") (Term.int 0)) (Term.int 109)) ∈ flatC (Jvm.Cond.and given_1 narrow_1) := List.mem_of_getElem? (i := 39) rfl
theorem nf_40 : (Cond.eq (Term.elem (Term.field (Term.string "NightStones$Reader" 116) "java/lang/String" "value" "[B") (Term.int 1)) (Term.int 111)) ∈ flatC (Jvm.Cond.and given_1 narrow_1) := List.mem_of_getElem? (i := 40) rfl
theorem nf_41 : (Cond.eq (Term.elem (Term.field (Term.string "NightStones$Reader" 116) "java/lang/String" "value" "[B") (Term.int 2)) (Term.int 118)) ∈ flatC (Jvm.Cond.and given_1 narrow_1) := List.mem_of_getElem? (i := 41) rfl
theorem nf_42 : (Cond.eq (Term.elem (Term.field (Term.string "NightStones$Reader" 116) "java/lang/String" "value" "[B") (Term.int 3)) (Term.int 101)) ∈ flatC (Jvm.Cond.and given_1 narrow_1) := List.mem_of_getElem? (i := 42) rfl
theorem nf_43 : (Cond.eq (Term.elem (Term.field (Term.string "NightStones$Reader" 116) "java/lang/String" "value" "[B") (Term.int 4)) (Term.int 114)) ∈ flatC (Jvm.Cond.and given_1 narrow_1) := List.mem_of_getElem? (i := 43) rfl
theorem nf_44 : (Cond.not (Cond.eq (Term.string "NightStones$Reader" 76) (Term.string "NightStones$Reader" 116))) ∈ flatC (Jvm.Cond.and given_1 narrow_1) := List.mem_of_getElem? (i := 44) rfl
theorem nf_45 : (Cond.not (Cond.eq (Term.string "NightStones$Reader" 104) (Term.string "NightStones$Reader" 116))) ∈ flatC (Jvm.Cond.and given_1 narrow_1) := List.mem_of_getElem? (i := 45) rfl
theorem nf_46 : (Cond.exactly (Term.string "NightStones$Reader" 137) "java/lang/String") ∈ flatC (Jvm.Cond.and given_1 narrow_1) := List.mem_of_getElem? (i := 46) rfl
theorem nf_47 : (Cond.eq (Term.field (Term.string "NightStones$Reader" 137) "java/lang/String" "coder" "B") (Term.int 0)) ∈ flatC (Jvm.Cond.and given_1 narrow_1) := List.mem_of_getElem? (i := 47) rfl
theorem nf_48 : (Cond.arrayOf (Term.field (Term.string "NightStones$Reader" 137) "java/lang/String" "value" "[B") FieldType.byte) ∈ flatC (Jvm.Cond.and given_1 narrow_1) := List.mem_of_getElem? (i := 48) rfl
theorem nf_49 : (Cond.eq (Term.length (Term.field (Term.string "NightStones$Reader" 137) "java/lang/String" "value" "[B")) (Term.int 3)) ∈ flatC (Jvm.Cond.and given_1 narrow_1) := List.mem_of_getElem? (i := 49) rfl
theorem nf_50 : (Cond.eq (Term.elem (Term.field (Term.string "NightStones$Reader" 137) "java/lang/String" "value" "[B") (Term.int 0)) (Term.int 105)) ∈ flatC (Jvm.Cond.and given_1 narrow_1) := List.mem_of_getElem? (i := 50) rfl
theorem nf_51 : (Cond.eq (Term.elem (Term.field (Term.string "NightStones$Reader" 137) "java/lang/String" "value" "[B") (Term.int 1)) (Term.int 110)) ∈ flatC (Jvm.Cond.and given_1 narrow_1) := List.mem_of_getElem? (i := 51) rfl
theorem nf_52 : (Cond.eq (Term.elem (Term.field (Term.string "NightStones$Reader" 137) "java/lang/String" "value" "[B") (Term.int 2)) (Term.int 110)) ∈ flatC (Jvm.Cond.and given_1 narrow_1) := List.mem_of_getElem? (i := 52) rfl
theorem nf_53 : (Cond.not (Cond.eq (Term.string "NightStones$Reader" 76) (Term.string "NightStones$Reader" 137))) ∈ flatC (Jvm.Cond.and given_1 narrow_1) := List.mem_of_getElem? (i := 53) rfl
theorem nf_54 : (Cond.not (Cond.eq (Term.string "NightStones$Reader" 104) (Term.string "NightStones$Reader" 137))) ∈ flatC (Jvm.Cond.and given_1 narrow_1) := List.mem_of_getElem? (i := 54) rfl
theorem nf_55 : (Cond.not (Cond.eq (Term.string "NightStones$Reader" 116) (Term.string "NightStones$Reader" 137))) ∈ flatC (Jvm.Cond.and given_1 narrow_1) := List.mem_of_getElem? (i := 55) rfl
theorem nf_56 : (Cond.exactly (Term.string "NightStones$Reader" 139) "java/lang/String") ∈ flatC (Jvm.Cond.and given_1 narrow_1) := List.mem_of_getElem? (i := 56) rfl
theorem nf_57 : (Cond.eq (Term.field (Term.string "NightStones$Reader" 139) "java/lang/String" "coder" "B") (Term.int 0)) ∈ flatC (Jvm.Cond.and given_1 narrow_1) := List.mem_of_getElem? (i := 57) rfl
theorem nf_58 : (Cond.arrayOf (Term.field (Term.string "NightStones$Reader" 139) "java/lang/String" "value" "[B") FieldType.byte) ∈ flatC (Jvm.Cond.and given_1 narrow_1) := List.mem_of_getElem? (i := 58) rfl
theorem nf_59 : (Cond.eq (Term.length (Term.field (Term.string "NightStones$Reader" 139) "java/lang/String" "value" "[B")) (Term.int 6)) ∈ flatC (Jvm.Cond.and given_1 narrow_1) := List.mem_of_getElem? (i := 59) rfl
theorem nf_60 : (Cond.eq (Term.elem (Term.field (Term.string "NightStones$Reader" 139) "java/lang/String" "value" "[B") (Term.int 0)) (Term.int 99)) ∈ flatC (Jvm.Cond.and given_1 narrow_1) := List.mem_of_getElem? (i := 60) rfl
theorem nf_61 : (Cond.eq (Term.elem (Term.field (Term.string "NightStones$Reader" 139) "java/lang/String" "value" "[B") (Term.int 1)) (Term.int 97)) ∈ flatC (Jvm.Cond.and given_1 narrow_1) := List.mem_of_getElem? (i := 61) rfl
theorem nf_62 : (Cond.eq (Term.elem (Term.field (Term.string "NightStones$Reader" 139) "java/lang/String" "value" "[B") (Term.int 2)) (Term.int 114)) ∈ flatC (Jvm.Cond.and given_1 narrow_1) := List.mem_of_getElem? (i := 62) rfl
theorem nf_63 : (Cond.eq (Term.elem (Term.field (Term.string "NightStones$Reader" 139) "java/lang/String" "value" "[B") (Term.int 3)) (Term.int 116)) ∈ flatC (Jvm.Cond.and given_1 narrow_1) := List.mem_of_getElem? (i := 63) rfl
theorem nf_64 : (Cond.eq (Term.elem (Term.field (Term.string "NightStones$Reader" 139) "java/lang/String" "value" "[B") (Term.int 4)) (Term.int 101)) ∈ flatC (Jvm.Cond.and given_1 narrow_1) := List.mem_of_getElem? (i := 64) rfl
theorem nf_65 : (Cond.eq (Term.elem (Term.field (Term.string "NightStones$Reader" 139) "java/lang/String" "value" "[B") (Term.int 5)) (Term.int 114)) ∈ flatC (Jvm.Cond.and given_1 narrow_1) := List.mem_of_getElem? (i := 65) rfl
theorem nf_66 : (Cond.not (Cond.eq (Term.string "NightStones$Reader" 76) (Term.string "NightStones$Reader" 139))) ∈ flatC (Jvm.Cond.and given_1 narrow_1) := List.mem_of_getElem? (i := 66) rfl
theorem nf_67 : (Cond.not (Cond.eq (Term.string "NightStones$Reader" 104) (Term.string "NightStones$Reader" 139))) ∈ flatC (Jvm.Cond.and given_1 narrow_1) := List.mem_of_getElem? (i := 67) rfl
theorem nf_68 : (Cond.not (Cond.eq (Term.string "NightStones$Reader" 116) (Term.string "NightStones$Reader" 139))) ∈ flatC (Jvm.Cond.and given_1 narrow_1) := List.mem_of_getElem? (i := 68) rfl
theorem nf_69 : (Cond.not (Cond.eq (Term.string "NightStones$Reader" 137) (Term.string "NightStones$Reader" 139))) ∈ flatC (Jvm.Cond.and given_1 narrow_1) := List.mem_of_getElem? (i := 69) rfl
theorem nf_70 : (Cond.exactly (Term.string "NightStones$Reader" 141) "java/lang/String") ∈ flatC (Jvm.Cond.and given_1 narrow_1) := List.mem_of_getElem? (i := 70) rfl
theorem nf_71 : (Cond.eq (Term.field (Term.string "NightStones$Reader" 141) "java/lang/String" "coder" "B") (Term.int 0)) ∈ flatC (Jvm.Cond.and given_1 narrow_1) := List.mem_of_getElem? (i := 71) rfl
theorem nf_72 : (Cond.arrayOf (Term.field (Term.string "NightStones$Reader" 141) "java/lang/String" "value" "[B") FieldType.byte) ∈ flatC (Jvm.Cond.and given_1 narrow_1) := List.mem_of_getElem? (i := 72) rfl
theorem nf_73 : (Cond.eq (Term.length (Term.field (Term.string "NightStones$Reader" 141) "java/lang/String" "value" "[B")) (Term.int 6)) ∈ flatC (Jvm.Cond.and given_1 narrow_1) := List.mem_of_getElem? (i := 73) rfl
theorem nf_74 : (Cond.eq (Term.elem (Term.field (Term.string "NightStones$Reader" 141) "java/lang/String" "value" "[B") (Term.int 0)) (Term.int 112)) ∈ flatC (Jvm.Cond.and given_1 narrow_1) := List.mem_of_getElem? (i := 74) rfl
theorem nf_75 : (Cond.eq (Term.elem (Term.field (Term.string "NightStones$Reader" 141) "java/lang/String" "value" "[B") (Term.int 1)) (Term.int 97)) ∈ flatC (Jvm.Cond.and given_1 narrow_1) := List.mem_of_getElem? (i := 75) rfl
theorem nf_76 : (Cond.eq (Term.elem (Term.field (Term.string "NightStones$Reader" 141) "java/lang/String" "value" "[B") (Term.int 2)) (Term.int 114)) ∈ flatC (Jvm.Cond.and given_1 narrow_1) := List.mem_of_getElem? (i := 76) rfl
theorem nf_77 : (Cond.eq (Term.elem (Term.field (Term.string "NightStones$Reader" 141) "java/lang/String" "value" "[B") (Term.int 3)) (Term.int 105)) ∈ flatC (Jvm.Cond.and given_1 narrow_1) := List.mem_of_getElem? (i := 77) rfl
theorem nf_78 : (Cond.eq (Term.elem (Term.field (Term.string "NightStones$Reader" 141) "java/lang/String" "value" "[B") (Term.int 4)) (Term.int 115)) ∈ flatC (Jvm.Cond.and given_1 narrow_1) := List.mem_of_getElem? (i := 78) rfl
theorem nf_79 : (Cond.eq (Term.elem (Term.field (Term.string "NightStones$Reader" 141) "java/lang/String" "value" "[B") (Term.int 5)) (Term.int 104)) ∈ flatC (Jvm.Cond.and given_1 narrow_1) := List.mem_of_getElem? (i := 79) rfl
theorem nf_80 : (Cond.not (Cond.eq (Term.string "NightStones$Reader" 76) (Term.string "NightStones$Reader" 141))) ∈ flatC (Jvm.Cond.and given_1 narrow_1) := List.mem_of_getElem? (i := 80) rfl
theorem nf_81 : (Cond.not (Cond.eq (Term.string "NightStones$Reader" 104) (Term.string "NightStones$Reader" 141))) ∈ flatC (Jvm.Cond.and given_1 narrow_1) := List.mem_of_getElem? (i := 81) rfl
theorem nf_82 : (Cond.not (Cond.eq (Term.string "NightStones$Reader" 116) (Term.string "NightStones$Reader" 141))) ∈ flatC (Jvm.Cond.and given_1 narrow_1) := List.mem_of_getElem? (i := 82) rfl
theorem nf_83 : (Cond.not (Cond.eq (Term.string "NightStones$Reader" 137) (Term.string "NightStones$Reader" 141))) ∈ flatC (Jvm.Cond.and given_1 narrow_1) := List.mem_of_getElem? (i := 83) rfl
theorem nf_84 : (Cond.not (Cond.eq (Term.string "NightStones$Reader" 139) (Term.string "NightStones$Reader" 141))) ∈ flatC (Jvm.Cond.and given_1 narrow_1) := List.mem_of_getElem? (i := 84) rfl
theorem nf_85 : (Cond.exactly (Term.string "NightStones$Reader" 143) "java/lang/String") ∈ flatC (Jvm.Cond.and given_1 narrow_1) := List.mem_of_getElem? (i := 85) rfl
theorem nf_86 : (Cond.eq (Term.field (Term.string "NightStones$Reader" 143) "java/lang/String" "coder" "B") (Term.int 0)) ∈ flatC (Jvm.Cond.and given_1 narrow_1) := List.mem_of_getElem? (i := 86) rfl
theorem nf_87 : (Cond.arrayOf (Term.field (Term.string "NightStones$Reader" 143) "java/lang/String" "value" "[B") FieldType.byte) ∈ flatC (Jvm.Cond.and given_1 narrow_1) := List.mem_of_getElem? (i := 87) rfl
theorem nf_88 : (Cond.eq (Term.length (Term.field (Term.string "NightStones$Reader" 143) "java/lang/String" "value" "[B")) (Term.int 5)) ∈ flatC (Jvm.Cond.and given_1 narrow_1) := List.mem_of_getElem? (i := 88) rfl
theorem nf_89 : (Cond.eq (Term.elem (Term.field (Term.string "NightStones$Reader" 143) "java/lang/String" "value" "[B") (Term.int 0)) (Term.int 116)) ∈ flatC (Jvm.Cond.and given_1 narrow_1) := List.mem_of_getElem? (i := 89) rfl
theorem nf_90 : (Cond.eq (Term.elem (Term.field (Term.string "NightStones$Reader" 143) "java/lang/String" "value" "[B") (Term.int 1)) (Term.int 104)) ∈ flatC (Jvm.Cond.and given_1 narrow_1) := List.mem_of_getElem? (i := 90) rfl
theorem nf_91 : (Cond.eq (Term.elem (Term.field (Term.string "NightStones$Reader" 143) "java/lang/String" "value" "[B") (Term.int 2)) (Term.int 105)) ∈ flatC (Jvm.Cond.and given_1 narrow_1) := List.mem_of_getElem? (i := 91) rfl
theorem nf_92 : (Cond.eq (Term.elem (Term.field (Term.string "NightStones$Reader" 143) "java/lang/String" "value" "[B") (Term.int 3)) (Term.int 101)) ∈ flatC (Jvm.Cond.and given_1 narrow_1) := List.mem_of_getElem? (i := 92) rfl
theorem nf_93 : (Cond.eq (Term.elem (Term.field (Term.string "NightStones$Reader" 143) "java/lang/String" "value" "[B") (Term.int 4)) (Term.int 102)) ∈ flatC (Jvm.Cond.and given_1 narrow_1) := List.mem_of_getElem? (i := 93) rfl
theorem nf_94 : (Cond.not (Cond.eq (Term.string "NightStones$Reader" 76) (Term.string "NightStones$Reader" 143))) ∈ flatC (Jvm.Cond.and given_1 narrow_1) := List.mem_of_getElem? (i := 94) rfl
theorem nf_95 : (Cond.not (Cond.eq (Term.string "NightStones$Reader" 104) (Term.string "NightStones$Reader" 143))) ∈ flatC (Jvm.Cond.and given_1 narrow_1) := List.mem_of_getElem? (i := 95) rfl
theorem nf_96 : (Cond.not (Cond.eq (Term.string "NightStones$Reader" 116) (Term.string "NightStones$Reader" 143))) ∈ flatC (Jvm.Cond.and given_1 narrow_1) := List.mem_of_getElem? (i := 96) rfl
theorem nf_97 : (Cond.not (Cond.eq (Term.string "NightStones$Reader" 137) (Term.string "NightStones$Reader" 143))) ∈ flatC (Jvm.Cond.and given_1 narrow_1) := List.mem_of_getElem? (i := 97) rfl
theorem nf_98 : (Cond.not (Cond.eq (Term.string "NightStones$Reader" 139) (Term.string "NightStones$Reader" 143))) ∈ flatC (Jvm.Cond.and given_1 narrow_1) := List.mem_of_getElem? (i := 98) rfl
theorem nf_99 : (Cond.not (Cond.eq (Term.string "NightStones$Reader" 141) (Term.string "NightStones$Reader" 143))) ∈ flatC (Jvm.Cond.and given_1 narrow_1) := List.mem_of_getElem? (i := 99) rfl
theorem nf_100 : (Cond.exactly (Term.string "NightStones$Reader" 145) "java/lang/String") ∈ flatC (Jvm.Cond.and given_1 narrow_1) := List.mem_of_getElem? (i := 100) rfl
theorem nf_101 : (Cond.eq (Term.field (Term.string "NightStones$Reader" 145) "java/lang/String" "coder" "B") (Term.int 0)) ∈ flatC (Jvm.Cond.and given_1 narrow_1) := List.mem_of_getElem? (i := 101) rfl
theorem nf_102 : (Cond.arrayOf (Term.field (Term.string "NightStones$Reader" 145) "java/lang/String" "value" "[B") FieldType.byte) ∈ flatC (Jvm.Cond.and given_1 narrow_1) := List.mem_of_getElem? (i := 102) rfl
theorem nf_103 : (Cond.eq (Term.length (Term.field (Term.string "NightStones$Reader" 145) "java/lang/String" "value" "[B")) (Term.int 6)) ∈ flatC (Jvm.Cond.and given_1 narrow_1) := List.mem_of_getElem? (i := 103) rfl
theorem nf_104 : (Cond.eq (Term.elem (Term.field (Term.string "NightStones$Reader" 145) "java/lang/String" "value" "[B") (Term.int 0)) (Term.int 112)) ∈ flatC (Jvm.Cond.and given_1 narrow_1) := List.mem_of_getElem? (i := 104) rfl
theorem nf_105 : (Cond.eq (Term.elem (Term.field (Term.string "NightStones$Reader" 145) "java/lang/String" "value" "[B") (Term.int 1)) (Term.int 114)) ∈ flatC (Jvm.Cond.and given_1 narrow_1) := List.mem_of_getElem? (i := 105) rfl
theorem nf_106 : (Cond.eq (Term.elem (Term.field (Term.string "NightStones$Reader" 145) "java/lang/String" "value" "[B") (Term.int 2)) (Term.int 105)) ∈ flatC (Jvm.Cond.and given_1 narrow_1) := List.mem_of_getElem? (i := 106) rfl
theorem nf_107 : (Cond.eq (Term.elem (Term.field (Term.string "NightStones$Reader" 145) "java/lang/String" "value" "[B") (Term.int 3)) (Term.int 101)) ∈ flatC (Jvm.Cond.and given_1 narrow_1) := List.mem_of_getElem? (i := 107) rfl
theorem nf_108 : (Cond.eq (Term.elem (Term.field (Term.string "NightStones$Reader" 145) "java/lang/String" "value" "[B") (Term.int 4)) (Term.int 115)) ∈ flatC (Jvm.Cond.and given_1 narrow_1) := List.mem_of_getElem? (i := 108) rfl
theorem nf_109 : (Cond.eq (Term.elem (Term.field (Term.string "NightStones$Reader" 145) "java/lang/String" "value" "[B") (Term.int 5)) (Term.int 116)) ∈ flatC (Jvm.Cond.and given_1 narrow_1) := List.mem_of_getElem? (i := 109) rfl
theorem nf_110 : (Cond.not (Cond.eq (Term.string "NightStones$Reader" 76) (Term.string "NightStones$Reader" 145))) ∈ flatC (Jvm.Cond.and given_1 narrow_1) := List.mem_of_getElem? (i := 110) rfl
theorem nf_111 : (Cond.not (Cond.eq (Term.string "NightStones$Reader" 104) (Term.string "NightStones$Reader" 145))) ∈ flatC (Jvm.Cond.and given_1 narrow_1) := List.mem_of_getElem? (i := 111) rfl
theorem nf_112 : (Cond.not (Cond.eq (Term.string "NightStones$Reader" 116) (Term.string "NightStones$Reader" 145))) ∈ flatC (Jvm.Cond.and given_1 narrow_1) := List.mem_of_getElem? (i := 112) rfl
theorem nf_113 : (Cond.not (Cond.eq (Term.string "NightStones$Reader" 137) (Term.string "NightStones$Reader" 145))) ∈ flatC (Jvm.Cond.and given_1 narrow_1) := List.mem_of_getElem? (i := 113) rfl
theorem nf_114 : (Cond.not (Cond.eq (Term.string "NightStones$Reader" 139) (Term.string "NightStones$Reader" 145))) ∈ flatC (Jvm.Cond.and given_1 narrow_1) := List.mem_of_getElem? (i := 114) rfl
theorem nf_115 : (Cond.not (Cond.eq (Term.string "NightStones$Reader" 141) (Term.string "NightStones$Reader" 145))) ∈ flatC (Jvm.Cond.and given_1 narrow_1) := List.mem_of_getElem? (i := 115) rfl
theorem nf_116 : (Cond.not (Cond.eq (Term.string "NightStones$Reader" 143) (Term.string "NightStones$Reader" 145))) ∈ flatC (Jvm.Cond.and given_1 narrow_1) := List.mem_of_getElem? (i := 116) rfl
set_option maxRecDepth 100000 in
theorem nz_nest_tbl : nz_nest = ([28, 50, 56, 61, 62, 64, 65, 67, 68, 70, 71, 73, 74, 76, 77, 78, 79, 80, 82, 83, 84, 85, 87, 88, 89, 91, 92, 93, 95, 96, 97, 99, 100, 101, 102, 103, 105, 106, 107, 109, 110, 111, 113, 114, 116, 118, 119, 121, 160, 184, 188, 195, 205, 215, 228, 274, 286, 298, 310, 318, 322, 333, 334, 342, 347, 355, 477, 481, 485, 490, 504, 509, 531, 539, 546, 554, 570, 579, 580, 584, 592, 604, 605, 627, 631, 639, 650, 655, 656, 665, 682, 690, 698, 703, 710, 714, 730, 738, 743, 748, 752, 781, 793, 802] : List Nat).filterMap (fun i => tables_1[i]?) := rfl
theorem nz_nest_in : ∀ w ∈ nz_nest, w ∈ lw_tbl := by
  intro w hw
  rw [nz_nest_tbl] at hw
  obtain ⟨i, -, hi⟩ := List.mem_filterMap.mp hw
  exact List.mem_append_right _ (List.mem_of_getElem? hi)
theorem tw_s0 : Cond.stringRef RX4 76 "law" ∈ lw_tbl := List.mem_append_right _ (List.mem_append_right _ (List.mem_append_left _ (List.mem_of_getElem? (i := 143) rfl)))
theorem tw_s1 : Cond.stringRef RX4 104 "stone" ∈ lw_tbl := List.mem_append_right _ (List.mem_append_right _ (List.mem_append_left _ (List.mem_of_getElem? (i := 216) rfl)))
theorem tw_s2 : Cond.stringRef RX4 116 "mover" ∈ lw_tbl := List.mem_append_right _ (List.mem_append_right _ (List.mem_append_left _ (List.mem_of_getElem? (i := 221) rfl)))
theorem tw_s3 : Cond.stringRef RX4 137 "inn" ∈ lw_tbl := List.mem_append_right _ (List.mem_append_right _ (List.mem_append_left _ (List.mem_of_getElem? (i := 230) rfl)))
theorem tw_s4 : Cond.stringRef RX4 139 "carter" ∈ lw_tbl := List.mem_append_right _ (List.mem_append_right _ (List.mem_append_left _ (List.mem_of_getElem? (i := 231) rfl)))
theorem tw_s5 : Cond.stringRef RX4 141 "parish" ∈ lw_tbl := List.mem_append_right _ (List.mem_append_right _ (List.mem_append_left _ (List.mem_of_getElem? (i := 232) rfl)))
theorem tw_s6 : Cond.stringRef RX4 143 "thief" ∈ lw_tbl := List.mem_append_right _ (List.mem_append_right _ (List.mem_append_left _ (List.mem_of_getElem? (i := 233) rfl)))
theorem tw_s7 : Cond.stringRef RX4 145 "priest" ∈ lw_tbl := List.mem_append_right _ (List.mem_append_right _ (List.mem_append_left _ (List.mem_of_getElem? (i := 234) rfl)))
theorem tw_lA : Cond.laysStatic RX1 "ARE" "[I" ∈ lw_tbl := List.mem_append_right _ (List.mem_append_right _ (List.mem_append_right _ (List.mem_append_right _ (List.mem_append_left _ (List.mem_of_getElem? (i := 22) rfl)))))
theorem tw_iA : Cond.initialized RX1 ∈ lw_tbl := List.mem_append_right _ (List.mem_append_left _ (List.mem_of_getElem? (i := 9) rfl))
theorem tw_lC : Cond.laysStatic "java/lang/String" "COMPACT_STRINGS" "Z" ∈ lw_tbl := List.mem_append_right _ (List.mem_append_right _ (List.mem_append_left _ (List.mem_of_getElem? (i := 161) rfl)))
theorem tw_iC : Cond.initialized "java/lang/String" ∈ lw_tbl := List.mem_append_right _ (List.mem_append_left _ (List.mem_of_getElem? (i := 12) rfl))
theorem tw_lS : Cond.laysStatic "jdk/internal/util/Preconditions" "SIOOBE_FORMATTER" "Ljava/util/function/BiFunction;" ∈ lw_tbl := List.mem_append_right _ (List.mem_append_right _ (List.mem_append_left _ (List.mem_of_getElem? (i := 177) rfl)))
theorem tw_iS : Cond.initialized "jdk/internal/util/Preconditions" ∈ lw_tbl := List.mem_append_right _ (List.mem_append_left _ (List.mem_of_getElem? (i := 14) rfl))
theorem tw_aI : Cond.arrayClass .int ∈ lw_tbl := List.mem_append_right _ (List.mem_append_left _ (List.mem_of_getElem? (i := 47) rfl))
theorem tw_aZ : Cond.arrayClass .boolean ∈ lw_tbl := List.mem_append_right _ (List.mem_append_right _ (List.mem_append_right _ (List.mem_append_right _ (List.mem_append_left _ (List.mem_of_getElem? (i := 175) rfl)))))
theorem tw_oR : Cond.arrayOver (.object "NightStones$Road") ∈ lw_tbl := List.mem_append_right _ (List.mem_append_left _ (List.mem_of_getElem? (i := 185) rfl))
theorem tw_oI : Cond.arrayOver (.array .int) ∈ lw_tbl := List.mem_append_right _ (List.mem_append_left _ (List.mem_of_getElem? (i := 33) rfl))
theorem tw_n0 : Cond.instantiable RX0 3 ∈ lw_tbl := List.mem_append_right _ (List.mem_append_left _ (List.mem_of_getElem? (i := 187) rfl))
theorem tw_n1 : Cond.instantiable RX1 2 ∈ lw_tbl := List.mem_append_right _ (List.mem_append_left _ (List.mem_of_getElem? (i := 227) rfl))
theorem tw_n2 : Cond.instantiable RX2 2 ∈ lw_tbl := List.mem_append_right _ (List.mem_append_left _ (List.mem_of_getElem? (i := 214) rfl))
theorem tw_n3 : Cond.instantiable RX3 1 ∈ lw_tbl := List.mem_append_right _ (List.mem_append_left _ (List.mem_of_getElem? (i := 204) rfl))
theorem tw_n4 : Cond.instantiable RX4 8 ∈ lw_tbl := List.mem_append_right _ (List.mem_append_left _ (List.mem_of_getElem? (i := 49) rfl))
theorem tw_n5 : Cond.instantiable RX5 17 ∈ lw_tbl := List.mem_append_right _ (List.mem_append_left _ (List.mem_of_getElem? (i := 55) rfl))
theorem tw_n6 : Cond.instantiable RX6 3 ∈ lw_tbl := List.mem_append_right _ (List.mem_append_left _ (List.mem_of_getElem? (i := 27) rfl))
theorem tw_n7 : Cond.instantiable RX7 10 ∈ lw_tbl := List.mem_append_right _ (List.mem_append_left _ (List.mem_of_getElem? (i := 19) rfl))
theorem tw_n8 : Cond.instantiable RX8 26 ∈ lw_tbl := List.mem_append_right _ (List.mem_append_right _ (List.mem_append_right _ (List.mem_append_right _ (List.mem_append_left _ (List.mem_of_getElem? (i := 91) rfl)))))
theorem nz_vkR {own tx : String} {k a : Nat} {A : Array Value} {U : State} (h1 : (Cond.stringRef own k tx).before A U = true) (h2 : (Term.string own k).eval A U none [] U = some (.ref a)) : vk_R own k tx a U := vk_R.of h1 h2
set_option maxHeartbeats 4000000 in
set_option maxRecDepth 100000 in
theorem nz_str {args : Array Value} {s : State} {A : Nat → Prop} (hs : ∀ c ∈ flatC (Jvm.Cond.and given_1 narrow_1), c.before args s = true) (hA : ∀ a : Nat, a < s.heap.size → ¬ A a) : ∃ adK adV : Nat → Nat, vk_S 8 nz_len nz_byt adK adV A s s.heap ∧ ∀ i : Nat, i < 8 → (Term.string RX4 ((nz_txt.getD i (0, "")).1)).eval args s none [] s = some (.ref (adK i)) :=
  vk_Sof (N := 8) (tm := fun i => Term.string RX4 ((nz_txt.getD i (0, "")).1)) (len := nz_len) (byt := nz_byt) (nz_8 (by decide) (by decide) (by decide) (by decide) (by decide) (by decide) (by decide) (by decide)) (nz_8 (hs _ (nf_18)) (hs _ (nf_25)) (hs _ (nf_35)) (hs _ (nf_46)) (hs _ (nf_56)) (hs _ (nf_70)) (hs _ (nf_85)) (hs _ (nf_100))) (nz_8 (hs _ (nf_19)) (hs _ (nf_26)) (hs _ (nf_36)) (hs _ (nf_47)) (hs _ (nf_57)) (hs _ (nf_71)) (hs _ (nf_86)) (hs _ (nf_101))) (nz_8 (hs _ (nf_20)) (hs _ (nf_27)) (hs _ (nf_37)) (hs _ (nf_48)) (hs _ (nf_58)) (hs _ (nf_72)) (hs _ (nf_87)) (hs _ (nf_102))) (nz_8 (hs _ (nf_21)) (hs _ (nf_28)) (hs _ (nf_38)) (hs _ (nf_49)) (hs _ (nf_59)) (hs _ (nf_73)) (hs _ (nf_88)) (hs _ (nf_103))) (nz_8 (nz_lt3 (hs _ (nf_22)) (hs _ (nf_23)) (hs _ (nf_24))) (nz_lt5 (hs _ (nf_29)) (hs _ (nf_30)) (hs _ (nf_31)) (hs _ (nf_32)) (hs _ (nf_33))) (nz_lt5 (hs _ (nf_39)) (hs _ (nf_40)) (hs _ (nf_41)) (hs _ (nf_42)) (hs _ (nf_43))) (nz_lt3 (hs _ (nf_50)) (hs _ (nf_51)) (hs _ (nf_52))) (nz_lt6 (hs _ (nf_60)) (hs _ (nf_61)) (hs _ (nf_62)) (hs _ (nf_63)) (hs _ (nf_64)) (hs _ (nf_65))) (nz_lt6 (hs _ (nf_74)) (hs _ (nf_75)) (hs _ (nf_76)) (hs _ (nf_77)) (hs _ (nf_78)) (hs _ (nf_79))) (nz_lt5 (hs _ (nf_89)) (hs _ (nf_90)) (hs _ (nf_91)) (hs _ (nf_92)) (hs _ (nf_93))) (nz_lt6 (hs _ (nf_104)) (hs _ (nf_105)) (hs _ (nf_106)) (hs _ (nf_107)) (hs _ (nf_108)) (hs _ (nf_109)))) (fun i j hi hj => nz_8 (P := fun i => ∀ j : Nat, j < 8 → i ≠ j → ((Cond.eq (Term.string RX4 ((nz_txt.getD i (0, "")).1)) (Term.string RX4 ((nz_txt.getD j (0, "")).1))).not.before args s = true ∨ (Cond.eq (Term.string RX4 ((nz_txt.getD j (0, "")).1)) (Term.string RX4 ((nz_txt.getD i (0, "")).1))).not.before args s = true)) (nz_8 (fun h => absurd rfl h) (fun _ => Or.inl (hs _ (nf_34))) (fun _ => Or.inl (hs _ (nf_44))) (fun _ => Or.inl (hs _ (nf_53))) (fun _ => Or.inl (hs _ (nf_66))) (fun _ => Or.inl (hs _ (nf_80))) (fun _ => Or.inl (hs _ (nf_94))) (fun _ => Or.inl (hs _ (nf_110)))) (nz_8 (fun _ => Or.inr (hs _ (nf_34))) (fun h => absurd rfl h) (fun _ => Or.inl (hs _ (nf_45))) (fun _ => Or.inl (hs _ (nf_54))) (fun _ => Or.inl (hs _ (nf_67))) (fun _ => Or.inl (hs _ (nf_81))) (fun _ => Or.inl (hs _ (nf_95))) (fun _ => Or.inl (hs _ (nf_111)))) (nz_8 (fun _ => Or.inr (hs _ (nf_44))) (fun _ => Or.inr (hs _ (nf_45))) (fun h => absurd rfl h) (fun _ => Or.inl (hs _ (nf_55))) (fun _ => Or.inl (hs _ (nf_68))) (fun _ => Or.inl (hs _ (nf_82))) (fun _ => Or.inl (hs _ (nf_96))) (fun _ => Or.inl (hs _ (nf_112)))) (nz_8 (fun _ => Or.inr (hs _ (nf_53))) (fun _ => Or.inr (hs _ (nf_54))) (fun _ => Or.inr (hs _ (nf_55))) (fun h => absurd rfl h) (fun _ => Or.inl (hs _ (nf_69))) (fun _ => Or.inl (hs _ (nf_83))) (fun _ => Or.inl (hs _ (nf_97))) (fun _ => Or.inl (hs _ (nf_113)))) (nz_8 (fun _ => Or.inr (hs _ (nf_66))) (fun _ => Or.inr (hs _ (nf_67))) (fun _ => Or.inr (hs _ (nf_68))) (fun _ => Or.inr (hs _ (nf_69))) (fun h => absurd rfl h) (fun _ => Or.inl (hs _ (nf_84))) (fun _ => Or.inl (hs _ (nf_98))) (fun _ => Or.inl (hs _ (nf_114)))) (nz_8 (fun _ => Or.inr (hs _ (nf_80))) (fun _ => Or.inr (hs _ (nf_81))) (fun _ => Or.inr (hs _ (nf_82))) (fun _ => Or.inr (hs _ (nf_83))) (fun _ => Or.inr (hs _ (nf_84))) (fun h => absurd rfl h) (fun _ => Or.inl (hs _ (nf_99))) (fun _ => Or.inl (hs _ (nf_115)))) (nz_8 (fun _ => Or.inr (hs _ (nf_94))) (fun _ => Or.inr (hs _ (nf_95))) (fun _ => Or.inr (hs _ (nf_96))) (fun _ => Or.inr (hs _ (nf_97))) (fun _ => Or.inr (hs _ (nf_98))) (fun _ => Or.inr (hs _ (nf_99))) (fun h => absurd rfl h) (fun _ => Or.inl (hs _ (nf_116)))) (nz_8 (fun _ => Or.inr (hs _ (nf_110))) (fun _ => Or.inr (hs _ (nf_111))) (fun _ => Or.inr (hs _ (nf_112))) (fun _ => Or.inr (hs _ (nf_113))) (fun _ => Or.inr (hs _ (nf_114))) (fun _ => Or.inr (hs _ (nf_115))) (fun _ => Or.inr (hs _ (nf_116))) (fun h => absurd rfl h)) i hi j hj) hA
theorem nz_areF {args : Array Value} {s : State} {A : Nat → Prop} (hs : ∀ c ∈ flatC (Jvm.Cond.and given_1 narrow_1), c.before args s = true) (hA : ∀ a : Nat, a < s.heap.size → ¬ A a) : ∃ t : Nat, (Term.static RX1 "ARE" "[I").eval args s none [] s = some (.ref t) ∧ va_T .int t 6 (fun j => .int (nz_are.getD j 0)) A s s.heap :=
  va_Tof (tm := Term.static RX1 "ARE" "[I") (N := 6) (f := fun j => .int (nz_are.getD j 0)) (by decide) (hs _ (nf_10)) (va_eqt (hs _ (nf_11))) (nz_lt6 (va_eqt (hs _ (nf_12))) (va_eqt (hs _ (nf_13))) (va_eqt (hs _ (nf_14))) (va_eqt (hs _ (nf_15))) (va_eqt (hs _ (nf_16))) (va_eqt (hs _ (nf_17)))) hA
theorem nz_arrK {args : Array Value} {s : State} {ty : FieldType} (h : (Cond.arrayClass ty).before args s = true) (hty : ∀ c : ClassId, s.vm.findClass ("[" ++ ty.toString) = some c → va_RA s c ty) : ∃ c : ClassId, ArrOfT s c ty ∧ va_RA s c ty := by
  obtain ⟨c, k, comp, h1, h2, h3⟩ := Cond.arrayClass_spec h
  exact ⟨c, fun n z => ⟨(fun k h => by cases h), k, h2, comp, h3⟩, hty c h1⟩
theorem nz_arrO {s : State} (h : va_AO "NightStones$Road" s) : ∃ c : ClassId, ArrOfT s c (.object "NightStones$Road") ∧ va_RA s c (.object "NightStones$Road") := by
  obtain ⟨comp, c, k, h1, h2, h3, h4, h5⟩ := Cond.arrayOver_spec h
  exact ⟨c, fun n z => ⟨(fun k h => by cases h), k, h3, comp, h4⟩, k, comp, h3, h4, h1, h5⟩
theorem nz_arrA {s : State} (h : nz_AOA .int s) : ∃ c : ClassId, ArrOfT s c (.array .int) ∧ va_RA s c (.array .int) := by
  obtain ⟨comp, c, k, h1, h2, h3, h4, h5⟩ := arrayOver_specB h
  exact ⟨c, fun n z => ⟨(fun k h => by cases h), k, h3, comp, h4⟩, h5⟩
set_option maxHeartbeats 4000000 in
set_option maxRecDepth 100000 in
theorem nz_begin {args : Array Value} {s : State} (hts : ∀ w ∈ lw_tbl, w.before args s = true) (hgv : (Jvm.Cond.and given_1 narrow_1).before args s = true) : ∃ g : nz_G, va_K (nz_D g) vwCl (nz_T g) s ∧ nz_E g (fun q : Nat => s.heap.size ≤ q) s ∧ nz_O s := by
  have hs := flat_of_before _ hgv
  have hA : ∀ a : Nat, a < s.heap.size → ¬ (fun q : Nat => s.heap.size ≤ q) a := fun a h q => absurd h (Nat.not_lt.mpr q)
  obtain ⟨c0, i0, hk0⟩ := u_known (C := RX0) (T := TX0) (N := 3) (n := 3) hts inX0 (hts _ tw_n0)
  obtain ⟨c1, i1, hk1⟩ := u_known (C := RX1) (T := TX1) (N := 2) (n := 2) hts inX1 (hts _ tw_n1)
  obtain ⟨c2, i2, hk2⟩ := u_known (C := RX2) (T := TX2) (N := 2) (n := 2) hts inX2 (hts _ tw_n2)
  obtain ⟨c3, i3, hk3⟩ := u_known (C := RX3) (T := TX3) (N := 1) (n := 1) hts inX3 (hts _ tw_n3)
  obtain ⟨c4, i4, hk4⟩ := u_known (C := RX4) (T := TX4) (N := 8) (n := 8) hts inX4 (hts _ tw_n4)
  obtain ⟨c5, i5, hk5⟩ := u_known (C := RX5) (T := TX5) (N := 17) (n := 17) hts inX5 (hts _ tw_n5)
  obtain ⟨c6, i6, hk6⟩ := u_known (C := RX6) (T := TX6) (N := 3) (n := 3) hts inX6 (hts _ tw_n6)
  obtain ⟨c7, i7, hk7⟩ := u_known (C := RX7) (T := TX7) (N := 10) (n := 10) hts inX7 (hts _ tw_n7)
  obtain ⟨c8, i8, hk8⟩ := u_known (C := RX8) (T := TX8) (N := 26) (n := 26) hts inX8 (hts _ tw_n8)
  have hO : nz_O s := ⟨hts _ tw_oR, hts _ tw_oI⟩
  obtain ⟨cI, aI, rI⟩ := nz_arrK (ty := .int) (hts _ tw_aI) (fun c h => h)
  obtain ⟨cZ, aZ, rZ⟩ := nz_arrK (ty := .boolean) (hts _ tw_aZ) (fun c h => h)
  obtain ⟨cR, aR, rR⟩ := nz_arrO hO.1
  obtain ⟨cA, aA, rA⟩ := nz_arrA hO.2
  obtain ⟨adK, adV, hvk, hst⟩ := nz_str (A := fun q : Nat => s.heap.size ≤ q) hs hA
  obtain ⟨t, ht, hT⟩ := nz_areF (A := fun q : Nat => s.heap.size ≤ q) hs hA
  have hZ1 := va_Zof (v := .ref t) (hts _ tw_lA) (hts _ tw_iA) ht hA
  have hZ2 := va_Zof (v := .int 1) (hts _ tw_lC) (hts _ tw_iC) (va_eqt (hs _ (nf_4))) hA
  have hZ3 := va_Zqof (hts _ tw_lS) (hts _ tw_iS) (hs _ (nf_5)) hA
  refine ⟨((fun k => match k with | 0 => c0 | 1 => c1 | 2 => c2 | 3 => c3 | 4 => c4 | 5 => c5 | 6 => c6 | 7 => c7 | _ => c8, fun k => match k with | 0 => i0 | 1 => i1 | 2 => i2 | 3 => i3 | 4 => i4 | 5 => i5 | 6 => i6 | 7 => i7 | _ => i8), (cI, cZ, cR, cA), adK, adV, t), ⟨?_, ?_⟩, ⟨⟨?_, ?_⟩, hvk, hZ1, hT, hZ2, hZ3⟩, hO⟩
  · intro k q hq
    match k, hq with
    | 0, hq => cases hq; exact hk0
    | 1, hq => cases hq; exact hk1
    | 2, hq => cases hq; exact hk2
    | 3, hq => cases hq; exact hk3
    | 4, hq => cases hq; exact hk4
    | 5, hq => cases hq; exact hk5
    | 6, hq => cases hq; exact hk6
    | 7, hq => cases hq; exact hk7
    | 8, hq => cases hq; exact hk8
    | k + 9, hq => simp [vwCl] at hq
  · intro k q hq
    match k, hq with
    | 0, hq => cases hq; exact ⟨aI, rI⟩
    | 1, hq => cases hq; exact ⟨aZ, rZ⟩
    | 2, hq => cases hq; exact ⟨aR, rR⟩
    | 3, hq => cases hq; exact ⟨aA, rA⟩
    | k + 4, hq => simp [nz_T] at hq
  · intro w hw
    have h1 := hts w (nz_nest_in w hw)
    have h2 := List.all_eq_true.mp nz_nest_is w hw
    match w, h1, h2 with
    | .fieldLinkNest a i b n d hh, h1, _ => exact va_Nw.of rfl h1
    | .methodLinkNest a i x hh, h1, _ => exact va_Nw.of rfl h1
  · intro i q hq
    match i, hq with
    | 0, hq => cases hq; exact nz_vkR (hts _ tw_s0) (hst 0 (by decide))
    | 1, hq => cases hq; exact nz_vkR (hts _ tw_s1) (hst 1 (by decide))
    | 2, hq => cases hq; exact nz_vkR (hts _ tw_s2) (hst 2 (by decide))
    | 3, hq => cases hq; exact nz_vkR (hts _ tw_s3) (hst 3 (by decide))
    | 4, hq => cases hq; exact nz_vkR (hts _ tw_s4) (hst 4 (by decide))
    | 5, hq => cases hq; exact nz_vkR (hts _ tw_s5) (hst 5 (by decide))
    | 6, hq => cases hq; exact nz_vkR (hts _ tw_s6) (hst 6 (by decide))
    | 7, hq => cases hq; exact nz_vkR (hts _ tw_s7) (hst 7 (by decide))
    | i + 8, hq => simp [nz_txt] at hq
