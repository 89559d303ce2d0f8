theorem dX8_road_0 : decode cX8_road 0 = .ok (.aload_n 0, 1) := by decide +kernel
theorem dX8_road_1 : decode cX8_road 1 = .ok (.iconst 0, 1) := by decide +kernel
theorem dX8_road_2 : decode cX8_road 2 = .ok (.putfield 50, 3) := by decide +kernel
theorem dX8_road_5 : decode cX8_road 5 = .ok (.aload_n 0, 1) := by decide +kernel
theorem dX8_road_6 : decode cX8_road 6 = .ok (.invokevirtual 158, 3) := by decide +kernel
theorem dX8_road_9 : decode cX8_road 9 = .ok (.iconst 0, 1) := by decide +kernel
theorem dX8_road_10 : decode cX8_road 10 = .ok (.istore_n 1, 1) := by decide +kernel
theorem dX8_road_11 : decode cX8_road 11 = .ok (.iload_n 1, 1) := by decide +kernel
theorem dX8_road_12 : decode cX8_road 12 = .ok (.bipush 94, 2) := by decide +kernel
theorem dX8_road_14 : decode cX8_road 14 = .ok (.if_icmp .ge 16, 3) := by decide +kernel
theorem dX8_road_17 : decode cX8_road 17 = .ok (.aload_n 0, 1) := by decide +kernel
theorem dX8_road_18 : decode cX8_road 18 = .ok (.getfield 22, 3) := by decide +kernel
theorem dX8_road_21 : decode cX8_road 21 = .ok (.iload_n 1, 1) := by decide +kernel
theorem dX8_road_22 : decode cX8_road 22 = .ok (.iconst 0, 1) := by decide +kernel
theorem dX8_road_23 : decode cX8_road 23 = .ok (.iastore, 1) := by decide +kernel
theorem dX8_road_24 : decode cX8_road 24 = .ok (.iinc 1 1, 3) := by decide +kernel
theorem dX8_road_27 : decode cX8_road 27 = .ok (.goto (-16), 3) := by decide +kernel
theorem dX8_road_30 : decode cX8_road 30 = .ok (.aload_n 0, 1) := by decide +kernel
theorem dX8_road_31 : decode cX8_road 31 = .ok (.aload_n 0, 1) := by decide +kernel
theorem dX8_road_32 : decode cX8_road 32 = .ok (.invokevirtual 150, 3) := by decide +kernel
theorem dX8_road_35 : decode cX8_road 35 = .ok (.ldc2_w 161, 3) := by decide +kernel
theorem dX8_road_38 : decode cX8_road 38 = .ok (.lcmp, 1) := by decide +kernel
theorem dX8_road_39 : decode cX8_road 39 = .ok (.ifCond .ne 7, 3) := by decide +kernel
theorem dX8_road_42 : decode cX8_road 42 = .ok (.iconst 1, 1) := by decide +kernel
theorem dX8_road_43 : decode cX8_road 43 = .ok (.goto 4, 3) := by decide +kernel
theorem dX8_road_46 : decode cX8_road 46 = .ok (.iconst 0, 1) := by decide +kernel
theorem dX8_road_47 : decode cX8_road 47 = .ok (.invokevirtual 125, 3) := by decide +kernel
theorem dX8_road_50 : decode cX8_road 50 = .ok (.aload_n 0, 1) := by decide +kernel
theorem dX8_road_51 : decode cX8_road 51 = .ok (.getfield 22, 3) := by decide +kernel
theorem dX8_road_54 : decode cX8_road 54 = .ok (.iconst 0, 1) := by decide +kernel
theorem dX8_road_55 : decode cX8_road 55 = .ok (.aload_n 0, 1) := by decide +kernel
theorem dX8_road_56 : decode cX8_road 56 = .ok (.bipush 10, 2) := by decide +kernel
theorem dX8_road_58 : decode cX8_road 58 = .ok (.sipush 200, 3) := by decide +kernel
theorem dX8_road_61 : decode cX8_road 61 = .ok (.invokevirtual 143, 3) := by decide +kernel
theorem dX8_road_64 : decode cX8_road 64 = .ok (.iastore, 1) := by decide +kernel
theorem dX8_road_65 : decode cX8_road 65 = .ok (.aload_n 0, 1) := by decide +kernel
theorem dX8_road_66 : decode cX8_road 66 = .ok (.getfield 22, 3) := by decide +kernel
theorem dX8_road_69 : decode cX8_road 69 = .ok (.iconst 1, 1) := by decide +kernel
theorem dX8_road_70 : decode cX8_road 70 = .ok (.aload_n 0, 1) := by decide +kernel
theorem dX8_road_71 : decode cX8_road 71 = .ok (.iconst 0, 1) := by decide +kernel
theorem dX8_road_72 : decode cX8_road 72 = .ok (.bipush 20, 2) := by decide +kernel
theorem dX8_road_74 : decode cX8_road 74 = .ok (.invokevirtual 143, 3) := by decide +kernel
theorem dX8_road_77 : decode cX8_road 77 = .ok (.iastore, 1) := by decide +kernel
theorem dX8_road_78 : decode cX8_road 78 = .ok (.aload_n 0, 1) := by decide +kernel
theorem dX8_road_79 : decode cX8_road 79 = .ok (.getfield 22, 3) := by decide +kernel
theorem dX8_road_82 : decode cX8_road 82 = .ok (.iconst 2, 1) := by decide +kernel
theorem dX8_road_83 : decode cX8_road 83 = .ok (.aload_n 0, 1) := by decide +kernel
theorem dX8_road_84 : decode cX8_road 84 = .ok (.iconst 0, 1) := by decide +kernel
theorem dX8_road_85 : decode cX8_road 85 = .ok (.bipush 100, 2) := by decide +kernel
theorem dX8_road_87 : decode cX8_road 87 = .ok (.invokevirtual 143, 3) := by decide +kernel
theorem dX8_road_90 : decode cX8_road 90 = .ok (.iastore, 1) := by decide +kernel
theorem dX8_road_91 : decode cX8_road 91 = .ok (.aload_n 0, 1) := by decide +kernel
theorem dX8_road_92 : decode cX8_road 92 = .ok (.getfield 22, 3) := by decide +kernel
theorem dX8_road_95 : decode cX8_road 95 = .ok (.iconst 3, 1) := by decide +kernel
theorem dX8_road_96 : decode cX8_road 96 = .ok (.aload_n 0, 1) := by decide +kernel
theorem dX8_road_97 : decode cX8_road 97 = .ok (.iconst 0, 1) := by decide +kernel
theorem dX8_road_98 : decode cX8_road 98 = .ok (.bipush 99, 2) := by decide +kernel
theorem dX8_road_100 : decode cX8_road 100 = .ok (.invokevirtual 143, 3) := by decide +kernel
theorem dX8_road_103 : decode cX8_road 103 = .ok (.iastore, 1) := by decide +kernel
theorem dX8_road_104 : decode cX8_road 104 = .ok (.aload_n 0, 1) := by decide +kernel
theorem dX8_road_105 : decode cX8_road 105 = .ok (.invokevirtual 147, 3) := by decide +kernel
theorem dX8_road_108 : decode cX8_road 108 = .ok (.aload_n 0, 1) := by decide +kernel
theorem dX8_road_109 : decode cX8_road 109 = .ok (.invokevirtual 150, 3) := by decide +kernel
theorem dX8_road_112 : decode cX8_road 112 = .ok (.ldc2_w 163, 3) := by decide +kernel
theorem dX8_road_115 : decode cX8_road 115 = .ok (.lcmp, 1) := by decide +kernel
theorem dX8_road_116 : decode cX8_road 116 = .ok (.ifCond .ne 10, 3) := by decide +kernel
theorem dX8_road_119 : decode cX8_road 119 = .ok (.aload_n 0, 1) := by decide +kernel
theorem dX8_road_120 : decode cX8_road 120 = .ok (.invokevirtual 165, 3) := by decide +kernel
theorem dX8_road_123 : decode cX8_road 123 = .ok (.goto (-15), 3) := by decide +kernel
theorem dX8_road_126 : decode cX8_road 126 = .ok (.aload_n 0, 1) := by decide +kernel
theorem dX8_road_127 : decode cX8_road 127 = .ok (.invokevirtual 150, 3) := by decide +kernel
theorem dX8_road_130 : decode cX8_road 130 = .ok (.ldc2_w 168, 3) := by decide +kernel
theorem dX8_road_133 : decode cX8_road 133 = .ok (.lcmp, 1) := by decide +kernel
theorem dX8_road_134 : decode cX8_road 134 = .ok (.ifCond .ne 10, 3) := by decide +kernel
theorem dX8_road_137 : decode cX8_road 137 = .ok (.aload_n 0, 1) := by decide +kernel
theorem dX8_road_138 : decode cX8_road 138 = .ok (.invokevirtual 170, 3) := by decide +kernel
theorem dX8_road_141 : decode cX8_road 141 = .ok (.goto (-15), 3) := by decide +kernel
theorem dX8_road_144 : decode cX8_road 144 = .ok (.aload_n 0, 1) := by decide +kernel
theorem dX8_road_145 : decode cX8_road 145 = .ok (.getfield 108, 3) := by decide +kernel
theorem dX8_road_148 : decode cX8_road 148 = .ok (.ifCond .ne 16, 3) := by decide +kernel
theorem dX8_road_151 : decode cX8_road 151 = .ok (.aload_n 0, 1) := by decide +kernel
theorem dX8_road_152 : decode cX8_road 152 = .ok (.getfield 96, 3) := by decide +kernel
theorem dX8_road_155 : decode cX8_road 155 = .ok (.iconst 1, 1) := by decide +kernel
theorem dX8_road_156 : decode cX8_road 156 = .ok (.if_icmp .eq 8, 3) := by decide +kernel
theorem dX8_road_159 : decode cX8_road 159 = .ok (.aload_n 0, 1) := by decide +kernel
theorem dX8_road_160 : decode cX8_road 160 = .ok (.iconst 1, 1) := by decide +kernel
theorem dX8_road_161 : decode cX8_road 161 = .ok (.invokevirtual 117, 3) := by decide +kernel
theorem dX8_road_164 : decode cX8_road 164 = .ok (.aload_n 0, 1) := by decide +kernel
theorem dX8_road_165 : decode cX8_road 165 = .ok (.getfield 108, 3) := by decide +kernel
theorem dX8_road_168 : decode cX8_road 168 = .ok (.ifCond .le 19, 3) := by decide +kernel
theorem dX8_road_171 : decode cX8_road 171 = .ok (.aload_n 0, 1) := by decide +kernel
theorem dX8_road_172 : decode cX8_road 172 = .ok (.aload_n 0, 1) := by decide +kernel
theorem dX8_road_173 : decode cX8_road 173 = .ok (.getfield 108, 3) := by decide +kernel
theorem dX8_road_176 : decode cX8_road 176 = .ok (.putfield 173, 3) := by decide +kernel
theorem dX8_road_179 : decode cX8_road 179 = .ok (.ldc 176, 2) := by decide +kernel
theorem dX8_road_181 : decode cX8_road 181 = .ok (.aload_n 0, 1) := by decide +kernel
theorem dX8_road_182 : decode cX8_road 182 = .ok (.getfield 114, 3) := by decide +kernel
theorem dX8_road_185 : decode cX8_road 185 = .ok (.isub, 1) := by decide +kernel
theorem dX8_road_186 : decode cX8_road 186 = .ok (.ireturn, 1) := by decide +kernel
theorem dX8_road_187 : decode cX8_road 187 = .ok (.aload_n 0, 1) := by decide +kernel
theorem dX8_road_188 : decode cX8_road 188 = .ok (.iconst 0, 1) := by decide +kernel
theorem dX8_road_189 : decode cX8_road 189 = .ok (.putfield 177, 3) := by decide +kernel
theorem dX8_road_192 : decode cX8_road 192 = .ok (.iconst 0, 1) := by decide +kernel
theorem dX8_road_193 : decode cX8_road 193 = .ok (.istore_n 1, 1) := by decide +kernel
theorem dX8_road_194 : decode cX8_road 194 = .ok (.iload_n 1, 1) := by decide +kernel
theorem dX8_road_195 : decode cX8_road 195 = .ok (.bipush 94, 2) := by decide +kernel
theorem dX8_road_197 : decode cX8_road 197 = .ok (.if_icmp .ge 21, 3) := by decide +kernel
theorem dX8_road_200 : decode cX8_road 200 = .ok (.aload_n 0, 1) := by decide +kernel
theorem dX8_road_201 : decode cX8_road 201 = .ok (.getfield 19, 3) := by decide +kernel
theorem dX8_road_204 : decode cX8_road 204 = .ok (.iload_n 1, 1) := by decide +kernel
theorem dX8_road_205 : decode cX8_road 205 = .ok (.aload_n 0, 1) := by decide +kernel
theorem dX8_road_206 : decode cX8_road 206 = .ok (.getfield 22, 3) := by decide +kernel
theorem dX8_road_209 : decode cX8_road 209 = .ok (.iload_n 1, 1) := by decide +kernel
theorem dX8_road_210 : decode cX8_road 210 = .ok (.iaload, 1) := by decide +kernel
theorem dX8_road_211 : decode cX8_road 211 = .ok (.iastore, 1) := by decide +kernel
theorem dX8_road_212 : decode cX8_road 212 = .ok (.iinc 1 1, 3) := by decide +kernel
theorem dX8_road_215 : decode cX8_road 215 = .ok (.goto (-21), 3) := by decide +kernel
theorem dX8_road_218 : decode cX8_road 218 = .ok (.aload_n 0, 1) := by decide +kernel
theorem dX8_road_219 : decode cX8_road 219 = .ok (.getfield 19, 3) := by decide +kernel
theorem dX8_road_222 : decode cX8_road 222 = .ok (.iconst 4, 1) := by decide +kernel
theorem dX8_road_223 : decode cX8_road 223 = .ok (.iaload, 1) := by decide +kernel
theorem dX8_road_224 : decode cX8_road 224 = .ok (.ireturn, 1) := by decide +kernel
set_option maxRecDepth 20000 in
theorem ggX8_road_X8_bad : GoodIn wsX8_road wsX8_bad := goodIn_r _ [50, 6, 25, 10, 86, 87, 88, 89, 90, 91, 92, 93, 94, 95, 96, 97, 98, 99, 100, 101, 102, 103, 104, 105, 106, 107, 108, 109, 110, 111] rfl (by decide +kernel)
set_option maxRecDepth 20000 in
theorem gX8_road_X8_bad : GoodIn wsX8_road (wsV RX8 117 RX8 yX8_bad wsX8_bad) := goodIn_app (goodIn_r _ [47, 48, 49, 16] rfl (by decide +kernel)) ggX8_road_X8_bad
set_option maxRecDepth 20000 in
theorem ggX8_road_X8_begin : GoodIn wsX8_road wsX8_begin := goodIn_r _ [17, 18, 19, 20, 6, 21, 22, 23, 16, 24, 25, 26, 7, 27, 28, 29, 30, 31, 32, 33, 34, 35, 36, 37, 38, 86, 87, 88, 89, 90, 91, 92, 93, 94, 95, 96, 97, 98, 99, 100, 101, 102, 103, 104, 105, 106, 107, 108, 109, 110, 111] rfl (by decide +kernel)
set_option maxRecDepth 20000 in
theorem gX8_road_X8_begin : GoodIn wsX8_road (wsV RX8 158 RX8 yX8_begin wsX8_begin) := goodIn_app (goodIn_r _ [13, 14, 15, 16] rfl (by decide +kernel)) ggX8_road_X8_begin
set_option maxRecDepth 20000 in
theorem ggX8_road_X8_must : GoodIn wsX8_road wsX8_must := goodIn_r _ [46, 6, 47, 48, 49, 16, 50, 25, 10, 21, 22, 23, 24, 20, 26, 7, 27, 28, 29, 30, 31, 19, 32, 33, 34, 35, 36, 37, 38, 86, 87, 88, 89, 90, 91, 92, 93, 94, 95, 96, 97, 98, 99, 100, 101, 102, 103, 104, 105, 106, 107, 108, 109, 110, 111] rfl (by decide +kernel)
set_option maxRecDepth 20000 in
theorem gX8_road_X8_must : GoodIn wsX8_road (wsV RX8 125 RX8 yX8_must wsX8_must) := goodIn_app (goodIn_r _ [43, 44, 45, 16] rfl (by decide +kernel)) ggX8_road_X8_must
set_option maxRecDepth 20000 in
theorem ggX8_road_X8_mustEnd : GoodIn wsX8_road wsX8_mustEnd := goodIn_r _ [65, 6, 7, 43, 44, 45, 16, 46, 47, 48, 49, 50, 25, 10, 21, 22, 23, 24, 20, 26, 27, 28, 29, 30, 31, 19, 32, 33, 34, 35, 36, 37, 38, 86, 87, 88, 89, 90, 91, 92, 93, 94, 95, 96, 97, 98, 99, 100, 101, 102, 103, 104, 105, 106, 107, 108, 109, 110, 111] rfl (by decide +kernel)
set_option maxRecDepth 20000 in
theorem gX8_road_X8_mustEnd : GoodIn wsX8_road (wsV RX8 147 RX8 yX8_mustEnd wsX8_mustEnd) := goodIn_app (goodIn_r _ [62, 63, 64, 16] rfl (by decide +kernel)) ggX8_road_X8_mustEnd
set_option maxRecDepth 20000 in
theorem ggX8_road_X8_name : GoodIn wsX8_road wsX8_name := goodIn_r _ [42, 25, 27, 7, 32, 6, 86, 87, 88, 89, 90, 91, 92, 93, 94, 95, 96, 97, 98, 99, 100, 101, 102, 103, 104, 105, 106, 107, 108, 109, 110, 111] rfl (by decide +kernel)
set_option maxRecDepth 20000 in
theorem gX8_road_X8_name : GoodIn wsX8_road (wsV RX8 150 RX8 yX8_name wsX8_name) := goodIn_app (goodIn_r _ [39, 40, 41, 16] rfl (by decide +kernel)) ggX8_road_X8_name
set_option maxRecDepth 20000 in
theorem ggX8_road_X8_number : GoodIn wsX8_road wsX8_number := goodIn_r _ [54, 6, 7, 55, 56, 57, 16, 58, 25, 27, 32, 59, 60, 61, 47, 48, 49, 50, 10, 43, 44, 45, 46, 21, 22, 23, 24, 20, 26, 28, 29, 30, 31, 19, 33, 34, 35, 36, 37, 38, 86, 87, 88, 89, 90, 91, 92, 93, 94, 95, 96, 97, 98, 99, 100, 101, 102, 103, 104, 105, 106, 107, 108, 109, 110, 111] rfl (by decide +kernel)
set_option maxRecDepth 20000 in
theorem gX8_road_X8_number : GoodIn wsX8_road (wsV RX8 143 RX8 yX8_number wsX8_number) := goodIn_app (goodIn_r _ [51, 52, 53, 16] rfl (by decide +kernel)) ggX8_road_X8_number
set_option maxRecDepth 20000 in
theorem ggX8_road_X8_readMover : GoodIn wsX8_road wsX8_readMover := goodIn_r _ [77, 6, 26, 2, 70, 71, 72, 16, 73, 47, 48, 49, 50, 25, 10, 43, 44, 45, 46, 21, 22, 23, 24, 20, 7, 27, 28, 29, 30, 31, 19, 32, 33, 34, 35, 36, 37, 38, 39, 40, 41, 42, 78, 79, 80, 81, 82, 83, 84, 85, 51, 52, 53, 54, 55, 56, 57, 58, 59, 60, 61, 62, 63, 64, 65, 86, 87, 88, 89, 90, 91, 92, 93, 94, 95, 96, 97, 98, 99, 100, 101, 102, 103, 104, 105, 106, 107, 108, 109, 110, 111] rfl (by decide +kernel)
set_option maxRecDepth 20000 in
theorem gX8_road_X8_readMover : GoodIn wsX8_road (wsV RX8 170 RX8 yX8_readMover wsX8_readMover) := goodIn_app (goodIn_r _ [74, 75, 76, 16] rfl (by decide +kernel)) ggX8_road_X8_readMover
set_option maxRecDepth 20000 in
theorem ggX8_road_X8_readStone : GoodIn wsX8_road wsX8_readStone := goodIn_r _ [69, 2, 6, 70, 71, 72, 16, 73, 47, 48, 49, 50, 25, 10, 43, 44, 45, 46, 21, 22, 23, 24, 20, 26, 7, 27, 28, 29, 30, 31, 19, 32, 33, 34, 35, 36, 37, 38, 51, 52, 53, 54, 55, 56, 57, 58, 59, 60, 61, 62, 63, 64, 65, 86, 87, 88, 89, 90, 91, 92, 93, 94, 95, 96, 97, 98, 99, 100, 101, 102, 103, 104, 105, 106, 107, 108, 109, 110, 111] rfl (by decide +kernel)
set_option maxRecDepth 20000 in
theorem gX8_road_X8_readStone : GoodIn wsX8_road (wsV RX8 165 RX8 yX8_readStone wsX8_readStone) := goodIn_app (goodIn_r _ [66, 67, 68, 16] rfl (by decide +kernel)) ggX8_road_X8_readStone
theorem hd_X8_begin : yX8_begin.cls = RX8 ∧ yX8_begin.cls ≠ "java/lang/invoke/MethodHandle" ∧ yX8_begin.cls ≠ "java/lang/invoke/VarHandle" ∧ (parseMethodDescriptor yX8_begin.desc).map (fun d => d.parameters.length) = some 0 := by decide +kernel
theorem hd_X8_readMover : yX8_readMover.cls = RX8 ∧ yX8_readMover.cls ≠ "java/lang/invoke/MethodHandle" ∧ yX8_readMover.cls ≠ "java/lang/invoke/VarHandle" ∧ (parseMethodDescriptor yX8_readMover.desc).map (fun d => d.parameters.length) = some 0 := by decide +kernel
theorem hd_X8_readStone : yX8_readStone.cls = RX8 ∧ yX8_readStone.cls ≠ "java/lang/invoke/MethodHandle" ∧ yX8_readStone.cls ≠ "java/lang/invoke/VarHandle" ∧ (parseMethodDescriptor yX8_readStone.desc).map (fun d => d.parameters.length) = some 0 := by decide +kernel
/-! X8_road -/
abbrev rm_X8_road : Room := { frames := 5, cells := 0, slots := 0, locals := 111 }
theorem iw_X8_road_8 : ∀ w ∈ wsX80, w ∈ wsX8_road := fun _ h => List.mem_cons_of_mem _ (List.mem_append_right _ h)
theorem fl_X8_road_50 : Cond.fieldLink RX8 50 "NightStonesModel" "thrown" "I" ∈ wsX8_road := List.mem_of_getElem? (i := 1) rfl
theorem wd_X8_road_c161 : Cond.constantLong RX8 161 (7102839) ∈ wsX8_road := List.mem_of_getElem? (i := 3) rfl
theorem fl_X8_road_22 : Cond.fieldLink RX8 22 "NightStonesModel" "fresh" "[I" ∈ wsX8_road := List.mem_of_getElem? (i := 2) rfl
theorem wd_X8_road_c163 : Cond.constantLong RX8 163 (495874698853) ∈ wsX8_road := List.mem_of_getElem? (i := 4) rfl
theorem wd_X8_road_c168 : Cond.constantLong RX8 168 (470021465458) ∈ wsX8_road := List.mem_of_getElem? (i := 5) rfl
theorem fl_X8_road_108 : Cond.fieldLink RX8 108 "NightStonesModel" "fault" "I" ∈ wsX8_road := List.mem_of_getElem? (i := 6) rfl
theorem fl_X8_road_177 : Cond.fieldLink RX8 177 "NightStonesModel" "acts" "I" ∈ wsX8_road := List.mem_of_getElem? (i := 11) rfl
theorem fl_X8_road_19 : Cond.fieldLink RX8 19 "NightStonesModel" "road" "[I" ∈ wsX8_road := List.mem_of_getElem? (i := 12) rfl
theorem fl_X8_road_173 : Cond.fieldLink RX8 173 "NightStonesModel" "latest" "I" ∈ wsX8_road := List.mem_of_getElem? (i := 8) rfl
theorem wd_X8_road_c176 : Cond.constant RX8 176 (-1000100) ∈ wsX8_road := List.mem_of_getElem? (i := 9) rfl
theorem fl_X8_road_114 : Cond.fieldLink RX8 114 "NightStonesModel" "faultAt" "I" ∈ wsX8_road := List.mem_of_getElem? (i := 10) rfl
theorem fl_X8_road_96 : Cond.fieldLink RX8 96 "NightStonesModel" "token" "I" ∈ wsX8_road := List.mem_of_getElem? (i := 7) rfl
def S_X8_road_194 (X : Nat → Nat → Int32) (c0_0 : Int32) (c0_8 : Int32) (c0_10 : Int32) (c0_11 : Int32) (c0_12 : Int32) (c0_13 : Int32) (c0_14 : Int32) (c0_15 : Int32) (c0_16 : Int32) (c0_17 : Int32) (c0_18 : Int32) (c5_c : Nat → Int32) (K : Int32 → (Nat → Nat → Int32) → Prop) (R194 : Int32 → (Nat → Int32) → Prop) (x1 : Int32) (c4_c : Nat → Int32) : Prop := ((94 ≤ x1 → K (c4_c 4) (va_up (va_up (va_up X 0 (upd (upd (upd (upd (upd (upd (upd (upd (upd (upd (upd (X 0) 0 c0_0) 8 c0_8) 10 c0_10) 11 c0_11) 12 c0_12) 13 c0_13) 14 c0_14) 15 c0_15) 16 c0_16) 17 c0_17) 18 c0_18)) 4 c4_c) 5 c5_c)) ∧ (¬ (94 ≤ x1) → (vp_in x1 94 ∧ (vp_in x1 94 ∧ R194 (x1 + 1) (upd c4_c x1.toNatClampNeg (c5_c x1.toNatClampNeg))))))
set_option maxHeartbeats 4000000 in
set_option maxRecDepth 100000 in
theorem t_X8_road_194 {y : nz_Y} {g : nz_G} (F : nz_F y g cX8_road 2 wsX8_road RX8 (some .int) rm_X8_road) {wc0 : va_W} {sz : Nat} {K : Int32 → (Nat → Nat → Int32) → Prop} (a : Nat → Nat) (X : Nat → Nat → Int32) (c0_0 : Int32) (c0_8 : Int32) (c0_10 : Int32) (c0_11 : Int32) (c0_12 : Int32) (c0_13 : Int32) (c0_14 : Int32) (c0_15 : Int32) (c0_16 : Int32) (c0_17 : Int32) (c0_18 : Int32) (c5_c : Nat → Int32) (hQ : yz_A y = va_A wc0 sz ∧ yz_Q y = MQ (yz_b y) ((nz_Qi g wc0 (fun r (u : Nat → Nat → Int32) => K r u) (fun u => nz_wM g a u)) sz) (yz_a y) (yz_s y) 0 0 (va_A wc0 sz)) : ∀ (n1 : Nat) (x1 : Int32) (c4_c : Nat → Int32), nz_it (fun _ _ => False) (S_X8_road_194 X c0_0 c0_8 c0_10 c0_11 c0_12 c0_13 c0_14 c0_15 c0_16 c0_17 c0_18 c5_c K) n1 x1 c4_c → nz_V y g 0 0 [((a 0), .inr (8, [.int c0_0, .int (X 0 1), .ref (a 1), .ref (a 2), .ref (a 3), .ref (a 4), .ref (a 5), .ref (a 6), .int c0_8, .ref (a 7), .int c0_10, .int c0_11, .int c0_12, .int c0_13, .int c0_14, .int c0_15, .int c0_16, .int c0_17, .int c0_18, .ref (a 8), .ref (a 9), .ref (a 10), .ref (a 11), .ref (a 12), .ref (a 13), .int (X 0 25)])), ((a 1), .inl (nz_cI g, 8, .inl (X 1))), ((a 2), .inl (nz_cI g, 8, .inl (X 2))), ((a 3), .inl (nz_cI g, 320, .inl (X 3))), ((a 4), .inl (nz_cI g, 94, .inl c4_c)), ((a 5), .inl (nz_cI g, 94, .inl c5_c)), ((a 6), .inl (nz_cI g, 168, .inl (X 6))), ((a 7), .inl (nz_cI g, 400, .inl (X 7))), ((a 8), .inl (nz_cI g, 6, .inl (X 8))), ((a 9), .inl (nz_cI g, 49, .inl (X 9))), ((a 10), .inl (nz_cI g, 6, .inl (X 10))), ((a 11), .inl (nz_cZ g, 2, .inl (X 11))), ((a 12), .inl (nz_cI g, 188, .inl (X 12))), ((a 13), .inl (nz_cI g, 16, .inl (X 13)))] 194 [(0, .ref (a 0)), (1, .int x1)] [] := by
  intro n1
  induction n1 with
  | zero =>
    intro x1 c4_c h
    exact h.elim
  | succ n1 hR194 =>
    intro x1 c4_c h
    have h : S_X8_road_194 X c0_0 c0_8 c0_10 c0_11 c0_12 c0_13 c0_14 c0_15 c0_16 c0_17 c0_18 c5_c K (nz_it (fun _ _ => False) (S_X8_road_194 X c0_0 c0_8 c0_10 c0_11 c0_12 c0_13 c0_14 c0_15 c0_16 c0_17 c0_18 c5_c K) n1) x1 c4_c := h
    unfold S_X8_road_194 at h
    refine nz_iload_n F dX8_road_194 rfl 1 rfl ?_
    refine nz_bipush (v := 94) F dX8_road_195 (by decide) ?_
    refine nz_icmp_ge (tgt := 218) F dX8_road_197 (by decide) (fun c57 => ?_) (fun c57 => ?_)
    · have h := h.1 c57
      refine nz_aload_n F dX8_road_218 rfl 0 rfl ?_
      refine nz_get F iw_X8_road_8 0 rfl rfl 5 (by decide) rfl fl_X8_road_19 rfl dX8_road_219 ?_
      refine nz_iconst (v := 4) F dX8_road_222 (by decide) ?_
      refine nz_iald F 4 rfl (nz_inC rfl) dX8_road_223 ?_
      refine nz_vi (z := (c4_c 4)) rfl ?_
      exact nz_iret F hQ (va_up (va_up (va_up X 0 (upd (upd (upd (upd (upd (upd (upd (upd (upd (upd (upd (X 0) 0 c0_0) 8 c0_8) 10 c0_10) 11 c0_11) 12 c0_12) 13 c0_13) 14 c0_14) 15 c0_15) 16 c0_16) 17 c0_17) 18 c0_18)) 4 c4_c) 5 c5_c) h rfl dX8_road_224
    · have h := h.2 c57
      refine nz_aload_n F dX8_road_200 rfl 0 rfl ?_
      refine nz_get F iw_X8_road_8 0 rfl rfl 5 (by decide) rfl fl_X8_road_19 rfl dX8_road_201 ?_
      refine nz_iload_n F dX8_road_204 rfl 1 rfl ?_
      refine nz_aload_n F dX8_road_205 rfl 0 rfl ?_
      refine nz_get F iw_X8_road_8 0 rfl rfl 6 (by decide) rfl fl_X8_road_22 rfl dX8_road_206 ?_
      refine nz_iload_n F dX8_road_209 rfl 1 rfl ?_
      obtain ⟨i58, h⟩ := h
      refine nz_iald F 5 rfl i58 dX8_road_210 ?_
      obtain ⟨i59, h⟩ := h
      refine nz_iast (ws' := [((a 0), .inr (8, [.int c0_0, .int (X 0 1), .ref (a 1), .ref (a 2), .ref (a 3), .ref (a 4), .ref (a 5), .ref (a 6), .int c0_8, .ref (a 7), .int c0_10, .int c0_11, .int c0_12, .int c0_13, .int c0_14, .int c0_15, .int c0_16, .int c0_17, .int c0_18, .ref (a 8), .ref (a 9), .ref (a 10), .ref (a 11), .ref (a 12), .ref (a 13), .int (X 0 25)])), ((a 1), .inl (nz_cI g, 8, .inl (X 1))), ((a 2), .inl (nz_cI g, 8, .inl (X 2))), ((a 3), .inl (nz_cI g, 320, .inl (X 3))), ((a 4), .inl (nz_cI g, 94, .inl (upd c4_c x1.toNatClampNeg (c5_c x1.toNatClampNeg)))), ((a 5), .inl (nz_cI g, 94, .inl c5_c)), ((a 6), .inl (nz_cI g, 168, .inl (X 6))), ((a 7), .inl (nz_cI g, 400, .inl (X 7))), ((a 8), .inl (nz_cI g, 6, .inl (X 8))), ((a 9), .inl (nz_cI g, 49, .inl (X 9))), ((a 10), .inl (nz_cI g, 6, .inl (X 10))), ((a 11), .inl (nz_cZ g, 2, .inl (X 11))), ((a 12), .inl (nz_cI g, 188, .inl (X 12))), ((a 13), .inl (nz_cI g, 16, .inl (X 13)))]) F 4 rfl i59 dX8_road_211 rfl ?_
      refine nz_iinc (v := (x1 + 1)) (j := 1) (lv' := [(1, .int (x1 + 1)), (0, .ref (a 0))]) F dX8_road_212 rfl rfl (by decide) rfl ?_
      refine nz_goto (tgt := 194) F dX8_road_215 (by decide) ?_
      refine nz_ls (lv' := [(0, .ref (a 0)), (1, .int (x1 + 1))]) [1, 0] rfl ?_
      exact hR194 (x1 + 1) (upd c4_c x1.toNatClampNeg (c5_c x1.toNatClampNeg)) h
def S_X8_road_164 (X : Nat → Nat → Int32) (c0_0 : Int32) (c0_8 : Int32) (c0_10 : Int32) (c0_11 : Int32) (c0_12 : Int32) (c0_13 : Int32) (c0_14 : Int32) (c0_15 : Int32) (c0_16 : Int32) (c0_17 : Int32) (c0_18 : Int32) (c4_c : Nat → Int32) (c5_c : Nat → Int32) (K : Int32 → (Nat → Nat → Int32) → Prop) : Prop := ((c0_17 ≤ 0 → (∃ n, nz_it (fun _ _ => False) (S_X8_road_194 X c0_0 0 c0_10 c0_11 c0_12 c0_13 c0_14 c0_15 c0_16 c0_17 c0_18 c5_c K) n 0 c4_c)) ∧ (¬ (c0_17 ≤ 0) → K ((-1000100 : Int32) - c0_18) (va_up (va_up (va_up X 0 (upd (upd (upd (upd (upd (upd (upd (upd (upd (upd (upd (X 0) 0 c0_0) 8 c0_8) 10 c0_10) 11 c0_17) 12 c0_12) 13 c0_13) 14 c0_14) 15 c0_15) 16 c0_16) 17 c0_17) 18 c0_18)) 4 c4_c) 5 c5_c)))
set_option maxHeartbeats 4000000 in
set_option maxRecDepth 100000 in
theorem t_X8_road_164 {y : nz_Y} {g : nz_G} (F : nz_F y g cX8_road 2 wsX8_road RX8 (some .int) rm_X8_road) {wc0 : va_W} {sz : Nat} {K : Int32 → (Nat → Nat → Int32) → Prop} (a : Nat → Nat) (X : Nat → Nat → Int32) (c0_0 : Int32) (c0_8 : Int32) (c0_10 : Int32) (c0_11 : Int32) (c0_12 : Int32) (c0_13 : Int32) (c0_14 : Int32) (c0_15 : Int32) (c0_16 : Int32) (c0_17 : Int32) (c0_18 : Int32) (c4_c : Nat → Int32) (c5_c : Nat → Int32) (hQ : yz_A y = va_A wc0 sz ∧ yz_Q y = MQ (yz_b y) ((nz_Qi g wc0 (fun r (u : Nat → Nat → Int32) => K r u) (fun u => nz_wM g a u)) sz) (yz_a y) (yz_s y) 0 0 (va_A wc0 sz)) : S_X8_road_164 X c0_0 c0_8 c0_10 c0_11 c0_12 c0_13 c0_14 c0_15 c0_16 c0_17 c0_18 c4_c c5_c K → nz_V y g 0 0 [((a 0), .inr (8, [.int c0_0, .int (X 0 1), .ref (a 1), .ref (a 2), .ref (a 3), .ref (a 4), .ref (a 5), .ref (a 6), .int c0_8, .ref (a 7), .int c0_10, .int c0_11, .int c0_12, .int c0_13, .int c0_14, .int c0_15, .int c0_16, .int c0_17, .int c0_18, .ref (a 8), .ref (a 9), .ref (a 10), .ref (a 11), .ref (a 12), .ref (a 13), .int (X 0 25)])), ((a 1), .inl (nz_cI g, 8, .inl (X 1))), ((a 2), .inl (nz_cI g, 8, .inl (X 2))), ((a 3), .inl (nz_cI g, 320, .inl (X 3))), ((a 4), .inl (nz_cI g, 94, .inl c4_c)), ((a 5), .inl (nz_cI g, 94, .inl c5_c)), ((a 6), .inl (nz_cI g, 168, .inl (X 6))), ((a 7), .inl (nz_cI g, 400, .inl (X 7))), ((a 8), .inl (nz_cI g, 6, .inl (X 8))), ((a 9), .inl (nz_cI g, 49, .inl (X 9))), ((a 10), .inl (nz_cI g, 6, .inl (X 10))), ((a 11), .inl (nz_cZ g, 2, .inl (X 11))), ((a 12), .inl (nz_cI g, 188, .inl (X 12))), ((a 13), .inl (nz_cI g, 16, .inl (X 13)))] 164 [(0, .ref (a 0))] [] := by
  intro h
  unfold S_X8_road_164 at h
  refine nz_aload_n F dX8_road_164 rfl 0 rfl ?_
  refine nz_get F iw_X8_road_8 0 rfl rfl 17 (by decide) rfl fl_X8_road_108 rfl dX8_road_165 ?_
  refine nz_if_le (tgt := 187) F dX8_road_168 (by decide) (fun c56 => ?_) (fun c56 => ?_)
  · have h := h.1 c56
    refine nz_aload_n F dX8_road_187 rfl 0 rfl ?_
    refine nz_iconst (v := 0) F dX8_road_188 (by decide) ?_
    refine nz_put (ws' := [((a 0), .inr (8, [.int c0_0, .int (X 0 1), .ref (a 1), .ref (a 2), .ref (a 3), .ref (a 4), .ref (a 5), .ref (a 6), .int 0, .ref (a 7), .int c0_10, .int c0_11, .int c0_12, .int c0_13, .int c0_14, .int c0_15, .int c0_16, .int c0_17, .int c0_18, .ref (a 8), .ref (a 9), .ref (a 10), .ref (a 11), .ref (a 12), .ref (a 13), .int (X 0 25)])), ((a 1), .inl (nz_cI g, 8, .inl (X 1))), ((a 2), .inl (nz_cI g, 8, .inl (X 2))), ((a 3), .inl (nz_cI g, 320, .inl (X 3))), ((a 4), .inl (nz_cI g, 94, .inl c4_c)), ((a 5), .inl (nz_cI g, 94, .inl c5_c)), ((a 6), .inl (nz_cI g, 168, .inl (X 6))), ((a 7), .inl (nz_cI g, 400, .inl (X 7))), ((a 8), .inl (nz_cI g, 6, .inl (X 8))), ((a 9), .inl (nz_cI g, 49, .inl (X 9))), ((a 10), .inl (nz_cI g, 6, .inl (X 10))), ((a 11), .inl (nz_cZ g, 2, .inl (X 11))), ((a 12), .inl (nz_cI g, 188, .inl (X 12))), ((a 13), .inl (nz_cI g, 16, .inl (X 13)))]) F iw_X8_road_8 tyX8 tyX8_ok nmX8 0 rfl rfl 8 (by decide) rfl fl_X8_road_177 rfl rfl (Nat.le_of_ble_eq_true rfl) dX8_road_189 rfl ?_
    refine nz_iconst (v := 0) F dX8_road_192 (by decide) ?_
    refine nz_istore_n (lv' := [(1, .int 0), (0, .ref (a 0))]) F dX8_road_193 rfl (by decide) rfl ?_
    refine nz_ls (lv' := [(0, .ref (a 0)), (1, .int 0)]) [1, 0] rfl ?_
    obtain ⟨n1, h⟩ := h
    exact t_X8_road_194 F a X c0_0 0 c0_10 c0_11 c0_12 c0_13 c0_14 c0_15 c0_16 c0_17 c0_18 c5_c hQ n1 0 c4_c h
  · have h := h.2 c56
    refine nz_aload_n F dX8_road_171 rfl 0 rfl ?_
    refine nz_aload_n F dX8_road_172 rfl 0 rfl ?_
    refine nz_get F iw_X8_road_8 0 rfl rfl 17 (by decide) rfl fl_X8_road_108 rfl dX8_road_173 ?_
    refine nz_put (ws' := [((a 0), .inr (8, [.int c0_0, .int (X 0 1), .ref (a 1), .ref (a 2), .ref (a 3), .ref (a 4), .ref (a 5), .ref (a 6), .int c0_8, .ref (a 7), .int c0_10, .int c0_17, .int c0_12, .int c0_13, .int c0_14, .int c0_15, .int c0_16, .int c0_17, .int c0_18, .ref (a 8), .ref (a 9), .ref (a 10), .ref (a 11), .ref (a 12), .ref (a 13), .int (X 0 25)])), ((a 1), .inl (nz_cI g, 8, .inl (X 1))), ((a 2), .inl (nz_cI g, 8, .inl (X 2))), ((a 3), .inl (nz_cI g, 320, .inl (X 3))), ((a 4), .inl (nz_cI g, 94, .inl c4_c)), ((a 5), .inl (nz_cI g, 94, .inl c5_c)), ((a 6), .inl (nz_cI g, 168, .inl (X 6))), ((a 7), .inl (nz_cI g, 400, .inl (X 7))), ((a 8), .inl (nz_cI g, 6, .inl (X 8))), ((a 9), .inl (nz_cI g, 49, .inl (X 9))), ((a 10), .inl (nz_cI g, 6, .inl (X 10))), ((a 11), .inl (nz_cZ g, 2, .inl (X 11))), ((a 12), .inl (nz_cI g, 188, .inl (X 12))), ((a 13), .inl (nz_cI g, 16, .inl (X 13)))]) F iw_X8_road_8 tyX8 tyX8_ok nmX8 0 rfl rfl 11 (by decide) rfl fl_X8_road_173 rfl rfl (Nat.le_of_ble_eq_true rfl) dX8_road_176 rfl ?_
    refine nz_ldc (v := (-1000100 : Int32)) F wd_X8_road_c176 dX8_road_179 ?_
    refine nz_aload_n F dX8_road_181 rfl 0 rfl ?_
    refine nz_get F iw_X8_road_8 0 rfl rfl 18 (by decide) rfl fl_X8_road_114 rfl dX8_road_182 ?_
    refine nz_isub F dX8_road_185 ?_
    exact nz_iret F hQ (va_up (va_up (va_up X 0 (upd (upd (upd (upd (upd (upd (upd (upd (upd (upd (upd (X 0) 0 c0_0) 8 c0_8) 10 c0_10) 11 c0_17) 12 c0_12) 13 c0_13) 14 c0_14) 15 c0_15) 16 c0_16) 17 c0_17) 18 c0_18)) 4 c4_c) 5 c5_c) h rfl dX8_road_186
def S_X8_road_126 (X : Nat → Nat → Int32) (c0_0 : Int32) (c0_8 : Int32) (c0_10 : Int32) (c0_11 : Int32) (c0_12 : Int32) (c4_c : Nat → Int32) (K : Int32 → (Nat → Nat → Int32) → Prop) (R126 : Int32 → Int32 → Int32 → Int32 → Int32 → Int32 → (Nat → Int32) → Prop) (c0_13 : Int32) (c0_14 : Int32) (c0_15 : Int32) (c0_16 : Int32) (c0_17 : Int32) (c0_18 : Int32) (c5_c : Nat → Int32) : Prop := wp_X8_name c0_14 c0_15 c0_16 c0_17 (X 7) (fun q53 => ((¬ (lg_cmp q53 470021465458) = 0 → ((¬ c0_17 = 0 → S_X8_road_164 X c0_0 c0_8 c0_10 c0_11 c0_12 c0_13 c0_14 c0_15 c0_16 c0_17 c0_18 c4_c c5_c K) ∧ (c0_17 = 0 → ((c0_14 = 1 → S_X8_road_164 X c0_0 c0_8 c0_10 c0_11 c0_12 c0_13 c0_14 c0_15 c0_16 c0_17 c0_18 c4_c c5_c K) ∧ (¬ (c0_14 = 1) → wp_X8_bad c0_15 c0_17 c0_18 1 (fun m61 m62 => S_X8_road_164 X c0_0 c0_8 c0_10 c0_11 c0_12 c0_13 c0_14 c0_15 c0_16 m61 m62 c4_c c5_c K)))))) ∧ ((lg_cmp q53 470021465458) = 0 → wp_X8_readMover c0_12 c0_13 c0_14 c0_15 c0_16 c0_17 c0_18 c5_c (X 7) (fun m63 m64 m65 m66 m67 m68 m69 => R126 m63 m64 m65 m66 m67 m68 m69))))
set_option maxHeartbeats 4000000 in
set_option maxRecDepth 100000 in
theorem t_X8_road_126 {y : nz_Y} {g : nz_G} (F : nz_F y g cX8_road 2 wsX8_road RX8 (some .int) rm_X8_road) {wc0 : va_W} {sz : Nat} {K : Int32 → (Nat → Nat → Int32) → Prop} (a : Nat → Nat) (X : Nat → Nat → Int32) (c0_0 : Int32) (c0_8 : Int32) (c0_10 : Int32) (c0_11 : Int32) (c0_12 : Int32) (c4_c : Nat → Int32) (hQ : yz_A y = va_A wc0 sz ∧ yz_Q y = MQ (yz_b y) ((nz_Qi g wc0 (fun r (u : Nat → Nat → Int32) => K r u) (fun u => nz_wM g a u)) sz) (yz_a y) (yz_s y) 0 0 (va_A wc0 sz)) : ∀ (n1 : Nat) (c0_13 : Int32) (c0_14 : Int32) (c0_15 : Int32) (c0_16 : Int32) (c0_17 : Int32) (c0_18 : Int32) (c5_c : Nat → Int32), nz_it (fun _ _ _ _ _ _ _ => False) (S_X8_road_126 X c0_0 c0_8 c0_10 c0_11 c0_12 c4_c K) n1 c0_13 c0_14 c0_15 c0_16 c0_17 c0_18 c5_c → nz_V y g 0 0 [((a 0), .inr (8, [.int c0_0, .int (X 0 1), .ref (a 1), .ref (a 2), .ref (a 3), .ref (a 4), .ref (a 5), .ref (a 6), .int c0_8, .ref (a 7), .int c0_10, .int c0_11, .int c0_12, .int c0_13, .int c0_14, .int c0_15, .int c0_16, .int c0_17, .int c0_18, .ref (a 8), .ref (a 9), .ref (a 10), .ref (a 11), .ref (a 12), .ref (a 13), .int (X 0 25)])), ((a 1), .inl (nz_cI g, 8, .inl (X 1))), ((a 2), .inl (nz_cI g, 8, .inl (X 2))), ((a 3), .inl (nz_cI g, 320, .inl (X 3))), ((a 4), .inl (nz_cI g, 94, .inl c4_c)), ((a 5), .inl (nz_cI g, 94, .inl c5_c)), ((a 6), .inl (nz_cI g, 168, .inl (X 6))), ((a 7), .inl (nz_cI g, 400, .inl (X 7))), ((a 8), .inl (nz_cI g, 6, .inl (X 8))), ((a 9), .inl (nz_cI g, 49, .inl (X 9))), ((a 10), .inl (nz_cI g, 6, .inl (X 10))), ((a 11), .inl (nz_cZ g, 2, .inl (X 11))), ((a 12), .inl (nz_cI g, 188, .inl (X 12))), ((a 13), .inl (nz_cI g, 16, .inl (X 13)))] 126 [(0, .ref (a 0))] [] := by
  intro n1
  induction n1 with
  | zero =>
    intro c0_13 c0_14 c0_15 c0_16 c0_17 c0_18 c5_c h
    exact h.elim
  | succ n1 hR126 =>
    intro c0_13 c0_14 c0_15 c0_16 c0_17 c0_18 c5_c h
    have h : S_X8_road_126 X c0_0 c0_8 c0_10 c0_11 c0_12 c4_c K (nz_it (fun _ _ _ _ _ _ _ => False) (S_X8_road_126 X c0_0 c0_8 c0_10 c0_11 c0_12 c4_c K) n1) c0_13 c0_14 c0_15 c0_16 c0_17 c0_18 c5_c := h
    unfold S_X8_road_126 at h
    refine nz_aload_n F dX8_road_126 rfl 0 rfl ?_
    refine k_X8_name (a 0) (a 1) (a 2) (a 3) (a 4) (a 5) (a 6) (a 7) (a 8) (a 9) (a 10) (a 11) (a 12) (a 13) c0_0 (X 0 1) c0_8 c0_10 c0_11 c0_12 c0_13 c0_14 c0_15 c0_16 c0_17 c0_18 (X 0 25) (X 1) (X 2) (X 3) c4_c c5_c (X 6) (X 7) (X 8) (X 9) (X 10) (X 11) (X 12) (X 13) (fun hM => nz_runV F gX8_road_X8_name rfl hd_X8_name rfl hM dX8_road_127 [0, 1, 2, 3, 4, 5, 6, 7, 8, 9, 10, 11, 12, 13] rfl rfl 0 rfl rfl rfl (Nat.le_of_ble_eq_true rfl) rfl) h ([((a 0), .inr (8, [.int c0_0, .int (X 0 1), .ref (a 1), .ref (a 2), .ref (a 3), .ref (a 4), .ref (a 5), .ref (a 6), .int c0_8, .ref (a 7), .int c0_10, .int c0_11, .int c0_12, .int c0_13, .int c0_14, .int c0_15, .int c0_16, .int c0_17, .int c0_18, .ref (a 8), .ref (a 9), .ref (a 10), .ref (a 11), .ref (a 12), .ref (a 13), .int (X 0 25)])), ((a 1), .inl (nz_cI g, 8, .inl (X 1))), ((a 2), .inl (nz_cI g, 8, .inl (X 2))), ((a 3), .inl (nz_cI g, 320, .inl (X 3))), ((a 4), .inl (nz_cI g, 94, .inl c4_c)), ((a 5), .inl (nz_cI g, 94, .inl c5_c)), ((a 6), .inl (nz_cI g, 168, .inl (X 6))), ((a 7), .inl (nz_cI g, 400, .inl (X 7))), ((a 8), .inl (nz_cI g, 6, .inl (X 8))), ((a 9), .inl (nz_cI g, 49, .inl (X 9))), ((a 10), .inl (nz_cI g, 6, .inl (X 10))), ((a 11), .inl (nz_cZ g, 2, .inl (X 11))), ((a 12), .inl (nz_cI g, 188, .inl (X 12))), ((a 13), .inl (nz_cI g, 16, .inl (X 13)))]) (rfl) (fun q53 h => ?_)
    refine nz_ldc2 (v := 470021465458) F wd_X8_road_c168 dX8_road_130 ?_
    refine nz_lcmp F dX8_road_133 ?_
    refine nz_if_ne (tgt := 144) F dX8_road_134 (by decide) (fun c54 => ?_) (fun c54 => ?_)
    · have h := h.1 c54
      refine nz_aload_n F dX8_road_144 rfl 0 rfl ?_
      refine nz_get F iw_X8_road_8 0 rfl rfl 17 (by decide) rfl fl_X8_road_108 rfl dX8_road_145 ?_
      refine nz_if_ne (tgt := 164) F dX8_road_148 (by decide) (fun c55 => ?_) (fun c55 => ?_)
      · have h := h.1 c55
        exact t_X8_road_164 F a X c0_0 c0_8 c0_10 c0_11 c0_12 c0_13 c0_14 c0_15 c0_16 c0_17 c0_18 c4_c c5_c hQ h
      · have h := h.2 c55
        refine nz_aload_n F dX8_road_151 rfl 0 rfl ?_
        refine nz_get F iw_X8_road_8 0 rfl rfl 14 (by decide) rfl fl_X8_road_96 rfl dX8_road_152 ?_
        refine nz_iconst (v := 1) F dX8_road_155 (by decide) ?_
        refine nz_icmp_eq (tgt := 164) F dX8_road_156 (by decide) (fun c60 => ?_) (fun c60 => ?_)
        · have h := h.1 c60
          exact t_X8_road_164 F a X c0_0 c0_8 c0_10 c0_11 c0_12 c0_13 c0_14 c0_15 c0_16 c0_17 c0_18 c4_c c5_c hQ h
        · have h := h.2 c60
          refine nz_aload_n F dX8_road_159 rfl 0 rfl ?_
          refine nz_iconst (v := 1) F dX8_road_160 (by decide) ?_
          refine k_X8_bad (a 0) (a 1) (a 2) (a 3) (a 4) (a 5) (a 6) (a 7) (a 8) (a 9) (a 10) (a 11) (a 12) (a 13) c0_0 (X 0 1) c0_8 c0_10 c0_11 c0_12 c0_13 c0_14 c0_15 c0_16 c0_17 c0_18 (X 0 25) (X 1) (X 2) (X 3) c4_c c5_c (X 6) (X 7) (X 8) (X 9) (X 10) (X 11) (X 12) (X 13) 1 (fun hM => nz_runV F gX8_road_X8_bad rfl hd_X8_bad rfl hM dX8_road_161 [0, 1, 2, 3, 4, 5, 6, 7, 8, 9, 10, 11, 12, 13] rfl rfl 0 rfl rfl rfl (Nat.le_of_ble_eq_true rfl) rfl) h (fun m61 m62 => [((a 0), .inr (8, [.int c0_0, .int (X 0 1), .ref (a 1), .ref (a 2), .ref (a 3), .ref (a 4), .ref (a 5), .ref (a 6), .int c0_8, .ref (a 7), .int c0_10, .int c0_11, .int c0_12, .int c0_13, .int c0_14, .int c0_15, .int c0_16, .int m61, .int m62, .ref (a 8), .ref (a 9), .ref (a 10), .ref (a 11), .ref (a 12), .ref (a 13), .int (X 0 25)])), ((a 1), .inl (nz_cI g, 8, .inl (X 1))), ((a 2), .inl (nz_cI g, 8, .inl (X 2))), ((a 3), .inl (nz_cI g, 320, .inl (X 3))), ((a 4), .inl (nz_cI g, 94, .inl c4_c)), ((a 5), .inl (nz_cI g, 94, .inl c5_c)), ((a 6), .inl (nz_cI g, 168, .inl (X 6))), ((a 7), .inl (nz_cI g, 400, .inl (X 7))), ((a 8), .inl (nz_cI g, 6, .inl (X 8))), ((a 9), .inl (nz_cI g, 49, .inl (X 9))), ((a 10), .inl (nz_cI g, 6, .inl (X 10))), ((a 11), .inl (nz_cZ g, 2, .inl (X 11))), ((a 12), .inl (nz_cI g, 188, .inl (X 12))), ((a 13), .inl (nz_cI g, 16, .inl (X 13)))]) (fun _ _ => rfl) (fun m61 m62 h => ?_)
          exact t_X8_road_164 F a X c0_0 c0_8 c0_10 c0_11 c0_12 c0_13 c0_14 c0_15 c0_16 m61 m62 c4_c c5_c hQ h
    · have h := h.2 c54
      refine nz_aload_n F dX8_road_137 rfl 0 rfl ?_
      refine k_X8_readMover (a 0) (a 1) (a 2) (a 3) (a 4) (a 5) (a 6) (a 7) (a 8) (a 9) (a 10) (a 11) (a 12) (a 13) c0_0 (X 0 1) c0_8 c0_10 c0_11 c0_12 c0_13 c0_14 c0_15 c0_16 c0_17 c0_18 (X 0 25) (X 1) (X 2) (X 3) c4_c c5_c (X 6) (X 7) (X 8) (X 9) (X 10) (X 11) (X 12) (X 13) (fun hM => nz_runV F gX8_road_X8_readMover rfl hd_X8_readMover rfl hM dX8_road_138 [0, 1, 2, 3, 4, 5, 6, 7, 8, 9, 10, 11, 12, 13] rfl rfl 0 rfl rfl rfl (Nat.le_of_ble_eq_true rfl) rfl) h (fun m63 m64 m65 m66 m67 m68 m69 => [((a 0), .inr (8, [.int c0_0, .int (X 0 1), .ref (a 1), .ref (a 2), .ref (a 3), .ref (a 4), .ref (a 5), .ref (a 6), .int c0_8, .ref (a 7), .int c0_10, .int c0_11, .int c0_12, .int m63, .int m64, .int m65, .int m66, .int m67, .int m68, .ref (a 8), .ref (a 9), .ref (a 10), .ref (a 11), .ref (a 12), .ref (a 13), .int (X 0 25)])), ((a 1), .inl (nz_cI g, 8, .inl (X 1))), ((a 2), .inl (nz_cI g, 8, .inl (X 2))), ((a 3), .inl (nz_cI g, 320, .inl (X 3))), ((a 4), .inl (nz_cI g, 94, .inl c4_c)), ((a 5), .inl (nz_cI g, 94, .inl m69)), ((a 6), .inl (nz_cI g, 168, .inl (X 6))), ((a 7), .inl (nz_cI g, 400, .inl (X 7))), ((a 8), .inl (nz_cI g, 6, .inl (X 8))), ((a 9), .inl (nz_cI g, 49, .inl (X 9))), ((a 10), .inl (nz_cI g, 6, .inl (X 10))), ((a 11), .inl (nz_cZ g, 2, .inl (X 11))), ((a 12), .inl (nz_cI g, 188, .inl (X 12))), ((a 13), .inl (nz_cI g, 16, .inl (X 13)))]) (fun _ _ _ _ _ _ _ => rfl) (fun m63 m64 m65 m66 m67 m68 m69 h => ?_)
      refine nz_goto (tgt := 126) F dX8_road_141 (by decide) ?_
      exact hR126 m63 m64 m65 m66 m67 m68 m69 h
def S_X8_road_108 (X : Nat → Nat → Int32) (c0_0 : Int32) (c0_8 : Int32) (c0_10 : Int32) (c0_11 : Int32) (c0_12 : Int32) (c4_c : Nat → Int32) (K : Int32 → (Nat → Nat → Int32) → Prop) (R108 : Int32 → Int32 → Int32 → Int32 → Int32 → Int32 → (Nat → Int32) → Prop) (c0_13 : Int32) (c0_14 : Int32) (c0_15 : Int32) (c0_16 : Int32) (c0_17 : Int32) (c0_18 : Int32) (c5_c : Nat → Int32) : Prop := wp_X8_name c0_14 c0_15 c0_16 c0_17 (X 7) (fun q51 => ((¬ (lg_cmp q51 495874698853) = 0 → (∃ n, nz_it (fun _ _ _ _ _ _ _ => False) (S_X8_road_126 X c0_0 c0_8 c0_10 c0_11 c0_12 c4_c K) n c0_13 c0_14 c0_15 c0_16 c0_17 c0_18 c5_c)) ∧ ((lg_cmp q51 495874698853) = 0 → wp_X8_readStone c0_12 c0_13 c0_14 c0_15 c0_16 c0_17 c0_18 c5_c (X 7) (fun m70 m71 m72 m73 m74 m75 m76 => R108 m70 m71 m72 m73 m74 m75 m76))))
set_option maxHeartbeats 4000000 in
set_option maxRecDepth 100000 in
theorem t_X8_road_108 {y : nz_Y} {g : nz_G} (F : nz_F y g cX8_road 2 wsX8_road RX8 (some .int) rm_X8_road) {wc0 : va_W} {sz : Nat} {K : Int32 → (Nat → Nat → Int32) → Prop} (a : Nat → Nat) (X : Nat → Nat → Int32) (c0_0 : Int32) (c0_8 : Int32) (c0_10 : Int32) (c0_11 : Int32) (c0_12 : Int32) (c4_c : Nat → Int32) (hQ : yz_A y = va_A wc0 sz ∧ yz_Q y = MQ (yz_b y) ((nz_Qi g wc0 (fun r (u : Nat → Nat → Int32) => K r u) (fun u => nz_wM g a u)) sz) (yz_a y) (yz_s y) 0 0 (va_A wc0 sz)) : ∀ (n1 : Nat) (c0_13 : Int32) (c0_14 : Int32) (c0_15 : Int32) (c0_16 : Int32) (c0_17 : Int32) (c0_18 : Int32) (c5_c : Nat → Int32), nz_it (fun _ _ _ _ _ _ _ => False) (S_X8_road_108 X c0_0 c0_8 c0_10 c0_11 c0_12 c4_c K) n1 c0_13 c0_14 c0_15 c0_16 c0_17 c0_18 c5_c → nz_V y g 0 0 [((a 0), .inr (8, [.int c0_0, .int (X 0 1), .ref (a 1), .ref (a 2), .ref (a 3), .ref (a 4), .ref (a 5), .ref (a 6), .int c0_8, .ref (a 7), .int c0_10, .int c0_11, .int c0_12, .int c0_13, .int c0_14, .int c0_15, .int c0_16, .int c0_17, .int c0_18, .ref (a 8), .ref (a 9), .ref (a 10), .ref (a 11), .ref (a 12), .ref (a 13), .int (X 0 25)])), ((a 1), .inl (nz_cI g, 8, .inl (X 1))), ((a 2), .inl (nz_cI g, 8, .inl (X 2))), ((a 3), .inl (nz_cI g, 320, .inl (X 3))), ((a 4), .inl (nz_cI g, 94, .inl c4_c)), ((a 5), .inl (nz_cI g, 94, .inl c5_c)), ((a 6), .inl (nz_cI g, 168, .inl (X 6))), ((a 7), .inl (nz_cI g, 400, .inl (X 7))), ((a 8), .inl (nz_cI g, 6, .inl (X 8))), ((a 9), .inl (nz_cI g, 49, .inl (X 9))), ((a 10), .inl (nz_cI g, 6, .inl (X 10))), ((a 11), .inl (nz_cZ g, 2, .inl (X 11))), ((a 12), .inl (nz_cI g, 188, .inl (X 12))), ((a 13), .inl (nz_cI g, 16, .inl (X 13)))] 108 [(0, .ref (a 0))] [] := by
  intro n1
  induction n1 with
  | zero =>
    intro c0_13 c0_14 c0_15 c0_16 c0_17 c0_18 c5_c h
    exact h.elim
  | succ n1 hR108 =>
    intro c0_13 c0_14 c0_15 c0_16 c0_17 c0_18 c5_c h
    have h : S_X8_road_108 X c0_0 c0_8 c0_10 c0_11 c0_12 c4_c K (nz_it (fun _ _ _ _ _ _ _ => False) (S_X8_road_108 X c0_0 c0_8 c0_10 c0_11 c0_12 c4_c K) n1) c0_13 c0_14 c0_15 c0_16 c0_17 c0_18 c5_c := h
    unfold S_X8_road_108 at h
    refine nz_aload_n F dX8_road_108 rfl 0 rfl ?_
    refine k_X8_name (a 0) (a 1) (a 2) (a 3) (a 4) (a 5) (a 6) (a 7) (a 8) (a 9) (a 10) (a 11) (a 12) (a 13) c0_0 (X 0 1) c0_8 c0_10 c0_11 c0_12 c0_13 c0_14 c0_15 c0_16 c0_17 c0_18 (X 0 25) (X 1) (X 2) (X 3) c4_c c5_c (X 6) (X 7) (X 8) (X 9) (X 10) (X 11) (X 12) (X 13) (fun hM => nz_runV F gX8_road_X8_name rfl hd_X8_name rfl hM dX8_road_109 [0, 1, 2, 3, 4, 5, 6, 7, 8, 9, 10, 11, 12, 13] rfl rfl 0 rfl rfl rfl (Nat.le_of_ble_eq_true rfl) rfl) h ([((a 0), .inr (8, [.int c0_0, .int (X 0 1), .ref (a 1), .ref (a 2), .ref (a 3), .ref (a 4), .ref (a 5), .ref (a 6), .int c0_8, .ref (a 7), .int c0_10, .int c0_11, .int c0_12, .int c0_13, .int c0_14, .int c0_15, .int c0_16, .int c0_17, .int c0_18, .ref (a 8), .ref (a 9), .ref (a 10), .ref (a 11), .ref (a 12), .ref (a 13), .int (X 0 25)])), ((a 1), .inl (nz_cI g, 8, .inl (X 1))), ((a 2), .inl (nz_cI g, 8, .inl (X 2))), ((a 3), .inl (nz_cI g, 320, .inl (X 3))), ((a 4), .inl (nz_cI g, 94, .inl c4_c)), ((a 5), .inl (nz_cI g, 94, .inl c5_c)), ((a 6), .inl (nz_cI g, 168, .inl (X 6))), ((a 7), .inl (nz_cI g, 400, .inl (X 7))), ((a 8), .inl (nz_cI g, 6, .inl (X 8))), ((a 9), .inl (nz_cI g, 49, .inl (X 9))), ((a 10), .inl (nz_cI g, 6, .inl (X 10))), ((a 11), .inl (nz_cZ g, 2, .inl (X 11))), ((a 12), .inl (nz_cI g, 188, .inl (X 12))), ((a 13), .inl (nz_cI g, 16, .inl (X 13)))]) (rfl) (fun q51 h => ?_)
    refine nz_ldc2 (v := 495874698853) F wd_X8_road_c163 dX8_road_112 ?_
    refine nz_lcmp F dX8_road_115 ?_
    refine nz_if_ne (tgt := 126) F dX8_road_116 (by decide) (fun c52 => ?_) (fun c52 => ?_)
    · have h := h.1 c52
      obtain ⟨n1, h⟩ := h
      exact t_X8_road_126 F a X c0_0 c0_8 c0_10 c0_11 c0_12 c4_c hQ n1 c0_13 c0_14 c0_15 c0_16 c0_17 c0_18 c5_c h
    · have h := h.2 c52
      refine nz_aload_n F dX8_road_119 rfl 0 rfl ?_
      refine k_X8_readStone (a 0) (a 1) (a 2) (a 3) (a 4) (a 5) (a 6) (a 7) (a 8) (a 9) (a 10) (a 11) (a 12) (a 13) c0_0 (X 0 1) c0_8 c0_10 c0_11 c0_12 c0_13 c0_14 c0_15 c0_16 c0_17 c0_18 (X 0 25) (X 1) (X 2) (X 3) c4_c c5_c (X 6) (X 7) (X 8) (X 9) (X 10) (X 11) (X 12) (X 13) (fun hM => nz_runV F gX8_road_X8_readStone rfl hd_X8_readStone rfl hM dX8_road_120 [0, 1, 2, 3, 4, 5, 6, 7, 8, 9, 10, 11, 12, 13] rfl rfl 0 rfl rfl rfl (Nat.le_of_ble_eq_true rfl) rfl) h (fun m70 m71 m72 m73 m74 m75 m76 => [((a 0), .inr (8, [.int c0_0, .int (X 0 1), .ref (a 1), .ref (a 2), .ref (a 3), .ref (a 4), .ref (a 5), .ref (a 6), .int c0_8, .ref (a 7), .int c0_10, .int c0_11, .int c0_12, .int m70, .int m71, .int m72, .int m73, .int m74, .int m75, .ref (a 8), .ref (a 9), .ref (a 10), .ref (a 11), .ref (a 12), .ref (a 13), .int (X 0 25)])), ((a 1), .inl (nz_cI g, 8, .inl (X 1))), ((a 2), .inl (nz_cI g, 8, .inl (X 2))), ((a 3), .inl (nz_cI g, 320, .inl (X 3))), ((a 4), .inl (nz_cI g, 94, .inl c4_c)), ((a 5), .inl (nz_cI g, 94, .inl m76)), ((a 6), .inl (nz_cI g, 168, .inl (X 6))), ((a 7), .inl (nz_cI g, 400, .inl (X 7))), ((a 8), .inl (nz_cI g, 6, .inl (X 8))), ((a 9), .inl (nz_cI g, 49, .inl (X 9))), ((a 10), .inl (nz_cI g, 6, .inl (X 10))), ((a 11), .inl (nz_cZ g, 2, .inl (X 11))), ((a 12), .inl (nz_cI g, 188, .inl (X 12))), ((a 13), .inl (nz_cI g, 16, .inl (X 13)))]) (fun _ _ _ _ _ _ _ => rfl) (fun m70 m71 m72 m73 m74 m75 m76 h => ?_)
      refine nz_goto (tgt := 108) F dX8_road_123 (by decide) ?_
      exact hR108 m70 m71 m72 m73 m74 m75 m76 h
def S_X8_road_47 (X : Nat → Nat → Int32) (s0 : Int32) (c0_0 : Int32) (c0_8 : Int32) (c0_10 : Int32) (c0_11 : Int32) (c0_12 : Int32) (c0_13 : Int32) (c0_14 : Int32) (c0_15 : Int32) (c0_16 : Int32) (c0_17 : Int32) (c0_18 : Int32) (c4_c : Nat → Int32) (c5_c : Nat → Int32) (K : Int32 → (Nat → Nat → Int32) → Prop) : Prop := wp_X8_must c0_12 c0_13 c0_14 c0_15 c0_16 c0_17 c0_18 (X 7) s0 (fun m11 m12 m13 m14 m15 m16 => wp_X8_number c0_12 m11 m12 m13 m14 m15 m16 (X 7) 10 200 (fun q17 m18 m19 m20 m21 m22 m23 => wp_X8_number c0_12 m18 m19 m20 m21 m22 m23 (X 7) 0 20 (fun q24 m25 m26 m27 m28 m29 m30 => wp_X8_number c0_12 m25 m26 m27 m28 m29 m30 (X 7) 0 100 (fun q31 m32 m33 m34 m35 m36 m37 => wp_X8_number c0_12 m32 m33 m34 m35 m36 m37 (X 7) 0 99 (fun q38 m39 m40 m41 m42 m43 m44 => wp_X8_mustEnd c0_12 m39 m40 m41 m42 m43 m44 (X 7) (fun m45 m46 m47 m48 m49 m50 => (∃ n, nz_it (fun _ _ _ _ _ _ _ => False) (S_X8_road_108 X c0_0 c0_8 c0_10 c0_11 c0_12 c4_c K) n m45 m46 m47 m48 m49 m50 (upd (upd (upd (upd c5_c 0 q17) 1 q24) 2 q31) 3 q38))))))))
set_option maxHeartbeats 4000000 in
set_option maxRecDepth 100000 in
theorem t_X8_road_47 {y : nz_Y} {g : nz_G} (F : nz_F y g cX8_road 2 wsX8_road RX8 (some .int) rm_X8_road) {wc0 : va_W} {sz : Nat} {K : Int32 → (Nat → Nat → Int32) → Prop} (a : Nat → Nat) (X : Nat → Nat → Int32) (s0 : Int32) (c0_0 : Int32) (c0_8 : Int32) (c0_10 : Int32) (c0_11 : Int32) (c0_12 : Int32) (c0_13 : Int32) (c0_14 : Int32) (c0_15 : Int32) (c0_16 : Int32) (c0_17 : Int32) (c0_18 : Int32) (c4_c : Nat → Int32) (c5_c : Nat → Int32) (hQ : yz_A y = va_A wc0 sz ∧ yz_Q y = MQ (yz_b y) ((nz_Qi g wc0 (fun r (u : Nat → Nat → Int32) => K r u) (fun u => nz_wM g a u)) sz) (yz_a y) (yz_s y) 0 0 (va_A wc0 sz)) : S_X8_road_47 X s0 c0_0 c0_8 c0_10 c0_11 c0_12 c0_13 c0_14 c0_15 c0_16 c0_17 c0_18 c4_c c5_c K → nz_V y g 0 0 [((a 0), .inr (8, [.int c0_0, .int (X 0 1), .ref (a 1), .ref (a 2), .ref (a 3), .ref (a 4), .ref (a 5), .ref (a 6), .int c0_8, .ref (a 7), .int c0_10, .int c0_11, .int c0_12, .int c0_13, .int c0_14, .int c0_15, .int c0_16, .int c0_17, .int c0_18, .ref (a 8), .ref (a 9), .ref (a 10), .ref (a 11), .ref (a 12), .ref (a 13), .int (X 0 25)])), ((a 1), .inl (nz_cI g, 8, .inl (X 1))), ((a 2), .inl (nz_cI g, 8, .inl (X 2))), ((a 3), .inl (nz_cI g, 320, .inl (X 3))), ((a 4), .inl (nz_cI g, 94, .inl c4_c)), ((a 5), .inl (nz_cI g, 94, .inl c5_c)), ((a 6), .inl (nz_cI g, 168, .inl (X 6))), ((a 7), .inl (nz_cI g, 400, .inl (X 7))), ((a 8), .inl (nz_cI g, 6, .inl (X 8))), ((a 9), .inl (nz_cI g, 49, .inl (X 9))), ((a 10), .inl (nz_cI g, 6, .inl (X 10))), ((a 11), .inl (nz_cZ g, 2, .inl (X 11))), ((a 12), .inl (nz_cI g, 188, .inl (X 12))), ((a 13), .inl (nz_cI g, 16, .inl (X 13)))] 47 [(0, .ref (a 0))] [.int s0, .ref (a 0)] := by
  intro h
  unfold S_X8_road_47 at h
  refine k_X8_must (a 0) (a 1) (a 2) (a 3) (a 4) (a 5) (a 6) (a 7) (a 8) (a 9) (a 10) (a 11) (a 12) (a 13) c0_0 (X 0 1) c0_8 c0_10 c0_11 c0_12 c0_13 c0_14 c0_15 c0_16 c0_17 c0_18 (X 0 25) (X 1) (X 2) (X 3) c4_c c5_c (X 6) (X 7) (X 8) (X 9) (X 10) (X 11) (X 12) (X 13) s0 (fun hM => nz_runV F gX8_road_X8_must rfl hd_X8_must rfl hM dX8_road_47 [0, 1, 2, 3, 4, 5, 6, 7, 8, 9, 10, 11, 12, 13] rfl rfl 0 rfl rfl rfl (Nat.le_of_ble_eq_true rfl) rfl) h (fun m11 m12 m13 m14 m15 m16 => [((a 0), .inr (8, [.int c0_0, .int (X 0 1), .ref (a 1), .ref (a 2), .ref (a 3), .ref (a 4), .ref (a 5), .ref (a 6), .int c0_8, .ref (a 7), .int c0_10, .int c0_11, .int c0_12, .int m11, .int m12, .int m13, .int m14, .int m15, .int m16, .ref (a 8), .ref (a 9), .ref (a 10), .ref (a 11), .ref (a 12), .ref (a 13), .int (X 0 25)])), ((a 1), .inl (nz_cI g, 8, .inl (X 1))), ((a 2), .inl (nz_cI g, 8, .inl (X 2))), ((a 3), .inl (nz_cI g, 320, .inl (X 3))), ((a 4), .inl (nz_cI g, 94, .inl c4_c)), ((a 5), .inl (nz_cI g, 94, .inl c5_c)), ((a 6), .inl (nz_cI g, 168, .inl (X 6))), ((a 7), .inl (nz_cI g, 400, .inl (X 7))), ((a 8), .inl (nz_cI g, 6, .inl (X 8))), ((a 9), .inl (nz_cI g, 49, .inl (X 9))), ((a 10), .inl (nz_cI g, 6, .inl (X 10))), ((a 11), .inl (nz_cZ g, 2, .inl (X 11))), ((a 12), .inl (nz_cI g, 188, .inl (X 12))), ((a 13), .inl (nz_cI g, 16, .inl (X 13)))]) (fun _ _ _ _ _ _ => rfl) (fun m11 m12 m13 m14 m15 m16 h => ?_)
  refine nz_aload_n F dX8_road_50 rfl 0 rfl ?_
  refine nz_get F iw_X8_road_8 0 rfl rfl 6 (by decide) rfl fl_X8_road_22 rfl dX8_road_51 ?_
  refine nz_iconst (v := 0) F dX8_road_54 (by decide) ?_
  refine nz_aload_n F dX8_road_55 rfl 0 rfl ?_
  refine nz_bipush (v := 10) F dX8_road_56 (by decide) ?_
  refine nz_sipush (v := 200) F dX8_road_58 (by decide) ?_
  refine k_X8_number (a 0) (a 1) (a 2) (a 3) (a 4) (a 5) (a 6) (a 7) (a 8) (a 9) (a 10) (a 11) (a 12) (a 13) c0_0 (X 0 1) c0_8 c0_10 c0_11 c0_12 m11 m12 m13 m14 m15 m16 (X 0 25) (X 1) (X 2) (X 3) c4_c c5_c (X 6) (X 7) (X 8) (X 9) (X 10) (X 11) (X 12) (X 13) 10 200 (fun hM => nz_runV F gX8_road_X8_number rfl hd_X8_number rfl hM dX8_road_61 [0, 1, 2, 3, 4, 5, 6, 7, 8, 9, 10, 11, 12, 13] rfl rfl 0 rfl rfl rfl (Nat.le_of_ble_eq_true rfl) rfl) h (fun m18 m19 m20 m21 m22 m23 => [((a 0), .inr (8, [.int c0_0, .int (X 0 1), .ref (a 1), .ref (a 2), .ref (a 3), .ref (a 4), .ref (a 5), .ref (a 6), .int c0_8, .ref (a 7), .int c0_10, .int c0_11, .int c0_12, .int m18, .int m19, .int m20, .int m21, .int m22, .int m23, .ref (a 8), .ref (a 9), .ref (a 10), .ref (a 11), .ref (a 12), .ref (a 13), .int (X 0 25)])), ((a 1), .inl (nz_cI g, 8, .inl (X 1))), ((a 2), .inl (nz_cI g, 8, .inl (X 2))), ((a 3), .inl (nz_cI g, 320, .inl (X 3))), ((a 4), .inl (nz_cI g, 94, .inl c4_c)), ((a 5), .inl (nz_cI g, 94, .inl c5_c)), ((a 6), .inl (nz_cI g, 168, .inl (X 6))), ((a 7), .inl (nz_cI g, 400, .inl (X 7))), ((a 8), .inl (nz_cI g, 6, .inl (X 8))), ((a 9), .inl (nz_cI g, 49, .inl (X 9))), ((a 10), .inl (nz_cI g, 6, .inl (X 10))), ((a 11), .inl (nz_cZ g, 2, .inl (X 11))), ((a 12), .inl (nz_cI g, 188, .inl (X 12))), ((a 13), .inl (nz_cI g, 16, .inl (X 13)))]) (fun _ _ _ _ _ _ => rfl) (fun q17 m18 m19 m20 m21 m22 m23 h => ?_)
  refine nz_iast (ws' := [((a 0), .inr (8, [.int c0_0, .int (X 0 1), .ref (a 1), .ref (a 2), .ref (a 3), .ref (a 4), .ref (a 5), .ref (a 6), .int c0_8, .ref (a 7), .int c0_10, .int c0_11, .int c0_12, .int m18, .int m19, .int m20, .int m21, .int m22, .int m23, .ref (a 8), .ref (a 9), .ref (a 10), .ref (a 11), .ref (a 12), .ref (a 13), .int (X 0 25)])), ((a 1), .inl (nz_cI g, 8, .inl (X 1))), ((a 2), .inl (nz_cI g, 8, .inl (X 2))), ((a 3), .inl (nz_cI g, 320, .inl (X 3))), ((a 4), .inl (nz_cI g, 94, .inl c4_c)), ((a 5), .inl (nz_cI g, 94, .inl (upd c5_c 0 q17))), ((a 6), .inl (nz_cI g, 168, .inl (X 6))), ((a 7), .inl (nz_cI g, 400, .inl (X 7))), ((a 8), .inl (nz_cI g, 6, .inl (X 8))), ((a 9), .inl (nz_cI g, 49, .inl (X 9))), ((a 10), .inl (nz_cI g, 6, .inl (X 10))), ((a 11), .inl (nz_cZ g, 2, .inl (X 11))), ((a 12), .inl (nz_cI g, 188, .inl (X 12))), ((a 13), .inl (nz_cI g, 16, .inl (X 13)))]) F 5 rfl (nz_inC rfl) dX8_road_64 rfl ?_
  refine nz_aload_n F dX8_road_65 rfl 0 rfl ?_
  refine nz_get F iw_X8_road_8 0 rfl rfl 6 (by decide) rfl fl_X8_road_22 rfl dX8_road_66 ?_
  refine nz_iconst (v := 1) F dX8_road_69 (by decide) ?_
  refine nz_aload_n F dX8_road_70 rfl 0 rfl ?_
  refine nz_iconst (v := 0) F dX8_road_71 (by decide) ?_
  refine nz_bipush (v := 20) F dX8_road_72 (by decide) ?_
  refine k_X8_number (a 0) (a 1) (a 2) (a 3) (a 4) (a 5) (a 6) (a 7) (a 8) (a 9) (a 10) (a 11) (a 12) (a 13) c0_0 (X 0 1) c0_8 c0_10 c0_11 c0_12 m18 m19 m20 m21 m22 m23 (X 0 25) (X 1) (X 2) (X 3) c4_c (upd c5_c 0 q17) (X 6) (X 7) (X 8) (X 9) (X 10) (X 11) (X 12) (X 13) 0 20 (fun hM => nz_runV F gX8_road_X8_number rfl hd_X8_number rfl hM dX8_road_74 [0, 1, 2, 3, 4, 5, 6, 7, 8, 9, 10, 11, 12, 13] rfl rfl 0 rfl rfl rfl (Nat.le_of_ble_eq_true rfl) rfl) h (fun m25 m26 m27 m28 m29 m30 => [((a 0), .inr (8, [.int c0_0, .int (X 0 1), .ref (a 1), .ref (a 2), .ref (a 3), .ref (a 4), .ref (a 5), .ref (a 6), .int c0_8, .ref (a 7), .int c0_10, .int c0_11, .int c0_12, .int m25, .int m26, .int m27, .int m28, .int m29, .int m30, .ref (a 8), .ref (a 9), .ref (a 10), .ref (a 11), .ref (a 12), .ref (a 13), .int (X 0 25)])), ((a 1), .inl (nz_cI g, 8, .inl (X 1))), ((a 2), .inl (nz_cI g, 8, .inl (X 2))), ((a 3), .inl (nz_cI g, 320, .inl (X 3))), ((a 4), .inl (nz_cI g, 94, .inl c4_c)), ((a 5), .inl (nz_cI g, 94, .inl (upd c5_c 0 q17))), ((a 6), .inl (nz_cI g, 168, .inl (X 6))), ((a 7), .inl (nz_cI g, 400, .inl (X 7))), ((a 8), .inl (nz_cI g, 6, .inl (X 8))), ((a 9), .inl (nz_cI g, 49, .inl (X 9))), ((a 10), .inl (nz_cI g, 6, .inl (X 10))), ((a 11), .inl (nz_cZ g, 2, .inl (X 11))), ((a 12), .inl (nz_cI g, 188, .inl (X 12))), ((a 13), .inl (nz_cI g, 16, .inl (X 13)))]) (fun _ _ _ _ _ _ => rfl) (fun q24 m25 m26 m27 m28 m29 m30 h => ?_)
  refine nz_iast (ws' := [((a 0), .inr (8, [.int c0_0, .int (X 0 1), .ref (a 1), .ref (a 2), .ref (a 3), .ref (a 4), .ref (a 5), .ref (a 6), .int c0_8, .ref (a 7), .int c0_10, .int c0_11, .int c0_12, .int m25, .int m26, .int m27, .int m28, .int m29, .int m30, .ref (a 8), .ref (a 9), .ref (a 10), .ref (a 11), .ref (a 12), .ref (a 13), .int (X 0 25)])), ((a 1), .inl (nz_cI g, 8, .inl (X 1))), ((a 2), .inl (nz_cI g, 8, .inl (X 2))), ((a 3), .inl (nz_cI g, 320, .inl (X 3))), ((a 4), .inl (nz_cI g, 94, .inl c4_c)), ((a 5), .inl (nz_cI g, 94, .inl (upd (upd c5_c 0 q17) 1 q24))), ((a 6), .inl (nz_cI g, 168, .inl (X 6))), ((a 7), .inl (nz_cI g, 400, .inl (X 7))), ((a 8), .inl (nz_cI g, 6, .inl (X 8))), ((a 9), .inl (nz_cI g, 49, .inl (X 9))), ((a 10), .inl (nz_cI g, 6, .inl (X 10))), ((a 11), .inl (nz_cZ g, 2, .inl (X 11))), ((a 12), .inl (nz_cI g, 188, .inl (X 12))), ((a 13), .inl (nz_cI g, 16, .inl (X 13)))]) F 5 rfl (nz_inC rfl) dX8_road_77 rfl ?_
  refine nz_aload_n F dX8_road_78 rfl 0 rfl ?_
  refine nz_get F iw_X8_road_8 0 rfl rfl 6 (by decide) rfl fl_X8_road_22 rfl dX8_road_79 ?_
  refine nz_iconst (v := 2) F dX8_road_82 (by decide) ?_
  refine nz_aload_n F dX8_road_83 rfl 0 rfl ?_
  refine nz_iconst (v := 0) F dX8_road_84 (by decide) ?_
  refine nz_bipush (v := 100) F dX8_road_85 (by decide) ?_
  refine k_X8_number (a 0) (a 1) (a 2) (a 3) (a 4) (a 5) (a 6) (a 7) (a 8) (a 9) (a 10) (a 11) (a 12) (a 13) c0_0 (X 0 1) c0_8 c0_10 c0_11 c0_12 m25 m26 m27 m28 m29 m30 (X 0 25) (X 1) (X 2) (X 3) c4_c (upd (upd c5_c 0 q17) 1 q24) (X 6) (X 7) (X 8) (X 9) (X 10) (X 11) (X 12) (X 13) 0 100 (fun hM => nz_runV F gX8_road_X8_number rfl hd_X8_number rfl hM dX8_road_87 [0, 1, 2, 3, 4, 5, 6, 7, 8, 9, 10, 11, 12, 13] rfl rfl 0 rfl rfl rfl (Nat.le_of_ble_eq_true rfl) rfl) h (fun m32 m33 m34 m35 m36 m37 => [((a 0), .inr (8, [.int c0_0, .int (X 0 1), .ref (a 1), .ref (a 2), .ref (a 3), .ref (a 4), .ref (a 5), .ref (a 6), .int c0_8, .ref (a 7), .int c0_10, .int c0_11, .int c0_12, .int m32, .int m33, .int m34, .int m35, .int m36, .int m37, .ref (a 8), .ref (a 9), .ref (a 10), .ref (a 11), .ref (a 12), .ref (a 13), .int (X 0 25)])), ((a 1), .inl (nz_cI g, 8, .inl (X 1))), ((a 2), .inl (nz_cI g, 8, .inl (X 2))), ((a 3), .inl (nz_cI g, 320, .inl (X 3))), ((a 4), .inl (nz_cI g, 94, .inl c4_c)), ((a 5), .inl (nz_cI g, 94, .inl (upd (upd c5_c 0 q17) 1 q24))), ((a 6), .inl (nz_cI g, 168, .inl (X 6))), ((a 7), .inl (nz_cI g, 400, .inl (X 7))), ((a 8), .inl (nz_cI g, 6, .inl (X 8))), ((a 9), .inl (nz_cI g, 49, .inl (X 9))), ((a 10), .inl (nz_cI g, 6, .inl (X 10))), ((a 11), .inl (nz_cZ g, 2, .inl (X 11))), ((a 12), .inl (nz_cI g, 188, .inl (X 12))), ((a 13), .inl (nz_cI g, 16, .inl (X 13)))]) (fun _ _ _ _ _ _ => rfl) (fun q31 m32 m33 m34 m35 m36 m37 h => ?_)
  refine nz_iast (ws' := [((a 0), .inr (8, [.int c0_0, .int (X 0 1), .ref (a 1), .ref (a 2), .ref (a 3), .ref (a 4), .ref (a 5), .ref (a 6), .int c0_8, .ref (a 7), .int c0_10, .int c0_11, .int c0_12, .int m32, .int m33, .int m34, .int m35, .int m36, .int m37, .ref (a 8), .ref (a 9), .ref (a 10), .ref (a 11), .ref (a 12), .ref (a 13), .int (X 0 25)])), ((a 1), .inl (nz_cI g, 8, .inl (X 1))), ((a 2), .inl (nz_cI g, 8, .inl (X 2))), ((a 3), .inl (nz_cI g, 320, .inl (X 3))), ((a 4), .inl (nz_cI g, 94, .inl c4_c)), ((a 5), .inl (nz_cI g, 94, .inl (upd (upd (upd c5_c 0 q17) 1 q24) 2 q31))), ((a 6), .inl (nz_cI g, 168, .inl (X 6))), ((a 7), .inl (nz_cI g, 400, .inl (X 7))), ((a 8), .inl (nz_cI g, 6, .inl (X 8))), ((a 9), .inl (nz_cI g, 49, .inl (X 9))), ((a 10), .inl (nz_cI g, 6, .inl (X 10))), ((a 11), .inl (nz_cZ g, 2, .inl (X 11))), ((a 12), .inl (nz_cI g, 188, .inl (X 12))), ((a 13), .inl (nz_cI g, 16, .inl (X 13)))]) F 5 rfl (nz_inC rfl) dX8_road_90 rfl ?_
  refine nz_aload_n F dX8_road_91 rfl 0 rfl ?_
  refine nz_get F iw_X8_road_8 0 rfl rfl 6 (by decide) rfl fl_X8_road_22 rfl dX8_road_92 ?_
  refine nz_iconst (v := 3) F dX8_road_95 (by decide) ?_
  refine nz_aload_n F dX8_road_96 rfl 0 rfl ?_
  refine nz_iconst (v := 0) F dX8_road_97 (by decide) ?_
  refine nz_bipush (v := 99) F dX8_road_98 (by decide) ?_
  refine k_X8_number (a 0) (a 1) (a 2) (a 3) (a 4) (a 5) (a 6) (a 7) (a 8) (a 9) (a 10) (a 11) (a 12) (a 13) c0_0 (X 0 1) c0_8 c0_10 c0_11 c0_12 m32 m33 m34 m35 m36 m37 (X 0 25) (X 1) (X 2) (X 3) c4_c (upd (upd (upd c5_c 0 q17) 1 q24) 2 q31) (X 6) (X 7) (X 8) (X 9) (X 10) (X 11) (X 12) (X 13) 0 99 (fun hM => nz_runV F gX8_road_X8_number rfl hd_X8_number rfl hM dX8_road_100 [0, 1, 2, 3, 4, 5, 6, 7, 8, 9, 10, 11, 12, 13] rfl rfl 0 rfl rfl rfl (Nat.le_of_ble_eq_true rfl) rfl) h (fun m39 m40 m41 m42 m43 m44 => [((a 0), .inr (8, [.int c0_0, .int (X 0 1), .ref (a 1), .ref (a 2), .ref (a 3), .ref (a 4), .ref (a 5), .ref (a 6), .int c0_8, .ref (a 7), .int c0_10, .int c0_11, .int c0_12, .int m39, .int m40, .int m41, .int m42, .int m43, .int m44, .ref (a 8), .ref (a 9), .ref (a 10), .ref (a 11), .ref (a 12), .ref (a 13), .int (X 0 25)])), ((a 1), .inl (nz_cI g, 8, .inl (X 1))), ((a 2), .inl (nz_cI g, 8, .inl (X 2))), ((a 3), .inl (nz_cI g, 320, .inl (X 3))), ((a 4), .inl (nz_cI g, 94, .inl c4_c)), ((a 5), .inl (nz_cI g, 94, .inl (upd (upd (upd c5_c 0 q17) 1 q24) 2 q31))), ((a 6), .inl (nz_cI g, 168, .inl (X 6))), ((a 7), .inl (nz_cI g, 400, .inl (X 7))), ((a 8), .inl (nz_cI g, 6, .inl (X 8))), ((a 9), .inl (nz_cI g, 49, .inl (X 9))), ((a 10), .inl (nz_cI g, 6, .inl (X 10))), ((a 11), .inl (nz_cZ g, 2, .inl (X 11))), ((a 12), .inl (nz_cI g, 188, .inl (X 12))), ((a 13), .inl (nz_cI g, 16, .inl (X 13)))]) (fun _ _ _ _ _ _ => rfl) (fun q38 m39 m40 m41 m42 m43 m44 h => ?_)
  refine nz_iast (ws' := [((a 0), .inr (8, [.int c0_0, .int (X 0 1), .ref (a 1), .ref (a 2), .ref (a 3), .ref (a 4), .ref (a 5), .ref (a 6), .int c0_8, .ref (a 7), .int c0_10, .int c0_11, .int c0_12, .int m39, .int m40, .int m41, .int m42, .int m43, .int m44, .ref (a 8), .ref (a 9), .ref (a 10), .ref (a 11), .ref (a 12), .ref (a 13), .int (X 0 25)])), ((a 1), .inl (nz_cI g, 8, .inl (X 1))), ((a 2), .inl (nz_cI g, 8, .inl (X 2))), ((a 3), .inl (nz_cI g, 320, .inl (X 3))), ((a 4), .inl (nz_cI g, 94, .inl c4_c)), ((a 5), .inl (nz_cI g, 94, .inl (upd (upd (upd (upd c5_c 0 q17) 1 q24) 2 q31) 3 q38))), ((a 6), .inl (nz_cI g, 168, .inl (X 6))), ((a 7), .inl (nz_cI g, 400, .inl (X 7))), ((a 8), .inl (nz_cI g, 6, .inl (X 8))), ((a 9), .inl (nz_cI g, 49, .inl (X 9))), ((a 10), .inl (nz_cI g, 6, .inl (X 10))), ((a 11), .inl (nz_cZ g, 2, .inl (X 11))), ((a 12), .inl (nz_cI g, 188, .inl (X 12))), ((a 13), .inl (nz_cI g, 16, .inl (X 13)))]) F 5 rfl (nz_inC rfl) dX8_road_103 rfl ?_
  refine nz_aload_n F dX8_road_104 rfl 0 rfl ?_
  refine k_X8_mustEnd (a 0) (a 1) (a 2) (a 3) (a 4) (a 5) (a 6) (a 7) (a 8) (a 9) (a 10) (a 11) (a 12) (a 13) c0_0 (X 0 1) c0_8 c0_10 c0_11 c0_12 m39 m40 m41 m42 m43 m44 (X 0 25) (X 1) (X 2) (X 3) c4_c (upd (upd (upd (upd c5_c 0 q17) 1 q24) 2 q31) 3 q38) (X 6) (X 7) (X 8) (X 9) (X 10) (X 11) (X 12) (X 13) (fun hM => nz_runV F gX8_road_X8_mustEnd rfl hd_X8_mustEnd rfl hM dX8_road_105 [0, 1, 2, 3, 4, 5, 6, 7, 8, 9, 10, 11, 12, 13] rfl rfl 0 rfl rfl rfl (Nat.le_of_ble_eq_true rfl) rfl) h (fun m45 m46 m47 m48 m49 m50 => [((a 0), .inr (8, [.int c0_0, .int (X 0 1), .ref (a 1), .ref (a 2), .ref (a 3), .ref (a 4), .ref (a 5), .ref (a 6), .int c0_8, .ref (a 7), .int c0_10, .int c0_11, .int c0_12, .int m45, .int m46, .int m47, .int m48, .int m49, .int m50, .ref (a 8), .ref (a 9), .ref (a 10), .ref (a 11), .ref (a 12), .ref (a 13), .int (X 0 25)])), ((a 1), .inl (nz_cI g, 8, .inl (X 1))), ((a 2), .inl (nz_cI g, 8, .inl (X 2))), ((a 3), .inl (nz_cI g, 320, .inl (X 3))), ((a 4), .inl (nz_cI g, 94, .inl c4_c)), ((a 5), .inl (nz_cI g, 94, .inl (upd (upd (upd (upd c5_c 0 q17) 1 q24) 2 q31) 3 q38))), ((a 6), .inl (nz_cI g, 168, .inl (X 6))), ((a 7), .inl (nz_cI g, 400, .inl (X 7))), ((a 8), .inl (nz_cI g, 6, .inl (X 8))), ((a 9), .inl (nz_cI g, 49, .inl (X 9))), ((a 10), .inl (nz_cI g, 6, .inl (X 10))), ((a 11), .inl (nz_cZ g, 2, .inl (X 11))), ((a 12), .inl (nz_cI g, 188, .inl (X 12))), ((a 13), .inl (nz_cI g, 16, .inl (X 13)))]) (fun _ _ _ _ _ _ => rfl) (fun m45 m46 m47 m48 m49 m50 h => ?_)
  obtain ⟨n1, h⟩ := h
  exact t_X8_road_108 F a X c0_0 c0_8 c0_10 c0_11 c0_12 c4_c hQ n1 m45 m46 m47 m48 m49 m50 (upd (upd (upd (upd c5_c 0 q17) 1 q24) 2 q31) 3 q38) h
def S_X8_road_11 (X : Nat → Nat → Int32) (c0_0 : Int32) (c0_8 : Int32) (c0_10 : Int32) (c0_11 : Int32) (c0_12 : Int32) (c0_13 : Int32) (c0_14 : Int32) (c0_15 : Int32) (c0_16 : Int32) (c0_17 : Int32) (c0_18 : Int32) (c4_c : Nat → Int32) (K : Int32 → (Nat → Nat → Int32) → Prop) (R11 : Int32 → (Nat → Int32) → Prop) (x1 : Int32) (c5_c : Nat → Int32) : Prop := ((94 ≤ x1 → wp_X8_name c0_14 c0_15 c0_16 c0_17 (X 7) (fun q9 => ((¬ (lg_cmp q9 7102839) = 0 → S_X8_road_47 X 0 c0_0 c0_8 c0_10 c0_11 c0_12 c0_13 c0_14 c0_15 c0_16 c0_17 c0_18 c4_c c5_c K) ∧ ((lg_cmp q9 7102839) = 0 → S_X8_road_47 X 1 c0_0 c0_8 c0_10 c0_11 c0_12 c0_13 c0_14 c0_15 c0_16 c0_17 c0_18 c4_c c5_c K)))) ∧ (¬ (94 ≤ x1) → (vp_in x1 94 ∧ R11 (x1 + 1) (upd c5_c x1.toNatClampNeg 0))))
set_option maxHeartbeats 4000000 in
set_option maxRecDepth 100000 in
theorem t_X8_road_11 {y : nz_Y} {g : nz_G} (F : nz_F y g cX8_road 2 wsX8_road RX8 (some .int) rm_X8_road) {wc0 : va_W} {sz : Nat} {K : Int32 → (Nat → Nat → Int32) → Prop} (a : Nat → Nat) (X : Nat → Nat → Int32) (c0_0 : Int32) (c0_8 : Int32) (c0_10 : Int32) (c0_11 : Int32) (c0_12 : Int32) (c0_13 : Int32) (c0_14 : Int32) (c0_15 : Int32) (c0_16 : Int32) (c0_17 : Int32) (c0_18 : Int32) (c4_c : Nat → Int32) (hQ : yz_A y = va_A wc0 sz ∧ yz_Q y = MQ (yz_b y) ((nz_Qi g wc0 (fun r (u : Nat → Nat → Int32) => K r u) (fun u => nz_wM g a u)) sz) (yz_a y) (yz_s y) 0 0 (va_A wc0 sz)) : ∀ (n1 : Nat) (x1 : Int32) (c5_c : Nat → Int32), nz_it (fun _ _ => False) (S_X8_road_11 X c0_0 c0_8 c0_10 c0_11 c0_12 c0_13 c0_14 c0_15 c0_16 c0_17 c0_18 c4_c K) n1 x1 c5_c → nz_V y g 0 0 [((a 0), .inr (8, [.int c0_0, .int (X 0 1), .ref (a 1), .ref (a 2), .ref (a 3), .ref (a 4), .ref (a 5), .ref (a 6), .int c0_8, .ref (a 7), .int c0_10, .int c0_11, .int c0_12, .int c0_13, .int c0_14, .int c0_15, .int c0_16, .int c0_17, .int c0_18, .ref (a 8), .ref (a 9), .ref (a 10), .ref (a 11), .ref (a 12), .ref (a 13), .int (X 0 25)])), ((a 1), .inl (nz_cI g, 8, .inl (X 1))), ((a 2), .inl (nz_cI g, 8, .inl (X 2))), ((a 3), .inl (nz_cI g, 320, .inl (X 3))), ((a 4), .inl (nz_cI g, 94, .inl c4_c)), ((a 5), .inl (nz_cI g, 94, .inl c5_c)), ((a 6), .inl (nz_cI g, 168, .inl (X 6))), ((a 7), .inl (nz_cI g, 400, .inl (X 7))), ((a 8), .inl (nz_cI g, 6, .inl (X 8))), ((a 9), .inl (nz_cI g, 49, .inl (X 9))), ((a 10), .inl (nz_cI g, 6, .inl (X 10))), ((a 11), .inl (nz_cZ g, 2, .inl (X 11))), ((a 12), .inl (nz_cI g, 188, .inl (X 12))), ((a 13), .inl (nz_cI g, 16, .inl (X 13)))] 11 [(0, .ref (a 0)), (1, .int x1)] [] := by
  intro n1
  induction n1 with
  | zero =>
    intro x1 c5_c h
    exact h.elim
  | succ n1 hR11 =>
    intro x1 c5_c h
    have h : S_X8_road_11 X c0_0 c0_8 c0_10 c0_11 c0_12 c0_13 c0_14 c0_15 c0_16 c0_17 c0_18 c4_c K (nz_it (fun _ _ => False) (S_X8_road_11 X c0_0 c0_8 c0_10 c0_11 c0_12 c0_13 c0_14 c0_15 c0_16 c0_17 c0_18 c4_c K) n1) x1 c5_c := h
    unfold S_X8_road_11 at h
    refine nz_iload_n F dX8_road_11 rfl 1 rfl ?_
    refine nz_bipush (v := 94) F dX8_road_12 (by decide) ?_
    refine nz_icmp_ge (tgt := 30) F dX8_road_14 (by decide) (fun c8 => ?_) (fun c8 => ?_)
    · have h := h.1 c8
      refine nz_aload_n F dX8_road_30 rfl 0 rfl ?_
      refine nz_aload_n F dX8_road_31 rfl 0 rfl ?_
      refine k_X8_name (a 0) (a 1) (a 2) (a 3) (a 4) (a 5) (a 6) (a 7) (a 8) (a 9) (a 10) (a 11) (a 12) (a 13) c0_0 (X 0 1) c0_8 c0_10 c0_11 c0_12 c0_13 c0_14 c0_15 c0_16 c0_17 c0_18 (X 0 25) (X 1) (X 2) (X 3) c4_c c5_c (X 6) (X 7) (X 8) (X 9) (X 10) (X 11) (X 12) (X 13) (fun hM => nz_runV F gX8_road_X8_name rfl hd_X8_name rfl hM dX8_road_32 [0, 1, 2, 3, 4, 5, 6, 7, 8, 9, 10, 11, 12, 13] rfl rfl 0 rfl rfl rfl (Nat.le_of_ble_eq_true rfl) rfl) h ([((a 0), .inr (8, [.int c0_0, .int (X 0 1), .ref (a 1), .ref (a 2), .ref (a 3), .ref (a 4), .ref (a 5), .ref (a 6), .int c0_8, .ref (a 7), .int c0_10, .int c0_11, .int c0_12, .int c0_13, .int c0_14, .int c0_15, .int c0_16, .int c0_17, .int c0_18, .ref (a 8), .ref (a 9), .ref (a 10), .ref (a 11), .ref (a 12), .ref (a 13), .int (X 0 25)])), ((a 1), .inl (nz_cI g, 8, .inl (X 1))), ((a 2), .inl (nz_cI g, 8, .inl (X 2))), ((a 3), .inl (nz_cI g, 320, .inl (X 3))), ((a 4), .inl (nz_cI g, 94, .inl c4_c)), ((a 5), .inl (nz_cI g, 94, .inl c5_c)), ((a 6), .inl (nz_cI g, 168, .inl (X 6))), ((a 7), .inl (nz_cI g, 400, .inl (X 7))), ((a 8), .inl (nz_cI g, 6, .inl (X 8))), ((a 9), .inl (nz_cI g, 49, .inl (X 9))), ((a 10), .inl (nz_cI g, 6, .inl (X 10))), ((a 11), .inl (nz_cZ g, 2, .inl (X 11))), ((a 12), .inl (nz_cI g, 188, .inl (X 12))), ((a 13), .inl (nz_cI g, 16, .inl (X 13)))]) (rfl) (fun q9 h => ?_)
      refine nz_ldc2 (v := 7102839) F wd_X8_road_c161 dX8_road_35 ?_
      refine nz_lcmp F dX8_road_38 ?_
      refine nz_if_ne (tgt := 46) F dX8_road_39 (by decide) (fun c10 => ?_) (fun c10 => ?_)
      · have h := h.1 c10
        refine nz_iconst (v := 0) F dX8_road_46 (by decide) ?_
        refine nz_ls (lv' := [(0, .ref (a 0))]) [0] rfl ?_
        exact t_X8_road_47 F a X 0 c0_0 c0_8 c0_10 c0_11 c0_12 c0_13 c0_14 c0_15 c0_16 c0_17 c0_18 c4_c c5_c hQ h
      · have h := h.2 c10
        refine nz_iconst (v := 1) F dX8_road_42 (by decide) ?_
        refine nz_goto (tgt := 47) F dX8_road_43 (by decide) ?_
        refine nz_ls (lv' := [(0, .ref (a 0))]) [0] rfl ?_
        exact t_X8_road_47 F a X 1 c0_0 c0_8 c0_10 c0_11 c0_12 c0_13 c0_14 c0_15 c0_16 c0_17 c0_18 c4_c c5_c hQ h
    · have h := h.2 c8
      refine nz_aload_n F dX8_road_17 rfl 0 rfl ?_
      refine nz_get F iw_X8_road_8 0 rfl rfl 6 (by decide) rfl fl_X8_road_22 rfl dX8_road_18 ?_
      refine nz_iload_n F dX8_road_21 rfl 1 rfl ?_
      refine nz_iconst (v := 0) F dX8_road_22 (by decide) ?_
      obtain ⟨i77, h⟩ := h
      refine nz_iast (ws' := [((a 0), .inr (8, [.int c0_0, .int (X 0 1), .ref (a 1), .ref (a 2), .ref (a 3), .ref (a 4), .ref (a 5), .ref (a 6), .int c0_8, .ref (a 7), .int c0_10, .int c0_11, .int c0_12, .int c0_13, .int c0_14, .int c0_15, .int c0_16, .int c0_17, .int c0_18, .ref (a 8), .ref (a 9), .ref (a 10), .ref (a 11), .ref (a 12), .ref (a 13), .int (X 0 25)])), ((a 1), .inl (nz_cI g, 8, .inl (X 1))), ((a 2), .inl (nz_cI g, 8, .inl (X 2))), ((a 3), .inl (nz_cI g, 320, .inl (X 3))), ((a 4), .inl (nz_cI g, 94, .inl c4_c)), ((a 5), .inl (nz_cI g, 94, .inl (upd c5_c x1.toNatClampNeg 0))), ((a 6), .inl (nz_cI g, 168, .inl (X 6))), ((a 7), .inl (nz_cI g, 400, .inl (X 7))), ((a 8), .inl (nz_cI g, 6, .inl (X 8))), ((a 9), .inl (nz_cI g, 49, .inl (X 9))), ((a 10), .inl (nz_cI g, 6, .inl (X 10))), ((a 11), .inl (nz_cZ g, 2, .inl (X 11))), ((a 12), .inl (nz_cI g, 188, .inl (X 12))), ((a 13), .inl (nz_cI g, 16, .inl (X 13)))]) F 5 rfl i77 dX8_road_23 rfl ?_
      refine nz_iinc (v := (x1 + 1)) (j := 1) (lv' := [(1, .int (x1 + 1)), (0, .ref (a 0))]) F dX8_road_24 rfl rfl (by decide) rfl ?_
      refine nz_goto (tgt := 11) F dX8_road_27 (by decide) ?_
      refine nz_ls (lv' := [(0, .ref (a 0)), (1, .int (x1 + 1))]) [1, 0] rfl ?_
      exact hR11 (x1 + 1) (upd c5_c x1.toNatClampNeg 0) h
def wp_X8_road (X : Nat → Nat → Int32) (K : Int32 → (Nat → Nat → Int32) → Prop) : Prop := wp_X8_begin (X 0 10) (X 7) (fun m1 m2 m3 m4 m5 m6 m7 => (∃ n, nz_it (fun _ _ => False) (S_X8_road_11 X 0 (X 0 8) m1 (X 0 11) m2 m3 m4 m5 m6 m7 (X 0 18) (X 4) K) n 0 (X 5)))
set_option maxHeartbeats 4000000 in
set_option maxRecDepth 100000 in
theorem c_X8_road (l : Launch) (g : nz_G) (a : Nat → Nat) (X : Nat → Nat → Int32) (K : Int32 → (Nat → Nat → Int32) → Prop) (h : wp_X8_road X K) : nz_M l yX8_road wsX8_road rm_X8_road g [.ref (a 0)] (nz_wM g a X) (nz_Qi g (nz_wM g a X) (fun r (u : Nat → Nat → Int32) => K r u) (fun u => nz_wM g a u)) := by
  refine nz_M.of (bytes := cX8_road) (nL := 2) (ret := (some .int)) (own := RX8) (by decide) rfl rfl ⟨rfl, rfl⟩ rfl ?_
  intro y F hl hQ
  obtain ⟨sz, hQ⟩ := hQ
  refine nz_ent (lv' := [(0, .ref (a 0))]) rfl ?_
  unfold wp_X8_road at h
  refine nz_aload_n F dX8_road_0 rfl 0 rfl ?_
  refine nz_iconst (v := 0) F dX8_road_1 (by decide) ?_
  refine nz_put (ws' := [((a 0), .inr (8, [.int 0, .int (X 0 1), .ref (a 1), .ref (a 2), .ref (a 3), .ref (a 4), .ref (a 5), .ref (a 6), .int (X 0 8), .ref (a 7), .int (X 0 10), .int (X 0 11), .int (X 0 12), .int (X 0 13), .int (X 0 14), .int (X 0 15), .int (X 0 16), .int (X 0 17), .int (X 0 18), .ref (a 8), .ref (a 9), .ref (a 10), .ref (a 11), .ref (a 12), .ref (a 13), .int (X 0 25)])), ((a 1), .inl (nz_cI g, 8, .inl (X 1))), ((a 2), .inl (nz_cI g, 8, .inl (X 2))), ((a 3), .inl (nz_cI g, 320, .inl (X 3))), ((a 4), .inl (nz_cI g, 94, .inl (X 4))), ((a 5), .inl (nz_cI g, 94, .inl (X 5))), ((a 6), .inl (nz_cI g, 168, .inl (X 6))), ((a 7), .inl (nz_cI g, 400, .inl (X 7))), ((a 8), .inl (nz_cI g, 6, .inl (X 8))), ((a 9), .inl (nz_cI g, 49, .inl (X 9))), ((a 10), .inl (nz_cI g, 6, .inl (X 10))), ((a 11), .inl (nz_cZ g, 2, .inl (X 11))), ((a 12), .inl (nz_cI g, 188, .inl (X 12))), ((a 13), .inl (nz_cI g, 16, .inl (X 13)))]) F iw_X8_road_8 tyX8 tyX8_ok nmX8 0 rfl rfl 0 (by decide) rfl fl_X8_road_50 rfl rfl (Nat.le_of_ble_eq_true rfl) dX8_road_2 rfl ?_
  refine nz_aload_n F dX8_road_5 rfl 0 rfl ?_
  refine k_X8_begin (a 0) (a 1) (a 2) (a 3) (a 4) (a 5) (a 6) (a 7) (a 8) (a 9) (a 10) (a 11) (a 12) (a 13) 0 (X 0 1) (X 0 8) (X 0 10) (X 0 11) (X 0 12) (X 0 13) (X 0 14) (X 0 15) (X 0 16) (X 0 17) (X 0 18) (X 0 25) (X 1) (X 2) (X 3) (X 4) (X 5) (X 6) (X 7) (X 8) (X 9) (X 10) (X 11) (X 12) (X 13) (fun hM => nz_runV F gX8_road_X8_begin rfl hd_X8_begin rfl hM dX8_road_6 [0, 1, 2, 3, 4, 5, 6, 7, 8, 9, 10, 11, 12, 13] rfl rfl 0 rfl rfl rfl (Nat.le_of_ble_eq_true rfl) rfl) h (fun m1 m2 m3 m4 m5 m6 m7 => [((a 0), .inr (8, [.int 0, .int (X 0 1), .ref (a 1), .ref (a 2), .ref (a 3), .ref (a 4), .ref (a 5), .ref (a 6), .int (X 0 8), .ref (a 7), .int m1, .int (X 0 11), .int m2, .int m3, .int m4, .int m5, .int m6, .int m7, .int (X 0 18), .ref (a 8), .ref (a 9), .ref (a 10), .ref (a 11), .ref (a 12), .ref (a 13), .int (X 0 25)])), ((a 1), .inl (nz_cI g, 8, .inl (X 1))), ((a 2), .inl (nz_cI g, 8, .inl (X 2))), ((a 3), .inl (nz_cI g, 320, .inl (X 3))), ((a 4), .inl (nz_cI g, 94, .inl (X 4))), ((a 5), .inl (nz_cI g, 94, .inl (X 5))), ((a 6), .inl (nz_cI g, 168, .inl (X 6))), ((a 7), .inl (nz_cI g, 400, .inl (X 7))), ((a 8), .inl (nz_cI g, 6, .inl (X 8))), ((a 9), .inl (nz_cI g, 49, .inl (X 9))), ((a 10), .inl (nz_cI g, 6, .inl (X 10))), ((a 11), .inl (nz_cZ g, 2, .inl (X 11))), ((a 12), .inl (nz_cI g, 188, .inl (X 12))), ((a 13), .inl (nz_cI g, 16, .inl (X 13)))]) (fun _ _ _ _ _ _ _ => rfl) (fun m1 m2 m3 m4 m5 m6 m7 h => ?_)
  refine nz_iconst (v := 0) F dX8_road_9 (by decide) ?_
  refine nz_istore_n (lv' := [(1, .int 0), (0, .ref (a 0))]) F dX8_road_10 rfl (by decide) rfl ?_
  refine nz_ls (lv' := [(0, .ref (a 0)), (1, .int 0)]) [1, 0] rfl ?_
  obtain ⟨n1, h⟩ := h
  exact t_X8_road_11 F a X 0 (X 0 8) m1 (X 0 11) m2 m3 m4 m5 m6 m7 (X 0 18) (X 4) hQ n1 0 (X 5) h
theorem k_X8_road {y : nz_Y} {g : nz_G} {k n : Nat} {ws : va_W} {pc : Nat} {ls : List (Nat × Value)} {st rest : List Value} {av : Array Value} {isC : List Nat} {K : Int32 → (Nat → Nat → Int32) → Prop} (a : Nat → Nat) (X : Nat → Nat → Int32) (run : nz_M (yz_l y) yX8_road wsX8_road rm_X8_road g [.ref (a 0)] (nz_wM g a X) (nz_Qi g (nz_wM g a X) (fun r (u : Nat → Nat → Int32) => K r u) (fun u => nz_wM g a u)) → nz_C y g k n ws pc ls st rest (nz_wM g a X) (nz_Qi g (nz_wM g a X) (fun r (u : Nat → Nat → Int32) => K r u) (fun u => nz_wM g a u)) av isC) (h : wp_X8_road X K) (ws' : (Nat → Nat → Int32) → va_W) (hm : ∀ (m0 : (Nat → Nat → Int32)), nz_mrg ws isC (nz_wM g a m0) = ws' m0) (kk : ∀ (r : Int32) (m0 : (Nat → Nat → Int32)), K r m0 → nz_V y g k n (ws' m0) (pc + 3) ls (.int r :: rest)) : nz_V y g k n ws pc ls st :=
  nz_ci (ws' := fun u => ws' u) (run (c_X8_road (yz_l y) g a X K h)) (fun _ => rfl) (fun u => hm u) (fun r u h => kk r u h)
theorem dX8_fault_0 : decode cX8_fault 0 = .ok (.aload_n 0, 1) := by decide +kernel
theorem dX8_fault_1 : decode cX8_fault 1 = .ok (.iconst 0, 1) := by decide +kernel
theorem dX8_fault_2 : decode cX8_fault 2 = .ok (.putfield 50, 3) := by decide +kernel
theorem dX8_fault_5 : decode cX8_fault 5 = .ok (.aload_n 0, 1) := by decide +kernel
theorem dX8_fault_6 : decode cX8_fault 6 = .ok (.getfield 173, 3) := by decide +kernel
theorem dX8_fault_9 : decode cX8_fault 9 = .ok (.ireturn, 1) := by decide +kernel
/-! X8_fault -/
abbrev rm_X8_fault : Room := { frames := 0, cells := 0, slots := 0, locals := 0 }
theorem iw_X8_fault_8 : ∀ w ∈ wsX80, w ∈ wsX8_fault := fun _ h => List.mem_cons_of_mem _ (List.mem_append_right _ h)
theorem fl_X8_fault_50 : Cond.fieldLink RX8 50 "NightStonesModel" "thrown" "I" ∈ wsX8_fault := List.mem_of_getElem? (i := 1) rfl
theorem fl_X8_fault_173 : Cond.fieldLink RX8 173 "NightStonesModel" "latest" "I" ∈ wsX8_fault := List.mem_of_getElem? (i := 2) rfl
def wp_X8_fault (X : Nat → Nat → Int32) (K : Int32 → (Nat → Nat → Int32) → Prop) : Prop := K (X 0 11) (va_up X 0 (upd (X 0) 0 0))
set_option maxHeartbeats 4000000 in
set_option maxRecDepth 100000 in
theorem c_X8_fault (l : Launch) (g : nz_G) (a : Nat → Nat) (X : Nat → Nat → Int32) (K : Int32 → (Nat → Nat → Int32) → Prop) (h : wp_X8_fault X K) : nz_M l yX8_fault wsX8_fault rm_X8_fault g [.ref (a 0)] (nz_wM g a X) (nz_Qi g (nz_wM g a X) (fun r (u : Nat → Nat → Int32) => K r u) (fun u => nz_wM g a u)) := by
  refine nz_M.of (bytes := cX8_fault) (nL := 1) (ret := (some .int)) (own := RX8) (by decide) rfl rfl ⟨rfl, rfl⟩ rfl ?_
  intro y F hl hQ
  obtain ⟨sz, hQ⟩ := hQ
  refine nz_ent (lv' := [(0, .ref (a 0))]) rfl ?_
  unfold wp_X8_fault at h
  refine nz_aload_n F dX8_fault_0 rfl 0 rfl ?_
  refine nz_iconst (v := 0) F dX8_fault_1 (by decide) ?_
  refine nz_put (ws' := [((a 0), .inr (8, [.int 0, .int (X 0 1), .ref (a 1), .ref (a 2), .ref (a 3), .ref (a 4), .ref (a 5), .ref (a 6), .int (X 0 8), .ref (a 7), .int (X 0 10), .int (X 0 11), .int (X 0 12), .int (X 0 13), .int (X 0 14), .int (X 0 15), .int (X 0 16), .int (X 0 17), .int (X 0 18), .ref (a 8), .ref (a 9), .ref (a 10), .ref (a 11), .ref (a 12), .ref (a 13), .int (X 0 25)])), ((a 1), .inl (nz_cI g, 8, .inl (X 1))), ((a 2), .inl (nz_cI g, 8, .inl (X 2))), ((a 3), .inl (nz_cI g, 320, .inl (X 3))), ((a 4), .inl (nz_cI g, 94, .inl (X 4))), ((a 5), .inl (nz_cI g, 94, .inl (X 5))), ((a 6), .inl (nz_cI g, 168, .inl (X 6))), ((a 7), .inl (nz_cI g, 400, .inl (X 7))), ((a 8), .inl (nz_cI g, 6, .inl (X 8))), ((a 9), .inl (nz_cI g, 49, .inl (X 9))), ((a 10), .inl (nz_cI g, 6, .inl (X 10))), ((a 11), .inl (nz_cZ g, 2, .inl (X 11))), ((a 12), .inl (nz_cI g, 188, .inl (X 12))), ((a 13), .inl (nz_cI g, 16, .inl (X 13)))]) F iw_X8_fault_8 tyX8 tyX8_ok nmX8 0 rfl rfl 0 (by decide) rfl fl_X8_fault_50 rfl rfl (Nat.le_of_ble_eq_true rfl) dX8_fault_2 rfl ?_
  refine nz_aload_n F dX8_fault_5 rfl 0 rfl ?_
  refine nz_get F iw_X8_fault_8 0 rfl rfl 11 (by decide) rfl fl_X8_fault_173 rfl dX8_fault_6 ?_
  exact nz_iret F hQ (va_up X 0 (upd (X 0) 0 0)) h rfl dX8_fault_9
theorem k_X8_fault {y : nz_Y} {g : nz_G} {k n : Nat} {ws : va_W} {pc : Nat} {ls : List (Nat × Value)} {st rest : List Value} {av : Array Value} {isC : List Nat} {K : Int32 → (Nat → Nat → Int32) → Prop} (a : Nat → Nat) (X : Nat → Nat → Int32) (run : nz_M (yz_l y) yX8_fault wsX8_fault rm_X8_fault g [.ref (a 0)] (nz_wM g a X) (nz_Qi g (nz_wM g a X) (fun r (u : Nat → Nat → Int32) => K r u) (fun u => nz_wM g a u)) → nz_C y g k n ws pc ls st rest (nz_wM g a X) (nz_Qi g (nz_wM g a X) (fun r (u : Nat → Nat → Int32) => K r u) (fun u => nz_wM g a u)) av isC) (h : wp_X8_fault X K) (ws' : (Nat → Nat → Int32) → va_W) (hm : ∀ (m0 : (Nat → Nat → Int32)), nz_mrg ws isC (nz_wM g a m0) = ws' m0) (kk : ∀ (r : Int32) (m0 : (Nat → Nat → Int32)), K r m0 → nz_V y g k n (ws' m0) (pc + 3) ls (.int r :: rest)) : nz_V y g k n ws pc ls st :=
  nz_ci (ws' := fun u => ws' u) (run (c_X8_fault (yz_l y) g a X K h)) (fun _ => rfl) (fun u => hm u) (fun r u h => kk r u h)
theorem dX8_night_0 : decode cX8_night 0 = .ok (.aload_n 0, 1) := by decide +kernel
theorem dX8_night_1 : decode cX8_night 1 = .ok (.iconst 0, 1) := by decide +kernel
theorem dX8_night_2 : decode cX8_night 2 = .ok (.putfield 50, 3) := by decide +kernel
theorem dX8_night_5 : decode cX8_night 5 = .ok (.aload_n 0, 1) := by decide +kernel
theorem dX8_night_6 : decode cX8_night 6 = .ok (.invokevirtual 192, 3) := by decide +kernel
theorem dX8_night_9 : decode cX8_night 9 = .ok (.ifCond .ne 6, 3) := by decide +kernel
theorem dX8_night_12 : decode cX8_night 12 = .ok (.ldc 196, 2) := by decide +kernel
theorem dX8_night_14 : decode cX8_night 14 = .ok (.ireturn, 1) := by decide +kernel
theorem dX8_night_15 : decode cX8_night 15 = .ok (.aload_n 0, 1) := by decide +kernel
theorem dX8_night_16 : decode cX8_night 16 = .ok (.getfield 19, 3) := by decide +kernel
theorem dX8_night_19 : decode cX8_night 19 = .ok (.bipush 6, 2) := by decide +kernel
theorem dX8_night_21 : decode cX8_night 21 = .ok (.iaload, 1) := by decide +kernel
theorem dX8_night_22 : decode cX8_night 22 = .ok (.sipush 9999, 3) := by decide +kernel
theorem dX8_night_25 : decode cX8_night 25 = .ok (.if_icmp .ne 6, 3) := by decide +kernel
theorem dX8_night_28 : decode cX8_night 28 = .ok (.ldc 80, 2) := by decide +kernel
theorem dX8_night_30 : decode cX8_night 30 = .ok (.ireturn, 1) := by decide +kernel
theorem dX8_night_31 : decode cX8_night 31 = .ok (.aload_n 0, 1) := by decide +kernel
theorem dX8_night_32 : decode cX8_night 32 = .ok (.invokevirtual 197, 3) := by decide +kernel
theorem dX8_night_35 : decode cX8_night 35 = .ok (.aload_n 0, 1) := by decide +kernel
theorem dX8_night_36 : decode cX8_night 36 = .ok (.iconst 1, 1) := by decide +kernel
theorem dX8_night_37 : decode cX8_night 37 = .ok (.invokevirtual 200, 3) := by decide +kernel
theorem dX8_night_40 : decode cX8_night 40 = .ok (.aload_n 0, 1) := by decide +kernel
theorem dX8_night_41 : decode cX8_night 41 = .ok (.aload_n 0, 1) := by decide +kernel
theorem dX8_night_42 : decode cX8_night 42 = .ok (.getfield 19, 3) := by decide +kernel
theorem dX8_night_45 : decode cX8_night 45 = .ok (.bipush 6, 2) := by decide +kernel
theorem dX8_night_47 : decode cX8_night 47 = .ok (.iaload, 1) := by decide +kernel
theorem dX8_night_48 : decode cX8_night 48 = .ok (.bipush 31, 2) := by decide +kernel
theorem dX8_night_50 : decode cX8_night 50 = .ok (.invokevirtual 203, 3) := by decide +kernel
theorem dX8_night_53 : decode cX8_night 53 = .ok (.iconst 0, 1) := by decide +kernel
theorem dX8_night_54 : decode cX8_night 54 = .ok (.istore_n 1, 1) := by decide +kernel
theorem dX8_night_55 : decode cX8_night 55 = .ok (.iconst 0, 1) := by decide +kernel
theorem dX8_night_56 : decode cX8_night 56 = .ok (.istore_n 2, 1) := by decide +kernel
theorem dX8_night_57 : decode cX8_night 57 = .ok (.iload_n 2, 1) := by decide +kernel
theorem dX8_night_58 : decode cX8_night 58 = .ok (.aload_n 0, 1) := by decide +kernel
theorem dX8_night_59 : decode cX8_night 59 = .ok (.getfield 19, 3) := by decide +kernel
theorem dX8_night_62 : decode cX8_night 62 = .ok (.iconst 4, 1) := by decide +kernel
theorem dX8_night_63 : decode cX8_night 63 = .ok (.iaload, 1) := by decide +kernel
theorem dX8_night_64 : decode cX8_night 64 = .ok (.if_icmp .ge 53, 3) := by decide +kernel
theorem dX8_night_67 : decode cX8_night 67 = .ok (.iload_n 1, 1) := by decide +kernel
theorem dX8_night_68 : decode cX8_night 68 = .ok (.aload_n 0, 1) := by decide +kernel
theorem dX8_night_69 : decode cX8_night 69 = .ok (.getfield 31, 3) := by decide +kernel
theorem dX8_night_72 : decode cX8_night 72 = .ok (.iload_n 2, 1) := by decide +kernel
theorem dX8_night_73 : decode cX8_night 73 = .ok (.iaload, 1) := by decide +kernel
theorem dX8_night_74 : decode cX8_night 74 = .ok (.aload_n 0, 1) := by decide +kernel
theorem dX8_night_75 : decode cX8_night 75 = .ok (.iload_n 2, 1) := by decide +kernel
theorem dX8_night_76 : decode cX8_night 76 = .ok (.iconst 1, 1) := by decide +kernel
theorem dX8_night_77 : decode cX8_night 77 = .ok (.invokevirtual 180, 3) := by decide +kernel
theorem dX8_night_80 : decode cX8_night 80 = .ok (.if_icmp .eq 9, 3) := by decide +kernel
theorem dX8_night_83 : decode cX8_night 83 = .ok (.iconst 1, 1) := by decide +kernel
theorem dX8_night_84 : decode cX8_night 84 = .ok (.iload_n 2, 1) := by decide +kernel
theorem dX8_night_85 : decode cX8_night 85 = .ok (.ishl, 1) := by decide +kernel
theorem dX8_night_86 : decode cX8_night 86 = .ok (.goto 4, 3) := by decide +kernel
theorem dX8_night_89 : decode cX8_night 89 = .ok (.iconst 0, 1) := by decide +kernel
theorem dX8_night_90 : decode cX8_night 90 = .ok (.ior, 1) := by decide +kernel
theorem dX8_night_91 : decode cX8_night 91 = .ok (.istore_n 1, 1) := by decide +kernel
theorem dX8_night_92 : decode cX8_night 92 = .ok (.aload_n 0, 1) := by decide +kernel
theorem dX8_night_93 : decode cX8_night 93 = .ok (.getfield 19, 3) := by decide +kernel
theorem dX8_night_96 : decode cX8_night 96 = .ok (.bipush 8, 2) := by decide +kernel
theorem dX8_night_98 : decode cX8_night 98 = .ok (.iconst 3, 1) := by decide +kernel
theorem dX8_night_99 : decode cX8_night 99 = .ok (.iload_n 2, 1) := by decide +kernel
theorem dX8_night_100 : decode cX8_night 100 = .ok (.imul, 1) := by decide +kernel
theorem dX8_night_101 : decode cX8_night 101 = .ok (.iadd, 1) := by decide +kernel
theorem dX8_night_102 : decode cX8_night 102 = .ok (.iconst 1, 1) := by decide +kernel
theorem dX8_night_103 : decode cX8_night 103 = .ok (.iadd, 1) := by decide +kernel
theorem dX8_night_104 : decode cX8_night 104 = .ok (.aload_n 0, 1) := by decide +kernel
theorem dX8_night_105 : decode cX8_night 105 = .ok (.getfield 31, 3) := by decide +kernel
theorem dX8_night_108 : decode cX8_night 108 = .ok (.iload_n 2, 1) := by decide +kernel
theorem dX8_night_109 : decode cX8_night 109 = .ok (.iaload, 1) := by decide +kernel
theorem dX8_night_110 : decode cX8_night 110 = .ok (.iastore, 1) := by decide +kernel
theorem dX8_night_111 : decode cX8_night 111 = .ok (.iinc 2 1, 3) := by decide +kernel
theorem dX8_night_114 : decode cX8_night 114 = .ok (.goto (-57), 3) := by decide +kernel
theorem dX8_night_117 : decode cX8_night 117 = .ok (.aload_n 0, 1) := by decide +kernel
theorem dX8_night_118 : decode cX8_night 118 = .ok (.getfield 19, 3) := by decide +kernel
theorem dX8_night_121 : decode cX8_night 121 = .ok (.bipush 6, 2) := by decide +kernel
theorem dX8_night_123 : decode cX8_night 123 = .ok (.dup2, 1) := by decide +kernel
theorem dX8_night_124 : decode cX8_night 124 = .ok (.iaload, 1) := by decide +kernel
theorem dX8_night_125 : decode cX8_night 125 = .ok (.iconst 1, 1) := by decide +kernel
theorem dX8_night_126 : decode cX8_night 126 = .ok (.iadd, 1) := by decide +kernel
theorem dX8_night_127 : decode cX8_night 127 = .ok (.iastore, 1) := by decide +kernel
theorem dX8_night_128 : decode cX8_night 128 = .ok (.iload_n 1, 1) := by decide +kernel
theorem dX8_night_129 : decode cX8_night 129 = .ok (.ireturn, 1) := by decide +kernel
set_option maxRecDepth 20000 in
theorem ggX8_night_X8_goNight : GoodIn wsX8_night wsX8_goNight := goodIn_r _ [28, 3, 29, 30, 31, 9, 32, 5, 33, 34, 35, 36, 17, 18, 19, 20, 37, 38, 39, 40, 41, 42, 43, 44, 45, 46, 47, 48, 49, 50, 51, 52, 53, 54, 55, 56, 57, 58, 59, 60, 61, 62, 63, 64, 65, 66] rfl (by decide +kernel)
set_option maxRecDepth 20000 in
theorem gX8_night_X8_goNight : GoodIn wsX8_night (wsV RX8 203 RX8 yX8_goNight wsX8_goNight) := goodIn_app (goodIn_r _ [25, 26, 27, 9] rfl (by decide +kernel)) ggX8_night_X8_goNight
set_option maxRecDepth 20000 in
theorem ggX8_night_X8_isThere : GoodIn wsX8_night wsX8_isThere := goodIn_r _ [10, 3, 41, 42, 43, 44, 45, 46, 47, 48, 49, 50, 51, 52, 53, 54, 55, 56, 57, 58, 59, 60, 61, 62, 63, 64, 65, 66] rfl (by decide +kernel)
set_option maxRecDepth 20000 in
theorem gX8_night_X8_isThere : GoodIn wsX8_night (wsV RX8 192 RX8 yX8_isThere wsX8_isThere) := goodIn_app (goodIn_r _ [6, 7, 8, 9] rfl (by decide +kernel)) ggX8_night_X8_isThere
set_option maxRecDepth 20000 in
theorem ggX8_night_X8_keep : GoodIn wsX8_night wsX8_keep := goodIn_r _ [14, 15, 16, 3, 17, 18, 19, 9, 20, 41, 42, 43, 44, 45, 46, 47, 48, 49, 50, 51, 52, 53, 54, 55, 56, 57, 58, 59, 60, 61, 62, 63, 64, 65, 66] rfl (by decide +kernel)
set_option maxRecDepth 20000 in
theorem gX8_night_X8_keep : GoodIn wsX8_night (wsV RX8 197 RX8 yX8_keep wsX8_keep) := goodIn_app (goodIn_r _ [11, 12, 13, 9] rfl (by decide +kernel)) ggX8_night_X8_keep
set_option maxRecDepth 20000 in
theorem ggX8_night_X8_layNow : GoodIn wsX8_night wsX8_layNow := goodIn_r _ [24, 3, 5, 17, 18, 19, 9, 20, 41, 42, 43, 44, 45, 46, 47, 48, 49, 50, 51, 52, 53, 54, 55, 56, 57, 58, 59, 60, 61, 62, 63, 64, 65, 66] rfl (by decide +kernel)
set_option maxRecDepth 20000 in
theorem gX8_night_X8_layNow : GoodIn wsX8_night (wsV RX8 200 RX8 yX8_layNow wsX8_layNow) := goodIn_app (goodIn_r _ [21, 22, 23, 9] rfl (by decide +kernel)) ggX8_night_X8_layNow
set_option maxRecDepth 20000 in
theorem ggX8_night_X8_stoneOf : GoodIn wsX8_night wsX8_stoneOf := goodIn_r _ [20, 3, 41, 42, 43, 44, 45, 46, 47, 48, 49, 50, 51, 52, 53, 54, 55, 56, 57, 58, 59, 60, 61, 62, 63, 64, 65, 66] rfl (by decide +kernel)
set_option maxRecDepth 20000 in
theorem gX8_night_X8_stoneOf : GoodIn wsX8_night (wsV RX8 180 RX8 yX8_stoneOf wsX8_stoneOf) := goodIn_app (goodIn_r _ [17, 18, 19, 9] rfl (by decide +kernel)) ggX8_night_X8_stoneOf
theorem hd_X8_isThere : yX8_isThere.cls = RX8 ∧ yX8_isThere.cls ≠ "java/lang/invoke/MethodHandle" ∧ yX8_isThere.cls ≠ "java/lang/invoke/VarHandle" ∧ (parseMethodDescriptor yX8_isThere.desc).map (fun d => d.parameters.length) = some 0 := by decide +kernel
theorem hd_X8_keep : yX8_keep.cls = RX8 ∧ yX8_keep.cls ≠ "java/lang/invoke/MethodHandle" ∧ yX8_keep.cls ≠ "java/lang/invoke/VarHandle" ∧ (parseMethodDescriptor yX8_keep.desc).map (fun d => d.parameters.length) = some 0 := by decide +kernel
/-! X8_night -/
abbrev rm_X8_night : Room := { frames := 3, cells := 0, slots := 0, locals := 74 }
theorem iw_X8_night_8 : ∀ w ∈ wsX80, w ∈ wsX8_night := fun _ h => List.mem_cons_of_mem _ (List.mem_append_right _ h)
theorem fl_X8_night_50 : Cond.fieldLink RX8 50 "NightStonesModel" "thrown" "I" ∈ wsX8_night := List.mem_of_getElem? (i := 1) rfl
theorem fl_X8_night_19 : Cond.fieldLink RX8 19 "NightStonesModel" "road" "[I" ∈ wsX8_night := List.mem_of_getElem? (i := 3) rfl
theorem fl_X8_night_31 : Cond.fieldLink RX8 31 "NightStonesModel" "where" "[I" ∈ wsX8_night := List.mem_of_getElem? (i := 5) rfl
theorem wd_X8_night_c80 : Cond.constant RX8 80 (-1000003) ∈ wsX8_night := List.mem_of_getElem? (i := 4) rfl
theorem wd_X8_night_c196 : Cond.constant RX8 196 (-1000002) ∈ wsX8_night := List.mem_of_getElem? (i := 2) rfl
def S_X8_night_90 (x2 : Int32) (s0 : Int32) (s1 : Int32) (c4_c : Nat → Int32) (c8_c : Nat → Int32) (R57 : Int32 → Int32 → (Nat → Int32) → Prop) (K : Int32 → (Nat → Nat → Int32) → Prop) : Prop := (vp_in x2 6 ∧ (vp_in ((8 + (3 * x2)) + 1) 94 ∧ R57 (s1 ||| s0) (x2 + 1) (upd c4_c ((8 + (3 * x2)) + 1).toNatClampNeg (c8_c x2.toNatClampNeg))))
set_option maxHeartbeats 4000000 in
set_option maxRecDepth 100000 in
theorem t_X8_night_90 {y : nz_Y} {g : nz_G} (F : nz_F y g cX8_night 3 wsX8_night RX8 (some .int) rm_X8_night) {wc0 : va_W} {sz : Nat} {K : Int32 → (Nat → Nat → Int32) → Prop} {R57 : Int32 → Int32 → (Nat → Int32) → Prop} (a : Nat → Nat) (X : Nat → Nat → Int32) (x2 : Int32) (s0 : Int32) (s1 : Int32) (c0_0 : Int32) (c0_8 : Int32) (c4_c : Nat → Int32) (c6_c : Nat → Int32) (c8_c : Nat → Int32) (hQ : yz_A y = va_A wc0 sz ∧ yz_Q y = MQ (yz_b y) ((nz_Qi g wc0 (fun r (u : Nat → Nat → Int32) => K r u) (fun u => nz_wM g a u)) sz) (yz_a y) (yz_s y) 0 0 (va_A wc0 sz)) (hR57 : ∀ (x1 : Int32) (x2 : Int32) (c4_c : Nat → Int32), R57 x1 x2 c4_c → nz_V y g 0 0 [((a 0), .inr (8, [.int c0_0, .int (X 0 1), .ref (a 1), .ref (a 2), .ref (a 3), .ref (a 4), .ref (a 5), .ref (a 6), .int c0_8, .ref (a 7), .int (X 0 10), .int (X 0 11), .int (X 0 12), .int (X 0 13), .int (X 0 14), .int (X 0 15), .int (X 0 16), .int (X 0 17), .int (X 0 18), .ref (a 8), .ref (a 9), .ref (a 10), .ref (a 11), .ref (a 12), .ref (a 13), .int (X 0 25)])), ((a 1), .inl (nz_cI g, 8, .inl (X 1))), ((a 2), .inl (nz_cI g, 8, .inl (X 2))), ((a 3), .inl (nz_cI g, 320, .inl (X 3))), ((a 4), .inl (nz_cI g, 94, .inl c4_c)), ((a 5), .inl (nz_cI g, 94, .inl (X 5))), ((a 6), .inl (nz_cI g, 168, .inl c6_c)), ((a 7), .inl (nz_cI g, 400, .inl (X 7))), ((a 8), .inl (nz_cI g, 6, .inl c8_c)), ((a 9), .inl (nz_cI g, 49, .inl (X 9))), ((a 10), .inl (nz_cI g, 6, .inl (X 10))), ((a 11), .inl (nz_cZ g, 2, .inl (X 11))), ((a 12), .inl (nz_cI g, 188, .inl (X 12))), ((a 13), .inl (nz_cI g, 16, .inl (X 13)))] 57 [(0, .ref (a 0)), (1, .int x1), (2, .int x2)] []) : S_X8_night_90 x2 s0 s1 c4_c c8_c R57 K → nz_V y g 0 0 [((a 0), .inr (8, [.int c0_0, .int (X 0 1), .ref (a 1), .ref (a 2), .ref (a 3), .ref (a 4), .ref (a 5), .ref (a 6), .int c0_8, .ref (a 7), .int (X 0 10), .int (X 0 11), .int (X 0 12), .int (X 0 13), .int (X 0 14), .int (X 0 15), .int (X 0 16), .int (X 0 17), .int (X 0 18), .ref (a 8), .ref (a 9), .ref (a 10), .ref (a 11), .ref (a 12), .ref (a 13), .int (X 0 25)])), ((a 1), .inl (nz_cI g, 8, .inl (X 1))), ((a 2), .inl (nz_cI g, 8, .inl (X 2))), ((a 3), .inl (nz_cI g, 320, .inl (X 3))), ((a 4), .inl (nz_cI g, 94, .inl c4_c)), ((a 5), .inl (nz_cI g, 94, .inl (X 5))), ((a 6), .inl (nz_cI g, 168, .inl c6_c)), ((a 7), .inl (nz_cI g, 400, .inl (X 7))), ((a 8), .inl (nz_cI g, 6, .inl c8_c)), ((a 9), .inl (nz_cI g, 49, .inl (X 9))), ((a 10), .inl (nz_cI g, 6, .inl (X 10))), ((a 11), .inl (nz_cZ g, 2, .inl (X 11))), ((a 12), .inl (nz_cI g, 188, .inl (X 12))), ((a 13), .inl (nz_cI g, 16, .inl (X 13)))] 90 [(0, .ref (a 0)), (2, .int x2)] [.int s0, .int s1] := by
  intro h
  unfold S_X8_night_90 at h
  refine nz_ior F dX8_night_90 ?_
  refine nz_istore_n (lv' := [(1, .int (s1 ||| s0)), (0, .ref (a 0)), (2, .int x2)]) F dX8_night_91 rfl (by decide) rfl ?_
  refine nz_aload_n F dX8_night_92 rfl 1 rfl ?_
  refine nz_get F iw_X8_night_8 0 rfl rfl 5 (by decide) rfl fl_X8_night_19 rfl dX8_night_93 ?_
  refine nz_bipush (v := 8) F dX8_night_96 (by decide) ?_
  refine nz_iconst (v := 3) F dX8_night_98 (by decide) ?_
  refine nz_iload_n F dX8_night_99 rfl 2 rfl ?_
  refine nz_imul F dX8_night_100 ?_
  refine nz_iadd F dX8_night_101 ?_
  refine nz_iconst (v := 1) F dX8_night_102 (by decide) ?_
  refine nz_iadd F dX8_night_103 ?_
  refine nz_aload_n F dX8_night_104 rfl 1 rfl ?_
  refine nz_get F iw_X8_night_8 0 rfl rfl 19 (by decide) rfl fl_X8_night_31 rfl dX8_night_105 ?_
  refine nz_iload_n F dX8_night_108 rfl 2 rfl ?_
  obtain ⟨i12, h⟩ := h
  refine nz_iald F 8 rfl i12 dX8_night_109 ?_
  obtain ⟨i13, h⟩ := h
  refine nz_iast (ws' := [((a 0), .inr (8, [.int c0_0, .int (X 0 1), .ref (a 1), .ref (a 2), .ref (a 3), .ref (a 4), .ref (a 5), .ref (a 6), .int c0_8, .ref (a 7), .int (X 0 10), .int (X 0 11), .int (X 0 12), .int (X 0 13), .int (X 0 14), .int (X 0 15), .int (X 0 16), .int (X 0 17), .int (X 0 18), .ref (a 8), .ref (a 9), .ref (a 10), .ref (a 11), .ref (a 12), .ref (a 13), .int (X 0 25)])), ((a 1), .inl (nz_cI g, 8, .inl (X 1))), ((a 2), .inl (nz_cI g, 8, .inl (X 2))), ((a 3), .inl (nz_cI g, 320, .inl (X 3))), ((a 4), .inl (nz_cI g, 94, .inl (upd c4_c ((8 + (3 * x2)) + 1).toNatClampNeg (c8_c x2.toNatClampNeg)))), ((a 5), .inl (nz_cI g, 94, .inl (X 5))), ((a 6), .inl (nz_cI g, 168, .inl c6_c)), ((a 7), .inl (nz_cI g, 400, .inl (X 7))), ((a 8), .inl (nz_cI g, 6, .inl c8_c)), ((a 9), .inl (nz_cI g, 49, .inl (X 9))), ((a 10), .inl (nz_cI g, 6, .inl (X 10))), ((a 11), .inl (nz_cZ g, 2, .inl (X 11))), ((a 12), .inl (nz_cI g, 188, .inl (X 12))), ((a 13), .inl (nz_cI g, 16, .inl (X 13)))]) F 4 rfl i13 dX8_night_110 rfl ?_
  refine nz_iinc (v := (x2 + 1)) (j := 2) (lv' := [(2, .int (x2 + 1)), (1, .int (s1 ||| s0)), (0, .ref (a 0))]) F dX8_night_111 rfl rfl (by decide) rfl ?_
  refine nz_goto (tgt := 57) F dX8_night_114 (by decide) ?_
  refine nz_ls (lv' := [(0, .ref (a 0)), (1, .int (s1 ||| s0)), (2, .int (x2 + 1))]) [2, 1, 0] rfl ?_
  exact hR57 (s1 ||| s0) (x2 + 1) (upd c4_c ((8 + (3 * x2)) + 1).toNatClampNeg (c8_c x2.toNatClampNeg)) h
def S_X8_night_57 (X : Nat → Nat → Int32) (c0_0 : Int32) (c0_8 : Int32) (c6_c : Nat → Int32) (c8_c : Nat → Int32) (K : Int32 → (Nat → Nat → Int32) → Prop) (R57 : Int32 → Int32 → (Nat → Int32) → Prop) (x1 : Int32) (x2 : Int32) (c4_c : Nat → Int32) : Prop := (((c4_c 4) ≤ x2 → K x1 (va_up (va_up (va_up (va_up X 0 (upd (upd (X 0) 0 c0_0) 8 c0_8)) 4 (upd c4_c 6 ((c4_c 6) + 1))) 6 c6_c) 8 c8_c)) ∧ (¬ ((c4_c 4) ≤ x2) → (vp_in x2 6 ∧ wp_X8_stoneOf c4_c x2 1 (fun q10 => (((c8_c x2.toNatClampNeg) = q10 → S_X8_night_90 x2 0 x1 c4_c c8_c R57 K) ∧ (¬ ((c8_c x2.toNatClampNeg) = q10) → S_X8_night_90 x2 (1 <<< (x2 &&& 31)) x1 c4_c c8_c R57 K))))))
set_option maxHeartbeats 4000000 in
set_option maxRecDepth 100000 in
theorem t_X8_night_57 {y : nz_Y} {g : nz_G} (F : nz_F y g cX8_night 3 wsX8_night RX8 (some .int) rm_X8_night) {wc0 : va_W} {sz : Nat} {K : Int32 → (Nat → Nat → Int32) → Prop} (a : Nat → Nat) (X : Nat → Nat → Int32) (c0_0 : Int32) (c0_8 : Int32) (c6_c : Nat → Int32) (c8_c : Nat → Int32) (hQ : yz_A y = va_A wc0 sz ∧ yz_Q y = MQ (yz_b y) ((nz_Qi g wc0 (fun r (u : Nat → Nat → Int32) => K r u) (fun u => nz_wM g a u)) sz) (yz_a y) (yz_s y) 0 0 (va_A wc0 sz)) : ∀ (n1 : Nat) (x1 : Int32) (x2 : Int32) (c4_c : Nat → Int32), nz_it (fun _ _ _ => False) (S_X8_night_57 X c0_0 c0_8 c6_c c8_c K) n1 x1 x2 c4_c → nz_V y g 0 0 [((a 0), .inr (8, [.int c0_0, .int (X 0 1), .ref (a 1), .ref (a 2), .ref (a 3), .ref (a 4), .ref (a 5), .ref (a 6), .int c0_8, .ref (a 7), .int (X 0 10), .int (X 0 11), .int (X 0 12), .int (X 0 13), .int (X 0 14), .int (X 0 15), .int (X 0 16), .int (X 0 17), .int (X 0 18), .ref (a 8), .ref (a 9), .ref (a 10), .ref (a 11), .ref (a 12), .ref (a 13), .int (X 0 25)])), ((a 1), .inl (nz_cI g, 8, .inl (X 1))), ((a 2), .inl (nz_cI g, 8, .inl (X 2))), ((a 3), .inl (nz_cI g, 320, .inl (X 3))), ((a 4), .inl (nz_cI g, 94, .inl c4_c)), ((a 5), .inl (nz_cI g, 94, .inl (X 5))), ((a 6), .inl (nz_cI g, 168, .inl c6_c)), ((a 7), .inl (nz_cI g, 400, .inl (X 7))), ((a 8), .inl (nz_cI g, 6, .inl c8_c)), ((a 9), .inl (nz_cI g, 49, .inl (X 9))), ((a 10), .inl (nz_cI g, 6, .inl (X 10))), ((a 11), .inl (nz_cZ g, 2, .inl (X 11))), ((a 12), .inl (nz_cI g, 188, .inl (X 12))), ((a 13), .inl (nz_cI g, 16, .inl (X 13)))] 57 [(0, .ref (a 0)), (1, .int x1), (2, .int x2)] [] := by
  intro n1
  induction n1 with
  | zero =>
    intro x1 x2 c4_c h
    exact h.elim
  | succ n1 hR57 =>
    intro x1 x2 c4_c h
    have h : S_X8_night_57 X c0_0 c0_8 c6_c c8_c K (nz_it (fun _ _ _ => False) (S_X8_night_57 X c0_0 c0_8 c6_c c8_c K) n1) x1 x2 c4_c := h
    unfold S_X8_night_57 at h
    refine nz_iload_n F dX8_night_57 rfl 2 rfl ?_
    refine nz_aload_n F dX8_night_58 rfl 0 rfl ?_
    refine nz_get F iw_X8_night_8 0 rfl rfl 5 (by decide) rfl fl_X8_night_19 rfl dX8_night_59 ?_
    refine nz_iconst (v := 4) F dX8_night_62 (by decide) ?_
    refine nz_iald F 4 rfl (nz_inC rfl) dX8_night_63 ?_
    refine nz_vi (z := (c4_c 4)) rfl ?_
    refine nz_icmp_ge (tgt := 117) F dX8_night_64 (by decide) (fun c8 => ?_) (fun c8 => ?_)
    · have h := h.1 c8
      refine nz_aload_n F dX8_night_117 rfl 0 rfl ?_
      refine nz_get F iw_X8_night_8 0 rfl rfl 5 (by decide) rfl fl_X8_night_19 rfl dX8_night_118 ?_
      refine nz_bipush (v := 6) F dX8_night_121 (by decide) ?_
      refine nz_dup2_11 F dX8_night_123 rfl rfl ?_
      refine nz_iald F 4 rfl (nz_inC rfl) dX8_night_124 ?_
      refine nz_vi (z := (c4_c 6)) rfl ?_
      refine nz_iconst (v := 1) F dX8_night_125 (by decide) ?_
      refine nz_iadd F dX8_night_126 ?_
      refine nz_iast (ws' := [((a 0), .inr (8, [.int c0_0, .int (X 0 1), .ref (a 1), .ref (a 2), .ref (a 3), .ref (a 4), .ref (a 5), .ref (a 6), .int c0_8, .ref (a 7), .int (X 0 10), .int (X 0 11), .int (X 0 12), .int (X 0 13), .int (X 0 14), .int (X 0 15), .int (X 0 16), .int (X 0 17), .int (X 0 18), .ref (a 8), .ref (a 9), .ref (a 10), .ref (a 11), .ref (a 12), .ref (a 13), .int (X 0 25)])), ((a 1), .inl (nz_cI g, 8, .inl (X 1))), ((a 2), .inl (nz_cI g, 8, .inl (X 2))), ((a 3), .inl (nz_cI g, 320, .inl (X 3))), ((a 4), .inl (nz_cI g, 94, .inl (upd c4_c 6 ((c4_c 6) + 1)))), ((a 5), .inl (nz_cI g, 94, .inl (X 5))), ((a 6), .inl (nz_cI g, 168, .inl c6_c)), ((a 7), .inl (nz_cI g, 400, .inl (X 7))), ((a 8), .inl (nz_cI g, 6, .inl c8_c)), ((a 9), .inl (nz_cI g, 49, .inl (X 9))), ((a 10), .inl (nz_cI g, 6, .inl (X 10))), ((a 11), .inl (nz_cZ g, 2, .inl (X 11))), ((a 12), .inl (nz_cI g, 188, .inl (X 12))), ((a 13), .inl (nz_cI g, 16, .inl (X 13)))]) F 4 rfl (nz_inC rfl) dX8_night_127 rfl ?_
      refine nz_iload_n F dX8_night_128 rfl 1 rfl ?_
      exact nz_iret F hQ (va_up (va_up (va_up (va_up X 0 (upd (upd (X 0) 0 c0_0) 8 c0_8)) 4 (upd c4_c 6 ((c4_c 6) + 1))) 6 c6_c) 8 c8_c) h rfl dX8_night_129
    · have h := h.2 c8
      refine nz_iload_n F dX8_night_67 rfl 1 rfl ?_
      refine nz_aload_n F dX8_night_68 rfl 0 rfl ?_
      refine nz_get F iw_X8_night_8 0 rfl rfl 19 (by decide) rfl fl_X8_night_31 rfl dX8_night_69 ?_
      refine nz_iload_n F dX8_night_72 rfl 2 rfl ?_
      obtain ⟨i9, h⟩ := h
      refine nz_iald F 8 rfl i9 dX8_night_73 ?_
      refine nz_aload_n F dX8_night_74 rfl 0 rfl ?_
      refine nz_iload_n F dX8_night_75 rfl 2 rfl ?_
      refine nz_iconst (v := 1) F dX8_night_76 (by decide) ?_
      refine k_X8_stoneOf (a 0) (a 1) (a 2) (a 3) (a 4) (a 5) (a 6) (a 7) (a 8) (a 9) (a 10) (a 11) (a 12) (a 13) c0_0 (X 0 1) c0_8 (X 0 10) (X 0 11) (X 0 12) (X 0 13) (X 0 14) (X 0 15) (X 0 16) (X 0 17) (X 0 18) (X 0 25) (X 1) (X 2) (X 3) c4_c (X 5) c6_c (X 7) c8_c (X 9) (X 10) (X 11) (X 12) (X 13) x2 1 (fun hM => nz_runV F gX8_night_X8_stoneOf rfl hd_X8_stoneOf rfl hM dX8_night_77 [0, 1, 2, 3, 4, 5, 6, 7, 8, 9, 10, 11, 12, 13] rfl rfl 0 rfl rfl rfl (Nat.le_of_ble_eq_true rfl) rfl) h ([((a 0), .inr (8, [.int c0_0, .int (X 0 1), .ref (a 1), .ref (a 2), .ref (a 3), .ref (a 4), .ref (a 5), .ref (a 6), .int c0_8, .ref (a 7), .int (X 0 10), .int (X 0 11), .int (X 0 12), .int (X 0 13), .int (X 0 14), .int (X 0 15), .int (X 0 16), .int (X 0 17), .int (X 0 18), .ref (a 8), .ref (a 9), .ref (a 10), .ref (a 11), .ref (a 12), .ref (a 13), .int (X 0 25)])), ((a 1), .inl (nz_cI g, 8, .inl (X 1))), ((a 2), .inl (nz_cI g, 8, .inl (X 2))), ((a 3), .inl (nz_cI g, 320, .inl (X 3))), ((a 4), .inl (nz_cI g, 94, .inl c4_c)), ((a 5), .inl (nz_cI g, 94, .inl (X 5))), ((a 6), .inl (nz_cI g, 168, .inl c6_c)), ((a 7), .inl (nz_cI g, 400, .inl (X 7))), ((a 8), .inl (nz_cI g, 6, .inl c8_c)), ((a 9), .inl (nz_cI g, 49, .inl (X 9))), ((a 10), .inl (nz_cI g, 6, .inl (X 10))), ((a 11), .inl (nz_cZ g, 2, .inl (X 11))), ((a 12), .inl (nz_cI g, 188, .inl (X 12))), ((a 13), .inl (nz_cI g, 16, .inl (X 13)))]) (rfl) (fun q10 h => ?_)
      refine nz_icmp_eq (tgt := 89) F dX8_night_80 (by decide) (fun c11 => ?_) (fun c11 => ?_)
      · have h := h.1 c11
        refine nz_iconst (v := 0) F dX8_night_89 (by decide) ?_
        refine nz_ls (lv' := [(0, .ref (a 0)), (2, .int x2)]) [0, 2] rfl ?_
        exact t_X8_night_90 F a X x2 0 x1 c0_0 c0_8 c4_c c6_c c8_c hQ hR57 h
      · have h := h.2 c11
        refine nz_iconst (v := 1) F dX8_night_83 (by decide) ?_
        refine nz_iload_n F dX8_night_84 rfl 2 rfl ?_
        refine nz_ishl F dX8_night_85 ?_
        refine nz_goto (tgt := 90) F dX8_night_86 (by decide) ?_
        refine nz_ls (lv' := [(0, .ref (a 0)), (2, .int x2)]) [0, 2] rfl ?_
        exact t_X8_night_90 F a X x2 (1 <<< (x2 &&& 31)) x1 c0_0 c0_8 c4_c c6_c c8_c hQ hR57 h
def wp_X8_night (X : Nat → Nat → Int32) (K : Int32 → (Nat → Nat → Int32) → Prop) : Prop := wp_X8_isThere (X 4) (fun q1 => ((¬ q1 = 0 → ((¬ ((X 4) 6) = 9999 → wp_X8_keep (X 0 8) (X 4) (X 6) (fun m4 m5 => wp_X8_layNow (X 4) (X 8) 1 (fun m6 => wp_X8_goNight (X 4) m6 ((X 4) 6) 31 (fun m7 => (∃ n, nz_it (fun _ _ _ => False) (S_X8_night_57 X 0 m4 m5 m7 K) n 0 0 (X 4)))))) ∧ (((X 4) 6) = 9999 → K (-1000003 : Int32) (va_up X 0 (upd (X 0) 0 0))))) ∧ (q1 = 0 → K (-1000002 : Int32) (va_up X 0 (upd (X 0) 0 0)))))
set_option maxHeartbeats 4000000 in
set_option maxRecDepth 100000 in
theorem c_X8_night (l : Launch) (g : nz_G) (a : Nat → Nat) (X : Nat → Nat → Int32) (K : Int32 → (Nat → Nat → Int32) → Prop) (h : wp_X8_night X K) : nz_M l yX8_night wsX8_night rm_X8_night g [.ref (a 0)] (nz_wM g a X) (nz_Qi g (nz_wM g a X) (fun r (u : Nat → Nat → Int32) => K r u) (fun u => nz_wM g a u)) := by
  refine nz_M.of (bytes := cX8_night) (nL := 3) (ret := (some .int)) (own := RX8) (by decide) rfl rfl ⟨rfl, rfl⟩ rfl ?_
  intro y F hl hQ
  obtain ⟨sz, hQ⟩ := hQ
  refine nz_ent (lv' := [(0, .ref (a 0))]) rfl ?_
  unfold wp_X8_night at h
  refine nz_aload_n F dX8_night_0 rfl 0 rfl ?_
  refine nz_iconst (v := 0) F dX8_night_1 (by decide) ?_
  refine nz_put (ws' := [((a 0), .inr (8, [.int 0, .int (X 0 1), .ref (a 1), .ref (a 2), .ref (a 3), .ref (a 4), .ref (a 5), .ref (a 6), .int (X 0 8), .ref (a 7), .int (X 0 10), .int (X 0 11), .int (X 0 12), .int (X 0 13), .int (X 0 14), .int (X 0 15), .int (X 0 16), .int (X 0 17), .int (X 0 18), .ref (a 8), .ref (a 9), .ref (a 10), .ref (a 11), .ref (a 12), .ref (a 13), .int (X 0 25)])), ((a 1), .inl (nz_cI g, 8, .inl (X 1))), ((a 2), .inl (nz_cI g, 8, .inl (X 2))), ((a 3), .inl (nz_cI g, 320, .inl (X 3))), ((a 4), .inl (nz_cI g, 94, .inl (X 4))), ((a 5), .inl (nz_cI g, 94, .inl (X 5))), ((a 6), .inl (nz_cI g, 168, .inl (X 6))), ((a 7), .inl (nz_cI g, 400, .inl (X 7))), ((a 8), .inl (nz_cI g, 6, .inl (X 8))), ((a 9), .inl (nz_cI g, 49, .inl (X 9))), ((a 10), .inl (nz_cI g, 6, .inl (X 10))), ((a 11), .inl (nz_cZ g, 2, .inl (X 11))), ((a 12), .inl (nz_cI g, 188, .inl (X 12))), ((a 13), .inl (nz_cI g, 16, .inl (X 13)))]) F iw_X8_night_8 tyX8 tyX8_ok nmX8 0 rfl rfl 0 (by decide) rfl fl_X8_night_50 rfl rfl (Nat.le_of_ble_eq_true rfl) dX8_night_2 rfl ?_
  refine nz_aload_n F dX8_night_5 rfl 0 rfl ?_
  refine k_X8_isThere (a 0) (a 1) (a 2) (a 3) (a 4) (a 5) (a 6) (a 7) (a 8) (a 9) (a 10) (a 11) (a 12) (a 13) 0 (X 0 1) (X 0 8) (X 0 10) (X 0 11) (X 0 12) (X 0 13) (X 0 14) (X 0 15) (X 0 16) (X 0 17) (X 0 18) (X 0 25) (X 1) (X 2) (X 3) (X 4) (X 5) (X 6) (X 7) (X 8) (X 9) (X 10) (X 11) (X 12) (X 13) (fun hM => nz_runV F gX8_night_X8_isThere rfl hd_X8_isThere rfl hM dX8_night_6 [0, 1, 2, 3, 4, 5, 6, 7, 8, 9, 10, 11, 12, 13] rfl rfl 0 rfl rfl rfl (Nat.le_of_ble_eq_true rfl) rfl) h ([((a 0), .inr (8, [.int 0, .int (X 0 1), .ref (a 1), .ref (a 2), .ref (a 3), .ref (a 4), .ref (a 5), .ref (a 6), .int (X 0 8), .ref (a 7), .int (X 0 10), .int (X 0 11), .int (X 0 12), .int (X 0 13), .int (X 0 14), .int (X 0 15), .int (X 0 16), .int (X 0 17), .int (X 0 18), .ref (a 8), .ref (a 9), .ref (a 10), .ref (a 11), .ref (a 12), .ref (a 13), .int (X 0 25)])), ((a 1), .inl (nz_cI g, 8, .inl (X 1))), ((a 2), .inl (nz_cI g, 8, .inl (X 2))), ((a 3), .inl (nz_cI g, 320, .inl (X 3))), ((a 4), .inl (nz_cI g, 94, .inl (X 4))), ((a 5), .inl (nz_cI g, 94, .inl (X 5))), ((a 6), .inl (nz_cI g, 168, .inl (X 6))), ((a 7), .inl (nz_cI g, 400, .inl (X 7))), ((a 8), .inl (nz_cI g, 6, .inl (X 8))), ((a 9), .inl (nz_cI g, 49, .inl (X 9))), ((a 10), .inl (nz_cI g, 6, .inl (X 10))), ((a 11), .inl (nz_cZ g, 2, .inl (X 11))), ((a 12), .inl (nz_cI g, 188, .inl (X 12))), ((a 13), .inl (nz_cI g, 16, .inl (X 13)))]) (rfl) (fun q1 h => ?_)
  refine nz_if_ne (tgt := 15) F dX8_night_9 (by decide) (fun c2 => ?_) (fun c2 => ?_)
  · have h := h.1 c2
    refine nz_aload_n F dX8_night_15 rfl 0 rfl ?_
    refine nz_get F iw_X8_night_8 0 rfl rfl 5 (by decide) rfl fl_X8_night_19 rfl dX8_night_16 ?_
    refine nz_bipush (v := 6) F dX8_night_19 (by decide) ?_
    refine nz_iald F 4 rfl (nz_inC rfl) dX8_night_21 ?_
    refine nz_vi (z := ((X 4) 6)) rfl ?_
    refine nz_sipush (v := 9999) F dX8_night_22 (by decide) ?_
    refine nz_icmp_ne (tgt := 31) F dX8_night_25 (by decide) (fun c3 => ?_) (fun c3 => ?_)
    · have h := h.1 c3
      refine nz_aload_n F dX8_night_31 rfl 0 rfl ?_
      refine k_X8_keep (a 0) (a 1) (a 2) (a 3) (a 4) (a 5) (a 6) (a 7) (a 8) (a 9) (a 10) (a 11) (a 12) (a 13) 0 (X 0 1) (X 0 8) (X 0 10) (X 0 11) (X 0 12) (X 0 13) (X 0 14) (X 0 15) (X 0 16) (X 0 17) (X 0 18) (X 0 25) (X 1) (X 2) (X 3) (X 4) (X 5) (X 6) (X 7) (X 8) (X 9) (X 10) (X 11) (X 12) (X 13) (fun hM => nz_runV F gX8_night_X8_keep rfl hd_X8_keep rfl hM dX8_night_32 [0, 1, 2, 3, 4, 5, 6, 7, 8, 9, 10, 11, 12, 13] rfl rfl 0 rfl rfl rfl (Nat.le_of_ble_eq_true rfl) rfl) h (fun m4 m5 => [((a 0), .inr (8, [.int 0, .int (X 0 1), .ref (a 1), .ref (a 2), .ref (a 3), .ref (a 4), .ref (a 5), .ref (a 6), .int m4, .ref (a 7), .int (X 0 10), .int (X 0 11), .int (X 0 12), .int (X 0 13), .int (X 0 14), .int (X 0 15), .int (X 0 16), .int (X 0 17), .int (X 0 18), .ref (a 8), .ref (a 9), .ref (a 10), .ref (a 11), .ref (a 12), .ref (a 13), .int (X 0 25)])), ((a 1), .inl (nz_cI g, 8, .inl (X 1))), ((a 2), .inl (nz_cI g, 8, .inl (X 2))), ((a 3), .inl (nz_cI g, 320, .inl (X 3))), ((a 4), .inl (nz_cI g, 94, .inl (X 4))), ((a 5), .inl (nz_cI g, 94, .inl (X 5))), ((a 6), .inl (nz_cI g, 168, .inl m5)), ((a 7), .inl (nz_cI g, 400, .inl (X 7))), ((a 8), .inl (nz_cI g, 6, .inl (X 8))), ((a 9), .inl (nz_cI g, 49, .inl (X 9))), ((a 10), .inl (nz_cI g, 6, .inl (X 10))), ((a 11), .inl (nz_cZ g, 2, .inl (X 11))), ((a 12), .inl (nz_cI g, 188, .inl (X 12))), ((a 13), .inl (nz_cI g, 16, .inl (X 13)))]) (fun _ _ => rfl) (fun m4 m5 h => ?_)
      refine nz_aload_n F dX8_night_35 rfl 0 rfl ?_
      refine nz_iconst (v := 1) F dX8_night_36 (by decide) ?_
      refine k_X8_layNow (a 0) (a 1) (a 2) (a 3) (a 4) (a 5) (a 6) (a 7) (a 8) (a 9) (a 10) (a 11) (a 12) (a 13) 0 (X 0 1) m4 (X 0 10) (X 0 11) (X 0 12) (X 0 13) (X 0 14) (X 0 15) (X 0 16) (X 0 17) (X 0 18) (X 0 25) (X 1) (X 2) (X 3) (X 4) (X 5) m5 (X 7) (X 8) (X 9) (X 10) (X 11) (X 12) (X 13) 1 (fun hM => nz_runV F gX8_night_X8_layNow rfl hd_X8_layNow rfl hM dX8_night_37 [0, 1, 2, 3, 4, 5, 6, 7, 8, 9, 10, 11, 12, 13] rfl rfl 0 rfl rfl rfl (Nat.le_of_ble_eq_true rfl) rfl) h (fun m6 => [((a 0), .inr (8, [.int 0, .int (X 0 1), .ref (a 1), .ref (a 2), .ref (a 3), .ref (a 4), .ref (a 5), .ref (a 6), .int m4, .ref (a 7), .int (X 0 10), .int (X 0 11), .int (X 0 12), .int (X 0 13), .int (X 0 14), .int (X 0 15), .int (X 0 16), .int (X 0 17), .int (X 0 18), .ref (a 8), .ref (a 9), .ref (a 10), .ref (a 11), .ref (a 12), .ref (a 13), .int (X 0 25)])), ((a 1), .inl (nz_cI g, 8, .inl (X 1))), ((a 2), .inl (nz_cI g, 8, .inl (X 2))), ((a 3), .inl (nz_cI g, 320, .inl (X 3))), ((a 4), .inl (nz_cI g, 94, .inl (X 4))), ((a 5), .inl (nz_cI g, 94, .inl (X 5))), ((a 6), .inl (nz_cI g, 168, .inl m5)), ((a 7), .inl (nz_cI g, 400, .inl (X 7))), ((a 8), .inl (nz_cI g, 6, .inl m6)), ((a 9), .inl (nz_cI g, 49, .inl (X 9))), ((a 10), .inl (nz_cI g, 6, .inl (X 10))), ((a 11), .inl (nz_cZ g, 2, .inl (X 11))), ((a 12), .inl (nz_cI g, 188, .inl (X 12))), ((a 13), .inl (nz_cI g, 16, .inl (X 13)))]) (fun _ => rfl) (fun m6 h => ?_)
      refine nz_aload_n F dX8_night_40 rfl 0 rfl ?_
      refine nz_aload_n F dX8_night_41 rfl 0 rfl ?_
      refine nz_get F iw_X8_night_8 0 rfl rfl 5 (by decide) rfl fl_X8_night_19 rfl dX8_night_42 ?_
      refine nz_bipush (v := 6) F dX8_night_45 (by decide) ?_
      refine nz_iald F 4 rfl (nz_inC rfl) dX8_night_47 ?_
      refine nz_vi (z := ((X 4) 6)) rfl ?_
      refine nz_bipush (v := 31) F dX8_night_48 (by decide) ?_
      refine k_X8_goNight (a 0) (a 1) (a 2) (a 3) (a 4) (a 5) (a 6) (a 7) (a 8) (a 9) (a 10) (a 11) (a 12) (a 13) 0 (X 0 1) m4 (X 0 10) (X 0 11) (X 0 12) (X 0 13) (X 0 14) (X 0 15) (X 0 16) (X 0 17) (X 0 18) (X 0 25) (X 1) (X 2) (X 3) (X 4) (X 5) m5 (X 7) m6 (X 9) (X 10) (X 11) (X 12) (X 13) ((X 4) 6) 31 (fun hM => nz_runV F gX8_night_X8_goNight rfl hd_X8_goNight rfl hM dX8_night_50 [0, 1, 2, 3, 4, 5, 6, 7, 8, 9, 10, 11, 12, 13] rfl rfl 0 rfl rfl rfl (Nat.le_of_ble_eq_true rfl) rfl) h (fun m7 => [((a 0), .inr (8, [.int 0, .int (X 0 1), .ref (a 1), .ref (a 2), .ref (a 3), .ref (a 4), .ref (a 5), .ref (a 6), .int m4, .ref (a 7), .int (X 0 10), .int (X 0 11), .int (X 0 12), .int (X 0 13), .int (X 0 14), .int (X 0 15), .int (X 0 16), .int (X 0 17), .int (X 0 18), .ref (a 8), .ref (a 9), .ref (a 10), .ref (a 11), .ref (a 12), .ref (a 13), .int (X 0 25)])), ((a 1), .inl (nz_cI g, 8, .inl (X 1))), ((a 2), .inl (nz_cI g, 8, .inl (X 2))), ((a 3), .inl (nz_cI g, 320, .inl (X 3))), ((a 4), .inl (nz_cI g, 94, .inl (X 4))), ((a 5), .inl (nz_cI g, 94, .inl (X 5))), ((a 6), .inl (nz_cI g, 168, .inl m5)), ((a 7), .inl (nz_cI g, 400, .inl (X 7))), ((a 8), .inl (nz_cI g, 6, .inl m7)), ((a 9), .inl (nz_cI g, 49, .inl (X 9))), ((a 10), .inl (nz_cI g, 6, .inl (X 10))), ((a 11), .inl (nz_cZ g, 2, .inl (X 11))), ((a 12), .inl (nz_cI g, 188, .inl (X 12))), ((a 13), .inl (nz_cI g, 16, .inl (X 13)))]) (fun _ => rfl) (fun m7 h => ?_)
      refine nz_iconst (v := 0) F dX8_night_53 (by decide) ?_
      refine nz_istore_n (lv' := [(1, .int 0), (0, .ref (a 0))]) F dX8_night_54 rfl (by decide) rfl ?_
      refine nz_iconst (v := 0) F dX8_night_55 (by decide) ?_
      refine nz_istore_n (lv' := [(2, .int 0), (1, .int 0), (0, .ref (a 0))]) F dX8_night_56 rfl (by decide) rfl ?_
      refine nz_ls (lv' := [(0, .ref (a 0)), (1, .int 0), (2, .int 0)]) [2, 1, 0] rfl ?_
      obtain ⟨n1, h⟩ := h
      exact t_X8_night_57 F a X 0 m4 m5 m7 hQ n1 0 0 (X 4) h
    · have h := h.2 c3
      refine nz_ldc (v := (-1000003 : Int32)) F wd_X8_night_c80 dX8_night_28 ?_
      exact nz_iret F hQ (va_up X 0 (upd (X 0) 0 0)) h rfl dX8_night_30
  · have h := h.2 c2
    refine nz_ldc (v := (-1000002 : Int32)) F wd_X8_night_c196 dX8_night_12 ?_
    exact nz_iret F hQ (va_up X 0 (upd (X 0) 0 0)) h rfl dX8_night_14
theorem k_X8_night {y : nz_Y} {g : nz_G} {k n : Nat} {ws : va_W} {pc : Nat} {ls : List (Nat × Value)} {st rest : List Value} {av : Array Value} {isC : List Nat} {K : Int32 → (Nat → Nat → Int32) → Prop} (a : Nat → Nat) (X : Nat → Nat → Int32) (run : nz_M (yz_l y) yX8_night wsX8_night rm_X8_night g [.ref (a 0)] (nz_wM g a X) (nz_Qi g (nz_wM g a X) (fun r (u : Nat → Nat → Int32) => K r u) (fun u => nz_wM g a u)) → nz_C y g k n ws pc ls st rest (nz_wM g a X) (nz_Qi g (nz_wM g a X) (fun r (u : Nat → Nat → Int32) => K r u) (fun u => nz_wM g a u)) av isC) (h : wp_X8_night X K) (ws' : (Nat → Nat → Int32) → va_W) (hm : ∀ (m0 : (Nat → Nat → Int32)), nz_mrg ws isC (nz_wM g a m0) = ws' m0) (kk : ∀ (r : Int32) (m0 : (Nat → Nat → Int32)), K r m0 → nz_V y g k n (ws' m0) (pc + 3) ls (.int r :: rest)) : nz_V y g k n ws pc ls st :=
  nz_ci (ws' := fun u => ws' u) (run (c_X8_night (yz_l y) g a X K h)) (fun _ => rfl) (fun u => hm u) (fun r u h => kk r u h)
