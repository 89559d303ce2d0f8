theorem dX7_time_0 : decode cX7_time 0 = .ok (.aload_n 0, 1) := by decide +kernel
theorem dX7_time_1 : decode cX7_time 1 = .ok (.getfield 26, 3) := by decide +kernel
theorem dX7_time_4 : decode cX7_time 4 = .ok (.iload_n 1, 1) := by decide +kernel
theorem dX7_time_5 : decode cX7_time 5 = .ok (.iload_n 2, 1) := by decide +kernel
theorem dX7_time_6 : decode cX7_time 6 = .ok (.iload_n 3, 1) := by decide +kernel
theorem dX7_time_7 : decode cX7_time 7 = .ok (.iload 4, 2) := by decide +kernel
theorem dX7_time_9 : decode cX7_time 9 = .ok (.invokevirtual 186, 3) := by decide +kernel
theorem dX7_time_12 : decode cX7_time 12 = .ok (.ifCond .ne 6, 3) := by decide +kernel
theorem dX7_time_15 : decode cX7_time 15 = .ok (.ldc 70, 2) := by decide +kernel
theorem dX7_time_17 : decode cX7_time 17 = .ok (.ireturn, 1) := by decide +kernel
theorem dX7_time_18 : decode cX7_time 18 = .ok (.aload_n 0, 1) := by decide +kernel
theorem dX7_time_19 : decode cX7_time 19 = .ok (.getfield 26, 3) := by decide +kernel
theorem dX7_time_22 : decode cX7_time 22 = .ok (.iconst 1, 1) := by decide +kernel
theorem dX7_time_23 : decode cX7_time 23 = .ok (.invokevirtual 190, 3) := by decide +kernel
theorem dX7_time_26 : decode cX7_time 26 = .ok (.ifCond .ne 6, 3) := by decide +kernel
theorem dX7_time_29 : decode cX7_time 29 = .ok (.ldc 106, 2) := by decide +kernel
theorem dX7_time_31 : decode cX7_time 31 = .ok (.ireturn, 1) := by decide +kernel
theorem dX7_time_32 : decode cX7_time 32 = .ok (.aload_n 0, 1) := by decide +kernel
theorem dX7_time_33 : decode cX7_time 33 = .ok (.getfield 26, 3) := by decide +kernel
theorem dX7_time_36 : decode cX7_time 36 = .ok (.iload_n 1, 1) := by decide +kernel
theorem dX7_time_37 : decode cX7_time 37 = .ok (.iload_n 2, 1) := by decide +kernel
theorem dX7_time_38 : decode cX7_time 38 = .ok (.iload_n 3, 1) := by decide +kernel
theorem dX7_time_39 : decode cX7_time 39 = .ok (.iload 4, 2) := by decide +kernel
theorem dX7_time_41 : decode cX7_time 41 = .ok (.invokevirtual 193, 3) := by decide +kernel
theorem dX7_time_44 : decode cX7_time 44 = .ok (.ireturn, 1) := by decide +kernel
set_option maxRecDepth 20000 in
theorem ggX7_time_X5_hasRoomForTimes : GoodIn wsX7_time wsX5_hasRoomForTimes := goodIn_r _ [22, 23, 38, 39, 40, 41, 42, 43, 44, 45, 46, 47, 48, 49, 50, 51, 52, 53, 54] rfl (by decide +kernel)
set_option maxRecDepth 20000 in
theorem gX7_time_X5_hasRoomForTimes_n190 : GoodIn wsX7_time (wsX5_hasRoomForTimes) := ggX7_time_X5_hasRoomForTimes
set_option maxRecDepth 20000 in
theorem ggX7_time_X5_hear : GoodIn wsX7_time wsX5_hear := goodIn_r _ [26, 23, 27, 38, 39, 40, 41, 42, 43, 44, 45, 46, 47, 48, 49, 50, 51, 52, 53, 54] rfl (by decide +kernel)
set_option maxRecDepth 20000 in
theorem gX7_time_X5_hear_n193 : GoodIn wsX7_time (wsX5_hear) := ggX7_time_X5_hear
set_option maxRecDepth 20000 in
theorem ggX7_time_X5_isTime : GoodIn wsX7_time wsX5_isTime := goodIn_r _ [7, 8, 9, 10, 5, 11, 12, 13, 14, 15, 16, 17, 18, 19, 38, 39, 40, 41, 42, 43, 44, 45, 46, 47, 48, 49, 50, 51, 52, 53, 54] rfl (by decide +kernel)
set_option maxRecDepth 20000 in
theorem gX7_time_X5_isTime_n186 : GoodIn wsX7_time (wsX5_isTime) := ggX7_time_X5_isTime
theorem hd_X5_hasRoomForTimes : yX5_hasRoomForTimes.cls = RX5 ∧ yX5_hasRoomForTimes.cls ≠ "java/lang/invoke/MethodHandle" ∧ yX5_hasRoomForTimes.cls ≠ "java/lang/invoke/VarHandle" ∧ (parseMethodDescriptor yX5_hasRoomForTimes.desc).map (fun d => d.parameters.length) = some 1 := by decide +kernel
theorem hd_X5_hear : yX5_hear.cls = RX5 ∧ yX5_hear.cls ≠ "java/lang/invoke/MethodHandle" ∧ yX5_hear.cls ≠ "java/lang/invoke/VarHandle" ∧ (parseMethodDescriptor yX5_hear.desc).map (fun d => d.parameters.length) = some 4 := by decide +kernel
theorem hd_X5_isTime : yX5_isTime.cls = RX5 ∧ yX5_isTime.cls ≠ "java/lang/invoke/MethodHandle" ∧ yX5_isTime.cls ≠ "java/lang/invoke/VarHandle" ∧ (parseMethodDescriptor yX5_isTime.desc).map (fun d => d.parameters.length) = some 4 := by decide +kernel
theorem hC_X5_isTime_16 (g : nz_G) (a : Nat → Nat) (X : Nat → Nat → Int32) : (List.range' 16 9).map (fun i => (nz_wX g a X)[i]?) = (([((a 16), .inr (5, [.int (X 16 0), .int (X 16 1), .int (X 16 2), .int (X 16 3), .int (X 16 4), .int (X 16 5), .int (X 16 6), .int (X 16 7), .int (X 16 8), .ref (a 17), .ref (a 18), .ref (a 19), .ref (a 20), .ref (a 21), .ref (a 22), .ref (a 23), .ref (a 24)])), ((a 17), .inl (nz_cI g, 6, .inl (X 17))), ((a 18), .inl (nz_cI g, 6, .inl (X 18))), ((a 19), .inl (nz_cI g, 6, .inl (X 19))), ((a 20), .inl (nz_cI g, 5, .inl (X 20))), ((a 21), .inl (nz_cI g, 5, .inl (X 21))), ((a 22), .inl (nz_cI g, 5, .inl (X 22))), ((a 23), .inl (nz_cI g, 5, .inl (X 23))), ((a 24), .inl (nz_cI g, 48, .inl (X 24)))] : va_W)).map some := rfl
def wX_X5_isTime_16 (X : Nat → Nat → Int32) (v1 : Int32) (v2 : Int32) (v3 : Int32) (v4 : Int32) (K : Int32 → Prop) : Prop := wp_X5_isTime (X 16 6) v1 v2 v3 v4 (fun r => K r)
theorem kX_X5_isTime_16 {y : nz_Y} {g : nz_G} {k n pc : Nat} {ls : List (Nat × Value)} {st rest : List Value} {av : Array Value} {K : Int32 → Prop} (a : Nat → Nat) (X : Nat → Nat → Int32) (v1 : Int32) (v2 : Int32) (v3 : Int32) (v4 : Int32) (run : ∀ Q : Nat → Array Value → State → Outcome → State → Prop, nz_M (yz_l y) yX5_isTime wsX5_isTime rm_X5_isTime g [.ref (a 16), .int v1, .int v2, .int v3, .int v4] [((a 16), .inr (5, [.int (X 16 0), .int (X 16 1), .int (X 16 2), .int (X 16 3), .int (X 16 4), .int (X 16 5), .int (X 16 6), .int (X 16 7), .int (X 16 8), .ref (a 17), .ref (a 18), .ref (a 19), .ref (a 20), .ref (a 21), .ref (a 22), .ref (a 23), .ref (a 24)])), ((a 17), .inl (nz_cI g, 6, .inl (X 17))), ((a 18), .inl (nz_cI g, 6, .inl (X 18))), ((a 19), .inl (nz_cI g, 6, .inl (X 19))), ((a 20), .inl (nz_cI g, 5, .inl (X 20))), ((a 21), .inl (nz_cI g, 5, .inl (X 21))), ((a 22), .inl (nz_cI g, 5, .inl (X 22))), ((a 23), .inl (nz_cI g, 5, .inl (X 23))), ((a 24), .inl (nz_cI g, 48, .inl (X 24)))] Q → nz_C y g k n (nz_wX g a X) pc ls st rest [((a 16), .inr (5, [.int (X 16 0), .int (X 16 1), .int (X 16 2), .int (X 16 3), .int (X 16 4), .int (X 16 5), .int (X 16 6), .int (X 16 7), .int (X 16 8), .ref (a 17), .ref (a 18), .ref (a 19), .ref (a 20), .ref (a 21), .ref (a 22), .ref (a 23), .ref (a 24)])), ((a 17), .inl (nz_cI g, 6, .inl (X 17))), ((a 18), .inl (nz_cI g, 6, .inl (X 18))), ((a 19), .inl (nz_cI g, 6, .inl (X 19))), ((a 20), .inl (nz_cI g, 5, .inl (X 20))), ((a 21), .inl (nz_cI g, 5, .inl (X 21))), ((a 22), .inl (nz_cI g, 5, .inl (X 22))), ((a 23), .inl (nz_cI g, 5, .inl (X 23))), ((a 24), .inl (nz_cI g, 48, .inl (X 24)))] Q av (List.range' 16 9)) (h : wX_X5_isTime_16 X v1 v2 v3 v4 K) (kk : ∀ (r : Int32), K r → nz_V y g k n (nz_wX g a X) (pc + 3) ls (.int r :: rest)) : nz_V y g k n (nz_wX g a X) pc ls st :=
 k_X5_isTime (a 16) (a 17) (a 18) (a 19) (a 20) (a 21) (a 22) (a 23) (a 24) (X 16 0) (X 16 1) (X 16 2) (X 16 3) (X 16 4) (X 16 5) (X 16 6) (X 16 7) (X 16 8) (X 17) (X 18) (X 19) (X 20) (X 21) (X 22) (X 23) (X 24) v1 v2 v3 v4 (run _) h (nz_wX g a X) (nz_xm (hC_X5_isTime_16 g a X) nz_ag.refl) (fun r h => kk r h)
theorem hC_X5_hasRoomForTimes_16 (g : nz_G) (a : Nat → Nat) (X : Nat → Nat → Int32) : (List.range' 16 9).map (fun i => (nz_wX g a X)[i]?) = (([((a 16), .inr (5, [.int (X 16 0), .int (X 16 1), .int (X 16 2), .int (X 16 3), .int (X 16 4), .int (X 16 5), .int (X 16 6), .int (X 16 7), .int (X 16 8), .ref (a 17), .ref (a 18), .ref (a 19), .ref (a 20), .ref (a 21), .ref (a 22), .ref (a 23), .ref (a 24)])), ((a 17), .inl (nz_cI g, 6, .inl (X 17))), ((a 18), .inl (nz_cI g, 6, .inl (X 18))), ((a 19), .inl (nz_cI g, 6, .inl (X 19))), ((a 20), .inl (nz_cI g, 5, .inl (X 20))), ((a 21), .inl (nz_cI g, 5, .inl (X 21))), ((a 22), .inl (nz_cI g, 5, .inl (X 22))), ((a 23), .inl (nz_cI g, 5, .inl (X 23))), ((a 24), .inl (nz_cI g, 48, .inl (X 24)))] : va_W)).map some := rfl
def wX_X5_hasRoomForTimes_16 (X : Nat → Nat → Int32) (v1 : Int32) (K : Int32 → Prop) : Prop := wp_X5_hasRoomForTimes (X 16 8) v1 (fun r => K r)
theorem kX_X5_hasRoomForTimes_16 {y : nz_Y} {g : nz_G} {k n pc : Nat} {ls : List (Nat × Value)} {st rest : List Value} {av : Array Value} {K : Int32 → Prop} (a : Nat → Nat) (X : Nat → Nat → Int32) (v1 : Int32) (run : ∀ Q : Nat → Array Value → State → Outcome → State → Prop, nz_M (yz_l y) yX5_hasRoomForTimes wsX5_hasRoomForTimes rm_X5_hasRoomForTimes g [.ref (a 16), .int v1] [((a 16), .inr (5, [.int (X 16 0), .int (X 16 1), .int (X 16 2), .int (X 16 3), .int (X 16 4), .int (X 16 5), .int (X 16 6), .int (X 16 7), .int (X 16 8), .ref (a 17), .ref (a 18), .ref (a 19), .ref (a 20), .ref (a 21), .ref (a 22), .ref (a 23), .ref (a 24)])), ((a 17), .inl (nz_cI g, 6, .inl (X 17))), ((a 18), .inl (nz_cI g, 6, .inl (X 18))), ((a 19), .inl (nz_cI g, 6, .inl (X 19))), ((a 20), .inl (nz_cI g, 5, .inl (X 20))), ((a 21), .inl (nz_cI g, 5, .inl (X 21))), ((a 22), .inl (nz_cI g, 5, .inl (X 22))), ((a 23), .inl (nz_cI g, 5, .inl (X 23))), ((a 24), .inl (nz_cI g, 48, .inl (X 24)))] Q → nz_C y g k n (nz_wX g a X) pc ls st rest [((a 16), .inr (5, [.int (X 16 0), .int (X 16 1), .int (X 16 2), .int (X 16 3), .int (X 16 4), .int (X 16 5), .int (X 16 6), .int (X 16 7), .int (X 16 8), .ref (a 17), .ref (a 18), .ref (a 19), .ref (a 20), .ref (a 21), .ref (a 22), .ref (a 23), .ref (a 24)])), ((a 17), .inl (nz_cI g, 6, .inl (X 17))), ((a 18), .inl (nz_cI g, 6, .inl (X 18))), ((a 19), .inl (nz_cI g, 6, .inl (X 19))), ((a 20), .inl (nz_cI g, 5, .inl (X 20))), ((a 21), .inl (nz_cI g, 5, .inl (X 21))), ((a 22), .inl (nz_cI g, 5, .inl (X 22))), ((a 23), .inl (nz_cI g, 5, .inl (X 23))), ((a 24), .inl (nz_cI g, 48, .inl (X 24)))] Q av (List.range' 16 9)) (h : wX_X5_hasRoomForTimes_16 X v1 K) (kk : ∀ (r : Int32), K r → nz_V y g k n (nz_wX g a X) (pc + 3) ls (.int r :: rest)) : nz_V y g k n (nz_wX g a X) pc ls st :=
 k_X5_hasRoomForTimes (a 16) (a 17) (a 18) (a 19) (a 20) (a 21) (a 22) (a 23) (a 24) (X 16 0) (X 16 1) (X 16 2) (X 16 3) (X 16 4) (X 16 5) (X 16 6) (X 16 7) (X 16 8) (X 17) (X 18) (X 19) (X 20) (X 21) (X 22) (X 23) (X 24) v1 (run _) h (nz_wX g a X) (nz_xm (hC_X5_hasRoomForTimes_16 g a X) nz_ag.refl) (fun r h => kk r h)
theorem hC_X5_hear_16 (g : nz_G) (a : Nat → Nat) (X : Nat → Nat → Int32) : (List.range' 16 9).map (fun i => (nz_wX g a X)[i]?) = (([((a 16), .inr (5, [.int (X 16 0), .int (X 16 1), .int (X 16 2), .int (X 16 3), .int (X 16 4), .int (X 16 5), .int (X 16 6), .int (X 16 7), .int (X 16 8), .ref (a 17), .ref (a 18), .ref (a 19), .ref (a 20), .ref (a 21), .ref (a 22), .ref (a 23), .ref (a 24)])), ((a 17), .inl (nz_cI g, 6, .inl (X 17))), ((a 18), .inl (nz_cI g, 6, .inl (X 18))), ((a 19), .inl (nz_cI g, 6, .inl (X 19))), ((a 20), .inl (nz_cI g, 5, .inl (X 20))), ((a 21), .inl (nz_cI g, 5, .inl (X 21))), ((a 22), .inl (nz_cI g, 5, .inl (X 22))), ((a 23), .inl (nz_cI g, 5, .inl (X 23))), ((a 24), .inl (nz_cI g, 48, .inl (X 24)))] : va_W)).map some := rfl
def wX_X5_hear_16 (X : Nat → Nat → Int32) (v1 : Int32) (v2 : Int32) (v3 : Int32) (v4 : Int32) (K : Int32 → (Nat → Nat → Int32) → Prop) : Prop := wp_X5_hear (X 16 8) (X 24) v1 v2 v3 v4 (fun r m0 m1 => K r (va_up (va_up X 16 (upd (X 16) 8 m0)) 24 m1))
theorem kX_X5_hear_16 {y : nz_Y} {g : nz_G} {k n pc : Nat} {ls : List (Nat × Value)} {st rest : List Value} {av : Array Value} {K : Int32 → (Nat → Nat → Int32) → Prop} (a : Nat → Nat) (X : Nat → Nat → Int32) (v1 : Int32) (v2 : Int32) (v3 : Int32) (v4 : Int32) (run : ∀ Q : Nat → Array Value → State → Outcome → State → Prop, nz_M (yz_l y) yX5_hear wsX5_hear rm_X5_hear g [.ref (a 16), .int v1, .int v2, .int v3, .int v4] [((a 16), .inr (5, [.int (X 16 0), .int (X 16 1), .int (X 16 2), .int (X 16 3), .int (X 16 4), .int (X 16 5), .int (X 16 6), .int (X 16 7), .int (X 16 8), .ref (a 17), .ref (a 18), .ref (a 19), .ref (a 20), .ref (a 21), .ref (a 22), .ref (a 23), .ref (a 24)])), ((a 17), .inl (nz_cI g, 6, .inl (X 17))), ((a 18), .inl (nz_cI g, 6, .inl (X 18))), ((a 19), .inl (nz_cI g, 6, .inl (X 19))), ((a 20), .inl (nz_cI g, 5, .inl (X 20))), ((a 21), .inl (nz_cI g, 5, .inl (X 21))), ((a 22), .inl (nz_cI g, 5, .inl (X 22))), ((a 23), .inl (nz_cI g, 5, .inl (X 23))), ((a 24), .inl (nz_cI g, 48, .inl (X 24)))] Q → nz_C y g k n (nz_wX g a X) pc ls st rest [((a 16), .inr (5, [.int (X 16 0), .int (X 16 1), .int (X 16 2), .int (X 16 3), .int (X 16 4), .int (X 16 5), .int (X 16 6), .int (X 16 7), .int (X 16 8), .ref (a 17), .ref (a 18), .ref (a 19), .ref (a 20), .ref (a 21), .ref (a 22), .ref (a 23), .ref (a 24)])), ((a 17), .inl (nz_cI g, 6, .inl (X 17))), ((a 18), .inl (nz_cI g, 6, .inl (X 18))), ((a 19), .inl (nz_cI g, 6, .inl (X 19))), ((a 20), .inl (nz_cI g, 5, .inl (X 20))), ((a 21), .inl (nz_cI g, 5, .inl (X 21))), ((a 22), .inl (nz_cI g, 5, .inl (X 22))), ((a 23), .inl (nz_cI g, 5, .inl (X 23))), ((a 24), .inl (nz_cI g, 48, .inl (X 24)))] Q av (List.range' 16 9)) (h : wX_X5_hear_16 X v1 v2 v3 v4 K) (kk : ∀ (r : Int32) (X1 : Nat → Nat → Int32), K r X1 → nz_V y g k n (nz_wX g a X1) (pc + 3) ls (.int r :: rest)) : nz_V y g k n (nz_wX g a X) pc ls st :=
 k_X5_hear (a 16) (a 17) (a 18) (a 19) (a 20) (a 21) (a 22) (a 23) (a 24) (X 16 0) (X 16 1) (X 16 2) (X 16 3) (X 16 4) (X 16 5) (X 16 6) (X 16 7) (X 16 8) (X 17) (X 18) (X 19) (X 20) (X 21) (X 22) (X 23) (X 24) v1 v2 v3 v4 (run _) h (fun m0 m1 => nz_wX g a (va_up (va_up X 16 (upd (X 16) 8 m0)) 24 m1)) (fun m0 m1 => nz_xm (hC_X5_hear_16 g a (va_up (va_up X 16 (upd (X 16) 8 m0)) 24 m1)) (nz_ag.up (nz_ag.up nz_ag.refl rfl) rfl)) (fun r m0 m1 h => kk r (va_up (va_up X 16 (upd (X 16) 8 m0)) 24 m1) h)
/-! X7_time -/
abbrev rm_X7_time : Room := { frames := 3, cells := 0, slots := 0, locals := 67 }
theorem iw_X7_time_7 : ∀ w ∈ wsX70, w ∈ wsX7_time := fun _ h => List.mem_cons_of_mem _ (List.mem_append_left _ (List.mem_append_right _ h))
theorem fl_X7_time_26 : Cond.fieldLink RX7 26 "NightStones" "now" "LNightStones$Road;" ∈ wsX7_time := List.mem_of_getElem? (i := 1) rfl
theorem nt_X7_time_X5_isTime_186 : Cond.methodLinkNest RX7 186 yX5_isTime RX7 ∈ nz_nest := List.mem_of_getElem? (i := 76) rfl
theorem wd_X7_time_in_RX5 : Cond.initialized RX5 ∈ wsX7_time := List.mem_of_getElem? (i := 5) rfl
theorem wd_X7_time_im_X5_isTime : Cond.instanceMethod yX5_isTime ∈ wsX7_time := List.mem_of_getElem? (i := 4) rfl
theorem wd_X7_time_se_X5_isTime : Cond.selects RX5 yX5_isTime yX5_isTime ∈ wsX7_time := List.mem_of_getElem? (i := 6) rfl
theorem nt_X7_time_X5_hasRoomForTimes_190 : Cond.methodLinkNest RX7 190 yX5_hasRoomForTimes RX7 ∈ nz_nest := List.mem_of_getElem? (i := 78) rfl
theorem wd_X7_time_im_X5_hasRoomForTimes : Cond.instanceMethod yX5_hasRoomForTimes ∈ wsX7_time := List.mem_of_getElem? (i := 20) rfl
theorem wd_X7_time_se_X5_hasRoomForTimes : Cond.selects RX5 yX5_hasRoomForTimes yX5_hasRoomForTimes ∈ wsX7_time := List.mem_of_getElem? (i := 21) rfl
theorem nt_X7_time_X5_hear_193 : Cond.methodLinkNest RX7 193 yX5_hear RX7 ∈ nz_nest := List.mem_of_getElem? (i := 79) rfl
theorem wd_X7_time_im_X5_hear : Cond.instanceMethod yX5_hear ∈ wsX7_time := List.mem_of_getElem? (i := 24) rfl
theorem wd_X7_time_se_X5_hear : Cond.selects RX5 yX5_hear yX5_hear ∈ wsX7_time := List.mem_of_getElem? (i := 25) rfl
theorem wd_X7_time_c106 : Cond.constant RX7 106 (-1000003) ∈ wsX7_time := List.mem_of_getElem? (i := 3) rfl
theorem wd_X7_time_c70 : Cond.constant RX7 70 (-1000001) ∈ wsX7_time := List.mem_of_getElem? (i := 2) rfl
def wp_X7_time (X : Nat → Nat → Int32) (v1 : Int32) (v2 : Int32) (v3 : Int32) (v4 : Int32) (K : Int32 → (Nat → Nat → Int32) → Prop) : Prop := wX_X5_isTime_16 X v1 v2 v3 v4 (fun q1 => ((¬ q1 = 0 → wX_X5_hasRoomForTimes_16 X 1 (fun q3 => ((¬ q3 = 0 → wX_X5_hear_16 X v1 v2 v3 v4 (fun q5 X6 => K q5 X6)) ∧ (q3 = 0 → K (-1000003 : Int32) X)))) ∧ (q1 = 0 → K (-1000001 : Int32) X)))
set_option maxHeartbeats 4000000 in
set_option maxRecDepth 100000 in
theorem c_X7_time (l : Launch) (g : nz_G) (a : Nat → Nat) (X : Nat → Nat → Int32) (v1 : Int32) (v2 : Int32) (v3 : Int32) (v4 : Int32) (K : Int32 → (Nat → Nat → Int32) → Prop) (h : wp_X7_time X v1 v2 v3 v4 K) : nz_M l yX7_time wsX7_time rm_X7_time g [.ref (a 0), .int v1, .int v2, .int v3, .int v4] (nz_wX g a X) (nz_Qi g (nz_wX g a X) (fun r (u : Nat → Nat → Int32) => K r u) (fun u => nz_wX g a u)) := by
  refine nz_M.of (bytes := cX7_time) (nL := 5) (ret := (some .int)) (own := RX7) (by decide) rfl rfl ⟨rfl, rfl⟩ rfl ?_
  intro y F hl hQ
  obtain ⟨sz, hQ⟩ := hQ
  refine nz_ent (lv' := [(0, .ref (a 0)), (1, .int v1), (2, .int v2), (3, .int v3), (4, .int v4)]) rfl ?_
  unfold wp_X7_time at h
  refine nz_aload_n F dX7_time_0 rfl 0 rfl ?_
  refine nz_get F iw_X7_time_7 0 (nz_xg0 g a X) rfl 2 (by decide) rfl fl_X7_time_26 rfl dX7_time_1 ?_
  refine nz_iload_n F dX7_time_4 rfl 1 rfl ?_
  refine nz_iload_n F dX7_time_5 rfl 2 rfl ?_
  refine nz_iload_n F dX7_time_6 rfl 3 rfl ?_
  refine nz_iload F dX7_time_7 4 rfl ?_
  refine kX_X5_isTime_16 a X v1 v2 v3 v4 (fun Q hM => nz_runVN F gX7_time_X5_isTime_n186 rfl nt_X7_time_X5_isTime_186 wd_X7_time_in_RX5 wd_X7_time_im_X5_isTime wd_X7_time_se_X5_isTime hd_X5_isTime rfl hM dX7_time_9 (List.range' 16 9) (hC_X5_isTime_16 g a X) nd_16_9 16 (nz_xg16 g a X) rfl rfl (Nat.le_of_ble_eq_true rfl) rfl) h (fun q1 h => ?_)
  refine nz_if_ne (tgt := 18) F dX7_time_12 (by decide) (fun c2 => ?_) (fun c2 => ?_)
  · have h := h.1 c2
    refine nz_aload_n F dX7_time_18 rfl 0 rfl ?_
    refine nz_get F iw_X7_time_7 0 (nz_xg0 g a X) rfl 2 (by decide) rfl fl_X7_time_26 rfl dX7_time_19 ?_
    refine nz_iconst (v := 1) F dX7_time_22 (by decide) ?_
    refine kX_X5_hasRoomForTimes_16 a X 1 (fun Q hM => nz_runVN F gX7_time_X5_hasRoomForTimes_n190 rfl nt_X7_time_X5_hasRoomForTimes_190 wd_X7_time_in_RX5 wd_X7_time_im_X5_hasRoomForTimes wd_X7_time_se_X5_hasRoomForTimes hd_X5_hasRoomForTimes rfl hM dX7_time_23 (List.range' 16 9) (hC_X5_hasRoomForTimes_16 g a X) nd_16_9 16 (nz_xg16 g a X) rfl rfl (Nat.le_of_ble_eq_true rfl) rfl) h (fun q3 h => ?_)
    refine nz_if_ne (tgt := 32) F dX7_time_26 (by decide) (fun c4 => ?_) (fun c4 => ?_)
    · have h := h.1 c4
      refine nz_aload_n F dX7_time_32 rfl 0 rfl ?_
      refine nz_get F iw_X7_time_7 0 (nz_xg0 g a X) rfl 2 (by decide) rfl fl_X7_time_26 rfl dX7_time_33 ?_
      refine nz_iload_n F dX7_time_36 rfl 1 rfl ?_
      refine nz_iload_n F dX7_time_37 rfl 2 rfl ?_
      refine nz_iload_n F dX7_time_38 rfl 3 rfl ?_
      refine nz_iload F dX7_time_39 4 rfl ?_
      refine kX_X5_hear_16 a X v1 v2 v3 v4 (fun Q hM => nz_runVN F gX7_time_X5_hear_n193 rfl nt_X7_time_X5_hear_193 wd_X7_time_in_RX5 wd_X7_time_im_X5_hear wd_X7_time_se_X5_hear hd_X5_hear rfl hM dX7_time_41 (List.range' 16 9) (hC_X5_hear_16 g a X) nd_16_9 16 (nz_xg16 g a X) rfl rfl (Nat.le_of_ble_eq_true rfl) rfl) h (fun q5 X6 h => ?_)
      exact nz_iret F hQ X6 h rfl dX7_time_44
    · have h := h.2 c4
      refine nz_ldc (v := (-1000003 : Int32)) F wd_X7_time_c106 dX7_time_29 ?_
      exact nz_iret F hQ X h rfl dX7_time_31
  · have h := h.2 c2
    refine nz_ldc (v := (-1000001 : Int32)) F wd_X7_time_c70 dX7_time_15 ?_
    exact nz_iret F hQ X h rfl dX7_time_17
theorem k_X7_time {y : nz_Y} {g : nz_G} {k n : Nat} {ws : va_W} {pc : Nat} {ls : List (Nat × Value)} {st rest : List Value} {av : Array Value} {isC : List Nat} {K : Int32 → (Nat → Nat → Int32) → Prop} (a : Nat → Nat) (X : Nat → Nat → Int32) (v1 : Int32) (v2 : Int32) (v3 : Int32) (v4 : Int32) (run : nz_M (yz_l y) yX7_time wsX7_time rm_X7_time g [.ref (a 0), .int v1, .int v2, .int v3, .int v4] (nz_wX g a X) (nz_Qi g (nz_wX g a X) (fun r (u : Nat → Nat → Int32) => K r u) (fun u => nz_wX g a u)) → nz_C y g k n ws pc ls st rest (nz_wX g a X) (nz_Qi g (nz_wX g a X) (fun r (u : Nat → Nat → Int32) => K r u) (fun u => nz_wX g a u)) av isC) (h : wp_X7_time X v1 v2 v3 v4 K) (ws' : (Nat → Nat → Int32) → va_W) (hm : ∀ (m0 : (Nat → Nat → Int32)), nz_mrg ws isC (nz_wX g a m0) = ws' m0) (kk : ∀ (r : Int32) (m0 : (Nat → Nat → Int32)), K r m0 → nz_V y g k n (ws' m0) (pc + 3) ls (.int r :: rest)) : nz_V y g k n ws pc ls st :=
  nz_ci (ws' := fun u => ws' u) (run (c_X7_time (yz_l y) g a X v1 v2 v3 v4 K h)) (fun _ => rfl) (fun u => hm u) (fun r u h => kk r u h)
theorem dX7_times_0 : decode cX7_times 0 = .ok (.aload_n 0, 1) := by decide +kernel
theorem dX7_times_1 : decode cX7_times 1 = .ok (.getfield 26, 3) := by decide +kernel
theorem dX7_times_4 : decode cX7_times 4 = .ok (.getfield 137, 3) := by decide +kernel
theorem dX7_times_7 : decode cX7_times 7 = .ok (.ifCond .ne 6, 3) := by decide +kernel
theorem dX7_times_10 : decode cX7_times 10 = .ok (.ldc 141, 2) := by decide +kernel
theorem dX7_times_12 : decode cX7_times 12 = .ok (.ireturn, 1) := by decide +kernel
theorem dX7_times_13 : decode cX7_times 13 = .ok (.iload_n 1, 1) := by decide +kernel
theorem dX7_times_14 : decode cX7_times 14 = .ok (.invokestatic 62, 3) := by decide +kernel
theorem dX7_times_17 : decode cX7_times 17 = .ok (.ifCond .eq 13, 3) := by decide +kernel
theorem dX7_times_20 : decode cX7_times 20 = .ok (.iload_n 3, 1) := by decide +kernel
theorem dX7_times_21 : decode cX7_times 21 = .ok (.iconst 1, 1) := by decide +kernel
theorem dX7_times_22 : decode cX7_times 22 = .ok (.bipush 10, 2) := by decide +kernel
theorem dX7_times_24 : decode cX7_times 24 = .ok (.invokestatic 66, 3) := by decide +kernel
theorem dX7_times_27 : decode cX7_times 27 = .ok (.ifCond .ne 6, 3) := by decide +kernel
theorem dX7_times_30 : decode cX7_times 30 = .ok (.ldc 70, 2) := by decide +kernel
theorem dX7_times_32 : decode cX7_times 32 = .ok (.ireturn, 1) := by decide +kernel
theorem dX7_times_33 : decode cX7_times 33 = .ok (.aload_n 0, 1) := by decide +kernel
theorem dX7_times_34 : decode cX7_times 34 = .ok (.getfield 10, 3) := by decide +kernel
theorem dX7_times_37 : decode cX7_times 37 = .ok (.iload_n 1, 1) := by decide +kernel
theorem dX7_times_38 : decode cX7_times 38 = .ok (.iload_n 2, 1) := by decide +kernel
theorem dX7_times_39 : decode cX7_times 39 = .ok (.iconst 4, 1) := by decide +kernel
theorem dX7_times_40 : decode cX7_times 40 = .ok (.iload_n 3, 1) := by decide +kernel
theorem dX7_times_41 : decode cX7_times 41 = .ok (.imul, 1) := by decide +kernel
theorem dX7_times_42 : decode cX7_times 42 = .ok (.invokevirtual 82, 3) := by decide +kernel
theorem dX7_times_45 : decode cX7_times 45 = .ok (.istore 4, 2) := by decide +kernel
theorem dX7_times_47 : decode cX7_times 47 = .ok (.iload 4, 2) := by decide +kernel
theorem dX7_times_49 : decode cX7_times 49 = .ok (.ifCond .eq 10, 3) := by decide +kernel
theorem dX7_times_52 : decode cX7_times 52 = .ok (.aload_n 0, 1) := by decide +kernel
theorem dX7_times_53 : decode cX7_times 53 = .ok (.iload 4, 2) := by decide +kernel
theorem dX7_times_55 : decode cX7_times 55 = .ok (.invokevirtual 71, 3) := by decide +kernel
theorem dX7_times_58 : decode cX7_times 58 = .ok (.ireturn, 1) := by decide +kernel
theorem dX7_times_59 : decode cX7_times 59 = .ok (.iload_n 2, 1) := by decide +kernel
theorem dX7_times_60 : decode cX7_times 60 = .ok (.iconst 4, 1) := by decide +kernel
theorem dX7_times_61 : decode cX7_times 61 = .ok (.iload_n 3, 1) := by decide +kernel
theorem dX7_times_62 : decode cX7_times 62 = .ok (.imul, 1) := by decide +kernel
theorem dX7_times_63 : decode cX7_times 63 = .ok (.iadd, 1) := by decide +kernel
theorem dX7_times_64 : decode cX7_times 64 = .ok (.istore 5, 2) := by decide +kernel
theorem dX7_times_66 : decode cX7_times 66 = .ok (.iload_n 2, 1) := by decide +kernel
theorem dX7_times_67 : decode cX7_times 67 = .ok (.istore 6, 2) := by decide +kernel
theorem dX7_times_69 : decode cX7_times 69 = .ok (.iload 6, 2) := by decide +kernel
theorem dX7_times_71 : decode cX7_times 71 = .ok (.iload 5, 2) := by decide +kernel
theorem dX7_times_73 : decode cX7_times 73 = .ok (.if_icmp .ge 68, 3) := by decide +kernel
theorem dX7_times_76 : decode cX7_times 76 = .ok (.aload_n 0, 1) := by decide +kernel
theorem dX7_times_77 : decode cX7_times 77 = .ok (.getfield 26, 3) := by decide +kernel
theorem dX7_times_80 : decode cX7_times 80 = .ok (.aload_n 0, 1) := by decide +kernel
theorem dX7_times_81 : decode cX7_times 81 = .ok (.getfield 10, 3) := by decide +kernel
theorem dX7_times_84 : decode cX7_times 84 = .ok (.iload_n 1, 1) := by decide +kernel
theorem dX7_times_85 : decode cX7_times 85 = .ok (.iload 6, 2) := by decide +kernel
theorem dX7_times_87 : decode cX7_times 87 = .ok (.invokevirtual 197, 3) := by decide +kernel
theorem dX7_times_90 : decode cX7_times 90 = .ok (.aload_n 0, 1) := by decide +kernel
theorem dX7_times_91 : decode cX7_times 91 = .ok (.getfield 10, 3) := by decide +kernel
theorem dX7_times_94 : decode cX7_times 94 = .ok (.iload_n 1, 1) := by decide +kernel
theorem dX7_times_95 : decode cX7_times 95 = .ok (.iload 6, 2) := by decide +kernel
theorem dX7_times_97 : decode cX7_times 97 = .ok (.iconst 1, 1) := by decide +kernel
theorem dX7_times_98 : decode cX7_times 98 = .ok (.iadd, 1) := by decide +kernel
theorem dX7_times_99 : decode cX7_times 99 = .ok (.invokevirtual 197, 3) := by decide +kernel
theorem dX7_times_102 : decode cX7_times 102 = .ok (.aload_n 0, 1) := by decide +kernel
theorem dX7_times_103 : decode cX7_times 103 = .ok (.getfield 10, 3) := by decide +kernel
theorem dX7_times_106 : decode cX7_times 106 = .ok (.iload_n 1, 1) := by decide +kernel
theorem dX7_times_107 : decode cX7_times 107 = .ok (.iload 6, 2) := by decide +kernel
theorem dX7_times_109 : decode cX7_times 109 = .ok (.iconst 2, 1) := by decide +kernel
theorem dX7_times_110 : decode cX7_times 110 = .ok (.iadd, 1) := by decide +kernel
theorem dX7_times_111 : decode cX7_times 111 = .ok (.invokevirtual 197, 3) := by decide +kernel
theorem dX7_times_114 : decode cX7_times 114 = .ok (.aload_n 0, 1) := by decide +kernel
theorem dX7_times_115 : decode cX7_times 115 = .ok (.getfield 10, 3) := by decide +kernel
theorem dX7_times_118 : decode cX7_times 118 = .ok (.iload_n 1, 1) := by decide +kernel
theorem dX7_times_119 : decode cX7_times 119 = .ok (.iload 6, 2) := by decide +kernel
theorem dX7_times_121 : decode cX7_times 121 = .ok (.iconst 3, 1) := by decide +kernel
theorem dX7_times_122 : decode cX7_times 122 = .ok (.iadd, 1) := by decide +kernel
theorem dX7_times_123 : decode cX7_times 123 = .ok (.invokevirtual 197, 3) := by decide +kernel
theorem dX7_times_126 : decode cX7_times 126 = .ok (.invokevirtual 186, 3) := by decide +kernel
theorem dX7_times_129 : decode cX7_times 129 = .ok (.ifCond .ne 6, 3) := by decide +kernel
theorem dX7_times_132 : decode cX7_times 132 = .ok (.ldc 70, 2) := by decide +kernel
theorem dX7_times_134 : decode cX7_times 134 = .ok (.ireturn, 1) := by decide +kernel
theorem dX7_times_135 : decode cX7_times 135 = .ok (.iinc 6 4, 3) := by decide +kernel
theorem dX7_times_138 : decode cX7_times 138 = .ok (.goto (-69), 3) := by decide +kernel
theorem dX7_times_141 : decode cX7_times 141 = .ok (.aload_n 0, 1) := by decide +kernel
theorem dX7_times_142 : decode cX7_times 142 = .ok (.getfield 26, 3) := by decide +kernel
theorem dX7_times_145 : decode cX7_times 145 = .ok (.iload_n 3, 1) := by decide +kernel
theorem dX7_times_146 : decode cX7_times 146 = .ok (.invokevirtual 190, 3) := by decide +kernel
theorem dX7_times_149 : decode cX7_times 149 = .ok (.ifCond .ne 6, 3) := by decide +kernel
theorem dX7_times_152 : decode cX7_times 152 = .ok (.ldc 106, 2) := by decide +kernel
theorem dX7_times_154 : decode cX7_times 154 = .ok (.ireturn, 1) := by decide +kernel
theorem dX7_times_155 : decode cX7_times 155 = .ok (.iload_n 2, 1) := by decide +kernel
theorem dX7_times_156 : decode cX7_times 156 = .ok (.istore 6, 2) := by decide +kernel
theorem dX7_times_158 : decode cX7_times 158 = .ok (.iload 6, 2) := by decide +kernel
theorem dX7_times_160 : decode cX7_times 160 = .ok (.iload 5, 2) := by decide +kernel
theorem dX7_times_162 : decode cX7_times 162 = .ok (.if_icmp .ge 63, 3) := by decide +kernel
theorem dX7_times_165 : decode cX7_times 165 = .ok (.aload_n 0, 1) := by decide +kernel
theorem dX7_times_166 : decode cX7_times 166 = .ok (.getfield 26, 3) := by decide +kernel
theorem dX7_times_169 : decode cX7_times 169 = .ok (.aload_n 0, 1) := by decide +kernel
theorem dX7_times_170 : decode cX7_times 170 = .ok (.getfield 10, 3) := by decide +kernel
theorem dX7_times_173 : decode cX7_times 173 = .ok (.iload_n 1, 1) := by decide +kernel
theorem dX7_times_174 : decode cX7_times 174 = .ok (.iload 6, 2) := by decide +kernel
theorem dX7_times_176 : decode cX7_times 176 = .ok (.invokevirtual 197, 3) := by decide +kernel
theorem dX7_times_179 : decode cX7_times 179 = .ok (.aload_n 0, 1) := by decide +kernel
theorem dX7_times_180 : decode cX7_times 180 = .ok (.getfield 10, 3) := by decide +kernel
theorem dX7_times_183 : decode cX7_times 183 = .ok (.iload_n 1, 1) := by decide +kernel
theorem dX7_times_184 : decode cX7_times 184 = .ok (.iload 6, 2) := by decide +kernel
theorem dX7_times_186 : decode cX7_times 186 = .ok (.iconst 1, 1) := by decide +kernel
theorem dX7_times_187 : decode cX7_times 187 = .ok (.iadd, 1) := by decide +kernel
theorem dX7_times_188 : decode cX7_times 188 = .ok (.invokevirtual 197, 3) := by decide +kernel
theorem dX7_times_191 : decode cX7_times 191 = .ok (.aload_n 0, 1) := by decide +kernel
theorem dX7_times_192 : decode cX7_times 192 = .ok (.getfield 10, 3) := by decide +kernel
theorem dX7_times_195 : decode cX7_times 195 = .ok (.iload_n 1, 1) := by decide +kernel
theorem dX7_times_196 : decode cX7_times 196 = .ok (.iload 6, 2) := by decide +kernel
theorem dX7_times_198 : decode cX7_times 198 = .ok (.iconst 2, 1) := by decide +kernel
theorem dX7_times_199 : decode cX7_times 199 = .ok (.iadd, 1) := by decide +kernel
theorem dX7_times_200 : decode cX7_times 200 = .ok (.invokevirtual 197, 3) := by decide +kernel
theorem dX7_times_203 : decode cX7_times 203 = .ok (.aload_n 0, 1) := by decide +kernel
theorem dX7_times_204 : decode cX7_times 204 = .ok (.getfield 10, 3) := by decide +kernel
theorem dX7_times_207 : decode cX7_times 207 = .ok (.iload_n 1, 1) := by decide +kernel
theorem dX7_times_208 : decode cX7_times 208 = .ok (.iload 6, 2) := by decide +kernel
theorem dX7_times_210 : decode cX7_times 210 = .ok (.iconst 3, 1) := by decide +kernel
theorem dX7_times_211 : decode cX7_times 211 = .ok (.iadd, 1) := by decide +kernel
theorem dX7_times_212 : decode cX7_times 212 = .ok (.invokevirtual 197, 3) := by decide +kernel
theorem dX7_times_215 : decode cX7_times 215 = .ok (.invokevirtual 193, 3) := by decide +kernel
theorem dX7_times_218 : decode cX7_times 218 = .ok (.pop, 1) := by decide +kernel
theorem dX7_times_219 : decode cX7_times 219 = .ok (.iinc 6 4, 3) := by decide +kernel
theorem dX7_times_222 : decode cX7_times 222 = .ok (.goto (-64), 3) := by decide +kernel
theorem dX7_times_225 : decode cX7_times 225 = .ok (.aload_n 0, 1) := by decide +kernel
theorem dX7_times_226 : decode cX7_times 226 = .ok (.aload_n 0, 1) := by decide +kernel
theorem dX7_times_227 : decode cX7_times 227 = .ok (.getfield 26, 3) := by decide +kernel
theorem dX7_times_230 : decode cX7_times 230 = .ok (.getfield 201, 3) := by decide +kernel
theorem dX7_times_233 : decode cX7_times 233 = .ok (.invokevirtual 79, 3) := by decide +kernel
theorem dX7_times_236 : decode cX7_times 236 = .ok (.ireturn, 1) := by decide +kernel
set_option maxRecDepth 20000 in
theorem ggX7_times_X5_hasRoomForTimes : GoodIn wsX7_times wsX5_hasRoomForTimes := goodIn_r _ [51, 52, 71, 72, 73, 74, 75, 76, 77, 78, 79, 80, 81, 82, 83, 84, 85, 86, 87] rfl (by decide +kernel)
set_option maxRecDepth 20000 in
theorem gX7_times_X5_hasRoomForTimes_n190 : GoodIn wsX7_times (wsX5_hasRoomForTimes) := ggX7_times_X5_hasRoomForTimes
set_option maxRecDepth 20000 in
theorem ggX7_times_X5_hear : GoodIn wsX7_times wsX5_hear := goodIn_r _ [55, 52, 56, 71, 72, 73, 74, 75, 76, 77, 78, 79, 80, 81, 82, 83, 84, 85, 86, 87] rfl (by decide +kernel)
set_option maxRecDepth 20000 in
theorem gX7_times_X5_hear_n193 : GoodIn wsX7_times (wsX5_hear) := ggX7_times_X5_hear
set_option maxRecDepth 20000 in
theorem ggX7_times_X5_isTime : GoodIn wsX7_times wsX5_isTime := goodIn_r _ [39, 40, 41, 42, 37, 43, 44, 45, 46, 47, 48, 10, 11, 12, 71, 72, 73, 74, 75, 76, 77, 78, 79, 80, 81, 82, 83, 84, 85, 86, 87] rfl (by decide +kernel)
set_option maxRecDepth 20000 in
theorem gX7_times_X5_isTime_n186 : GoodIn wsX7_times (wsX5_isTime) := ggX7_times_X5_isTime
set_option maxRecDepth 20000 in
theorem ggX7_times_X6_findingAt : GoodIn wsX7_times wsX6_findingAt := goodIn_r _ [15, 16, 17, 18, 7, 19, 20, 21, 22, 23, 24, 25, 88, 89, 90] rfl (by decide +kernel)
set_option maxRecDepth 20000 in
theorem gX7_times_X6_findingAt_n82 : GoodIn wsX7_times (wsX6_findingAt) := ggX7_times_X6_findingAt
set_option maxRecDepth 20000 in
theorem ggX7_times_X6_isRow : GoodIn wsX7_times wsX6_isRow := goodIn_r _ [8] rfl (by decide +kernel)
set_option maxRecDepth 20000 in
theorem gX7_times_X6_isRow_n62 : GoodIn wsX7_times (wsX6_isRow) := ggX7_times_X6_isRow
set_option maxRecDepth 20000 in
theorem ggX7_times_X6_item : GoodIn wsX7_times wsX6_item := goodIn_r _ [34, 35, 88, 89, 90] rfl (by decide +kernel)
set_option maxRecDepth 20000 in
theorem gX7_times_X6_item_n197 : GoodIn wsX7_times (wsX6_item) := ggX7_times_X6_item
set_option maxRecDepth 20000 in
theorem ggX7_times_X7_found : GoodIn wsX7_times wsX7_found := goodIn_r _ [29, 30, 31, 61, 62, 63, 64, 65, 66, 67, 68, 69, 70] rfl (by decide +kernel)
set_option maxRecDepth 20000 in
theorem gX7_times_X7_found : GoodIn wsX7_times (wsV RX7 71 RX7 yX7_found wsX7_found) := goodIn_app (goodIn_r _ [26, 27, 28, 11] rfl (by decide +kernel)) ggX7_times_X7_found
set_option maxRecDepth 20000 in
theorem ggX7_times_X7_isAmong : GoodIn wsX7_times wsX7_isAmong := goodIn_r _ [12] rfl (by decide +kernel)
set_option maxRecDepth 20000 in
theorem gX7_times_X7_isAmong : GoodIn wsX7_times (va_wsS RX7 66 yX7_isAmong wsX7_isAmong) := goodIn_app (goodIn_r _ [9, 10, 11] rfl (by decide +kernel)) ggX7_times_X7_isAmong
set_option maxRecDepth 20000 in
theorem ggX7_times_X7_well : GoodIn wsX7_times wsX7_well := goodIn_r _ [60, 30, 61, 62, 63, 64, 65, 66, 67, 68, 69, 70] rfl (by decide +kernel)
set_option maxRecDepth 20000 in
theorem gX7_times_X7_well : GoodIn wsX7_times (wsV RX7 79 RX7 yX7_well wsX7_well) := goodIn_app (goodIn_r _ [57, 58, 59, 11] rfl (by decide +kernel)) ggX7_times_X7_well
theorem hd_X6_item : yX6_item.cls = RX6 ∧ yX6_item.cls ≠ "java/lang/invoke/MethodHandle" ∧ yX6_item.cls ≠ "java/lang/invoke/VarHandle" ∧ (parseMethodDescriptor yX6_item.desc).map (fun d => d.parameters.length) = some 2 := by decide +kernel
theorem hC_X6_item_1_54 (g : nz_G) (a : Nat → Nat) (X : Nat → Nat → Int32) : (List.range' 1 4 ++ List.range' 54 8).map (fun i => (nz_wX g a X)[i]?) = ((([((a 1), .inr (6, [.ref (a 4), .ref (a 2), .ref (a 3)])), ((a 2), .inl (nz_cI g, 8, .inl (X 2))), ((a 3), .inl (nz_cI g, 8, .inl (X 3))), ((a 4), .inl (nz_cA g, 8, .inr (.inr (.inr (.inr (fun j => some (a (54 + j))))))))] ++ nz_pool g (fun j => a (54 + j)) (fun j => X (54 + j))) : va_W)).map some := rfl
def wX_X6_item_1_54 (X : Nat → Nat → Int32) (v1 : Int32) (v2 : Int32) (K : Int32 → Prop) : Prop := wp_X6_item (fun j => X (54 + j)) v1 v2 (fun r => K r)
theorem kX_X6_item_1_54 {y : nz_Y} {g : nz_G} {k n pc : Nat} {ls : List (Nat × Value)} {st rest : List Value} {av : Array Value} {K : Int32 → Prop} (a : Nat → Nat) (X : Nat → Nat → Int32) (v1 : Int32) (v2 : Int32) (run : ∀ Q : Nat → Array Value → State → Outcome → State → Prop, nz_M (yz_l y) yX6_item wsX6_item rm_X6_item g [.ref (a 1), .int v1, .int v2] ([((a 1), .inr (6, [.ref (a 4), .ref (a 2), .ref (a 3)])), ((a 2), .inl (nz_cI g, 8, .inl (X 2))), ((a 3), .inl (nz_cI g, 8, .inl (X 3))), ((a 4), .inl (nz_cA g, 8, .inr (.inr (.inr (.inr (fun j => some (a (54 + j))))))))] ++ nz_pool g (fun j => a (54 + j)) (fun j => X (54 + j))) Q → nz_C y g k n (nz_wX g a X) pc ls st rest ([((a 1), .inr (6, [.ref (a 4), .ref (a 2), .ref (a 3)])), ((a 2), .inl (nz_cI g, 8, .inl (X 2))), ((a 3), .inl (nz_cI g, 8, .inl (X 3))), ((a 4), .inl (nz_cA g, 8, .inr (.inr (.inr (.inr (fun j => some (a (54 + j))))))))] ++ nz_pool g (fun j => a (54 + j)) (fun j => X (54 + j))) Q av (List.range' 1 4 ++ List.range' 54 8)) (h : wX_X6_item_1_54 X v1 v2 K) (kk : ∀ (r : Int32), K r → nz_V y g k n (nz_wX g a X) (pc + 3) ls (.int r :: rest)) : nz_V y g k n (nz_wX g a X) pc ls st :=
 k_X6_item (a 1) (a 4) (a 2) (a 3) (fun j => a (54 + j)) (X 2) (X 3) (fun j => X (54 + j)) v1 v2 (run _) h (nz_wX g a X) (nz_xm (hC_X6_item_1_54 g a X) nz_ag.refl) (fun r h => kk r h)
/-! X7_times -/
abbrev rm_X7_times : Room := { frames := 3, cells := 0, slots := 0, locals := 67 }
theorem iw_X7_times_7 : ∀ w ∈ wsX70, w ∈ wsX7_times := fun _ h => List.mem_cons_of_mem _ (List.mem_append_left _ (List.mem_append_left _ (List.mem_append_right _ h)))
theorem iw_X7_times_5 : ∀ w ∈ wsX50, w ∈ wsX7_times := fun _ h => List.mem_cons_of_mem _ (List.mem_append_left _ (List.mem_append_right _ h))
theorem fl_X7_times_26 : Cond.fieldLink RX7 26 "NightStones" "now" "LNightStones$Road;" ∈ wsX7_times := List.mem_of_getElem? (i := 1) rfl
theorem fn_X7_times_137 : Cond.fieldLinkNest RX7 137 "NightStones$Road" "isThere" "Z" RX7 ∈ nz_nest := List.mem_of_getElem? (i := 4) rfl
theorem nt_X7_times_X6_isRow_62 : Cond.methodLinkNest RX7 62 yX6_isRow RX7 ∈ nz_nest := List.mem_of_getElem? (i := 55) rfl
theorem wd_X7_times_in_RX6 : Cond.initialized RX6 ∈ wsX7_times := List.mem_of_getElem? (i := 7) rfl
theorem wd_X7_times_im_X6_isRow : Cond.static yX6_isRow ∈ wsX7_times := List.mem_of_getElem? (i := 6) rfl
theorem wd_X7_times_c70 : Cond.constant RX7 70 (-1000001) ∈ wsX7_times := List.mem_of_getElem? (i := 3) rfl
theorem fl_X7_times_10 : Cond.fieldLink RX7 10 "NightStones" "rows" "LNightStones$Rows;" ∈ wsX7_times := List.mem_of_getElem? (i := 4) rfl
theorem nt_X7_times_X6_findingAt_82 : Cond.methodLinkNest RX7 82 yX6_findingAt RX7 ∈ nz_nest := List.mem_of_getElem? (i := 57) rfl
theorem wd_X7_times_im_X6_findingAt : Cond.instanceMethod yX6_findingAt ∈ wsX7_times := List.mem_of_getElem? (i := 13) rfl
theorem wd_X7_times_se_X6_findingAt : Cond.selects RX6 yX6_findingAt yX6_findingAt ∈ wsX7_times := List.mem_of_getElem? (i := 14) rfl
theorem nt_X7_times_X5_hasRoomForTimes_190 : Cond.methodLinkNest RX7 190 yX5_hasRoomForTimes RX7 ∈ nz_nest := List.mem_of_getElem? (i := 78) rfl
theorem wd_X7_times_in_RX5 : Cond.initialized RX5 ∈ wsX7_times := List.mem_of_getElem? (i := 37) rfl
theorem wd_X7_times_im_X5_hasRoomForTimes : Cond.instanceMethod yX5_hasRoomForTimes ∈ wsX7_times := List.mem_of_getElem? (i := 49) rfl
theorem wd_X7_times_se_X5_hasRoomForTimes : Cond.selects RX5 yX5_hasRoomForTimes yX5_hasRoomForTimes ∈ wsX7_times := List.mem_of_getElem? (i := 50) rfl
theorem fn_X7_times_201 : Cond.fieldLinkNest RX7 201 "NightStones$Road" "heard" "I" RX7 ∈ nz_nest := List.mem_of_getElem? (i := 27) rfl
theorem nt_X7_times_X6_item_197 : Cond.methodLinkNest RX7 197 yX6_item RX7 ∈ nz_nest := List.mem_of_getElem? (i := 80) rfl
theorem wd_X7_times_im_X6_item : Cond.instanceMethod yX6_item ∈ wsX7_times := List.mem_of_getElem? (i := 32) rfl
theorem wd_X7_times_se_X6_item : Cond.selects RX6 yX6_item yX6_item ∈ wsX7_times := List.mem_of_getElem? (i := 33) rfl
theorem nt_X7_times_X5_hear_193 : Cond.methodLinkNest RX7 193 yX5_hear RX7 ∈ nz_nest := List.mem_of_getElem? (i := 79) rfl
theorem wd_X7_times_im_X5_hear : Cond.instanceMethod yX5_hear ∈ wsX7_times := List.mem_of_getElem? (i := 53) rfl
theorem wd_X7_times_se_X5_hear : Cond.selects RX5 yX5_hear yX5_hear ∈ wsX7_times := List.mem_of_getElem? (i := 54) rfl
theorem wd_X7_times_c106 : Cond.constant RX7 106 (-1000003) ∈ wsX7_times := List.mem_of_getElem? (i := 5) rfl
theorem nt_X7_times_X5_isTime_186 : Cond.methodLinkNest RX7 186 yX5_isTime RX7 ∈ nz_nest := List.mem_of_getElem? (i := 76) rfl
theorem wd_X7_times_im_X5_isTime : Cond.instanceMethod yX5_isTime ∈ wsX7_times := List.mem_of_getElem? (i := 36) rfl
theorem wd_X7_times_se_X5_isTime : Cond.selects RX5 yX5_isTime yX5_isTime ∈ wsX7_times := List.mem_of_getElem? (i := 38) rfl
theorem wd_X7_times_c141 : Cond.constant RX7 141 (-1000002) ∈ wsX7_times := List.mem_of_getElem? (i := 2) rfl
def S_X7_times_158 (v1 : Int32) (x5 : Int32) (K : Int32 → (Nat → Nat → Int32) → Prop) (R158 : Int32 → (Nat → Nat → Int32) → Prop) (x6 : Int32) (X : Nat → Nat → Int32) : Prop := ((x5 ≤ x6 → wX_X7_well_0 X (X 16 8) (fun q12 X13 => K q12 X13)) ∧ (¬ (x5 ≤ x6) → wX_X6_item_1_54 X v1 x6 (fun q14 => wX_X6_item_1_54 X v1 (x6 + 1) (fun q15 => wX_X6_item_1_54 X v1 (x6 + 2) (fun q16 => wX_X6_item_1_54 X v1 (x6 + 3) (fun q17 => wX_X5_hear_16 X q14 q15 q16 q17 (fun q18 X19 => R158 (x6 + 4) X19)))))))
set_option maxHeartbeats 4000000 in
set_option maxRecDepth 100000 in
theorem t_X7_times_158 {y : nz_Y} {g : nz_G} (F : nz_F y g cX7_times 7 wsX7_times RX7 (some .int) rm_X7_times) {wc0 : va_W} {sz : Nat} {K : Int32 → (Nat → Nat → Int32) → Prop} (a : Nat → Nat) (v1 : Int32) (v2 : Int32) (v3 : Int32) (x5 : Int32) (hQ : yz_A y = va_A wc0 sz ∧ yz_Q y = MQ (yz_b y) ((nz_Qi g wc0 (fun r (u : Nat → Nat → Int32) => K r u) (fun u => nz_wX g a u)) sz) (yz_a y) (yz_s y) 0 0 (va_A wc0 sz)) : ∀ (n1 : Nat) (x6 : Int32) (X : Nat → Nat → Int32), nz_it (fun _ _ => False) (S_X7_times_158 v1 x5 K) n1 x6 X → nz_V y g 0 0 (nz_wX g a X) 158 [(0, .ref (a 0)), (1, .int v1), (5, .int x5), (6, .int x6)] [] := by
  intro n1
  induction n1 with
  | zero =>
    intro x6 X h
    exact h.elim
  | succ n1 hR158 =>
    intro x6 X h
    have h : S_X7_times_158 v1 x5 K (nz_it (fun _ _ => False) (S_X7_times_158 v1 x5 K) n1) x6 X := h
    unfold S_X7_times_158 at h
    refine nz_iload F dX7_times_158 3 rfl ?_
    refine nz_iload F dX7_times_160 2 rfl ?_
    refine nz_icmp_ge (tgt := 225) F dX7_times_162 (by decide) (fun c11 => ?_) (fun c11 => ?_)
    · have h := h.1 c11
      refine nz_aload_n F dX7_times_225 rfl 0 rfl ?_
      refine nz_aload_n F dX7_times_226 rfl 0 rfl ?_
      refine nz_get F iw_X7_times_7 0 (nz_xg0 g a X) rfl 2 (by decide) rfl fl_X7_times_26 rfl dX7_times_227 ?_
      refine nz_getN F iw_X7_times_5 16 (nz_xg16 g a X) rfl 8 (by decide) rfl fn_X7_times_201 rfl dX7_times_230 ?_
      refine kX_X7_well_0 a X (X 16 8) (fun Q hM => nz_runV F gX7_times_X7_well rfl hd_X7_well rfl hM dX7_times_233 (List.range' 0 1) (hC_X7_well_0 g a X) nd_0_1 0 (nz_xg0 g a X) rfl rfl (Nat.le_of_ble_eq_true rfl) rfl) h (fun q12 X13 h => ?_)
      exact nz_iret F hQ X13 h rfl dX7_times_236
    · have h := h.2 c11
      refine nz_aload_n F dX7_times_165 rfl 0 rfl ?_
      refine nz_get F iw_X7_times_7 0 (nz_xg0 g a X) rfl 2 (by decide) rfl fl_X7_times_26 rfl dX7_times_166 ?_
      refine nz_aload_n F dX7_times_169 rfl 0 rfl ?_
      refine nz_get F iw_X7_times_7 0 (nz_xg0 g a X) rfl 0 (by decide) rfl fl_X7_times_10 rfl dX7_times_170 ?_
      refine nz_iload_n F dX7_times_173 rfl 1 rfl ?_
      refine nz_iload F dX7_times_174 3 rfl ?_
      refine kX_X6_item_1_54 a X v1 x6 (fun Q hM => nz_runVN F gX7_times_X6_item_n197 rfl nt_X7_times_X6_item_197 wd_X7_times_in_RX6 wd_X7_times_im_X6_item wd_X7_times_se_X6_item hd_X6_item rfl hM dX7_times_176 (List.range' 1 4 ++ List.range' 54 8) (hC_X6_item_1_54 g a X) nd_1_4_54_8 1 (nz_xg1 g a X) rfl rfl (Nat.le_of_ble_eq_true rfl) rfl) h (fun q14 h => ?_)
      refine nz_aload_n F dX7_times_179 rfl 0 rfl ?_
      refine nz_get F iw_X7_times_7 0 (nz_xg0 g a X) rfl 0 (by decide) rfl fl_X7_times_10 rfl dX7_times_180 ?_
      refine nz_iload_n F dX7_times_183 rfl 1 rfl ?_
      refine nz_iload F dX7_times_184 3 rfl ?_
      refine nz_iconst (v := 1) F dX7_times_186 (by decide) ?_
      refine nz_iadd F dX7_times_187 ?_
      refine kX_X6_item_1_54 a X v1 (x6 + 1) (fun Q hM => nz_runVN F gX7_times_X6_item_n197 rfl nt_X7_times_X6_item_197 wd_X7_times_in_RX6 wd_X7_times_im_X6_item wd_X7_times_se_X6_item hd_X6_item rfl hM dX7_times_188 (List.range' 1 4 ++ List.range' 54 8) (hC_X6_item_1_54 g a X) nd_1_4_54_8 1 (nz_xg1 g a X) rfl rfl (Nat.le_of_ble_eq_true rfl) rfl) h (fun q15 h => ?_)
      refine nz_aload_n F dX7_times_191 rfl 0 rfl ?_
      refine nz_get F iw_X7_times_7 0 (nz_xg0 g a X) rfl 0 (by decide) rfl fl_X7_times_10 rfl dX7_times_192 ?_
      refine nz_iload_n F dX7_times_195 rfl 1 rfl ?_
      refine nz_iload F dX7_times_196 3 rfl ?_
      refine nz_iconst (v := 2) F dX7_times_198 (by decide) ?_
      refine nz_iadd F dX7_times_199 ?_
      refine kX_X6_item_1_54 a X v1 (x6 + 2) (fun Q hM => nz_runVN F gX7_times_X6_item_n197 rfl nt_X7_times_X6_item_197 wd_X7_times_in_RX6 wd_X7_times_im_X6_item wd_X7_times_se_X6_item hd_X6_item rfl hM dX7_times_200 (List.range' 1 4 ++ List.range' 54 8) (hC_X6_item_1_54 g a X) nd_1_4_54_8 1 (nz_xg1 g a X) rfl rfl (Nat.le_of_ble_eq_true rfl) rfl) h (fun q16 h => ?_)
      refine nz_aload_n F dX7_times_203 rfl 0 rfl ?_
      refine nz_get F iw_X7_times_7 0 (nz_xg0 g a X) rfl 0 (by decide) rfl fl_X7_times_10 rfl dX7_times_204 ?_
      refine nz_iload_n F dX7_times_207 rfl 1 rfl ?_
      refine nz_iload F dX7_times_208 3 rfl ?_
      refine nz_iconst (v := 3) F dX7_times_210 (by decide) ?_
      refine nz_iadd F dX7_times_211 ?_
      refine kX_X6_item_1_54 a X v1 (x6 + 3) (fun Q hM => nz_runVN F gX7_times_X6_item_n197 rfl nt_X7_times_X6_item_197 wd_X7_times_in_RX6 wd_X7_times_im_X6_item wd_X7_times_se_X6_item hd_X6_item rfl hM dX7_times_212 (List.range' 1 4 ++ List.range' 54 8) (hC_X6_item_1_54 g a X) nd_1_4_54_8 1 (nz_xg1 g a X) rfl rfl (Nat.le_of_ble_eq_true rfl) rfl) h (fun q17 h => ?_)
      refine kX_X5_hear_16 a X q14 q15 q16 q17 (fun Q hM => nz_runVN F gX7_times_X5_hear_n193 rfl nt_X7_times_X5_hear_193 wd_X7_times_in_RX5 wd_X7_times_im_X5_hear wd_X7_times_se_X5_hear hd_X5_hear rfl hM dX7_times_215 (List.range' 16 9) (hC_X5_hear_16 g a X) nd_16_9 16 (nz_xg16 g a X) rfl rfl (Nat.le_of_ble_eq_true rfl) rfl) h (fun q18 X19 h => ?_)
      refine nz_pop F dX7_times_218 rfl ?_
      refine nz_iinc (v := (x6 + 4)) (j := 3) (lv' := [(6, .int (x6 + 4)), (0, .ref (a 0)), (1, .int v1), (5, .int x5)]) F dX7_times_219 rfl rfl (by decide) rfl ?_
      refine nz_goto (tgt := 158) F dX7_times_222 (by decide) ?_
      refine nz_ls (lv' := [(0, .ref (a 0)), (1, .int v1), (5, .int x5), (6, .int (x6 + 4))]) [1, 2, 3, 0] rfl ?_
      exact hR158 (x6 + 4) X19 h
def S_X7_times_69 (v1 : Int32) (v2 : Int32) (v3 : Int32) (x5 : Int32) (X : Nat → Nat → Int32) (K : Int32 → (Nat → Nat → Int32) → Prop) (R69 : Int32 → Prop) (x6 : Int32) : Prop := ((x5 ≤ x6 → wX_X5_hasRoomForTimes_16 X v3 (fun q9 => ((¬ q9 = 0 → (∃ n, nz_it (fun _ _ => False) (S_X7_times_158 v1 x5 K) n v2 X)) ∧ (q9 = 0 → K (-1000003 : Int32) X)))) ∧ (¬ (x5 ≤ x6) → wX_X6_item_1_54 X v1 x6 (fun q20 => wX_X6_item_1_54 X v1 (x6 + 1) (fun q21 => wX_X6_item_1_54 X v1 (x6 + 2) (fun q22 => wX_X6_item_1_54 X v1 (x6 + 3) (fun q23 => wX_X5_isTime_16 X q20 q21 q22 q23 (fun q24 => ((¬ q24 = 0 → R69 (x6 + 4)) ∧ (q24 = 0 → K (-1000001 : Int32) X)))))))))
set_option maxHeartbeats 4000000 in
set_option maxRecDepth 100000 in
theorem t_X7_times_69 {y : nz_Y} {g : nz_G} (F : nz_F y g cX7_times 7 wsX7_times RX7 (some .int) rm_X7_times) {wc0 : va_W} {sz : Nat} {K : Int32 → (Nat → Nat → Int32) → Prop} (a : Nat → Nat) (v1 : Int32) (v2 : Int32) (v3 : Int32) (x5 : Int32) (X : Nat → Nat → Int32) (hQ : yz_A y = va_A wc0 sz ∧ yz_Q y = MQ (yz_b y) ((nz_Qi g wc0 (fun r (u : Nat → Nat → Int32) => K r u) (fun u => nz_wX g a u)) sz) (yz_a y) (yz_s y) 0 0 (va_A wc0 sz)) : ∀ (n1 : Nat) (x6 : Int32), nz_it (fun _ => False) (S_X7_times_69 v1 v2 v3 x5 X K) n1 x6 → nz_V y g 0 0 (nz_wX g a X) 69 [(0, .ref (a 0)), (1, .int v1), (2, .int v2), (3, .int v3), (5, .int x5), (6, .int x6)] [] := by
  intro n1
  induction n1 with
  | zero =>
    intro x6 h
    exact h.elim
  | succ n1 hR69 =>
    intro x6 h
    have h : S_X7_times_69 v1 v2 v3 x5 X K (nz_it (fun _ => False) (S_X7_times_69 v1 v2 v3 x5 X K) n1) x6 := h
    unfold S_X7_times_69 at h
    refine nz_iload F dX7_times_69 5 rfl ?_
    refine nz_iload F dX7_times_71 4 rfl ?_
    refine nz_icmp_ge (tgt := 141) F dX7_times_73 (by decide) (fun c8 => ?_) (fun c8 => ?_)
    · have h := h.1 c8
      refine nz_aload_n F dX7_times_141 rfl 0 rfl ?_
      refine nz_get F iw_X7_times_7 0 (nz_xg0 g a X) rfl 2 (by decide) rfl fl_X7_times_26 rfl dX7_times_142 ?_
      refine nz_iload_n F dX7_times_145 rfl 3 rfl ?_
      refine kX_X5_hasRoomForTimes_16 a X v3 (fun Q hM => nz_runVN F gX7_times_X5_hasRoomForTimes_n190 rfl nt_X7_times_X5_hasRoomForTimes_190 wd_X7_times_in_RX5 wd_X7_times_im_X5_hasRoomForTimes wd_X7_times_se_X5_hasRoomForTimes hd_X5_hasRoomForTimes rfl hM dX7_times_146 (List.range' 16 9) (hC_X5_hasRoomForTimes_16 g a X) nd_16_9 16 (nz_xg16 g a X) rfl rfl (Nat.le_of_ble_eq_true rfl) rfl) h (fun q9 h => ?_)
      refine nz_if_ne (tgt := 155) F dX7_times_149 (by decide) (fun c10 => ?_) (fun c10 => ?_)
      · have h := h.1 c10
        refine nz_iload_n F dX7_times_155 rfl 2 rfl ?_
        refine nz_istore (lv' := [(6, .int v2), (0, .ref (a 0)), (1, .int v1), (2, .int v2), (3, .int v3), (5, .int x5)]) F dX7_times_156 (by decide) rfl ?_
        refine nz_ls (lv' := [(0, .ref (a 0)), (1, .int v1), (5, .int x5), (6, .int v2)]) [1, 2, 5, 0] rfl ?_
        obtain ⟨n1, h⟩ := h
        exact t_X7_times_158 F a v1 v2 v3 x5 hQ n1 v2 X h
      · have h := h.2 c10
        refine nz_ldc (v := (-1000003 : Int32)) F wd_X7_times_c106 dX7_times_152 ?_
        exact nz_iret F hQ X h rfl dX7_times_154
    · have h := h.2 c8
      refine nz_aload_n F dX7_times_76 rfl 0 rfl ?_
      refine nz_get F iw_X7_times_7 0 (nz_xg0 g a X) rfl 2 (by decide) rfl fl_X7_times_26 rfl dX7_times_77 ?_
      refine nz_aload_n F dX7_times_80 rfl 0 rfl ?_
      refine nz_get F iw_X7_times_7 0 (nz_xg0 g a X) rfl 0 (by decide) rfl fl_X7_times_10 rfl dX7_times_81 ?_
      refine nz_iload_n F dX7_times_84 rfl 1 rfl ?_
      refine nz_iload F dX7_times_85 5 rfl ?_
      refine kX_X6_item_1_54 a X v1 x6 (fun Q hM => nz_runVN F gX7_times_X6_item_n197 rfl nt_X7_times_X6_item_197 wd_X7_times_in_RX6 wd_X7_times_im_X6_item wd_X7_times_se_X6_item hd_X6_item rfl hM dX7_times_87 (List.range' 1 4 ++ List.range' 54 8) (hC_X6_item_1_54 g a X) nd_1_4_54_8 1 (nz_xg1 g a X) rfl rfl (Nat.le_of_ble_eq_true rfl) rfl) h (fun q20 h => ?_)
      refine nz_aload_n F dX7_times_90 rfl 0 rfl ?_
      refine nz_get F iw_X7_times_7 0 (nz_xg0 g a X) rfl 0 (by decide) rfl fl_X7_times_10 rfl dX7_times_91 ?_
      refine nz_iload_n F dX7_times_94 rfl 1 rfl ?_
      refine nz_iload F dX7_times_95 5 rfl ?_
      refine nz_iconst (v := 1) F dX7_times_97 (by decide) ?_
      refine nz_iadd F dX7_times_98 ?_
      refine kX_X6_item_1_54 a X v1 (x6 + 1) (fun Q hM => nz_runVN F gX7_times_X6_item_n197 rfl nt_X7_times_X6_item_197 wd_X7_times_in_RX6 wd_X7_times_im_X6_item wd_X7_times_se_X6_item hd_X6_item rfl hM dX7_times_99 (List.range' 1 4 ++ List.range' 54 8) (hC_X6_item_1_54 g a X) nd_1_4_54_8 1 (nz_xg1 g a X) rfl rfl (Nat.le_of_ble_eq_true rfl) rfl) h (fun q21 h => ?_)
      refine nz_aload_n F dX7_times_102 rfl 0 rfl ?_
      refine nz_get F iw_X7_times_7 0 (nz_xg0 g a X) rfl 0 (by decide) rfl fl_X7_times_10 rfl dX7_times_103 ?_
      refine nz_iload_n F dX7_times_106 rfl 1 rfl ?_
      refine nz_iload F dX7_times_107 5 rfl ?_
      refine nz_iconst (v := 2) F dX7_times_109 (by decide) ?_
      refine nz_iadd F dX7_times_110 ?_
      refine kX_X6_item_1_54 a X v1 (x6 + 2) (fun Q hM => nz_runVN F gX7_times_X6_item_n197 rfl nt_X7_times_X6_item_197 wd_X7_times_in_RX6 wd_X7_times_im_X6_item wd_X7_times_se_X6_item hd_X6_item rfl hM dX7_times_111 (List.range' 1 4 ++ List.range' 54 8) (hC_X6_item_1_54 g a X) nd_1_4_54_8 1 (nz_xg1 g a X) rfl rfl (Nat.le_of_ble_eq_true rfl) rfl) h (fun q22 h => ?_)
      refine nz_aload_n F dX7_times_114 rfl 0 rfl ?_
      refine nz_get F iw_X7_times_7 0 (nz_xg0 g a X) rfl 0 (by decide) rfl fl_X7_times_10 rfl dX7_times_115 ?_
      refine nz_iload_n F dX7_times_118 rfl 1 rfl ?_
      refine nz_iload F dX7_times_119 5 rfl ?_
      refine nz_iconst (v := 3) F dX7_times_121 (by decide) ?_
      refine nz_iadd F dX7_times_122 ?_
      refine kX_X6_item_1_54 a X v1 (x6 + 3) (fun Q hM => nz_runVN F gX7_times_X6_item_n197 rfl nt_X7_times_X6_item_197 wd_X7_times_in_RX6 wd_X7_times_im_X6_item wd_X7_times_se_X6_item hd_X6_item rfl hM dX7_times_123 (List.range' 1 4 ++ List.range' 54 8) (hC_X6_item_1_54 g a X) nd_1_4_54_8 1 (nz_xg1 g a X) rfl rfl (Nat.le_of_ble_eq_true rfl) rfl) h (fun q23 h => ?_)
      refine kX_X5_isTime_16 a X q20 q21 q22 q23 (fun Q hM => nz_runVN F gX7_times_X5_isTime_n186 rfl nt_X7_times_X5_isTime_186 wd_X7_times_in_RX5 wd_X7_times_im_X5_isTime wd_X7_times_se_X5_isTime hd_X5_isTime rfl hM dX7_times_126 (List.range' 16 9) (hC_X5_isTime_16 g a X) nd_16_9 16 (nz_xg16 g a X) rfl rfl (Nat.le_of_ble_eq_true rfl) rfl) h (fun q24 h => ?_)
      refine nz_if_ne (tgt := 135) F dX7_times_129 (by decide) (fun c25 => ?_) (fun c25 => ?_)
      · have h := h.1 c25
        refine nz_iinc (v := (x6 + 4)) (j := 5) (lv' := [(6, .int (x6 + 4)), (0, .ref (a 0)), (1, .int v1), (2, .int v2), (3, .int v3), (5, .int x5)]) F dX7_times_135 rfl rfl (by decide) rfl ?_
        refine nz_goto (tgt := 69) F dX7_times_138 (by decide) ?_
        refine nz_ls (lv' := [(0, .ref (a 0)), (1, .int v1), (2, .int v2), (3, .int v3), (5, .int x5), (6, .int (x6 + 4))]) [1, 2, 3, 4, 5, 0] rfl ?_
        exact hR69 (x6 + 4) h
      · have h := h.2 c25
        refine nz_ldc (v := (-1000001 : Int32)) F wd_X7_times_c70 dX7_times_132 ?_
        exact nz_iret F hQ X h rfl dX7_times_134
def wp_X7_times (X : Nat → Nat → Int32) (v1 : Int32) (v2 : Int32) (v3 : Int32) (K : Int32 → (Nat → Nat → Int32) → Prop) : Prop := ((¬ (X 16 0) = 0 → wX_X6_isRow v1 (fun q2 => ((q2 = 0 → K (-1000001 : Int32) X) ∧ (¬ (q2 = 0) → wX_X7_isAmong v3 1 10 (fun q4 => ((¬ q4 = 0 → wX_X6_findingAt_1_54 X v1 v2 (4 * v3) (fun q6 => ((q6 = 0 → (∃ n, nz_it (fun _ => False) (S_X7_times_69 v1 v2 v3 (v2 + (4 * v3)) X K) n v2)) ∧ (¬ (q6 = 0) → wX_X7_found_0 X q6 (fun q26 X27 => K q26 X27))))) ∧ (q4 = 0 → K (-1000001 : Int32) X))))))) ∧ ((X 16 0) = 0 → K (-1000002 : Int32) X))
set_option maxHeartbeats 4000000 in
set_option maxRecDepth 100000 in
theorem c_X7_times (l : Launch) (g : nz_G) (a : Nat → Nat) (X : Nat → Nat → Int32) (v1 : Int32) (v2 : Int32) (v3 : Int32) (K : Int32 → (Nat → Nat → Int32) → Prop) (h : wp_X7_times X v1 v2 v3 K) : nz_M l yX7_times wsX7_times rm_X7_times g [.ref (a 0), .int v1, .int v2, .int v3] (nz_wX g a X) (nz_Qi g (nz_wX g a X) (fun r (u : Nat → Nat → Int32) => K r u) (fun u => nz_wX g a u)) := by
  refine nz_M.of (bytes := cX7_times) (nL := 7) (ret := (some .int)) (own := RX7) (by decide) rfl rfl ⟨rfl, rfl⟩ rfl ?_
  intro y F hl hQ
  obtain ⟨sz, hQ⟩ := hQ
  refine nz_ent (lv' := [(0, .ref (a 0)), (1, .int v1), (2, .int v2), (3, .int v3)]) rfl ?_
  unfold wp_X7_times at h
  refine nz_aload_n F dX7_times_0 rfl 0 rfl ?_
  refine nz_get F iw_X7_times_7 0 (nz_xg0 g a X) rfl 2 (by decide) rfl fl_X7_times_26 rfl dX7_times_1 ?_
  refine nz_getN F iw_X7_times_5 16 (nz_xg16 g a X) rfl 0 (by decide) rfl fn_X7_times_137 rfl dX7_times_4 ?_
  refine nz_if_ne (tgt := 13) F dX7_times_7 (by decide) (fun c1 => ?_) (fun c1 => ?_)
  · have h := h.1 c1
    refine nz_iload_n F dX7_times_13 rfl 1 rfl ?_
    refine kX_X6_isRow a X v1 (fun Q hM => nz_runSN F gX7_times_X6_isRow_n62 rfl nt_X7_times_X6_isRow_62 wd_X7_times_in_RX6 wd_X7_times_im_X6_isRow hd_X6_isRow.2 rfl hM dX7_times_14 ([] : List Nat) rfl rfl rfl (Nat.le_of_ble_eq_true rfl) rfl) h (fun q2 h => ?_)
    refine nz_if_eq (tgt := 30) F dX7_times_17 (by decide) (fun c3 => ?_) (fun c3 => ?_)
    · have h := h.1 c3
      refine nz_ldc (v := (-1000001 : Int32)) F wd_X7_times_c70 dX7_times_30 ?_
      exact nz_iret F hQ X h rfl dX7_times_32
    · have h := h.2 c3
      refine nz_iload_n F dX7_times_20 rfl 3 rfl ?_
      refine nz_iconst (v := 1) F dX7_times_21 (by decide) ?_
      refine nz_bipush (v := 10) F dX7_times_22 (by decide) ?_
      refine kX_X7_isAmong a X v3 1 10 (fun Q hM => nz_runS F gX7_times_X7_isAmong rfl hd_X7_isAmong.2 rfl hM dX7_times_24 ([] : List Nat) rfl rfl rfl (Nat.le_of_ble_eq_true rfl) rfl) h (fun q4 h => ?_)
      refine nz_if_ne (tgt := 33) F dX7_times_27 (by decide) (fun c5 => ?_) (fun c5 => ?_)
      · have h := h.1 c5
        refine nz_aload_n F dX7_times_33 rfl 0 rfl ?_
        refine nz_get F iw_X7_times_7 0 (nz_xg0 g a X) rfl 0 (by decide) rfl fl_X7_times_10 rfl dX7_times_34 ?_
        refine nz_iload_n F dX7_times_37 rfl 1 rfl ?_
        refine nz_iload_n F dX7_times_38 rfl 2 rfl ?_
        refine nz_iconst (v := 4) F dX7_times_39 (by decide) ?_
        refine nz_iload_n F dX7_times_40 rfl 3 rfl ?_
        refine nz_imul F dX7_times_41 ?_
        refine kX_X6_findingAt_1_54 a X v1 v2 (4 * v3) (fun Q hM => nz_runVN F gX7_times_X6_findingAt_n82 rfl nt_X7_times_X6_findingAt_82 wd_X7_times_in_RX6 wd_X7_times_im_X6_findingAt wd_X7_times_se_X6_findingAt hd_X6_findingAt rfl hM dX7_times_42 (List.range' 1 4 ++ List.range' 54 8) (hC_X6_findingAt_1_54 g a X) nd_1_4_54_8 1 (nz_xg1 g a X) rfl rfl (Nat.le_of_ble_eq_true rfl) rfl) h (fun q6 h => ?_)
        refine nz_istore (lv' := [(4, .int q6), (0, .ref (a 0)), (1, .int v1), (2, .int v2), (3, .int v3)]) F dX7_times_45 (by decide) rfl ?_
        refine nz_iload F dX7_times_47 0 rfl ?_
        refine nz_if_eq (tgt := 59) F dX7_times_49 (by decide) (fun c7 => ?_) (fun c7 => ?_)
        · have h := h.1 c7
          refine nz_iload_n F dX7_times_59 rfl 3 rfl ?_
          refine nz_iconst (v := 4) F dX7_times_60 (by decide) ?_
          refine nz_iload_n F dX7_times_61 rfl 4 rfl ?_
          refine nz_imul F dX7_times_62 ?_
          refine nz_iadd F dX7_times_63 ?_
          refine nz_istore (lv' := [(5, .int (v2 + (4 * v3))), (4, .int q6), (0, .ref (a 0)), (1, .int v1), (2, .int v2), (3, .int v3)]) F dX7_times_64 (by decide) rfl ?_
          refine nz_iload_n F dX7_times_66 rfl 4 rfl ?_
          refine nz_istore (lv' := [(6, .int v2), (5, .int (v2 + (4 * v3))), (4, .int q6), (0, .ref (a 0)), (1, .int v1), (2, .int v2), (3, .int v3)]) F dX7_times_67 (by decide) rfl ?_
          refine nz_ls (lv' := [(0, .ref (a 0)), (1, .int v1), (2, .int v2), (3, .int v3), (5, .int (v2 + (4 * v3))), (6, .int v2)]) [3, 4, 5, 6, 1, 0] rfl ?_
          obtain ⟨n1, h⟩ := h
          exact t_X7_times_69 F a v1 v2 v3 (v2 + (4 * v3)) X hQ n1 v2 h
        · have h := h.2 c7
          refine nz_aload_n F dX7_times_52 rfl 1 rfl ?_
          refine nz_iload F dX7_times_53 0 rfl ?_
          refine kX_X7_found_0 a X q6 (fun Q hM => nz_runV F gX7_times_X7_found rfl hd_X7_found rfl hM dX7_times_55 (List.range' 0 1) (hC_X7_found_0 g a X) nd_0_1 0 (nz_xg0 g a X) rfl rfl (Nat.le_of_ble_eq_true rfl) rfl) h (fun q26 X27 h => ?_)
          exact nz_iret F hQ X27 h rfl dX7_times_58
      · have h := h.2 c5
        refine nz_ldc (v := (-1000001 : Int32)) F wd_X7_times_c70 dX7_times_30 ?_
        exact nz_iret F hQ X h rfl dX7_times_32
  · have h := h.2 c1
    refine nz_ldc (v := (-1000002 : Int32)) F wd_X7_times_c141 dX7_times_10 ?_
    exact nz_iret F hQ X h rfl dX7_times_12
theorem k_X7_times {y : nz_Y} {g : nz_G} {k n : Nat} {ws : va_W} {pc : Nat} {ls : List (Nat × Value)} {st rest : List Value} {av : Array Value} {isC : List Nat} {K : Int32 → (Nat → Nat → Int32) → Prop} (a : Nat → Nat) (X : Nat → Nat → Int32) (v1 : Int32) (v2 : Int32) (v3 : Int32) (run : nz_M (yz_l y) yX7_times wsX7_times rm_X7_times g [.ref (a 0), .int v1, .int v2, .int v3] (nz_wX g a X) (nz_Qi g (nz_wX g a X) (fun r (u : Nat → Nat → Int32) => K r u) (fun u => nz_wX g a u)) → nz_C y g k n ws pc ls st rest (nz_wX g a X) (nz_Qi g (nz_wX g a X) (fun r (u : Nat → Nat → Int32) => K r u) (fun u => nz_wX g a u)) av isC) (h : wp_X7_times X v1 v2 v3 K) (ws' : (Nat → Nat → Int32) → va_W) (hm : ∀ (m0 : (Nat → Nat → Int32)), nz_mrg ws isC (nz_wX g a m0) = ws' m0) (kk : ∀ (r : Int32) (m0 : (Nat → Nat → Int32)), K r m0 → nz_V y g k n (ws' m0) (pc + 3) ls (.int r :: rest)) : nz_V y g k n ws pc ls st :=
  nz_ci (ws' := fun u => ws' u) (run (c_X7_times (yz_l y) g a X v1 v2 v3 K h)) (fun _ => rfl) (fun u => hm u) (fun r u h => kk r u h)
