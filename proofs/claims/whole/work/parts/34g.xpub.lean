theorem dX7_rest_0 : decode cX7_rest 0 = .ok (.aload_n 0, 1) := by decide +kernel
theorem dX7_rest_1 : decode cX7_rest 1 = .ok (.getfield 26, 3) := by decide +kernel
theorem dX7_rest_4 : decode cX7_rest 4 = .ok (.getfield 137, 3) := by decide +kernel
theorem dX7_rest_7 : decode cX7_rest 7 = .ok (.ifCond .ne 6, 3) := by decide +kernel
theorem dX7_rest_10 : decode cX7_rest 10 = .ok (.ldc 141, 2) := by decide +kernel
theorem dX7_rest_12 : decode cX7_rest 12 = .ok (.ireturn, 1) := by decide +kernel
theorem dX7_rest_13 : decode cX7_rest 13 = .ok (.aload_n 0, 1) := by decide +kernel
theorem dX7_rest_14 : decode cX7_rest 14 = .ok (.getfield 51, 3) := by decide +kernel
theorem dX7_rest_17 : decode cX7_rest 17 = .ok (.aload_n 0, 1) := by decide +kernel
theorem dX7_rest_18 : decode cX7_rest 18 = .ok (.getfield 26, 3) := by decide +kernel
theorem dX7_rest_21 : decode cX7_rest 21 = .ok (.invokevirtual 222, 3) := by decide +kernel
theorem dX7_rest_24 : decode cX7_rest 24 = .ok (.ireturn, 1) := by decide +kernel
set_option maxRecDepth 20000 in
theorem ggX7_rest_X2_nightsToRest : GoodIn wsX7_rest wsX2_nightsToRest := goodIn_r _ [7, 8, 9, 10, 11, 12, 13, 14, 15, 16, 17, 18, 19, 20, 21, 22, 23, 24, 25, 26, 27, 28, 29, 30, 31, 32, 33, 34, 35, 36, 37, 38, 39, 40, 41, 42, 43, 44, 45, 46, 47, 48, 59, 60, 61, 62, 63, 64, 65, 66, 67, 68, 69, 70, 71, 72, 73, 74, 75, 76, 77] rfl (by decide +kernel)
set_option maxRecDepth 20000 in
theorem gX7_rest_X2_nightsToRest_n222 : GoodIn wsX7_rest (wsX2_nightsToRest) := ggX7_rest_X2_nightsToRest
theorem hd_X2_nightsToRest : yX2_nightsToRest.cls = RX2 ∧ yX2_nightsToRest.cls ≠ "java/lang/invoke/MethodHandle" ∧ yX2_nightsToRest.cls ≠ "java/lang/invoke/VarHandle" ∧ (parseMethodDescriptor yX2_nightsToRest.desc).map (fun d => d.parameters.length) = some 1 := by decide +kernel
theorem nd_49_3_16_9 : va_nd (List.range' 49 3 ++ List.range' 16 9) = true := by decide +kernel
theorem nz_xg49 (g : nz_G) (a : Nat → Nat) (X : Nat → Nat → Int32) : (nz_wX g a X)[49]? = some ((a 49), .inr (2, [.ref (a 50), .ref (a 51)])) := rfl
theorem hC_X2_nightsToRest_49_16 (g : nz_G) (a : Nat → Nat) (X : Nat → Nat → Int32) : (List.range' 49 3 ++ List.range' 16 9).map (fun i => (nz_wX g a X)[i]?) = (([((a 49), .inr (2, [.ref (a 50), .ref (a 51)])), ((a 50), .inl (nz_cI g, 6, .inl (X 50))), ((a 51), .inl (nz_cI g, 6, .inl (X 51))), ((a 16), .inr (5, [.int (X 16 0), .int (X 16 1), .int (X 16 2), .int (X 16 3), .int (X 16 4), .int (X 16 5), .int (X 16 6), .int (X 16 7), .int (X 16 8), .ref (a 17), .ref (a 18), .ref (a 19), .ref (a 20), .ref (a 21), .ref (a 22), .ref (a 23), .ref (a 24)])), ((a 17), .inl (nz_cI g, 6, .inl (X 17))), ((a 18), .inl (nz_cI g, 6, .inl (X 18))), ((a 19), .inl (nz_cI g, 6, .inl (X 19))), ((a 20), .inl (nz_cI g, 5, .inl (X 20))), ((a 21), .inl (nz_cI g, 5, .inl (X 21))), ((a 22), .inl (nz_cI g, 5, .inl (X 22))), ((a 23), .inl (nz_cI g, 5, .inl (X 23))), ((a 24), .inl (nz_cI g, 48, .inl (X 24)))] : va_W)).map some := rfl
def wX_X2_nightsToRest_49_16 (X : Nat → Nat → Int32) (K : Int32 → (Nat → Nat → Int32) → Prop) : Prop := wp_X2_nightsToRest (X 50) (X 51) (X 16 1) (X 16 5) (X 16 6) (X 16 7) (X 18) (X 19) (X 20) (X 21) (X 22) (X 23) (fun r m0 m1 => K r (va_up (va_up X 50 m0) 51 m1))
theorem kX_X2_nightsToRest_49_16 {y : nz_Y} {g : nz_G} {k n pc : Nat} {ls : List (Nat × Value)} {st rest : List Value} {av : Array Value} {K : Int32 → (Nat → Nat → Int32) → Prop} (a : Nat → Nat) (X : Nat → Nat → Int32) (run : ∀ Q : Nat → Array Value → State → Outcome → State → Prop, nz_M (yz_l y) yX2_nightsToRest wsX2_nightsToRest rm_X2_nightsToRest g [.ref (a 49), .ref (a 16)] [((a 49), .inr (2, [.ref (a 50), .ref (a 51)])), ((a 50), .inl (nz_cI g, 6, .inl (X 50))), ((a 51), .inl (nz_cI g, 6, .inl (X 51))), ((a 16), .inr (5, [.int (X 16 0), .int (X 16 1), .int (X 16 2), .int (X 16 3), .int (X 16 4), .int (X 16 5), .int (X 16 6), .int (X 16 7), .int (X 16 8), .ref (a 17), .ref (a 18), .ref (a 19), .ref (a 20), .ref (a 21), .ref (a 22), .ref (a 23), .ref (a 24)])), ((a 17), .inl (nz_cI g, 6, .inl (X 17))), ((a 18), .inl (nz_cI g, 6, .inl (X 18))), ((a 19), .inl (nz_cI g, 6, .inl (X 19))), ((a 20), .inl (nz_cI g, 5, .inl (X 20))), ((a 21), .inl (nz_cI g, 5, .inl (X 21))), ((a 22), .inl (nz_cI g, 5, .inl (X 22))), ((a 23), .inl (nz_cI g, 5, .inl (X 23))), ((a 24), .inl (nz_cI g, 48, .inl (X 24)))] Q → nz_C y g k n (nz_wX g a X) pc ls st rest [((a 49), .inr (2, [.ref (a 50), .ref (a 51)])), ((a 50), .inl (nz_cI g, 6, .inl (X 50))), ((a 51), .inl (nz_cI g, 6, .inl (X 51))), ((a 16), .inr (5, [.int (X 16 0), .int (X 16 1), .int (X 16 2), .int (X 16 3), .int (X 16 4), .int (X 16 5), .int (X 16 6), .int (X 16 7), .int (X 16 8), .ref (a 17), .ref (a 18), .ref (a 19), .ref (a 20), .ref (a 21), .ref (a 22), .ref (a 23), .ref (a 24)])), ((a 17), .inl (nz_cI g, 6, .inl (X 17))), ((a 18), .inl (nz_cI g, 6, .inl (X 18))), ((a 19), .inl (nz_cI g, 6, .inl (X 19))), ((a 20), .inl (nz_cI g, 5, .inl (X 20))), ((a 21), .inl (nz_cI g, 5, .inl (X 21))), ((a 22), .inl (nz_cI g, 5, .inl (X 22))), ((a 23), .inl (nz_cI g, 5, .inl (X 23))), ((a 24), .inl (nz_cI g, 48, .inl (X 24)))] Q av (List.range' 49 3 ++ List.range' 16 9)) (h : wX_X2_nightsToRest_49_16 X K) (kk : ∀ (r : Int32) (X1 : Nat → Nat → Int32), K r X1 → nz_V y g k n (nz_wX g a X1) (pc + 3) ls (.int r :: rest)) : nz_V y g k n (nz_wX g a X) pc ls st :=
 k_X2_nightsToRest (a 49) (a 50) (a 51) (a 16) (a 17) (a 18) (a 19) (a 20) (a 21) (a 22) (a 23) (a 24) (X 50) (X 51) (X 16 0) (X 16 1) (X 16 2) (X 16 3) (X 16 4) (X 16 5) (X 16 6) (X 16 7) (X 16 8) (X 17) (X 18) (X 19) (X 20) (X 21) (X 22) (X 23) (X 24) (run _) h (fun m0 m1 => nz_wX g a (va_up (va_up X 50 m0) 51 m1)) (fun m0 m1 => nz_xm (hC_X2_nightsToRest_49_16 g a (va_up (va_up X 50 m0) 51 m1)) (nz_ag.up (nz_ag.up nz_ag.refl rfl) rfl)) (fun r m0 m1 h => kk r (va_up (va_up X 50 m0) 51 m1) h)
/-! X7_rest -/
abbrev rm_X7_rest : Room := { frames := 4, cells := 0, slots := 0, locals := 96 }
theorem iw_X7_rest_7 : ∀ w ∈ wsX70, w ∈ wsX7_rest := fun _ h => List.mem_cons_of_mem _ (List.mem_append_left _ (List.mem_append_left _ (List.mem_append_right _ h)))
theorem iw_X7_rest_5 : ∀ w ∈ wsX50, w ∈ wsX7_rest := fun _ h => List.mem_cons_of_mem _ (List.mem_append_left _ (List.mem_append_right _ h))
theorem fl_X7_rest_26 : Cond.fieldLink RX7 26 "NightStones" "now" "LNightStones$Road;" ∈ wsX7_rest := List.mem_of_getElem? (i := 1) rfl
theorem fn_X7_rest_137 : Cond.fieldLinkNest RX7 137 "NightStones$Road" "isThere" "Z" RX7 ∈ nz_nest := List.mem_of_getElem? (i := 4) rfl
theorem fl_X7_rest_51 : Cond.fieldLink RX7 51 "NightStones" "foreteller" "LNightStones$Foreteller;" ∈ wsX7_rest := List.mem_of_getElem? (i := 3) rfl
theorem nt_X7_rest_X2_nightsToRest_222 : Cond.methodLinkNest RX7 222 yX2_nightsToRest RX7 ∈ nz_nest := List.mem_of_getElem? (i := 86) rfl
theorem wd_X7_rest_in_RX2 : Cond.initialized RX2 ∈ wsX7_rest := List.mem_of_getElem? (i := 5) rfl
theorem wd_X7_rest_im_X2_nightsToRest : Cond.instanceMethod yX2_nightsToRest ∈ wsX7_rest := List.mem_of_getElem? (i := 4) rfl
theorem wd_X7_rest_se_X2_nightsToRest : Cond.selects RX2 yX2_nightsToRest yX2_nightsToRest ∈ wsX7_rest := List.mem_of_getElem? (i := 6) rfl
theorem wd_X7_rest_c141 : Cond.constant RX7 141 (-1000002) ∈ wsX7_rest := List.mem_of_getElem? (i := 2) rfl
def wp_X7_rest (X : Nat → Nat → Int32) (K : Int32 → (Nat → Nat → Int32) → Prop) : Prop := ((¬ (X 16 0) = 0 → wX_X2_nightsToRest_49_16 X (fun q2 X3 => K q2 X3)) ∧ ((X 16 0) = 0 → K (-1000002 : Int32) X))
set_option maxHeartbeats 4000000 in
set_option maxRecDepth 100000 in
theorem c_X7_rest (l : Launch) (g : nz_G) (a : Nat → Nat) (X : Nat → Nat → Int32) (K : Int32 → (Nat → Nat → Int32) → Prop) (h : wp_X7_rest X K) : nz_M l yX7_rest wsX7_rest rm_X7_rest g [.ref (a 0)] (nz_wX g a X) (nz_Qi g (nz_wX g a X) (fun r (u : Nat → Nat → Int32) => K r u) (fun u => nz_wX g a u)) := by
  refine nz_M.of (bytes := cX7_rest) (nL := 1) (ret := (some .int)) (own := RX7) (by decide) rfl rfl ⟨rfl, rfl⟩ rfl ?_
  intro y F hl hQ
  obtain ⟨sz, hQ⟩ := hQ
  refine nz_ent (lv' := [(0, .ref (a 0))]) rfl ?_
  unfold wp_X7_rest at h
  refine nz_aload_n F dX7_rest_0 rfl 0 rfl ?_
  refine nz_get F iw_X7_rest_7 0 (nz_xg0 g a X) rfl 2 (by decide) rfl fl_X7_rest_26 rfl dX7_rest_1 ?_
  refine nz_getN F iw_X7_rest_5 16 (nz_xg16 g a X) rfl 0 (by decide) rfl fn_X7_rest_137 rfl dX7_rest_4 ?_
  refine nz_if_ne (tgt := 13) F dX7_rest_7 (by decide) (fun c1 => ?_) (fun c1 => ?_)
  · have h := h.1 c1
    refine nz_aload_n F dX7_rest_13 rfl 0 rfl ?_
    refine nz_get F iw_X7_rest_7 0 (nz_xg0 g a X) rfl 6 (by decide) rfl fl_X7_rest_51 rfl dX7_rest_14 ?_
    refine nz_aload_n F dX7_rest_17 rfl 0 rfl ?_
    refine nz_get F iw_X7_rest_7 0 (nz_xg0 g a X) rfl 2 (by decide) rfl fl_X7_rest_26 rfl dX7_rest_18 ?_
    refine kX_X2_nightsToRest_49_16 a X (fun Q hM => nz_runVN F gX7_rest_X2_nightsToRest_n222 rfl nt_X7_rest_X2_nightsToRest_222 wd_X7_rest_in_RX2 wd_X7_rest_im_X2_nightsToRest wd_X7_rest_se_X2_nightsToRest hd_X2_nightsToRest rfl hM dX7_rest_21 (List.range' 49 3 ++ List.range' 16 9) (hC_X2_nightsToRest_49_16 g a X) nd_49_3_16_9 49 (nz_xg49 g a X) rfl rfl (Nat.le_of_ble_eq_true rfl) rfl) h (fun q2 X3 h => ?_)
    exact nz_iret F hQ X3 h rfl dX7_rest_24
  · have h := h.2 c1
    refine nz_ldc (v := (-1000002 : Int32)) F wd_X7_rest_c141 dX7_rest_10 ?_
    exact nz_iret F hQ X h rfl dX7_rest_12
theorem k_X7_rest {y : nz_Y} {g : nz_G} {k n : Nat} {ws : va_W} {pc : Nat} {ls : List (Nat × Value)} {st rest : List Value} {av : Array Value} {isC : List Nat} {K : Int32 → (Nat → Nat → Int32) → Prop} (a : Nat → Nat) (X : Nat → Nat → Int32) (run : nz_M (yz_l y) yX7_rest wsX7_rest rm_X7_rest g [.ref (a 0)] (nz_wX g a X) (nz_Qi g (nz_wX g a X) (fun r (u : Nat → Nat → Int32) => K r u) (fun u => nz_wX g a u)) → nz_C y g k n ws pc ls st rest (nz_wX g a X) (nz_Qi g (nz_wX g a X) (fun r (u : Nat → Nat → Int32) => K r u) (fun u => nz_wX g a u)) av isC) (h : wp_X7_rest X K) (ws' : (Nat → Nat → Int32) → va_W) (hm : ∀ (m0 : (Nat → Nat → Int32)), nz_mrg ws isC (nz_wX g a m0) = ws' m0) (kk : ∀ (r : Int32) (m0 : (Nat → Nat → Int32)), K r m0 → nz_V y g k n (ws' m0) (pc + 3) ls (.int r :: rest)) : nz_V y g k n ws pc ls st :=
  nz_ci (ws' := fun u => ws' u) (run (c_X7_rest (yz_l y) g a X K h)) (fun _ => rfl) (fun u => hm u) (fun r u h => kk r u h)
theorem dX7_moved_0 : decode cX7_moved 0 = .ok (.aload_n 0, 1) := by decide +kernel
theorem dX7_moved_1 : decode cX7_moved 1 = .ok (.getfield 26, 3) := by decide +kernel
theorem dX7_moved_4 : decode cX7_moved 4 = .ok (.getfield 137, 3) := by decide +kernel
theorem dX7_moved_7 : decode cX7_moved 7 = .ok (.ifCond .ne 6, 3) := by decide +kernel
theorem dX7_moved_10 : decode cX7_moved 10 = .ok (.ldc 141, 2) := by decide +kernel
theorem dX7_moved_12 : decode cX7_moved 12 = .ok (.ireturn, 1) := by decide +kernel
theorem dX7_moved_13 : decode cX7_moved 13 = .ok (.iload_n 1, 1) := by decide +kernel
theorem dX7_moved_14 : decode cX7_moved 14 = .ok (.iconst 0, 1) := by decide +kernel
theorem dX7_moved_15 : decode cX7_moved 15 = .ok (.iconst 1, 1) := by decide +kernel
theorem dX7_moved_16 : decode cX7_moved 16 = .ok (.invokestatic 66, 3) := by decide +kernel
theorem dX7_moved_19 : decode cX7_moved 19 = .ok (.ifCond .ne 6, 3) := by decide +kernel
theorem dX7_moved_22 : decode cX7_moved 22 = .ok (.ldc 70, 2) := by decide +kernel
theorem dX7_moved_24 : decode cX7_moved 24 = .ok (.ireturn, 1) := by decide +kernel
theorem dX7_moved_25 : decode cX7_moved 25 = .ok (.aload_n 0, 1) := by decide +kernel
theorem dX7_moved_26 : decode cX7_moved 26 = .ok (.getfield 26, 3) := by decide +kernel
theorem dX7_moved_29 : decode cX7_moved 29 = .ok (.invokestatic 225, 3) := by decide +kernel
theorem dX7_moved_32 : decode cX7_moved 32 = .ok (.istore_n 2, 1) := by decide +kernel
theorem dX7_moved_33 : decode cX7_moved 33 = .ok (.iload_n 1, 1) := by decide +kernel
theorem dX7_moved_34 : decode cX7_moved 34 = .ok (.ifCond .ne 10, 3) := by decide +kernel
theorem dX7_moved_37 : decode cX7_moved 37 = .ok (.iload_n 2, 1) := by decide +kernel
theorem dX7_moved_38 : decode cX7_moved 38 = .ok (.invokestatic 228, 3) := by decide +kernel
theorem dX7_moved_41 : decode cX7_moved 41 = .ok (.goto 4, 3) := by decide +kernel
theorem dX7_moved_44 : decode cX7_moved 44 = .ok (.iload_n 2, 1) := by decide +kernel
theorem dX7_moved_45 : decode cX7_moved 45 = .ok (.ireturn, 1) := by decide +kernel
set_option maxRecDepth 20000 in
theorem ggX7_moved_J6_bitCount_0f7a4 : GoodIn wsX7_moved wsJ6_bitCount_0f7a4 := goodIn_r _ [17, 18, 19, 20] rfl (by decide +kernel)
set_option maxRecDepth 20000 in
theorem gX7_moved_J6_bitCount_0f7a4 : GoodIn wsX7_moved (va_wsS RX7 228 yJ6_bitCount_0f7a4 wsJ6_bitCount_0f7a4) := goodIn_app (goodIn_r _ [21, 15, 16] rfl (by decide +kernel)) ggX7_moved_J6_bitCount_0f7a4
set_option maxRecDepth 20000 in
theorem ggX7_moved_X2_leastSetMoved : GoodIn wsX7_moved wsX2_leastSetMoved := goodIn_r _ [10, 11, 12, 9, 13, 14, 15, 16, 17, 18, 19, 20, 32, 33, 34, 35, 36, 37, 38, 39, 40, 41, 42, 43, 44, 45, 46, 47, 48] rfl (by decide +kernel)
set_option maxRecDepth 20000 in
theorem gX7_moved_X2_leastSetMoved_n225 : GoodIn wsX7_moved (wsX2_leastSetMoved) := ggX7_moved_X2_leastSetMoved
set_option maxRecDepth 20000 in
theorem ggX7_moved_X7_isAmong : GoodIn wsX7_moved wsX7_isAmong := goodIn_r _ [7] rfl (by decide +kernel)
set_option maxRecDepth 20000 in
theorem gX7_moved_X7_isAmong : GoodIn wsX7_moved (va_wsS RX7 66 yX7_isAmong wsX7_isAmong) := goodIn_app (goodIn_r _ [4, 5, 6] rfl (by decide +kernel)) ggX7_moved_X7_isAmong
theorem hd_X2_leastSetMoved : yX2_leastSetMoved.cls = RX2 ∧ yX2_leastSetMoved.cls ≠ "java/lang/invoke/MethodHandle" ∧ yX2_leastSetMoved.cls ≠ "java/lang/invoke/VarHandle" ∧ (parseMethodDescriptor yX2_leastSetMoved.desc).map (fun d => d.parameters.length) = some 1 := by decide +kernel
theorem hC_X2_leastSetMoved_16 (g : nz_G) (a : Nat → Nat) (X : Nat → Nat → Int32) : (List.range' 16 9).map (fun i => (nz_wX g a X)[i]?) = (([((a 16), .inr (5, [.int (X 16 0), .int (X 16 1), .int (X 16 2), .int (X 16 3), .int (X 16 4), .int (X 16 5), .int (X 16 6), .int (X 16 7), .int (X 16 8), .ref (a 17), .ref (a 18), .ref (a 19), .ref (a 20), .ref (a 21), .ref (a 22), .ref (a 23), .ref (a 24)])), ((a 17), .inl (nz_cI g, 6, .inl (X 17))), ((a 18), .inl (nz_cI g, 6, .inl (X 18))), ((a 19), .inl (nz_cI g, 6, .inl (X 19))), ((a 20), .inl (nz_cI g, 5, .inl (X 20))), ((a 21), .inl (nz_cI g, 5, .inl (X 21))), ((a 22), .inl (nz_cI g, 5, .inl (X 22))), ((a 23), .inl (nz_cI g, 5, .inl (X 23))), ((a 24), .inl (nz_cI g, 48, .inl (X 24)))] : va_W)).map some := rfl
def wX_X2_leastSetMoved_16 (X : Nat → Nat → Int32) (K : Int32 → Prop) : Prop := wp_X2_leastSetMoved (X 16 6) (X 17) (X 18) (fun r => K r)
theorem kX_X2_leastSetMoved_16 {y : nz_Y} {g : nz_G} {k n pc : Nat} {ls : List (Nat × Value)} {st rest : List Value} {av : Array Value} {K : Int32 → Prop} (a : Nat → Nat) (X : Nat → Nat → Int32) (run : ∀ Q : Nat → Array Value → State → Outcome → State → Prop, nz_M (yz_l y) yX2_leastSetMoved wsX2_leastSetMoved rm_X2_leastSetMoved g [.ref (a 16)] [((a 16), .inr (5, [.int (X 16 0), .int (X 16 1), .int (X 16 2), .int (X 16 3), .int (X 16 4), .int (X 16 5), .int (X 16 6), .int (X 16 7), .int (X 16 8), .ref (a 17), .ref (a 18), .ref (a 19), .ref (a 20), .ref (a 21), .ref (a 22), .ref (a 23), .ref (a 24)])), ((a 17), .inl (nz_cI g, 6, .inl (X 17))), ((a 18), .inl (nz_cI g, 6, .inl (X 18))), ((a 19), .inl (nz_cI g, 6, .inl (X 19))), ((a 20), .inl (nz_cI g, 5, .inl (X 20))), ((a 21), .inl (nz_cI g, 5, .inl (X 21))), ((a 22), .inl (nz_cI g, 5, .inl (X 22))), ((a 23), .inl (nz_cI g, 5, .inl (X 23))), ((a 24), .inl (nz_cI g, 48, .inl (X 24)))] Q → nz_C y g k n (nz_wX g a X) pc ls st rest [((a 16), .inr (5, [.int (X 16 0), .int (X 16 1), .int (X 16 2), .int (X 16 3), .int (X 16 4), .int (X 16 5), .int (X 16 6), .int (X 16 7), .int (X 16 8), .ref (a 17), .ref (a 18), .ref (a 19), .ref (a 20), .ref (a 21), .ref (a 22), .ref (a 23), .ref (a 24)])), ((a 17), .inl (nz_cI g, 6, .inl (X 17))), ((a 18), .inl (nz_cI g, 6, .inl (X 18))), ((a 19), .inl (nz_cI g, 6, .inl (X 19))), ((a 20), .inl (nz_cI g, 5, .inl (X 20))), ((a 21), .inl (nz_cI g, 5, .inl (X 21))), ((a 22), .inl (nz_cI g, 5, .inl (X 22))), ((a 23), .inl (nz_cI g, 5, .inl (X 23))), ((a 24), .inl (nz_cI g, 48, .inl (X 24)))] Q av (List.range' 16 9)) (h : wX_X2_leastSetMoved_16 X K) (kk : ∀ (r : Int32), K r → nz_V y g k n (nz_wX g a X) (pc + 3) ls (.int r :: rest)) : nz_V y g k n (nz_wX g a X) pc ls st :=
 k_X2_leastSetMoved (a 16) (a 17) (a 18) (a 19) (a 20) (a 21) (a 22) (a 23) (a 24) (X 16 0) (X 16 1) (X 16 2) (X 16 3) (X 16 4) (X 16 5) (X 16 6) (X 16 7) (X 16 8) (X 17) (X 18) (X 19) (X 20) (X 21) (X 22) (X 23) (X 24) (run _) h (nz_wX g a X) (nz_xm (hC_X2_leastSetMoved_16 g a X) nz_ag.refl) (fun r h => kk r h)
def wX_J6_bitCount_0f7a4 (v0 : Int32) (K : Int32 → Prop) : Prop := wp_J6_bitCount_0f7a4 v0 (fun r => K r)
theorem kX_J6_bitCount_0f7a4 {y : nz_Y} {g : nz_G} {k n pc : Nat} {ls : List (Nat × Value)} {st rest : List Value} {av : Array Value} {K : Int32 → Prop} (a : Nat → Nat) (X : Nat → Nat → Int32) (v0 : Int32) (run : ∀ Q : Nat → Array Value → State → Outcome → State → Prop, nz_M (yz_l y) yJ6_bitCount_0f7a4 wsJ6_bitCount_0f7a4 rm_J6_bitCount_0f7a4 g [.int v0] [] Q → nz_C y g k n (nz_wX g a X) pc ls st rest [] Q av ([] : List Nat)) (h : wX_J6_bitCount_0f7a4 v0 K) (kk : ∀ (r : Int32), K r → nz_V y g k n (nz_wX g a X) (pc + 3) ls (.int r :: rest)) : nz_V y g k n (nz_wX g a X) pc ls st :=
 k_J6_bitCount_0f7a4 v0 (run _) h (nz_wX g a X) rfl (fun r h => kk r h)
/-! X7_moved -/
abbrev rm_X7_moved : Room := { frames := 2, cells := 0, slots := 0, locals := 48 }
theorem iw_X7_moved_7 : ∀ w ∈ wsX70, w ∈ wsX7_moved := fun _ h => List.mem_cons_of_mem _ (List.mem_append_left _ (List.mem_append_right _ h))
theorem iw_X7_moved_5 : ∀ w ∈ wsX50, w ∈ wsX7_moved := fun _ h => List.mem_cons_of_mem _ (List.mem_append_right _ h)
theorem fl_X7_moved_26 : Cond.fieldLink RX7 26 "NightStones" "now" "LNightStones$Road;" ∈ wsX7_moved := List.mem_of_getElem? (i := 1) rfl
theorem fn_X7_moved_137 : Cond.fieldLinkNest RX7 137 "NightStones$Road" "isThere" "Z" RX7 ∈ nz_nest := List.mem_of_getElem? (i := 4) rfl
theorem nt_X7_moved_X2_leastSetMoved_225 : Cond.methodLinkNest RX7 225 yX2_leastSetMoved RX7 ∈ nz_nest := List.mem_of_getElem? (i := 89) rfl
theorem wd_X7_moved_in_RX2 : Cond.initialized RX2 ∈ wsX7_moved := List.mem_of_getElem? (i := 9) rfl
theorem wd_X7_moved_im_X2_leastSetMoved : Cond.static yX2_leastSetMoved ∈ wsX7_moved := List.mem_of_getElem? (i := 8) rfl
theorem wd_X7_moved_c70 : Cond.constant RX7 70 (-1000001) ∈ wsX7_moved := List.mem_of_getElem? (i := 3) rfl
theorem wd_X7_moved_c141 : Cond.constant RX7 141 (-1000002) ∈ wsX7_moved := List.mem_of_getElem? (i := 2) rfl
def wp_X7_moved (X : Nat → Nat → Int32) (v1 : Int32) (K : Int32 → (Nat → Nat → Int32) → Prop) : Prop := ((¬ (X 16 0) = 0 → wX_X7_isAmong v1 0 1 (fun q2 => ((¬ q2 = 0 → wX_X2_leastSetMoved_16 X (fun q4 => ((¬ v1 = 0 → K q4 X) ∧ (v1 = 0 → wX_J6_bitCount_0f7a4 q4 (fun q6 => K q6 X))))) ∧ (q2 = 0 → K (-1000001 : Int32) X)))) ∧ ((X 16 0) = 0 → K (-1000002 : Int32) X))
set_option maxHeartbeats 4000000 in
set_option maxRecDepth 100000 in
theorem c_X7_moved (l : Launch) (g : nz_G) (a : Nat → Nat) (X : Nat → Nat → Int32) (v1 : Int32) (K : Int32 → (Nat → Nat → Int32) → Prop) (h : wp_X7_moved X v1 K) : nz_M l yX7_moved wsX7_moved rm_X7_moved g [.ref (a 0), .int v1] (nz_wX g a X) (nz_Qi g (nz_wX g a X) (fun r (u : Nat → Nat → Int32) => K r u) (fun u => nz_wX g a u)) := by
  refine nz_M.of (bytes := cX7_moved) (nL := 3) (ret := (some .int)) (own := RX7) (by decide) rfl rfl ⟨rfl, rfl⟩ rfl ?_
  intro y F hl hQ
  obtain ⟨sz, hQ⟩ := hQ
  refine nz_ent (lv' := [(0, .ref (a 0)), (1, .int v1)]) rfl ?_
  unfold wp_X7_moved at h
  refine nz_aload_n F dX7_moved_0 rfl 0 rfl ?_
  refine nz_get F iw_X7_moved_7 0 (nz_xg0 g a X) rfl 2 (by decide) rfl fl_X7_moved_26 rfl dX7_moved_1 ?_
  refine nz_getN F iw_X7_moved_5 16 (nz_xg16 g a X) rfl 0 (by decide) rfl fn_X7_moved_137 rfl dX7_moved_4 ?_
  refine nz_if_ne (tgt := 13) F dX7_moved_7 (by decide) (fun c1 => ?_) (fun c1 => ?_)
  · have h := h.1 c1
    refine nz_iload_n F dX7_moved_13 rfl 1 rfl ?_
    refine nz_iconst (v := 0) F dX7_moved_14 (by decide) ?_
    refine nz_iconst (v := 1) F dX7_moved_15 (by decide) ?_
    refine kX_X7_isAmong a X v1 0 1 (fun Q hM => nz_runS F gX7_moved_X7_isAmong rfl hd_X7_isAmong.2 rfl hM dX7_moved_16 ([] : List Nat) rfl rfl rfl (Nat.le_of_ble_eq_true rfl) rfl) h (fun q2 h => ?_)
    refine nz_if_ne (tgt := 25) F dX7_moved_19 (by decide) (fun c3 => ?_) (fun c3 => ?_)
    · have h := h.1 c3
      refine nz_aload_n F dX7_moved_25 rfl 0 rfl ?_
      refine nz_get F iw_X7_moved_7 0 (nz_xg0 g a X) rfl 2 (by decide) rfl fl_X7_moved_26 rfl dX7_moved_26 ?_
      refine kX_X2_leastSetMoved_16 a X (fun Q hM => nz_runSN F gX7_moved_X2_leastSetMoved_n225 rfl nt_X7_moved_X2_leastSetMoved_225 wd_X7_moved_in_RX2 wd_X7_moved_im_X2_leastSetMoved hd_X2_leastSetMoved.2 rfl hM dX7_moved_29 (List.range' 16 9) (hC_X2_leastSetMoved_16 g a X) nd_16_9 rfl (Nat.le_of_ble_eq_true rfl) rfl) h (fun q4 h => ?_)
      refine nz_istore_n (lv' := [(2, .int q4), (0, .ref (a 0)), (1, .int v1)]) F dX7_moved_32 rfl (by decide) rfl ?_
      refine nz_iload_n F dX7_moved_33 rfl 2 rfl ?_
      refine nz_if_ne (tgt := 44) F dX7_moved_34 (by decide) (fun c5 => ?_) (fun c5 => ?_)
      · have h := h.1 c5
        refine nz_iload_n F dX7_moved_44 rfl 0 rfl ?_
        exact nz_iret F hQ X h rfl dX7_moved_45
      · have h := h.2 c5
        refine nz_iload_n F dX7_moved_37 rfl 0 rfl ?_
        refine kX_J6_bitCount_0f7a4 a X q4 (fun Q hM => nz_runS F gX7_moved_J6_bitCount_0f7a4 rfl hd_J6_bitCount_0f7a4.2 rfl hM dX7_moved_38 ([] : List Nat) rfl rfl rfl (Nat.le_of_ble_eq_true rfl) rfl) h (fun q6 h => ?_)
        refine nz_goto (tgt := 45) F dX7_moved_41 (by decide) ?_
        exact nz_iret F hQ X h rfl dX7_moved_45
    · have h := h.2 c3
      refine nz_ldc (v := (-1000001 : Int32)) F wd_X7_moved_c70 dX7_moved_22 ?_
      exact nz_iret F hQ X h rfl dX7_moved_24
  · have h := h.2 c1
    refine nz_ldc (v := (-1000002 : Int32)) F wd_X7_moved_c141 dX7_moved_10 ?_
    exact nz_iret F hQ X h rfl dX7_moved_12
theorem k_X7_moved {y : nz_Y} {g : nz_G} {k n : Nat} {ws : va_W} {pc : Nat} {ls : List (Nat × Value)} {st rest : List Value} {av : Array Value} {isC : List Nat} {K : Int32 → (Nat → Nat → Int32) → Prop} (a : Nat → Nat) (X : Nat → Nat → Int32) (v1 : Int32) (run : nz_M (yz_l y) yX7_moved wsX7_moved rm_X7_moved g [.ref (a 0), .int v1] (nz_wX g a X) (nz_Qi g (nz_wX g a X) (fun r (u : Nat → Nat → Int32) => K r u) (fun u => nz_wX g a u)) → nz_C y g k n ws pc ls st rest (nz_wX g a X) (nz_Qi g (nz_wX g a X) (fun r (u : Nat → Nat → Int32) => K r u) (fun u => nz_wX g a u)) av isC) (h : wp_X7_moved X v1 K) (ws' : (Nat → Nat → Int32) → va_W) (hm : ∀ (m0 : (Nat → Nat → Int32)), nz_mrg ws isC (nz_wX g a m0) = ws' m0) (kk : ∀ (r : Int32) (m0 : (Nat → Nat → Int32)), K r m0 → nz_V y g k n (ws' m0) (pc + 3) ls (.int r :: rest)) : nz_V y g k n ws pc ls st :=
  nz_ci (ws' := fun u => ws' u) (run (c_X7_moved (yz_l y) g a X v1 K h)) (fun _ => rfl) (fun u => hm u) (fun r u h => kk r u h)
theorem dX7_who_0 : decode cX7_who 0 = .ok (.aload_n 0, 1) := by decide +kernel
theorem dX7_who_1 : decode cX7_who 1 = .ok (.getfield 26, 3) := by decide +kernel
theorem dX7_who_4 : decode cX7_who 4 = .ok (.getfield 137, 3) := by decide +kernel
theorem dX7_who_7 : decode cX7_who 7 = .ok (.ifCond .ne 6, 3) := by decide +kernel
theorem dX7_who_10 : decode cX7_who 10 = .ok (.ldc 141, 2) := by decide +kernel
theorem dX7_who_12 : decode cX7_who 12 = .ok (.ireturn, 1) := by decide +kernel
theorem dX7_who_13 : decode cX7_who 13 = .ok (.iload_n 1, 1) := by decide +kernel
theorem dX7_who_14 : decode cX7_who 14 = .ok (.iconst 0, 1) := by decide +kernel
theorem dX7_who_15 : decode cX7_who 15 = .ok (.bipush 9, 2) := by decide +kernel
theorem dX7_who_17 : decode cX7_who 17 = .ok (.invokestatic 66, 3) := by decide +kernel
theorem dX7_who_20 : decode cX7_who 20 = .ok (.ifCond .eq 12, 3) := by decide +kernel
theorem dX7_who_23 : decode cX7_who 23 = .ok (.iload_n 2, 1) := by decide +kernel
theorem dX7_who_24 : decode cX7_who 24 = .ok (.iconst 0, 1) := by decide +kernel
theorem dX7_who_25 : decode cX7_who 25 = .ok (.iconst 1, 1) := by decide +kernel
theorem dX7_who_26 : decode cX7_who 26 = .ok (.invokestatic 66, 3) := by decide +kernel
theorem dX7_who_29 : decode cX7_who 29 = .ok (.ifCond .ne 6, 3) := by decide +kernel
theorem dX7_who_32 : decode cX7_who 32 = .ok (.ldc 70, 2) := by decide +kernel
theorem dX7_who_34 : decode cX7_who 34 = .ok (.ireturn, 1) := by decide +kernel
theorem dX7_who_35 : decode cX7_who 35 = .ok (.iload_n 2, 1) := by decide +kernel
theorem dX7_who_36 : decode cX7_who 36 = .ok (.ifCond .ne 18, 3) := by decide +kernel
theorem dX7_who_39 : decode cX7_who 39 = .ok (.aload_n 0, 1) := by decide +kernel
theorem dX7_who_40 : decode cX7_who 40 = .ok (.getfield 51, 3) := by decide +kernel
theorem dX7_who_43 : decode cX7_who 43 = .ok (.aload_n 0, 1) := by decide +kernel
theorem dX7_who_44 : decode cX7_who 44 = .ok (.getfield 26, 3) := by decide +kernel
theorem dX7_who_47 : decode cX7_who 47 = .ok (.iload_n 1, 1) := by decide +kernel
theorem dX7_who_48 : decode cX7_who 48 = .ok (.invokevirtual 233, 3) := by decide +kernel
theorem dX7_who_51 : decode cX7_who 51 = .ok (.goto 15, 3) := by decide +kernel
theorem dX7_who_54 : decode cX7_who 54 = .ok (.aload_n 0, 1) := by decide +kernel
theorem dX7_who_55 : decode cX7_who 55 = .ok (.getfield 51, 3) := by decide +kernel
theorem dX7_who_58 : decode cX7_who 58 = .ok (.aload_n 0, 1) := by decide +kernel
theorem dX7_who_59 : decode cX7_who 59 = .ok (.getfield 26, 3) := by decide +kernel
theorem dX7_who_62 : decode cX7_who 62 = .ok (.iload_n 1, 1) := by decide +kernel
theorem dX7_who_63 : decode cX7_who 63 = .ok (.invokevirtual 237, 3) := by decide +kernel
theorem dX7_who_66 : decode cX7_who 66 = .ok (.ireturn, 1) := by decide +kernel
set_option maxRecDepth 20000 in
theorem ggX7_who_X2_leastSetThatFits : GoodIn wsX7_who wsX2_leastSetThatFits := goodIn_r _ [58, 59, 13, 14, 15, 10, 16, 17, 18, 19, 20, 21, 22, 23, 24, 25, 26, 27, 28, 29, 30, 31, 32, 33, 34, 35, 36, 37, 38, 39, 40, 41, 42, 43, 44, 45, 46, 47, 48, 49, 50, 51, 52, 53, 54, 55, 70, 71, 72, 73, 74, 75, 76, 77, 78, 79, 80, 81, 82, 83, 84, 85, 86, 87, 88] rfl (by decide +kernel)
set_option maxRecDepth 20000 in
theorem gX7_who_X2_leastSetThatFits_n237 : GoodIn wsX7_who (wsX2_leastSetThatFits) := ggX7_who_X2_leastSetThatFits
set_option maxRecDepth 20000 in
theorem ggX7_who_X2_setsThatFit : GoodIn wsX7_who wsX2_setsThatFit := goodIn_r _ [12, 13, 14, 15, 10, 16, 17, 18, 19, 20, 21, 22, 23, 24, 25, 26, 27, 28, 29, 30, 31, 32, 33, 34, 35, 36, 37, 38, 39, 40, 41, 42, 43, 44, 45, 46, 47, 48, 49, 50, 51, 52, 53, 54, 55, 70, 71, 72, 73, 74, 75, 76, 77, 78, 79, 80, 81, 82, 83, 84, 85, 86, 87, 88] rfl (by decide +kernel)
set_option maxRecDepth 20000 in
theorem gX7_who_X2_setsThatFit_n233 : GoodIn wsX7_who (wsX2_setsThatFit) := ggX7_who_X2_setsThatFit
set_option maxRecDepth 20000 in
theorem ggX7_who_X7_isAmong : GoodIn wsX7_who wsX7_isAmong := goodIn_r _ [8] rfl (by decide +kernel)
set_option maxRecDepth 20000 in
theorem gX7_who_X7_isAmong : GoodIn wsX7_who (va_wsS RX7 66 yX7_isAmong wsX7_isAmong) := goodIn_app (goodIn_r _ [5, 6, 7] rfl (by decide +kernel)) ggX7_who_X7_isAmong
theorem hd_X2_leastSetThatFits : yX2_leastSetThatFits.cls = RX2 ∧ yX2_leastSetThatFits.cls ≠ "java/lang/invoke/MethodHandle" ∧ yX2_leastSetThatFits.cls ≠ "java/lang/invoke/VarHandle" ∧ (parseMethodDescriptor yX2_leastSetThatFits.desc).map (fun d => d.parameters.length) = some 2 := by decide +kernel
theorem hd_X2_setsThatFit : yX2_setsThatFit.cls = RX2 ∧ yX2_setsThatFit.cls ≠ "java/lang/invoke/MethodHandle" ∧ yX2_setsThatFit.cls ≠ "java/lang/invoke/VarHandle" ∧ (parseMethodDescriptor yX2_setsThatFit.desc).map (fun d => d.parameters.length) = some 2 := by decide +kernel
theorem hC_X2_leastSetThatFits_49_16 (g : nz_G) (a : Nat → Nat) (X : Nat → Nat → Int32) : (List.range' 49 3 ++ List.range' 16 9).map (fun i => (nz_wX g a X)[i]?) = (([((a 49), .inr (2, [.ref (a 50), .ref (a 51)])), ((a 50), .inl (nz_cI g, 6, .inl (X 50))), ((a 51), .inl (nz_cI g, 6, .inl (X 51))), ((a 16), .inr (5, [.int (X 16 0), .int (X 16 1), .int (X 16 2), .int (X 16 3), .int (X 16 4), .int (X 16 5), .int (X 16 6), .int (X 16 7), .int (X 16 8), .ref (a 17), .ref (a 18), .ref (a 19), .ref (a 20), .ref (a 21), .ref (a 22), .ref (a 23), .ref (a 24)])), ((a 17), .inl (nz_cI g, 6, .inl (X 17))), ((a 18), .inl (nz_cI g, 6, .inl (X 18))), ((a 19), .inl (nz_cI g, 6, .inl (X 19))), ((a 20), .inl (nz_cI g, 5, .inl (X 20))), ((a 21), .inl (nz_cI g, 5, .inl (X 21))), ((a 22), .inl (nz_cI g, 5, .inl (X 22))), ((a 23), .inl (nz_cI g, 5, .inl (X 23))), ((a 24), .inl (nz_cI g, 48, .inl (X 24)))] : va_W)).map some := rfl
def wX_X2_leastSetThatFits_49_16 (X : Nat → Nat → Int32) (v2 : Int32) (K : Int32 → (Nat → Nat → Int32) → Prop) : Prop := wp_X2_leastSetThatFits (X 50) (X 16 1) (X 16 6) (X 16 7) (X 18) (X 19) (X 20) (X 21) (X 22) (X 23) v2 (fun r m0 => K r (va_up X 50 m0))
theorem kX_X2_leastSetThatFits_49_16 {y : nz_Y} {g : nz_G} {k n pc : Nat} {ls : List (Nat × Value)} {st rest : List Value} {av : Array Value} {K : Int32 → (Nat → Nat → Int32) → Prop} (a : Nat → Nat) (X : Nat → Nat → Int32) (v2 : Int32) (run : ∀ Q : Nat → Array Value → State → Outcome → State → Prop, nz_M (yz_l y) yX2_leastSetThatFits wsX2_leastSetThatFits rm_X2_leastSetThatFits g [.ref (a 49), .ref (a 16), .int v2] [((a 49), .inr (2, [.ref (a 50), .ref (a 51)])), ((a 50), .inl (nz_cI g, 6, .inl (X 50))), ((a 51), .inl (nz_cI g, 6, .inl (X 51))), ((a 16), .inr (5, [.int (X 16 0), .int (X 16 1), .int (X 16 2), .int (X 16 3), .int (X 16 4), .int (X 16 5), .int (X 16 6), .int (X 16 7), .int (X 16 8), .ref (a 17), .ref (a 18), .ref (a 19), .ref (a 20), .ref (a 21), .ref (a 22), .ref (a 23), .ref (a 24)])), ((a 17), .inl (nz_cI g, 6, .inl (X 17))), ((a 18), .inl (nz_cI g, 6, .inl (X 18))), ((a 19), .inl (nz_cI g, 6, .inl (X 19))), ((a 20), .inl (nz_cI g, 5, .inl (X 20))), ((a 21), .inl (nz_cI g, 5, .inl (X 21))), ((a 22), .inl (nz_cI g, 5, .inl (X 22))), ((a 23), .inl (nz_cI g, 5, .inl (X 23))), ((a 24), .inl (nz_cI g, 48, .inl (X 24)))] Q → nz_C y g k n (nz_wX g a X) pc ls st rest [((a 49), .inr (2, [.ref (a 50), .ref (a 51)])), ((a 50), .inl (nz_cI g, 6, .inl (X 50))), ((a 51), .inl (nz_cI g, 6, .inl (X 51))), ((a 16), .inr (5, [.int (X 16 0), .int (X 16 1), .int (X 16 2), .int (X 16 3), .int (X 16 4), .int (X 16 5), .int (X 16 6), .int (X 16 7), .int (X 16 8), .ref (a 17), .ref (a 18), .ref (a 19), .ref (a 20), .ref (a 21), .ref (a 22), .ref (a 23), .ref (a 24)])), ((a 17), .inl (nz_cI g, 6, .inl (X 17))), ((a 18), .inl (nz_cI g, 6, .inl (X 18))), ((a 19), .inl (nz_cI g, 6, .inl (X 19))), ((a 20), .inl (nz_cI g, 5, .inl (X 20))), ((a 21), .inl (nz_cI g, 5, .inl (X 21))), ((a 22), .inl (nz_cI g, 5, .inl (X 22))), ((a 23), .inl (nz_cI g, 5, .inl (X 23))), ((a 24), .inl (nz_cI g, 48, .inl (X 24)))] Q av (List.range' 49 3 ++ List.range' 16 9)) (h : wX_X2_leastSetThatFits_49_16 X v2 K) (kk : ∀ (r : Int32) (X1 : Nat → Nat → Int32), K r X1 → nz_V y g k n (nz_wX g a X1) (pc + 3) ls (.int r :: rest)) : nz_V y g k n (nz_wX g a X) pc ls st :=
 k_X2_leastSetThatFits (a 49) (a 50) (a 51) (a 16) (a 17) (a 18) (a 19) (a 20) (a 21) (a 22) (a 23) (a 24) (X 50) (X 51) (X 16 0) (X 16 1) (X 16 2) (X 16 3) (X 16 4) (X 16 5) (X 16 6) (X 16 7) (X 16 8) (X 17) (X 18) (X 19) (X 20) (X 21) (X 22) (X 23) (X 24) v2 (run _) h (fun m0 => nz_wX g a (va_up X 50 m0)) (fun m0 => nz_xm (hC_X2_leastSetThatFits_49_16 g a (va_up X 50 m0)) (nz_ag.up nz_ag.refl rfl)) (fun r m0 h => kk r (va_up X 50 m0) h)
theorem hC_X2_setsThatFit_49_16 (g : nz_G) (a : Nat → Nat) (X : Nat → Nat → Int32) : (List.range' 49 3 ++ List.range' 16 9).map (fun i => (nz_wX g a X)[i]?) = (([((a 49), .inr (2, [.ref (a 50), .ref (a 51)])), ((a 50), .inl (nz_cI g, 6, .inl (X 50))), ((a 51), .inl (nz_cI g, 6, .inl (X 51))), ((a 16), .inr (5, [.int (X 16 0), .int (X 16 1), .int (X 16 2), .int (X 16 3), .int (X 16 4), .int (X 16 5), .int (X 16 6), .int (X 16 7), .int (X 16 8), .ref (a 17), .ref (a 18), .ref (a 19), .ref (a 20), .ref (a 21), .ref (a 22), .ref (a 23), .ref (a 24)])), ((a 17), .inl (nz_cI g, 6, .inl (X 17))), ((a 18), .inl (nz_cI g, 6, .inl (X 18))), ((a 19), .inl (nz_cI g, 6, .inl (X 19))), ((a 20), .inl (nz_cI g, 5, .inl (X 20))), ((a 21), .inl (nz_cI g, 5, .inl (X 21))), ((a 22), .inl (nz_cI g, 5, .inl (X 22))), ((a 23), .inl (nz_cI g, 5, .inl (X 23))), ((a 24), .inl (nz_cI g, 48, .inl (X 24)))] : va_W)).map some := rfl
def wX_X2_setsThatFit_49_16 (X : Nat → Nat → Int32) (v2 : Int32) (K : Int32 → (Nat → Nat → Int32) → Prop) : Prop := wp_X2_setsThatFit (X 50) (X 16 1) (X 16 6) (X 16 7) (X 18) (X 19) (X 20) (X 21) (X 22) (X 23) v2 (fun r m0 => K r (va_up X 50 m0))
theorem kX_X2_setsThatFit_49_16 {y : nz_Y} {g : nz_G} {k n pc : Nat} {ls : List (Nat × Value)} {st rest : List Value} {av : Array Value} {K : Int32 → (Nat → Nat → Int32) → Prop} (a : Nat → Nat) (X : Nat → Nat → Int32) (v2 : Int32) (run : ∀ Q : Nat → Array Value → State → Outcome → State → Prop, nz_M (yz_l y) yX2_setsThatFit wsX2_setsThatFit rm_X2_setsThatFit g [.ref (a 49), .ref (a 16), .int v2] [((a 49), .inr (2, [.ref (a 50), .ref (a 51)])), ((a 50), .inl (nz_cI g, 6, .inl (X 50))), ((a 51), .inl (nz_cI g, 6, .inl (X 51))), ((a 16), .inr (5, [.int (X 16 0), .int (X 16 1), .int (X 16 2), .int (X 16 3), .int (X 16 4), .int (X 16 5), .int (X 16 6), .int (X 16 7), .int (X 16 8), .ref (a 17), .ref (a 18), .ref (a 19), .ref (a 20), .ref (a 21), .ref (a 22), .ref (a 23), .ref (a 24)])), ((a 17), .inl (nz_cI g, 6, .inl (X 17))), ((a 18), .inl (nz_cI g, 6, .inl (X 18))), ((a 19), .inl (nz_cI g, 6, .inl (X 19))), ((a 20), .inl (nz_cI g, 5, .inl (X 20))), ((a 21), .inl (nz_cI g, 5, .inl (X 21))), ((a 22), .inl (nz_cI g, 5, .inl (X 22))), ((a 23), .inl (nz_cI g, 5, .inl (X 23))), ((a 24), .inl (nz_cI g, 48, .inl (X 24)))] Q → nz_C y g k n (nz_wX g a X) pc ls st rest [((a 49), .inr (2, [.ref (a 50), .ref (a 51)])), ((a 50), .inl (nz_cI g, 6, .inl (X 50))), ((a 51), .inl (nz_cI g, 6, .inl (X 51))), ((a 16), .inr (5, [.int (X 16 0), .int (X 16 1), .int (X 16 2), .int (X 16 3), .int (X 16 4), .int (X 16 5), .int (X 16 6), .int (X 16 7), .int (X 16 8), .ref (a 17), .ref (a 18), .ref (a 19), .ref (a 20), .ref (a 21), .ref (a 22), .ref (a 23), .ref (a 24)])), ((a 17), .inl (nz_cI g, 6, .inl (X 17))), ((a 18), .inl (nz_cI g, 6, .inl (X 18))), ((a 19), .inl (nz_cI g, 6, .inl (X 19))), ((a 20), .inl (nz_cI g, 5, .inl (X 20))), ((a 21), .inl (nz_cI g, 5, .inl (X 21))), ((a 22), .inl (nz_cI g, 5, .inl (X 22))), ((a 23), .inl (nz_cI g, 5, .inl (X 23))), ((a 24), .inl (nz_cI g, 48, .inl (X 24)))] Q av (List.range' 49 3 ++ List.range' 16 9)) (h : wX_X2_setsThatFit_49_16 X v2 K) (kk : ∀ (r : Int32) (X1 : Nat → Nat → Int32), K r X1 → nz_V y g k n (nz_wX g a X1) (pc + 3) ls (.int r :: rest)) : nz_V y g k n (nz_wX g a X) pc ls st :=
 k_X2_setsThatFit (a 49) (a 50) (a 51) (a 16) (a 17) (a 18) (a 19) (a 20) (a 21) (a 22) (a 23) (a 24) (X 50) (X 51) (X 16 0) (X 16 1) (X 16 2) (X 16 3) (X 16 4) (X 16 5) (X 16 6) (X 16 7) (X 16 8) (X 17) (X 18) (X 19) (X 20) (X 21) (X 22) (X 23) (X 24) v2 (run _) h (fun m0 => nz_wX g a (va_up X 50 m0)) (fun m0 => nz_xm (hC_X2_setsThatFit_49_16 g a (va_up X 50 m0)) (nz_ag.up nz_ag.refl rfl)) (fun r m0 h => kk r (va_up X 50 m0) h)
/-! X7_who -/
abbrev rm_X7_who : Room := { frames := 5, cells := 0, slots := 0, locals := 121 }
theorem iw_X7_who_7 : ∀ w ∈ wsX70, w ∈ wsX7_who := fun _ h => List.mem_cons_of_mem _ (List.mem_append_left _ (List.mem_append_left _ (List.mem_append_right _ h)))
theorem iw_X7_who_5 : ∀ w ∈ wsX50, w ∈ wsX7_who := fun _ h => List.mem_cons_of_mem _ (List.mem_append_left _ (List.mem_append_right _ h))
theorem fl_X7_who_26 : Cond.fieldLink RX7 26 "NightStones" "now" "LNightStones$Road;" ∈ wsX7_who := List.mem_of_getElem? (i := 1) rfl
theorem fn_X7_who_137 : Cond.fieldLinkNest RX7 137 "NightStones$Road" "isThere" "Z" RX7 ∈ nz_nest := List.mem_of_getElem? (i := 4) rfl
theorem wd_X7_who_c70 : Cond.constant RX7 70 (-1000001) ∈ wsX7_who := List.mem_of_getElem? (i := 3) rfl
theorem fl_X7_who_51 : Cond.fieldLink RX7 51 "NightStones" "foreteller" "LNightStones$Foreteller;" ∈ wsX7_who := List.mem_of_getElem? (i := 4) rfl
theorem nt_X7_who_X2_leastSetThatFits_237 : Cond.methodLinkNest RX7 237 yX2_leastSetThatFits RX7 ∈ nz_nest := List.mem_of_getElem? (i := 91) rfl
theorem wd_X7_who_in_RX2 : Cond.initialized RX2 ∈ wsX7_who := List.mem_of_getElem? (i := 10) rfl
theorem wd_X7_who_im_X2_leastSetThatFits : Cond.instanceMethod yX2_leastSetThatFits ∈ wsX7_who := List.mem_of_getElem? (i := 56) rfl
theorem wd_X7_who_se_X2_leastSetThatFits : Cond.selects RX2 yX2_leastSetThatFits yX2_leastSetThatFits ∈ wsX7_who := List.mem_of_getElem? (i := 57) rfl
theorem nt_X7_who_X2_setsThatFit_233 : Cond.methodLinkNest RX7 233 yX2_setsThatFit RX7 ∈ nz_nest := List.mem_of_getElem? (i := 90) rfl
theorem wd_X7_who_im_X2_setsThatFit : Cond.instanceMethod yX2_setsThatFit ∈ wsX7_who := List.mem_of_getElem? (i := 9) rfl
theorem wd_X7_who_se_X2_setsThatFit : Cond.selects RX2 yX2_setsThatFit yX2_setsThatFit ∈ wsX7_who := List.mem_of_getElem? (i := 11) rfl
theorem wd_X7_who_c141 : Cond.constant RX7 141 (-1000002) ∈ wsX7_who := List.mem_of_getElem? (i := 2) rfl
def wp_X7_who (X : Nat → Nat → Int32) (v1 : Int32) (v2 : Int32) (K : Int32 → (Nat → Nat → Int32) → Prop) : Prop := ((¬ (X 16 0) = 0 → wX_X7_isAmong v1 0 9 (fun q2 => ((q2 = 0 → K (-1000001 : Int32) X) ∧ (¬ (q2 = 0) → wX_X7_isAmong v2 0 1 (fun q4 => ((¬ q4 = 0 → ((¬ v2 = 0 → wX_X2_leastSetThatFits_49_16 X v1 (fun q7 X8 => K q7 X8)) ∧ (v2 = 0 → wX_X2_setsThatFit_49_16 X v1 (fun q9 X10 => K q9 X10)))) ∧ (q4 = 0 → K (-1000001 : Int32) X))))))) ∧ ((X 16 0) = 0 → K (-1000002 : Int32) X))
set_option maxHeartbeats 4000000 in
set_option maxRecDepth 100000 in
theorem c_X7_who (l : Launch) (g : nz_G) (a : Nat → Nat) (X : Nat → Nat → Int32) (v1 : Int32) (v2 : Int32) (K : Int32 → (Nat → Nat → Int32) → Prop) (h : wp_X7_who X v1 v2 K) : nz_M l yX7_who wsX7_who rm_X7_who g [.ref (a 0), .int v1, .int v2] (nz_wX g a X) (nz_Qi g (nz_wX g a X) (fun r (u : Nat → Nat → Int32) => K r u) (fun u => nz_wX g a u)) := by
  refine nz_M.of (bytes := cX7_who) (nL := 3) (ret := (some .int)) (own := RX7) (by decide) rfl rfl ⟨rfl, rfl⟩ rfl ?_
  intro y F hl hQ
  obtain ⟨sz, hQ⟩ := hQ
  refine nz_ent (lv' := [(0, .ref (a 0)), (1, .int v1), (2, .int v2)]) rfl ?_
  unfold wp_X7_who at h
  refine nz_aload_n F dX7_who_0 rfl 0 rfl ?_
  refine nz_get F iw_X7_who_7 0 (nz_xg0 g a X) rfl 2 (by decide) rfl fl_X7_who_26 rfl dX7_who_1 ?_
  refine nz_getN F iw_X7_who_5 16 (nz_xg16 g a X) rfl 0 (by decide) rfl fn_X7_who_137 rfl dX7_who_4 ?_
  refine nz_if_ne (tgt := 13) F dX7_who_7 (by decide) (fun c1 => ?_) (fun c1 => ?_)
  · have h := h.1 c1
    refine nz_iload_n F dX7_who_13 rfl 1 rfl ?_
    refine nz_iconst (v := 0) F dX7_who_14 (by decide) ?_
    refine nz_bipush (v := 9) F dX7_who_15 (by decide) ?_
    refine kX_X7_isAmong a X v1 0 9 (fun Q hM => nz_runS F gX7_who_X7_isAmong rfl hd_X7_isAmong.2 rfl hM dX7_who_17 ([] : List Nat) rfl rfl rfl (Nat.le_of_ble_eq_true rfl) rfl) h (fun q2 h => ?_)
    refine nz_if_eq (tgt := 32) F dX7_who_20 (by decide) (fun c3 => ?_) (fun c3 => ?_)
    · have h := h.1 c3
      refine nz_ldc (v := (-1000001 : Int32)) F wd_X7_who_c70 dX7_who_32 ?_
      exact nz_iret F hQ X h rfl dX7_who_34
    · have h := h.2 c3
      refine nz_iload_n F dX7_who_23 rfl 2 rfl ?_
      refine nz_iconst (v := 0) F dX7_who_24 (by decide) ?_
      refine nz_iconst (v := 1) F dX7_who_25 (by decide) ?_
      refine kX_X7_isAmong a X v2 0 1 (fun Q hM => nz_runS F gX7_who_X7_isAmong rfl hd_X7_isAmong.2 rfl hM dX7_who_26 ([] : List Nat) rfl rfl rfl (Nat.le_of_ble_eq_true rfl) rfl) h (fun q4 h => ?_)
      refine nz_if_ne (tgt := 35) F dX7_who_29 (by decide) (fun c5 => ?_) (fun c5 => ?_)
      · have h := h.1 c5
        refine nz_iload_n F dX7_who_35 rfl 2 rfl ?_
        refine nz_if_ne (tgt := 54) F dX7_who_36 (by decide) (fun c6 => ?_) (fun c6 => ?_)
        · have h := h.1 c6
          refine nz_aload_n F dX7_who_54 rfl 0 rfl ?_
          refine nz_get F iw_X7_who_7 0 (nz_xg0 g a X) rfl 6 (by decide) rfl fl_X7_who_51 rfl dX7_who_55 ?_
          refine nz_aload_n F dX7_who_58 rfl 0 rfl ?_
          refine nz_get F iw_X7_who_7 0 (nz_xg0 g a X) rfl 2 (by decide) rfl fl_X7_who_26 rfl dX7_who_59 ?_
          refine nz_iload_n F dX7_who_62 rfl 1 rfl ?_
          refine kX_X2_leastSetThatFits_49_16 a X v1 (fun Q hM => nz_runVN F gX7_who_X2_leastSetThatFits_n237 rfl nt_X7_who_X2_leastSetThatFits_237 wd_X7_who_in_RX2 wd_X7_who_im_X2_leastSetThatFits wd_X7_who_se_X2_leastSetThatFits hd_X2_leastSetThatFits rfl hM dX7_who_63 (List.range' 49 3 ++ List.range' 16 9) (hC_X2_leastSetThatFits_49_16 g a X) nd_49_3_16_9 49 (nz_xg49 g a X) rfl rfl (Nat.le_of_ble_eq_true rfl) rfl) h (fun q7 X8 h => ?_)
          exact nz_iret F hQ X8 h rfl dX7_who_66
        · have h := h.2 c6
          refine nz_aload_n F dX7_who_39 rfl 0 rfl ?_
          refine nz_get F iw_X7_who_7 0 (nz_xg0 g a X) rfl 6 (by decide) rfl fl_X7_who_51 rfl dX7_who_40 ?_
          refine nz_aload_n F dX7_who_43 rfl 0 rfl ?_
          refine nz_get F iw_X7_who_7 0 (nz_xg0 g a X) rfl 2 (by decide) rfl fl_X7_who_26 rfl dX7_who_44 ?_
          refine nz_iload_n F dX7_who_47 rfl 1 rfl ?_
          refine kX_X2_setsThatFit_49_16 a X v1 (fun Q hM => nz_runVN F gX7_who_X2_setsThatFit_n233 rfl nt_X7_who_X2_setsThatFit_233 wd_X7_who_in_RX2 wd_X7_who_im_X2_setsThatFit wd_X7_who_se_X2_setsThatFit hd_X2_setsThatFit rfl hM dX7_who_48 (List.range' 49 3 ++ List.range' 16 9) (hC_X2_setsThatFit_49_16 g a X) nd_49_3_16_9 49 (nz_xg49 g a X) rfl rfl (Nat.le_of_ble_eq_true rfl) rfl) h (fun q9 X10 h => ?_)
          refine nz_goto (tgt := 66) F dX7_who_51 (by decide) ?_
          exact nz_iret F hQ X10 h rfl dX7_who_66
      · have h := h.2 c5
        refine nz_ldc (v := (-1000001 : Int32)) F wd_X7_who_c70 dX7_who_32 ?_
        exact nz_iret F hQ X h rfl dX7_who_34
  · have h := h.2 c1
    refine nz_ldc (v := (-1000002 : Int32)) F wd_X7_who_c141 dX7_who_10 ?_
    exact nz_iret F hQ X h rfl dX7_who_12
theorem k_X7_who {y : nz_Y} {g : nz_G} {k n : Nat} {ws : va_W} {pc : Nat} {ls : List (Nat × Value)} {st rest : List Value} {av : Array Value} {isC : List Nat} {K : Int32 → (Nat → Nat → Int32) → Prop} (a : Nat → Nat) (X : Nat → Nat → Int32) (v1 : Int32) (v2 : Int32) (run : nz_M (yz_l y) yX7_who wsX7_who rm_X7_who g [.ref (a 0), .int v1, .int v2] (nz_wX g a X) (nz_Qi g (nz_wX g a X) (fun r (u : Nat → Nat → Int32) => K r u) (fun u => nz_wX g a u)) → nz_C y g k n ws pc ls st rest (nz_wX g a X) (nz_Qi g (nz_wX g a X) (fun r (u : Nat → Nat → Int32) => K r u) (fun u => nz_wX g a u)) av isC) (h : wp_X7_who X v1 v2 K) (ws' : (Nat → Nat → Int32) → va_W) (hm : ∀ (m0 : (Nat → Nat → Int32)), nz_mrg ws isC (nz_wX g a m0) = ws' m0) (kk : ∀ (r : Int32) (m0 : (Nat → Nat → Int32)), K r m0 → nz_V y g k n (ws' m0) (pc + 3) ls (.int r :: rest)) : nz_V y g k n ws pc ls st :=
  nz_ci (ws' := fun u => ws' u) (run (c_X7_who (yz_l y) g a X v1 v2 K h)) (fun _ => rfl) (fun u => hm u) (fun r u h => kk r u h)
