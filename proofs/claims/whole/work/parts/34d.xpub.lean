theorem dX7_undo_0 : decode cX7_undo 0 = .ok (.aload_n 0, 1) := by decide +kernel
theorem dX7_undo_1 : decode cX7_undo 1 = .ok (.getfield 37, 3) := by decide +kernel
theorem dX7_undo_4 : decode cX7_undo 4 = .ok (.getfield 174, 3) := by decide +kernel
theorem dX7_undo_7 : decode cX7_undo 7 = .ok (.ifCond .ne 6, 3) := by decide +kernel
theorem dX7_undo_10 : decode cX7_undo 10 = .ok (.ldc 141, 2) := by decide +kernel
theorem dX7_undo_12 : decode cX7_undo 12 = .ok (.ireturn, 1) := by decide +kernel
theorem dX7_undo_13 : decode cX7_undo 13 = .ok (.aload_n 0, 1) := by decide +kernel
theorem dX7_undo_14 : decode cX7_undo 14 = .ok (.getfield 37, 3) := by decide +kernel
theorem dX7_undo_17 : decode cX7_undo 17 = .ok (.aload_n 0, 1) := by decide +kernel
theorem dX7_undo_18 : decode cX7_undo 18 = .ok (.getfield 26, 3) := by decide +kernel
theorem dX7_undo_21 : decode cX7_undo 21 = .ok (.invokevirtual 177, 3) := by decide +kernel
theorem dX7_undo_24 : decode cX7_undo 24 = .ok (.aload_n 0, 1) := by decide +kernel
theorem dX7_undo_25 : decode cX7_undo 25 = .ok (.getfield 37, 3) := by decide +kernel
theorem dX7_undo_28 : decode cX7_undo 28 = .ok (.getfield 174, 3) := by decide +kernel
theorem dX7_undo_31 : decode cX7_undo 31 = .ok (.ireturn, 1) := by decide +kernel
set_option maxRecDepth 20000 in
theorem ggX7_undo_X0_takeBack : GoodIn wsX7_undo wsX0_takeBack := goodIn_r _ [7, 8, 9, 10, 11, 12, 13, 14, 25, 26, 27, 28, 29, 30, 31, 32, 33, 34, 35, 36, 37, 38, 39, 40, 41, 42, 43, 44] rfl (by decide +kernel)
set_option maxRecDepth 20000 in
theorem gX7_undo_X0_takeBack_n177 : GoodIn wsX7_undo (wsX0_takeBack) := ggX7_undo_X0_takeBack
theorem hd_X0_takeBack : yX0_takeBack.cls = RX0 ∧ yX0_takeBack.cls ≠ "java/lang/invoke/MethodHandle" ∧ yX0_takeBack.cls ≠ "java/lang/invoke/VarHandle" ∧ (parseMethodDescriptor yX0_takeBack.desc).map (fun d => d.parameters.length) = some 1 := by decide +kernel
theorem hC_X0_takeBack_44_16 (g : nz_G) (a : Nat → Nat) (X : Nat → Nat → Int32) : (List.range' 44 3 ++ List.range' 16 9).map (fun i => (nz_wX g a X)[i]?) = (([((a 44), .inr (0, [.ref (a 45), .ref (a 46), .int (X 44 2)])), ((a 45), .inl (nz_cI g, 144, .inl (X 45))), ((a 46), .inl (nz_cI g, 24, .inl (X 46))), ((a 16), .inr (5, [.int (X 16 0), .int (X 16 1), .int (X 16 2), .int (X 16 3), .int (X 16 4), .int (X 16 5), .int (X 16 6), .int (X 16 7), .int (X 16 8), .ref (a 17), .ref (a 18), .ref (a 19), .ref (a 20), .ref (a 21), .ref (a 22), .ref (a 23), .ref (a 24)])), ((a 17), .inl (nz_cI g, 6, .inl (X 17))), ((a 18), .inl (nz_cI g, 6, .inl (X 18))), ((a 19), .inl (nz_cI g, 6, .inl (X 19))), ((a 20), .inl (nz_cI g, 5, .inl (X 20))), ((a 21), .inl (nz_cI g, 5, .inl (X 21))), ((a 22), .inl (nz_cI g, 5, .inl (X 22))), ((a 23), .inl (nz_cI g, 5, .inl (X 23))), ((a 24), .inl (nz_cI g, 48, .inl (X 24)))] : va_W)).map some := rfl
def wX_X0_takeBack_44_16 (X : Nat → Nat → Int32) (K : (Nat → Nat → Int32) → Prop) : Prop := wp_X0_takeBack (X 44 2) (X 45) (X 46) (X 18) (fun m0 m1 m2 => K (va_up (va_up (va_up X 44 (upd (X 44) 2 m0)) 16 (upd (X 16) 5 m1)) 18 m2))
theorem kX_X0_takeBack_44_16 {y : nz_Y} {g : nz_G} {k n pc : Nat} {ls : List (Nat × Value)} {st rest : List Value} {av : Array Value} {K : (Nat → Nat → Int32) → Prop} (a : Nat → Nat) (X : Nat → Nat → Int32) (run : ∀ Q : Nat → Array Value → State → Outcome → State → Prop, nz_M (yz_l y) yX0_takeBack wsX0_takeBack rm_X0_takeBack g [.ref (a 44), .ref (a 16)] [((a 44), .inr (0, [.ref (a 45), .ref (a 46), .int (X 44 2)])), ((a 45), .inl (nz_cI g, 144, .inl (X 45))), ((a 46), .inl (nz_cI g, 24, .inl (X 46))), ((a 16), .inr (5, [.int (X 16 0), .int (X 16 1), .int (X 16 2), .int (X 16 3), .int (X 16 4), .int (X 16 5), .int (X 16 6), .int (X 16 7), .int (X 16 8), .ref (a 17), .ref (a 18), .ref (a 19), .ref (a 20), .ref (a 21), .ref (a 22), .ref (a 23), .ref (a 24)])), ((a 17), .inl (nz_cI g, 6, .inl (X 17))), ((a 18), .inl (nz_cI g, 6, .inl (X 18))), ((a 19), .inl (nz_cI g, 6, .inl (X 19))), ((a 20), .inl (nz_cI g, 5, .inl (X 20))), ((a 21), .inl (nz_cI g, 5, .inl (X 21))), ((a 22), .inl (nz_cI g, 5, .inl (X 22))), ((a 23), .inl (nz_cI g, 5, .inl (X 23))), ((a 24), .inl (nz_cI g, 48, .inl (X 24)))] Q → nz_C y g k n (nz_wX g a X) pc ls st rest [((a 44), .inr (0, [.ref (a 45), .ref (a 46), .int (X 44 2)])), ((a 45), .inl (nz_cI g, 144, .inl (X 45))), ((a 46), .inl (nz_cI g, 24, .inl (X 46))), ((a 16), .inr (5, [.int (X 16 0), .int (X 16 1), .int (X 16 2), .int (X 16 3), .int (X 16 4), .int (X 16 5), .int (X 16 6), .int (X 16 7), .int (X 16 8), .ref (a 17), .ref (a 18), .ref (a 19), .ref (a 20), .ref (a 21), .ref (a 22), .ref (a 23), .ref (a 24)])), ((a 17), .inl (nz_cI g, 6, .inl (X 17))), ((a 18), .inl (nz_cI g, 6, .inl (X 18))), ((a 19), .inl (nz_cI g, 6, .inl (X 19))), ((a 20), .inl (nz_cI g, 5, .inl (X 20))), ((a 21), .inl (nz_cI g, 5, .inl (X 21))), ((a 22), .inl (nz_cI g, 5, .inl (X 22))), ((a 23), .inl (nz_cI g, 5, .inl (X 23))), ((a 24), .inl (nz_cI g, 48, .inl (X 24)))] Q av (List.range' 44 3 ++ List.range' 16 9)) (h : wX_X0_takeBack_44_16 X K) (kk : ∀ (X1 : Nat → Nat → Int32), K X1 → nz_V y g k n (nz_wX g a X1) (pc + 3) ls (rest)) : nz_V y g k n (nz_wX g a X) pc ls st :=
 k_X0_takeBack (a 44) (a 45) (a 46) (a 16) (a 17) (a 18) (a 19) (a 20) (a 21) (a 22) (a 23) (a 24) (X 44 2) (X 45) (X 46) (X 16 0) (X 16 1) (X 16 2) (X 16 3) (X 16 4) (X 16 5) (X 16 6) (X 16 7) (X 16 8) (X 17) (X 18) (X 19) (X 20) (X 21) (X 22) (X 23) (X 24) (run _) h (fun m0 m1 m2 => nz_wX g a (va_up (va_up (va_up X 44 (upd (X 44) 2 m0)) 16 (upd (X 16) 5 m1)) 18 m2)) (fun m0 m1 m2 => nz_xm (hC_X0_takeBack_44_16 g a (va_up (va_up (va_up X 44 (upd (X 44) 2 m0)) 16 (upd (X 16) 5 m1)) 18 m2)) (nz_ag.up (nz_ag.up (nz_ag.up nz_ag.refl rfl) rfl) rfl)) (fun m0 m1 m2 h => kk (va_up (va_up (va_up X 44 (upd (X 44) 2 m0)) 16 (upd (X 16) 5 m1)) 18 m2) h)
/-! X7_undo -/
abbrev rm_X7_undo : Room := { frames := 2, cells := 0, slots := 0, locals := 47 }
theorem iw_X7_undo_7 : ∀ w ∈ wsX70, w ∈ wsX7_undo := fun _ h => List.mem_cons_of_mem _ (List.mem_append_left _ (List.mem_append_left _ (List.mem_append_right _ h)))
theorem iw_X7_undo_0 : ∀ w ∈ wsX00, w ∈ wsX7_undo := fun _ h => List.mem_cons_of_mem _ (List.mem_append_left _ (List.mem_append_right _ h))
theorem fl_X7_undo_37 : Cond.fieldLink RX7 37 "NightStones" "acts" "LNightStones$Acts;" ∈ wsX7_undo := List.mem_of_getElem? (i := 1) rfl
theorem fn_X7_undo_174 : Cond.fieldLinkNest RX7 174 "NightStones$Acts" "kept" "I" RX7 ∈ nz_nest := List.mem_of_getElem? (i := 51) rfl
theorem fl_X7_undo_26 : Cond.fieldLink RX7 26 "NightStones" "now" "LNightStones$Road;" ∈ wsX7_undo := List.mem_of_getElem? (i := 3) rfl
theorem nt_X7_undo_X0_takeBack_177 : Cond.methodLinkNest RX7 177 yX0_takeBack RX7 ∈ nz_nest := List.mem_of_getElem? (i := 75) rfl
theorem wd_X7_undo_in_RX0 : Cond.initialized RX0 ∈ wsX7_undo := List.mem_of_getElem? (i := 5) rfl
theorem wd_X7_undo_im_X0_takeBack : Cond.instanceMethod yX0_takeBack ∈ wsX7_undo := List.mem_of_getElem? (i := 4) rfl
theorem wd_X7_undo_se_X0_takeBack : Cond.selects RX0 yX0_takeBack yX0_takeBack ∈ wsX7_undo := List.mem_of_getElem? (i := 6) rfl
theorem wd_X7_undo_c141 : Cond.constant RX7 141 (-1000002) ∈ wsX7_undo := List.mem_of_getElem? (i := 2) rfl
def wp_X7_undo (X : Nat → Nat → Int32) (K : Int32 → (Nat → Nat → Int32) → Prop) : Prop := ((¬ (X 44 2) = 0 → wX_X0_takeBack_44_16 X (fun X2 => K (X2 44 2) X2)) ∧ ((X 44 2) = 0 → K (-1000002 : Int32) X))
set_option maxHeartbeats 4000000 in
set_option maxRecDepth 100000 in
theorem c_X7_undo (l : Launch) (g : nz_G) (a : Nat → Nat) (X : Nat → Nat → Int32) (K : Int32 → (Nat → Nat → Int32) → Prop) (h : wp_X7_undo X K) : nz_M l yX7_undo wsX7_undo rm_X7_undo g [.ref (a 0)] (nz_wX g a X) (nz_Qi g (nz_wX g a X) (fun r (u : Nat → Nat → Int32) => K r u) (fun u => nz_wX g a u)) := by
  refine nz_M.of (bytes := cX7_undo) (nL := 1) (ret := (some .int)) (own := RX7) (by decide) rfl rfl ⟨rfl, rfl⟩ rfl ?_
  intro y F hl hQ
  obtain ⟨sz, hQ⟩ := hQ
  refine nz_ent (lv' := [(0, .ref (a 0))]) rfl ?_
  unfold wp_X7_undo at h
  refine nz_aload_n F dX7_undo_0 rfl 0 rfl ?_
  refine nz_get F iw_X7_undo_7 0 (nz_xg0 g a X) rfl 4 (by decide) rfl fl_X7_undo_37 rfl dX7_undo_1 ?_
  refine nz_getN F iw_X7_undo_0 44 (nz_xg44 g a X) rfl 2 (by decide) rfl fn_X7_undo_174 rfl dX7_undo_4 ?_
  refine nz_if_ne (tgt := 13) F dX7_undo_7 (by decide) (fun c1 => ?_) (fun c1 => ?_)
  · have h := h.1 c1
    refine nz_aload_n F dX7_undo_13 rfl 0 rfl ?_
    refine nz_get F iw_X7_undo_7 0 (nz_xg0 g a X) rfl 4 (by decide) rfl fl_X7_undo_37 rfl dX7_undo_14 ?_
    refine nz_aload_n F dX7_undo_17 rfl 0 rfl ?_
    refine nz_get F iw_X7_undo_7 0 (nz_xg0 g a X) rfl 2 (by decide) rfl fl_X7_undo_26 rfl dX7_undo_18 ?_
    refine kX_X0_takeBack_44_16 a X (fun Q hM => nz_runVN F gX7_undo_X0_takeBack_n177 rfl nt_X7_undo_X0_takeBack_177 wd_X7_undo_in_RX0 wd_X7_undo_im_X0_takeBack wd_X7_undo_se_X0_takeBack hd_X0_takeBack rfl hM dX7_undo_21 (List.range' 44 3 ++ List.range' 16 9) (hC_X0_takeBack_44_16 g a X) nd_44_3_16_9 44 (nz_xg44 g a X) rfl rfl (Nat.le_of_ble_eq_true rfl) rfl) h (fun X2 h => ?_)
    refine nz_aload_n F dX7_undo_24 rfl 0 rfl ?_
    refine nz_get F iw_X7_undo_7 0 (nz_xg0 g a X2) rfl 4 (by decide) rfl fl_X7_undo_37 rfl dX7_undo_25 ?_
    refine nz_getN F iw_X7_undo_0 44 (nz_xg44 g a X2) rfl 2 (by decide) rfl fn_X7_undo_174 rfl dX7_undo_28 ?_
    exact nz_iret F hQ X2 h rfl dX7_undo_31
  · have h := h.2 c1
    refine nz_ldc (v := (-1000002 : Int32)) F wd_X7_undo_c141 dX7_undo_10 ?_
    exact nz_iret F hQ X h rfl dX7_undo_12
theorem k_X7_undo {y : nz_Y} {g : nz_G} {k n : Nat} {ws : va_W} {pc : Nat} {ls : List (Nat × Value)} {st rest : List Value} {av : Array Value} {isC : List Nat} {K : Int32 → (Nat → Nat → Int32) → Prop} (a : Nat → Nat) (X : Nat → Nat → Int32) (run : nz_M (yz_l y) yX7_undo wsX7_undo rm_X7_undo g [.ref (a 0)] (nz_wX g a X) (nz_Qi g (nz_wX g a X) (fun r (u : Nat → Nat → Int32) => K r u) (fun u => nz_wX g a u)) → nz_C y g k n ws pc ls st rest (nz_wX g a X) (nz_Qi g (nz_wX g a X) (fun r (u : Nat → Nat → Int32) => K r u) (fun u => nz_wX g a u)) av isC) (h : wp_X7_undo X K) (ws' : (Nat → Nat → Int32) → va_W) (hm : ∀ (m0 : (Nat → Nat → Int32)), nz_mrg ws isC (nz_wX g a m0) = ws' m0) (kk : ∀ (r : Int32) (m0 : (Nat → Nat → Int32)), K r m0 → nz_V y g k n (ws' m0) (pc + 3) ls (.int r :: rest)) : nz_V y g k n ws pc ls st :=
  nz_ci (ws' := fun u => ws' u) (run (c_X7_undo (yz_l y) g a X K h)) (fun _ => rfl) (fun u => hm u) (fun r u h => kk r u h)
theorem dX7_stone_0 : decode cX7_stone 0 = .ok (.aload_n 0, 1) := by decide +kernel
theorem dX7_stone_1 : decode cX7_stone 1 = .ok (.getfield 26, 3) := by decide +kernel
theorem dX7_stone_4 : decode cX7_stone 4 = .ok (.iload_n 1, 1) := by decide +kernel
theorem dX7_stone_5 : decode cX7_stone 5 = .ok (.invokevirtual 160, 3) := by decide +kernel
theorem dX7_stone_8 : decode cX7_stone 8 = .ok (.ifCond .ne 6, 3) := by decide +kernel
theorem dX7_stone_11 : decode cX7_stone 11 = .ok (.ldc 70, 2) := by decide +kernel
theorem dX7_stone_13 : decode cX7_stone 13 = .ok (.ireturn, 1) := by decide +kernel
theorem dX7_stone_14 : decode cX7_stone 14 = .ok (.iload_n 2, 1) := by decide +kernel
theorem dX7_stone_15 : decode cX7_stone 15 = .ok (.tableswitch 55 0 2 #[25, 35, 45], 25) := by decide +kernel
theorem dX7_stone_40 : decode cX7_stone 40 = .ok (.aload_n 0, 1) := by decide +kernel
theorem dX7_stone_41 : decode cX7_stone 41 = .ok (.getfield 26, 3) := by decide +kernel
theorem dX7_stone_44 : decode cX7_stone 44 = .ok (.getfield 180, 3) := by decide +kernel
theorem dX7_stone_47 : decode cX7_stone 47 = .ok (.iload_n 1, 1) := by decide +kernel
theorem dX7_stone_48 : decode cX7_stone 48 = .ok (.iaload, 1) := by decide +kernel
theorem dX7_stone_49 : decode cX7_stone 49 = .ok (.ireturn, 1) := by decide +kernel
theorem dX7_stone_50 : decode cX7_stone 50 = .ok (.aload_n 0, 1) := by decide +kernel
theorem dX7_stone_51 : decode cX7_stone 51 = .ok (.getfield 26, 3) := by decide +kernel
theorem dX7_stone_54 : decode cX7_stone 54 = .ok (.getfield 148, 3) := by decide +kernel
theorem dX7_stone_57 : decode cX7_stone 57 = .ok (.iload_n 1, 1) := by decide +kernel
theorem dX7_stone_58 : decode cX7_stone 58 = .ok (.iaload, 1) := by decide +kernel
theorem dX7_stone_59 : decode cX7_stone 59 = .ok (.ireturn, 1) := by decide +kernel
theorem dX7_stone_60 : decode cX7_stone 60 = .ok (.aload_n 0, 1) := by decide +kernel
theorem dX7_stone_61 : decode cX7_stone 61 = .ok (.getfield 26, 3) := by decide +kernel
theorem dX7_stone_64 : decode cX7_stone 64 = .ok (.getfield 163, 3) := by decide +kernel
theorem dX7_stone_67 : decode cX7_stone 67 = .ok (.iload_n 1, 1) := by decide +kernel
theorem dX7_stone_68 : decode cX7_stone 68 = .ok (.iaload, 1) := by decide +kernel
theorem dX7_stone_69 : decode cX7_stone 69 = .ok (.ireturn, 1) := by decide +kernel
theorem dX7_stone_70 : decode cX7_stone 70 = .ok (.ldc 70, 2) := by decide +kernel
theorem dX7_stone_72 : decode cX7_stone 72 = .ok (.ireturn, 1) := by decide +kernel
set_option maxRecDepth 20000 in
theorem ggX7_stone_X5_isStone : GoodIn wsX7_stone wsX5_isStone := goodIn_r _ [6, 7, 18, 19, 20, 21, 22, 23, 24, 25, 26, 27, 28, 29, 30, 31, 32, 33, 34] rfl (by decide +kernel)
set_option maxRecDepth 20000 in
theorem gX7_stone_X5_isStone_n160 : GoodIn wsX7_stone (wsX5_isStone) := ggX7_stone_X5_isStone
theorem nz_xg17 (g : nz_G) (a : Nat → Nat) (X : Nat → Nat → Int32) : (nz_wX g a X)[17]? = some ((a 17), .inl (nz_cI g, 6, .inl (X 17))) := rfl
/-! X7_stone -/
abbrev rm_X7_stone : Room := { frames := 1, cells := 0, slots := 0, locals := 21 }
theorem iw_X7_stone_7 : ∀ w ∈ wsX70, w ∈ wsX7_stone := fun _ h => List.mem_cons_of_mem _ (List.mem_append_left _ (List.mem_append_right _ h))
theorem iw_X7_stone_5 : ∀ w ∈ wsX50, w ∈ wsX7_stone := fun _ h => List.mem_cons_of_mem _ (List.mem_append_right _ h)
theorem fl_X7_stone_26 : Cond.fieldLink RX7 26 "NightStones" "now" "LNightStones$Road;" ∈ wsX7_stone := List.mem_of_getElem? (i := 1) rfl
theorem nt_X7_stone_X5_isStone_160 : Cond.methodLinkNest RX7 160 yX5_isStone RX7 ∈ nz_nest := List.mem_of_getElem? (i := 73) rfl
theorem wd_X7_stone_in_RX5 : Cond.initialized RX5 ∈ wsX7_stone := List.mem_of_getElem? (i := 4) rfl
theorem wd_X7_stone_im_X5_isStone : Cond.instanceMethod yX5_isStone ∈ wsX7_stone := List.mem_of_getElem? (i := 3) rfl
theorem wd_X7_stone_se_X5_isStone : Cond.selects RX5 yX5_isStone yX5_isStone ∈ wsX7_stone := List.mem_of_getElem? (i := 5) rfl
theorem fn_X7_stone_180 : Cond.fieldLinkNest RX7 180 "NightStones$Road" "says" "[I" RX7 ∈ nz_nest := List.mem_of_getElem? (i := 30) rfl
theorem fn_X7_stone_148 : Cond.fieldLinkNest RX7 148 "NightStones$Road" "at" "[I" RX7 ∈ nz_nest := List.mem_of_getElem? (i := 34) rfl
theorem fn_X7_stone_163 : Cond.fieldLinkNest RX7 163 "NightStones$Road" "home" "[I" RX7 ∈ nz_nest := List.mem_of_getElem? (i := 38) rfl
theorem wd_X7_stone_c70 : Cond.constant RX7 70 (-1000001) ∈ wsX7_stone := List.mem_of_getElem? (i := 2) rfl
def wp_X7_stone (X : Nat → Nat → Int32) (v1 : Int32) (v2 : Int32) (K : Int32 → (Nat → Nat → Int32) → Prop) : Prop := wX_X5_isStone_16 X v1 (fun q1 => ((¬ q1 = 0 → ((v2 = 0 → (vp_in v1 6 ∧ K ((X 17) v1.toNatClampNeg) X)) ∧ (¬ v2 = 0 → ((v2 = 1 → (vp_in v1 6 ∧ K ((X 18) v1.toNatClampNeg) X)) ∧ (¬ v2 = 1 → ((v2 = 2 → (vp_in v1 6 ∧ K ((X 19) v1.toNatClampNeg) X)) ∧ (¬ v2 = 2 → K (-1000001 : Int32) X))))))) ∧ (q1 = 0 → K (-1000001 : Int32) X)))
set_option maxHeartbeats 4000000 in
set_option maxRecDepth 100000 in
theorem c_X7_stone (l : Launch) (g : nz_G) (a : Nat → Nat) (X : Nat → Nat → Int32) (v1 : Int32) (v2 : Int32) (K : Int32 → (Nat → Nat → Int32) → Prop) (h : wp_X7_stone X v1 v2 K) : nz_M l yX7_stone wsX7_stone rm_X7_stone g [.ref (a 0), .int v1, .int v2] (nz_wX g a X) (nz_Qi g (nz_wX g a X) (fun r (u : Nat → Nat → Int32) => K r u) (fun u => nz_wX g a u)) := by
  refine nz_M.of (bytes := cX7_stone) (nL := 3) (ret := (some .int)) (own := RX7) (by decide) rfl rfl ⟨rfl, rfl⟩ rfl ?_
  intro y F hl hQ
  obtain ⟨sz, hQ⟩ := hQ
  refine nz_ent (lv' := [(0, .ref (a 0)), (1, .int v1), (2, .int v2)]) rfl ?_
  unfold wp_X7_stone at h
  refine nz_aload_n F dX7_stone_0 rfl 0 rfl ?_
  refine nz_get F iw_X7_stone_7 0 (nz_xg0 g a X) rfl 2 (by decide) rfl fl_X7_stone_26 rfl dX7_stone_1 ?_
  refine nz_iload_n F dX7_stone_4 rfl 1 rfl ?_
  refine kX_X5_isStone_16 a X v1 (fun Q hM => nz_runVN F gX7_stone_X5_isStone_n160 rfl nt_X7_stone_X5_isStone_160 wd_X7_stone_in_RX5 wd_X7_stone_im_X5_isStone wd_X7_stone_se_X5_isStone hd_X5_isStone rfl hM dX7_stone_5 (List.range' 16 9) (hC_X5_isStone_16 g a X) nd_16_9 16 (nz_xg16 g a X) rfl rfl (Nat.le_of_ble_eq_true rfl) rfl) h (fun q1 h => ?_)
  refine nz_if_ne (tgt := 14) F dX7_stone_8 (by decide) (fun c2 => ?_) (fun c2 => ?_)
  · have h := h.1 c2
    refine nz_iload_n F dX7_stone_14 rfl 2 rfl ?_
    by_cases c3 : v2 = 0
    · have h := h.1 c3
      refine nz_tin (tgt := 40) (off := 25) F dX7_stone_15 (by rw [c3]; decide) (by rw [c3]; decide) (by rw [c3]; rfl) (by decide) ?_
      refine nz_aload_n F dX7_stone_40 rfl 0 rfl ?_
      refine nz_get F iw_X7_stone_7 0 (nz_xg0 g a X) rfl 2 (by decide) rfl fl_X7_stone_26 rfl dX7_stone_41 ?_
      refine nz_getN F iw_X7_stone_5 16 (nz_xg16 g a X) rfl 9 (by decide) rfl fn_X7_stone_180 rfl dX7_stone_44 ?_
      refine nz_iload_n F dX7_stone_47 rfl 1 rfl ?_
      obtain ⟨i4, h⟩ := h
      refine nz_iald F 17 (nz_xg17 g a X) i4 dX7_stone_48 ?_
      exact nz_iret F hQ X h rfl dX7_stone_49
    · have h := h.2 c3
      by_cases c5 : v2 = 1
      · have h := h.1 c5
        refine nz_tin (tgt := 50) (off := 35) F dX7_stone_15 (by rw [c5]; decide) (by rw [c5]; decide) (by rw [c5]; rfl) (by decide) ?_
        refine nz_aload_n F dX7_stone_50 rfl 0 rfl ?_
        refine nz_get F iw_X7_stone_7 0 (nz_xg0 g a X) rfl 2 (by decide) rfl fl_X7_stone_26 rfl dX7_stone_51 ?_
        refine nz_getN F iw_X7_stone_5 16 (nz_xg16 g a X) rfl 10 (by decide) rfl fn_X7_stone_148 rfl dX7_stone_54 ?_
        refine nz_iload_n F dX7_stone_57 rfl 1 rfl ?_
        obtain ⟨i6, h⟩ := h
        refine nz_iald F 18 (nz_xg18 g a X) i6 dX7_stone_58 ?_
        exact nz_iret F hQ X h rfl dX7_stone_59
      · have h := h.2 c5
        by_cases c7 : v2 = 2
        · have h := h.1 c7
          refine nz_tin (tgt := 60) (off := 45) F dX7_stone_15 (by rw [c7]; decide) (by rw [c7]; decide) (by rw [c7]; rfl) (by decide) ?_
          refine nz_aload_n F dX7_stone_60 rfl 0 rfl ?_
          refine nz_get F iw_X7_stone_7 0 (nz_xg0 g a X) rfl 2 (by decide) rfl fl_X7_stone_26 rfl dX7_stone_61 ?_
          refine nz_getN F iw_X7_stone_5 16 (nz_xg16 g a X) rfl 11 (by decide) rfl fn_X7_stone_163 rfl dX7_stone_64 ?_
          refine nz_iload_n F dX7_stone_67 rfl 1 rfl ?_
          obtain ⟨i8, h⟩ := h
          refine nz_iald F 19 (nz_xg19 g a X) i8 dX7_stone_68 ?_
          exact nz_iret F hQ X h rfl dX7_stone_69
        · have h := h.2 c7
          refine nz_tout (tgt := 70) F dX7_stone_15 (nz_osw (lo := 0) (hi := 2) (fun j h1 h2 => by have e0 : ¬ (v2 : Int32).toInt = (0 : Int) := nz_nq c3; have e1 : ¬ (v2 : Int32).toInt = (1 : Int) := nz_nq c5; have e2 : ¬ (v2 : Int32).toInt = (2 : Int) := nz_nq c7; omega)) (by decide) ?_
          refine nz_ldc (v := (-1000001 : Int32)) F wd_X7_stone_c70 dX7_stone_70 ?_
          exact nz_iret F hQ X h rfl dX7_stone_72
  · have h := h.2 c2
    refine nz_ldc (v := (-1000001 : Int32)) F wd_X7_stone_c70 dX7_stone_11 ?_
    exact nz_iret F hQ X h rfl dX7_stone_13
theorem k_X7_stone {y : nz_Y} {g : nz_G} {k n : Nat} {ws : va_W} {pc : Nat} {ls : List (Nat × Value)} {st rest : List Value} {av : Array Value} {isC : List Nat} {K : Int32 → (Nat → Nat → Int32) → Prop} (a : Nat → Nat) (X : Nat → Nat → Int32) (v1 : Int32) (v2 : Int32) (run : nz_M (yz_l y) yX7_stone wsX7_stone rm_X7_stone g [.ref (a 0), .int v1, .int v2] (nz_wX g a X) (nz_Qi g (nz_wX g a X) (fun r (u : Nat → Nat → Int32) => K r u) (fun u => nz_wX g a u)) → nz_C y g k n ws pc ls st rest (nz_wX g a X) (nz_Qi g (nz_wX g a X) (fun r (u : Nat → Nat → Int32) => K r u) (fun u => nz_wX g a u)) av isC) (h : wp_X7_stone X v1 v2 K) (ws' : (Nat → Nat → Int32) → va_W) (hm : ∀ (m0 : (Nat → Nat → Int32)), nz_mrg ws isC (nz_wX g a m0) = ws' m0) (kk : ∀ (r : Int32) (m0 : (Nat → Nat → Int32)), K r m0 → nz_V y g k n (ws' m0) (pc + 3) ls (.int r :: rest)) : nz_V y g k n ws pc ls st :=
  nz_ci (ws' := fun u => ws' u) (run (c_X7_stone (yz_l y) g a X v1 v2 K h)) (fun _ => rfl) (fun u => hm u) (fun r u h => kk r u h)
theorem dX7_carry_0 : decode cX7_carry 0 = .ok (.aload_n 0, 1) := by decide +kernel
theorem dX7_carry_1 : decode cX7_carry 1 = .ok (.getfield 26, 3) := by decide +kernel
theorem dX7_carry_4 : decode cX7_carry 4 = .ok (.iload_n 1, 1) := by decide +kernel
theorem dX7_carry_5 : decode cX7_carry 5 = .ok (.invokevirtual 160, 3) := by decide +kernel
theorem dX7_carry_8 : decode cX7_carry 8 = .ok (.ifCond .eq 23, 3) := by decide +kernel
theorem dX7_carry_11 : decode cX7_carry 11 = .ok (.aload_n 0, 1) := by decide +kernel
theorem dX7_carry_12 : decode cX7_carry 12 = .ok (.getfield 26, 3) := by decide +kernel
theorem dX7_carry_15 : decode cX7_carry 15 = .ok (.iload_n 2, 1) := by decide +kernel
theorem dX7_carry_16 : decode cX7_carry 16 = .ok (.invokevirtual 160, 3) := by decide +kernel
theorem dX7_carry_19 : decode cX7_carry 19 = .ok (.ifCond .eq 12, 3) := by decide +kernel
theorem dX7_carry_22 : decode cX7_carry 22 = .ok (.iload_n 3, 1) := by decide +kernel
theorem dX7_carry_23 : decode cX7_carry 23 = .ok (.iconst 0, 1) := by decide +kernel
theorem dX7_carry_24 : decode cX7_carry 24 = .ok (.iconst 1, 1) := by decide +kernel
theorem dX7_carry_25 : decode cX7_carry 25 = .ok (.invokestatic 66, 3) := by decide +kernel
theorem dX7_carry_28 : decode cX7_carry 28 = .ok (.ifCond .ne 6, 3) := by decide +kernel
theorem dX7_carry_31 : decode cX7_carry 31 = .ok (.ldc 70, 2) := by decide +kernel
theorem dX7_carry_33 : decode cX7_carry 33 = .ok (.ireturn, 1) := by decide +kernel
theorem dX7_carry_34 : decode cX7_carry 34 = .ok (.iload_n 3, 1) := by decide +kernel
theorem dX7_carry_35 : decode cX7_carry 35 = .ok (.ifCond .ne 34, 3) := by decide +kernel
theorem dX7_carry_38 : decode cX7_carry 38 = .ok (.aload_n 0, 1) := by decide +kernel
theorem dX7_carry_39 : decode cX7_carry 39 = .ok (.getfield 26, 3) := by decide +kernel
theorem dX7_carry_42 : decode cX7_carry 42 = .ok (.getfield 183, 3) := by decide +kernel
theorem dX7_carry_45 : decode cX7_carry 45 = .ok (.aload_n 0, 1) := by decide +kernel
theorem dX7_carry_46 : decode cX7_carry 46 = .ok (.getfield 26, 3) := by decide +kernel
theorem dX7_carry_49 : decode cX7_carry 49 = .ok (.getfield 180, 3) := by decide +kernel
theorem dX7_carry_52 : decode cX7_carry 52 = .ok (.iload_n 1, 1) := by decide +kernel
theorem dX7_carry_53 : decode cX7_carry 53 = .ok (.iaload, 1) := by decide +kernel
theorem dX7_carry_54 : decode cX7_carry 54 = .ok (.aload_n 0, 1) := by decide +kernel
theorem dX7_carry_55 : decode cX7_carry 55 = .ok (.getfield 26, 3) := by decide +kernel
theorem dX7_carry_58 : decode cX7_carry 58 = .ok (.getfield 180, 3) := by decide +kernel
theorem dX7_carry_61 : decode cX7_carry 61 = .ok (.iload_n 2, 1) := by decide +kernel
theorem dX7_carry_62 : decode cX7_carry 62 = .ok (.iaload, 1) := by decide +kernel
theorem dX7_carry_63 : decode cX7_carry 63 = .ok (.isub, 1) := by decide +kernel
theorem dX7_carry_64 : decode cX7_carry 64 = .ok (.invokestatic 166, 3) := by decide +kernel
theorem dX7_carry_67 : decode cX7_carry 67 = .ok (.imul, 1) := by decide +kernel
theorem dX7_carry_68 : decode cX7_carry 68 = .ok (.ireturn, 1) := by decide +kernel
theorem dX7_carry_69 : decode cX7_carry 69 = .ok (.aload_n 0, 1) := by decide +kernel
theorem dX7_carry_70 : decode cX7_carry 70 = .ok (.getfield 26, 3) := by decide +kernel
theorem dX7_carry_73 : decode cX7_carry 73 = .ok (.getfield 148, 3) := by decide +kernel
theorem dX7_carry_76 : decode cX7_carry 76 = .ok (.iload_n 1, 1) := by decide +kernel
theorem dX7_carry_77 : decode cX7_carry 77 = .ok (.iaload, 1) := by decide +kernel
theorem dX7_carry_78 : decode cX7_carry 78 = .ok (.aload_n 0, 1) := by decide +kernel
theorem dX7_carry_79 : decode cX7_carry 79 = .ok (.getfield 26, 3) := by decide +kernel
theorem dX7_carry_82 : decode cX7_carry 82 = .ok (.getfield 148, 3) := by decide +kernel
theorem dX7_carry_85 : decode cX7_carry 85 = .ok (.iload_n 2, 1) := by decide +kernel
theorem dX7_carry_86 : decode cX7_carry 86 = .ok (.iaload, 1) := by decide +kernel
theorem dX7_carry_87 : decode cX7_carry 87 = .ok (.isub, 1) := by decide +kernel
theorem dX7_carry_88 : decode cX7_carry 88 = .ok (.invokestatic 166, 3) := by decide +kernel
theorem dX7_carry_91 : decode cX7_carry 91 = .ok (.ireturn, 1) := by decide +kernel
set_option maxRecDepth 20000 in
theorem ggX7_carry_X5_isStone : GoodIn wsX7_carry wsX5_isStone := goodIn_r _ [10, 11, 26, 27, 28, 29, 30, 31, 32, 33, 34, 35, 36, 37, 38, 39, 40, 41, 42] rfl (by decide +kernel)
set_option maxRecDepth 20000 in
theorem gX7_carry_X5_isStone_n160 : GoodIn wsX7_carry (wsX5_isStone) := ggX7_carry_X5_isStone
set_option maxRecDepth 20000 in
theorem ggX7_carry_X7_isAmong : GoodIn wsX7_carry wsX7_isAmong := goodIn_r _ [15] rfl (by decide +kernel)
set_option maxRecDepth 20000 in
theorem gX7_carry_X7_isAmong : GoodIn wsX7_carry (va_wsS RX7 66 yX7_isAmong wsX7_isAmong) := goodIn_app (goodIn_r _ [12, 13, 14] rfl (by decide +kernel)) ggX7_carry_X7_isAmong
/-! X7_carry -/
abbrev rm_X7_carry : Room := { frames := 1, cells := 0, slots := 0, locals := 22 }
theorem iw_X7_carry_7 : ∀ w ∈ wsX70, w ∈ wsX7_carry := fun _ h => List.mem_cons_of_mem _ (List.mem_append_left _ (List.mem_append_right _ h))
theorem iw_X7_carry_5 : ∀ w ∈ wsX50, w ∈ wsX7_carry := fun _ h => List.mem_cons_of_mem _ (List.mem_append_right _ h)
theorem fl_X7_carry_26 : Cond.fieldLink RX7 26 "NightStones" "now" "LNightStones$Road;" ∈ wsX7_carry := List.mem_of_getElem? (i := 1) rfl
theorem nt_X7_carry_X5_isStone_160 : Cond.methodLinkNest RX7 160 yX5_isStone RX7 ∈ nz_nest := List.mem_of_getElem? (i := 73) rfl
theorem wd_X7_carry_in_RX5 : Cond.initialized RX5 ∈ wsX7_carry := List.mem_of_getElem? (i := 8) rfl
theorem wd_X7_carry_im_X5_isStone : Cond.instanceMethod yX5_isStone ∈ wsX7_carry := List.mem_of_getElem? (i := 7) rfl
theorem wd_X7_carry_se_X5_isStone : Cond.selects RX5 yX5_isStone yX5_isStone ∈ wsX7_carry := List.mem_of_getElem? (i := 9) rfl
theorem wd_X7_carry_c70 : Cond.constant RX7 70 (-1000001) ∈ wsX7_carry := List.mem_of_getElem? (i := 2) rfl
theorem fn_X7_carry_148 : Cond.fieldLinkNest RX7 148 "NightStones$Road" "at" "[I" RX7 ∈ nz_nest := List.mem_of_getElem? (i := 34) rfl
theorem wd_X7_carry_abs0 : Cond.methodLink RX7 166 Lib.Math.abs.name ∈ wsX7_carry := List.mem_of_getElem? (i := 3) rfl
theorem wd_X7_carry_abs1 : Cond.static Lib.Math.abs.name ∈ wsX7_carry := List.mem_of_getElem? (i := 4) rfl
theorem wd_X7_carry_abs2 : Cond.initialized "java/lang/Math" ∈ wsX7_carry := List.mem_of_getElem? (i := 5) rfl
theorem wd_X7_carry_abs3 : Cond.code Lib.Math.abs.name Lib.Math.abs.code 1 (some .int) ∈ wsX7_carry := List.mem_of_getElem? (i := 6) rfl
theorem fn_X7_carry_183 : Cond.fieldLinkNest RX7 183 "NightStones$Road" "fee" "I" RX7 ∈ nz_nest := List.mem_of_getElem? (i := 8) rfl
theorem fn_X7_carry_180 : Cond.fieldLinkNest RX7 180 "NightStones$Road" "says" "[I" RX7 ∈ nz_nest := List.mem_of_getElem? (i := 30) rfl
def wp_X7_carry (X : Nat → Nat → Int32) (v1 : Int32) (v2 : Int32) (v3 : Int32) (K : Int32 → (Nat → Nat → Int32) → Prop) : Prop := wX_X5_isStone_16 X v1 (fun q1 => ((q1 = 0 → K (-1000001 : Int32) X) ∧ (¬ (q1 = 0) → wX_X5_isStone_16 X v2 (fun q3 => ((q3 = 0 → K (-1000001 : Int32) X) ∧ (¬ (q3 = 0) → wX_X7_isAmong v3 0 1 (fun q5 => ((¬ q5 = 0 → ((¬ v3 = 0 → (vp_in v1 6 ∧ (vp_in v2 6 ∧ (∀ w10 : Int32, w10 = (if 0 ≤ (((X 18) v1.toNatClampNeg) - ((X 18) v2.toNatClampNeg)) then (((X 18) v1.toNatClampNeg) - ((X 18) v2.toNatClampNeg)) else 0 - (((X 18) v1.toNatClampNeg) - ((X 18) v2.toNatClampNeg))) → K w10 X)))) ∧ (v3 = 0 → (vp_in v1 6 ∧ (vp_in v2 6 ∧ (∀ w13 : Int32, w13 = (if 0 ≤ (((X 17) v1.toNatClampNeg) - ((X 17) v2.toNatClampNeg)) then (((X 17) v1.toNatClampNeg) - ((X 17) v2.toNatClampNeg)) else 0 - (((X 17) v1.toNatClampNeg) - ((X 17) v2.toNatClampNeg))) → K ((X 16 2) * w13) X)))))) ∧ (q5 = 0 → K (-1000001 : Int32) X)))))))))
set_option maxHeartbeats 4000000 in
set_option maxRecDepth 100000 in
theorem c_X7_carry (l : Launch) (g : nz_G) (a : Nat → Nat) (X : Nat → Nat → Int32) (v1 : Int32) (v2 : Int32) (v3 : Int32) (K : Int32 → (Nat → Nat → Int32) → Prop) (h : wp_X7_carry X v1 v2 v3 K) : nz_M l yX7_carry wsX7_carry rm_X7_carry g [.ref (a 0), .int v1, .int v2, .int v3] (nz_wX g a X) (nz_Qi g (nz_wX g a X) (fun r (u : Nat → Nat → Int32) => K r u) (fun u => nz_wX g a u)) := by
  refine nz_M.of (bytes := cX7_carry) (nL := 4) (ret := (some .int)) (own := RX7) (by decide) rfl rfl ⟨rfl, rfl⟩ rfl ?_
  intro y F hl hQ
  obtain ⟨sz, hQ⟩ := hQ
  refine nz_ent (lv' := [(0, .ref (a 0)), (1, .int v1), (2, .int v2), (3, .int v3)]) rfl ?_
  unfold wp_X7_carry at h
  refine nz_aload_n F dX7_carry_0 rfl 0 rfl ?_
  refine nz_get F iw_X7_carry_7 0 (nz_xg0 g a X) rfl 2 (by decide) rfl fl_X7_carry_26 rfl dX7_carry_1 ?_
  refine nz_iload_n F dX7_carry_4 rfl 1 rfl ?_
  refine kX_X5_isStone_16 a X v1 (fun Q hM => nz_runVN F gX7_carry_X5_isStone_n160 rfl nt_X7_carry_X5_isStone_160 wd_X7_carry_in_RX5 wd_X7_carry_im_X5_isStone wd_X7_carry_se_X5_isStone hd_X5_isStone rfl hM dX7_carry_5 (List.range' 16 9) (hC_X5_isStone_16 g a X) nd_16_9 16 (nz_xg16 g a X) rfl rfl (Nat.le_of_ble_eq_true rfl) rfl) h (fun q1 h => ?_)
  refine nz_if_eq (tgt := 31) F dX7_carry_8 (by decide) (fun c2 => ?_) (fun c2 => ?_)
  · have h := h.1 c2
    refine nz_ldc (v := (-1000001 : Int32)) F wd_X7_carry_c70 dX7_carry_31 ?_
    exact nz_iret F hQ X h rfl dX7_carry_33
  · have h := h.2 c2
    refine nz_aload_n F dX7_carry_11 rfl 0 rfl ?_
    refine nz_get F iw_X7_carry_7 0 (nz_xg0 g a X) rfl 2 (by decide) rfl fl_X7_carry_26 rfl dX7_carry_12 ?_
    refine nz_iload_n F dX7_carry_15 rfl 2 rfl ?_
    refine kX_X5_isStone_16 a X v2 (fun Q hM => nz_runVN F gX7_carry_X5_isStone_n160 rfl nt_X7_carry_X5_isStone_160 wd_X7_carry_in_RX5 wd_X7_carry_im_X5_isStone wd_X7_carry_se_X5_isStone hd_X5_isStone rfl hM dX7_carry_16 (List.range' 16 9) (hC_X5_isStone_16 g a X) nd_16_9 16 (nz_xg16 g a X) rfl rfl (Nat.le_of_ble_eq_true rfl) rfl) h (fun q3 h => ?_)
    refine nz_if_eq (tgt := 31) F dX7_carry_19 (by decide) (fun c4 => ?_) (fun c4 => ?_)
    · have h := h.1 c4
      refine nz_ldc (v := (-1000001 : Int32)) F wd_X7_carry_c70 dX7_carry_31 ?_
      exact nz_iret F hQ X h rfl dX7_carry_33
    · have h := h.2 c4
      refine nz_iload_n F dX7_carry_22 rfl 3 rfl ?_
      refine nz_iconst (v := 0) F dX7_carry_23 (by decide) ?_
      refine nz_iconst (v := 1) F dX7_carry_24 (by decide) ?_
      refine kX_X7_isAmong a X v3 0 1 (fun Q hM => nz_runS F gX7_carry_X7_isAmong rfl hd_X7_isAmong.2 rfl hM dX7_carry_25 ([] : List Nat) rfl rfl rfl (Nat.le_of_ble_eq_true rfl) rfl) h (fun q5 h => ?_)
      refine nz_if_ne (tgt := 34) F dX7_carry_28 (by decide) (fun c6 => ?_) (fun c6 => ?_)
      · have h := h.1 c6
        refine nz_iload_n F dX7_carry_34 rfl 3 rfl ?_
        refine nz_if_ne (tgt := 69) F dX7_carry_35 (by decide) (fun c7 => ?_) (fun c7 => ?_)
        · have h := h.1 c7
          refine nz_aload_n F dX7_carry_69 rfl 0 rfl ?_
          refine nz_get F iw_X7_carry_7 0 (nz_xg0 g a X) rfl 2 (by decide) rfl fl_X7_carry_26 rfl dX7_carry_70 ?_
          refine nz_getN F iw_X7_carry_5 16 (nz_xg16 g a X) rfl 10 (by decide) rfl fn_X7_carry_148 rfl dX7_carry_73 ?_
          refine nz_iload_n F dX7_carry_76 rfl 1 rfl ?_
          obtain ⟨i8, h⟩ := h
          refine nz_iald F 18 (nz_xg18 g a X) i8 dX7_carry_77 ?_
          refine nz_aload_n F dX7_carry_78 rfl 0 rfl ?_
          refine nz_get F iw_X7_carry_7 0 (nz_xg0 g a X) rfl 2 (by decide) rfl fl_X7_carry_26 rfl dX7_carry_79 ?_
          refine nz_getN F iw_X7_carry_5 16 (nz_xg16 g a X) rfl 10 (by decide) rfl fn_X7_carry_148 rfl dX7_carry_82 ?_
          refine nz_iload_n F dX7_carry_85 rfl 2 rfl ?_
          obtain ⟨i9, h⟩ := h
          refine nz_iald F 18 (nz_xg18 g a X) i9 dX7_carry_86 ?_
          refine nz_isub F dX7_carry_87 ?_
          refine nz_mabs F wd_X7_carry_abs0 wd_X7_carry_abs1 wd_X7_carry_abs2 wd_X7_carry_abs3 rfl (Nat.le_of_ble_eq_true rfl) ⟨Nat.le_of_ble_eq_true rfl, Nat.le_of_ble_eq_true rfl⟩ dX7_carry_88 ?_
          refine nz_topi (fun w10 ew10 => ?_)
          have h := h w10 ew10
          exact nz_iret F hQ X h rfl dX7_carry_91
        · have h := h.2 c7
          refine nz_aload_n F dX7_carry_38 rfl 0 rfl ?_
          refine nz_get F iw_X7_carry_7 0 (nz_xg0 g a X) rfl 2 (by decide) rfl fl_X7_carry_26 rfl dX7_carry_39 ?_
          refine nz_getN F iw_X7_carry_5 16 (nz_xg16 g a X) rfl 2 (by decide) rfl fn_X7_carry_183 rfl dX7_carry_42 ?_
          refine nz_aload_n F dX7_carry_45 rfl 0 rfl ?_
          refine nz_get F iw_X7_carry_7 0 (nz_xg0 g a X) rfl 2 (by decide) rfl fl_X7_carry_26 rfl dX7_carry_46 ?_
          refine nz_getN F iw_X7_carry_5 16 (nz_xg16 g a X) rfl 9 (by decide) rfl fn_X7_carry_180 rfl dX7_carry_49 ?_
          refine nz_iload_n F dX7_carry_52 rfl 1 rfl ?_
          obtain ⟨i11, h⟩ := h
          refine nz_iald F 17 (nz_xg17 g a X) i11 dX7_carry_53 ?_
          refine nz_aload_n F dX7_carry_54 rfl 0 rfl ?_
          refine nz_get F iw_X7_carry_7 0 (nz_xg0 g a X) rfl 2 (by decide) rfl fl_X7_carry_26 rfl dX7_carry_55 ?_
          refine nz_getN F iw_X7_carry_5 16 (nz_xg16 g a X) rfl 9 (by decide) rfl fn_X7_carry_180 rfl dX7_carry_58 ?_
          refine nz_iload_n F dX7_carry_61 rfl 2 rfl ?_
          obtain ⟨i12, h⟩ := h
          refine nz_iald F 17 (nz_xg17 g a X) i12 dX7_carry_62 ?_
          refine nz_isub F dX7_carry_63 ?_
          refine nz_mabs F wd_X7_carry_abs0 wd_X7_carry_abs1 wd_X7_carry_abs2 wd_X7_carry_abs3 rfl (Nat.le_of_ble_eq_true rfl) ⟨Nat.le_of_ble_eq_true rfl, Nat.le_of_ble_eq_true rfl⟩ dX7_carry_64 ?_
          refine nz_topi (fun w13 ew13 => ?_)
          have h := h w13 ew13
          refine nz_imul F dX7_carry_67 ?_
          exact nz_iret F hQ X h rfl dX7_carry_68
      · have h := h.2 c6
        refine nz_ldc (v := (-1000001 : Int32)) F wd_X7_carry_c70 dX7_carry_31 ?_
        exact nz_iret F hQ X h rfl dX7_carry_33
theorem k_X7_carry {y : nz_Y} {g : nz_G} {k n : Nat} {ws : va_W} {pc : Nat} {ls : List (Nat × Value)} {st rest : List Value} {av : Array Value} {isC : List Nat} {K : Int32 → (Nat → Nat → Int32) → Prop} (a : Nat → Nat) (X : Nat → Nat → Int32) (v1 : Int32) (v2 : Int32) (v3 : Int32) (run : nz_M (yz_l y) yX7_carry wsX7_carry rm_X7_carry g [.ref (a 0), .int v1, .int v2, .int v3] (nz_wX g a X) (nz_Qi g (nz_wX g a X) (fun r (u : Nat → Nat → Int32) => K r u) (fun u => nz_wX g a u)) → nz_C y g k n ws pc ls st rest (nz_wX g a X) (nz_Qi g (nz_wX g a X) (fun r (u : Nat → Nat → Int32) => K r u) (fun u => nz_wX g a u)) av isC) (h : wp_X7_carry X v1 v2 v3 K) (ws' : (Nat → Nat → Int32) → va_W) (hm : ∀ (m0 : (Nat → Nat → Int32)), nz_mrg ws isC (nz_wX g a m0) = ws' m0) (kk : ∀ (r : Int32) (m0 : (Nat → Nat → Int32)), K r m0 → nz_V y g k n (ws' m0) (pc + 3) ls (.int r :: rest)) : nz_V y g k n ws pc ls st :=
  nz_ci (ws' := fun u => ws' u) (run (c_X7_carry (yz_l y) g a X v1 v2 v3 K h)) (fun _ => rfl) (fun u => hm u) (fun r u h => kk r u h)
