theorem dX7_dare_0 : decode cX7_dare 0 = .ok (.aload_n 0, 1) := by decide +kernel
theorem dX7_dare_1 : decode cX7_dare 1 = .ok (.getfield 26, 3) := by decide +kernel
theorem dX7_dare_4 : decode cX7_dare 4 = .ok (.getfield 137, 3) := by decide +kernel
theorem dX7_dare_7 : decode cX7_dare 7 = .ok (.ifCond .ne 6, 3) := by decide +kernel
theorem dX7_dare_10 : decode cX7_dare 10 = .ok (.ldc 141, 2) := by decide +kernel
theorem dX7_dare_12 : decode cX7_dare 12 = .ok (.ireturn, 1) := by decide +kernel
theorem dX7_dare_13 : decode cX7_dare 13 = .ok (.iload_n 1, 1) := by decide +kernel
theorem dX7_dare_14 : decode cX7_dare 14 = .ok (.iconst 0, 1) := by decide +kernel
theorem dX7_dare_15 : decode cX7_dare 15 = .ok (.iconst 3, 1) := by decide +kernel
theorem dX7_dare_16 : decode cX7_dare 16 = .ok (.invokestatic 66, 3) := by decide +kernel
theorem dX7_dare_19 : decode cX7_dare 19 = .ok (.ifCond .eq 12, 3) := by decide +kernel
theorem dX7_dare_22 : decode cX7_dare 22 = .ok (.iload_n 2, 1) := by decide +kernel
theorem dX7_dare_23 : decode cX7_dare 23 = .ok (.iconst 0, 1) := by decide +kernel
theorem dX7_dare_24 : decode cX7_dare 24 = .ok (.iconst 1, 1) := by decide +kernel
theorem dX7_dare_25 : decode cX7_dare 25 = .ok (.invokestatic 66, 3) := by decide +kernel
theorem dX7_dare_28 : decode cX7_dare 28 = .ok (.ifCond .ne 6, 3) := by decide +kernel
theorem dX7_dare_31 : decode cX7_dare 31 = .ok (.ldc 70, 2) := by decide +kernel
theorem dX7_dare_33 : decode cX7_dare 33 = .ok (.ireturn, 1) := by decide +kernel
theorem dX7_dare_34 : decode cX7_dare 34 = .ok (.aload_n 0, 1) := by decide +kernel
theorem dX7_dare_35 : decode cX7_dare 35 = .ok (.getfield 26, 3) := by decide +kernel
theorem dX7_dare_38 : decode cX7_dare 38 = .ok (.aload_n 0, 1) := by decide +kernel
theorem dX7_dare_39 : decode cX7_dare 39 = .ok (.getfield 26, 3) := by decide +kernel
theorem dX7_dare_42 : decode cX7_dare 42 = .ok (.getfield 183, 3) := by decide +kernel
theorem dX7_dare_45 : decode cX7_dare 45 = .ok (.iload_n 1, 1) := by decide +kernel
theorem dX7_dare_46 : decode cX7_dare 46 = .ok (.invokestatic 240, 3) := by decide +kernel
theorem dX7_dare_49 : decode cX7_dare 49 = .ok (.istore_n 3, 1) := by decide +kernel
theorem dX7_dare_50 : decode cX7_dare 50 = .ok (.iload_n 3, 1) := by decide +kernel
theorem dX7_dare_51 : decode cX7_dare 51 = .ok (.invokestatic 166, 3) := by decide +kernel
theorem dX7_dare_54 : decode cX7_dare 54 = .ok (.ldc 244, 2) := by decide +kernel
theorem dX7_dare_56 : decode cX7_dare 56 = .ok (.invokestatic 245, 3) := by decide +kernel
theorem dX7_dare_59 : decode cX7_dare 59 = .ok (.istore 4, 2) := by decide +kernel
theorem dX7_dare_61 : decode cX7_dare 61 = .ok (.iload 4, 2) := by decide +kernel
theorem dX7_dare_63 : decode cX7_dare 63 = .ok (.ifCond .gt 6, 3) := by decide +kernel
theorem dX7_dare_66 : decode cX7_dare 66 = .ok (.ldc 212, 2) := by decide +kernel
theorem dX7_dare_68 : decode cX7_dare 68 = .ok (.ireturn, 1) := by decide +kernel
theorem dX7_dare_69 : decode cX7_dare 69 = .ok (.iload_n 2, 1) := by decide +kernel
theorem dX7_dare_70 : decode cX7_dare 70 = .ok (.ifCond .ne 7, 3) := by decide +kernel
theorem dX7_dare_73 : decode cX7_dare 73 = .ok (.iload_n 3, 1) := by decide +kernel
theorem dX7_dare_74 : decode cX7_dare 74 = .ok (.goto 5, 3) := by decide +kernel
theorem dX7_dare_77 : decode cX7_dare 77 = .ok (.ldc 244, 2) := by decide +kernel
theorem dX7_dare_79 : decode cX7_dare 79 = .ok (.iload 4, 2) := by decide +kernel
theorem dX7_dare_81 : decode cX7_dare 81 = .ok (.idiv, 1) := by decide +kernel
theorem dX7_dare_82 : decode cX7_dare 82 = .ok (.ireturn, 1) := by decide +kernel
set_option maxRecDepth 20000 in
theorem ggX7_dare_X2_meanInMillionths : GoodIn wsX7_dare wsX2_meanInMillionths := goodIn_r _ [16, 17, 30, 31, 32, 33, 34, 35, 36, 37, 38, 39, 40, 41, 42, 43, 44, 45, 46] rfl (by decide +kernel)
set_option maxRecDepth 20000 in
theorem gX7_dare_X2_meanInMillionths_n240 : GoodIn wsX7_dare (wsX2_meanInMillionths) := ggX7_dare_X2_meanInMillionths
set_option maxRecDepth 20000 in
theorem ggX7_dare_X2_sharedDivisor : GoodIn wsX7_dare wsX2_sharedDivisor := goodIn_r _ [19] rfl (by decide +kernel)
set_option maxRecDepth 20000 in
theorem gX7_dare_X2_sharedDivisor_n245 : GoodIn wsX7_dare (wsX2_sharedDivisor) := ggX7_dare_X2_sharedDivisor
set_option maxRecDepth 20000 in
theorem ggX7_dare_X7_isAmong : GoodIn wsX7_dare wsX7_isAmong := goodIn_r _ [13] rfl (by decide +kernel)
set_option maxRecDepth 20000 in
theorem gX7_dare_X7_isAmong : GoodIn wsX7_dare (va_wsS RX7 66 yX7_isAmong wsX7_isAmong) := goodIn_app (goodIn_r _ [10, 11, 12] rfl (by decide +kernel)) ggX7_dare_X7_isAmong
theorem hd_X2_sharedDivisor : yX2_sharedDivisor.cls = RX2 ∧ yX2_sharedDivisor.cls ≠ "java/lang/invoke/MethodHandle" ∧ yX2_sharedDivisor.cls ≠ "java/lang/invoke/VarHandle" ∧ (parseMethodDescriptor yX2_sharedDivisor.desc).map (fun d => d.parameters.length) = some 2 := by decide +kernel
theorem hC_X2_meanInMillionths_16 (g : nz_G) (a : Nat → Nat) (X : Nat → Nat → Int32) : (List.range' 16 9).map (fun i => (nz_wX g a X)[i]?) = (([((a 16), .inr (5, [.int (X 16 0), .int (X 16 1), .int (X 16 2), .int (X 16 3), .int (X 16 4), .int (X 16 5), .int (X 16 6), .int (X 16 7), .int (X 16 8), .ref (a 17), .ref (a 18), .ref (a 19), .ref (a 20), .ref (a 21), .ref (a 22), .ref (a 23), .ref (a 24)])), ((a 17), .inl (nz_cI g, 6, .inl (X 17))), ((a 18), .inl (nz_cI g, 6, .inl (X 18))), ((a 19), .inl (nz_cI g, 6, .inl (X 19))), ((a 20), .inl (nz_cI g, 5, .inl (X 20))), ((a 21), .inl (nz_cI g, 5, .inl (X 21))), ((a 22), .inl (nz_cI g, 5, .inl (X 22))), ((a 23), .inl (nz_cI g, 5, .inl (X 23))), ((a 24), .inl (nz_cI g, 48, .inl (X 24)))] : va_W)).map some := rfl
def wX_X2_meanInMillionths_16 (X : Nat → Nat → Int32) (v1 : Int32) (v2 : Int32) (K : Int32 → Prop) : Prop := wp_X2_meanInMillionths (X 16 3) (X 16 4) v1 v2 (fun r => K r)
theorem kX_X2_meanInMillionths_16 {y : nz_Y} {g : nz_G} {k n pc : Nat} {ls : List (Nat × Value)} {st rest : List Value} {av : Array Value} {K : Int32 → Prop} (a : Nat → Nat) (X : Nat → Nat → Int32) (v1 : Int32) (v2 : Int32) (run : ∀ Q : Nat → Array Value → State → Outcome → State → Prop, nz_M (yz_l y) yX2_meanInMillionths wsX2_meanInMillionths rm_X2_meanInMillionths g [.ref (a 16), .int v1, .int v2] [((a 16), .inr (5, [.int (X 16 0), .int (X 16 1), .int (X 16 2), .int (X 16 3), .int (X 16 4), .int (X 16 5), .int (X 16 6), .int (X 16 7), .int (X 16 8), .ref (a 17), .ref (a 18), .ref (a 19), .ref (a 20), .ref (a 21), .ref (a 22), .ref (a 23), .ref (a 24)])), ((a 17), .inl (nz_cI g, 6, .inl (X 17))), ((a 18), .inl (nz_cI g, 6, .inl (X 18))), ((a 19), .inl (nz_cI g, 6, .inl (X 19))), ((a 20), .inl (nz_cI g, 5, .inl (X 20))), ((a 21), .inl (nz_cI g, 5, .inl (X 21))), ((a 22), .inl (nz_cI g, 5, .inl (X 22))), ((a 23), .inl (nz_cI g, 5, .inl (X 23))), ((a 24), .inl (nz_cI g, 48, .inl (X 24)))] Q → nz_C y g k n (nz_wX g a X) pc ls st rest [((a 16), .inr (5, [.int (X 16 0), .int (X 16 1), .int (X 16 2), .int (X 16 3), .int (X 16 4), .int (X 16 5), .int (X 16 6), .int (X 16 7), .int (X 16 8), .ref (a 17), .ref (a 18), .ref (a 19), .ref (a 20), .ref (a 21), .ref (a 22), .ref (a 23), .ref (a 24)])), ((a 17), .inl (nz_cI g, 6, .inl (X 17))), ((a 18), .inl (nz_cI g, 6, .inl (X 18))), ((a 19), .inl (nz_cI g, 6, .inl (X 19))), ((a 20), .inl (nz_cI g, 5, .inl (X 20))), ((a 21), .inl (nz_cI g, 5, .inl (X 21))), ((a 22), .inl (nz_cI g, 5, .inl (X 22))), ((a 23), .inl (nz_cI g, 5, .inl (X 23))), ((a 24), .inl (nz_cI g, 48, .inl (X 24)))] Q av (List.range' 16 9)) (h : wX_X2_meanInMillionths_16 X v1 v2 K) (kk : ∀ (r : Int32), K r → nz_V y g k n (nz_wX g a X) (pc + 3) ls (.int r :: rest)) : nz_V y g k n (nz_wX g a X) pc ls st :=
 k_X2_meanInMillionths (a 16) (a 17) (a 18) (a 19) (a 20) (a 21) (a 22) (a 23) (a 24) (X 16 0) (X 16 1) (X 16 2) (X 16 3) (X 16 4) (X 16 5) (X 16 6) (X 16 7) (X 16 8) (X 17) (X 18) (X 19) (X 20) (X 21) (X 22) (X 23) (X 24) v1 v2 (run _) h (nz_wX g a X) (nz_xm (hC_X2_meanInMillionths_16 g a X) nz_ag.refl) (fun r h => kk r h)
def wX_X2_sharedDivisor (v0 : Int32) (v1 : Int32) (K : Int32 → Prop) : Prop := wp_X2_sharedDivisor v0 v1 (fun r => K r)
theorem kX_X2_sharedDivisor {y : nz_Y} {g : nz_G} {k n pc : Nat} {ls : List (Nat × Value)} {st rest : List Value} {av : Array Value} {K : Int32 → Prop} (a : Nat → Nat) (X : Nat → Nat → Int32) (v0 : Int32) (v1 : Int32) (run : ∀ Q : Nat → Array Value → State → Outcome → State → Prop, nz_M (yz_l y) yX2_sharedDivisor wsX2_sharedDivisor rm_X2_sharedDivisor g [.int v0, .int v1] [] Q → nz_C y g k n (nz_wX g a X) pc ls st rest [] Q av ([] : List Nat)) (h : wX_X2_sharedDivisor v0 v1 K) (kk : ∀ (r : Int32), K r → nz_V y g k n (nz_wX g a X) (pc + 3) ls (.int r :: rest)) : nz_V y g k n (nz_wX g a X) pc ls st :=
 k_X2_sharedDivisor v0 v1 (run _) h (nz_wX g a X) rfl (fun r h => kk r h)
/-! X7_dare -/
abbrev rm_X7_dare : Room := { frames := 1, cells := 0, slots := 0, locals := 25 }
theorem iw_X7_dare_7 : ∀ w ∈ wsX70, w ∈ wsX7_dare := fun _ h => List.mem_cons_of_mem _ (List.mem_append_left _ (List.mem_append_right _ h))
theorem iw_X7_dare_5 : ∀ w ∈ wsX50, w ∈ wsX7_dare := fun _ h => List.mem_cons_of_mem _ (List.mem_append_right _ h)
theorem fl_X7_dare_26 : Cond.fieldLink RX7 26 "NightStones" "now" "LNightStones$Road;" ∈ wsX7_dare := List.mem_of_getElem? (i := 1) rfl
theorem fn_X7_dare_137 : Cond.fieldLinkNest RX7 137 "NightStones$Road" "isThere" "Z" RX7 ∈ nz_nest := List.mem_of_getElem? (i := 4) rfl
theorem wd_X7_dare_c70 : Cond.constant RX7 70 (-1000001) ∈ wsX7_dare := List.mem_of_getElem? (i := 3) rfl
theorem fn_X7_dare_183 : Cond.fieldLinkNest RX7 183 "NightStones$Road" "fee" "I" RX7 ∈ nz_nest := List.mem_of_getElem? (i := 8) rfl
theorem nt_X7_dare_X2_meanInMillionths_240 : Cond.methodLinkNest RX7 240 yX2_meanInMillionths RX7 ∈ nz_nest := List.mem_of_getElem? (i := 92) rfl
theorem wd_X7_dare_in_RX2 : Cond.initialized RX2 ∈ wsX7_dare := List.mem_of_getElem? (i := 15) rfl
theorem wd_X7_dare_im_X2_meanInMillionths : Cond.static yX2_meanInMillionths ∈ wsX7_dare := List.mem_of_getElem? (i := 14) rfl
theorem wd_X7_dare_abs0 : Cond.methodLink RX7 166 Lib.Math.abs.name ∈ wsX7_dare := List.mem_of_getElem? (i := 4) rfl
theorem wd_X7_dare_abs1 : Cond.static Lib.Math.abs.name ∈ wsX7_dare := List.mem_of_getElem? (i := 5) rfl
theorem wd_X7_dare_abs2 : Cond.initialized "java/lang/Math" ∈ wsX7_dare := List.mem_of_getElem? (i := 6) rfl
theorem wd_X7_dare_abs3 : Cond.code Lib.Math.abs.name Lib.Math.abs.code 1 (some .int) ∈ wsX7_dare := List.mem_of_getElem? (i := 7) rfl
theorem wd_X7_dare_c244 : Cond.constant RX7 244 (1000000) ∈ wsX7_dare := List.mem_of_getElem? (i := 8) rfl
theorem nt_X7_dare_X2_sharedDivisor_245 : Cond.methodLinkNest RX7 245 yX2_sharedDivisor RX7 ∈ nz_nest := List.mem_of_getElem? (i := 93) rfl
theorem wd_X7_dare_im_X2_sharedDivisor : Cond.static yX2_sharedDivisor ∈ wsX7_dare := List.mem_of_getElem? (i := 18) rfl
theorem wd_X7_dare_c212 : Cond.constant RX7 212 (-1000000) ∈ wsX7_dare := List.mem_of_getElem? (i := 9) rfl
theorem wd_X7_dare_c141 : Cond.constant RX7 141 (-1000002) ∈ wsX7_dare := List.mem_of_getElem? (i := 2) rfl
def wp_X7_dare (X : Nat → Nat → Int32) (v1 : Int32) (v2 : Int32) (K : Int32 → (Nat → Nat → Int32) → Prop) : Prop := ((¬ (X 16 0) = 0 → wX_X7_isAmong v1 0 3 (fun q2 => ((q2 = 0 → K (-1000001 : Int32) X) ∧ (¬ (q2 = 0) → wX_X7_isAmong v2 0 1 (fun q4 => ((¬ q4 = 0 → wX_X2_meanInMillionths_16 X (X 16 2) v1 (fun q6 => wX_X2_sharedDivisor (if 0 ≤ q6 then q6 else 0 - q6) 1000000 (fun q7 => ((0 < q7 → ((¬ v2 = 0 → (¬ q7 = 0 ∧ K (1000000 / q7) X)) ∧ (v2 = 0 → (¬ q7 = 0 ∧ K (q6 / q7) X)))) ∧ (¬ (0 < q7) → K (-1000000 : Int32) X))))) ∧ (q4 = 0 → K (-1000001 : Int32) X))))))) ∧ ((X 16 0) = 0 → K (-1000002 : Int32) X))
set_option maxHeartbeats 4000000 in
set_option maxRecDepth 100000 in
theorem c_X7_dare (l : Launch) (g : nz_G) (a : Nat → Nat) (X : Nat → Nat → Int32) (v1 : Int32) (v2 : Int32) (K : Int32 → (Nat → Nat → Int32) → Prop) (h : wp_X7_dare X v1 v2 K) : nz_M l yX7_dare wsX7_dare rm_X7_dare g [.ref (a 0), .int v1, .int v2] (nz_wX g a X) (nz_Qi g (nz_wX g a X) (fun r (u : Nat → Nat → Int32) => K r u) (fun u => nz_wX g a u)) := by
  refine nz_M.of (bytes := cX7_dare) (nL := 5) (ret := (some .int)) (own := RX7) (by decide) rfl rfl ⟨rfl, rfl⟩ rfl ?_
  intro y F hl hQ
  obtain ⟨sz, hQ⟩ := hQ
  refine nz_ent (lv' := [(0, .ref (a 0)), (1, .int v1), (2, .int v2)]) rfl ?_
  unfold wp_X7_dare at h
  refine nz_aload_n F dX7_dare_0 rfl 0 rfl ?_
  refine nz_get F iw_X7_dare_7 0 (nz_xg0 g a X) rfl 2 (by decide) rfl fl_X7_dare_26 rfl dX7_dare_1 ?_
  refine nz_getN F iw_X7_dare_5 16 (nz_xg16 g a X) rfl 0 (by decide) rfl fn_X7_dare_137 rfl dX7_dare_4 ?_
  refine nz_if_ne (tgt := 13) F dX7_dare_7 (by decide) (fun c1 => ?_) (fun c1 => ?_)
  · have h := h.1 c1
    refine nz_iload_n F dX7_dare_13 rfl 1 rfl ?_
    refine nz_iconst (v := 0) F dX7_dare_14 (by decide) ?_
    refine nz_iconst (v := 3) F dX7_dare_15 (by decide) ?_
    refine kX_X7_isAmong a X v1 0 3 (fun Q hM => nz_runS F gX7_dare_X7_isAmong rfl hd_X7_isAmong.2 rfl hM dX7_dare_16 ([] : List Nat) rfl rfl rfl (Nat.le_of_ble_eq_true rfl) rfl) h (fun q2 h => ?_)
    refine nz_if_eq (tgt := 31) F dX7_dare_19 (by decide) (fun c3 => ?_) (fun c3 => ?_)
    · have h := h.1 c3
      refine nz_ldc (v := (-1000001 : Int32)) F wd_X7_dare_c70 dX7_dare_31 ?_
      exact nz_iret F hQ X h rfl dX7_dare_33
    · have h := h.2 c3
      refine nz_iload_n F dX7_dare_22 rfl 2 rfl ?_
      refine nz_iconst (v := 0) F dX7_dare_23 (by decide) ?_
      refine nz_iconst (v := 1) F dX7_dare_24 (by decide) ?_
      refine kX_X7_isAmong a X v2 0 1 (fun Q hM => nz_runS F gX7_dare_X7_isAmong rfl hd_X7_isAmong.2 rfl hM dX7_dare_25 ([] : List Nat) rfl rfl rfl (Nat.le_of_ble_eq_true rfl) rfl) h (fun q4 h => ?_)
      refine nz_if_ne (tgt := 34) F dX7_dare_28 (by decide) (fun c5 => ?_) (fun c5 => ?_)
      · have h := h.1 c5
        refine nz_aload_n F dX7_dare_34 rfl 0 rfl ?_
        refine nz_get F iw_X7_dare_7 0 (nz_xg0 g a X) rfl 2 (by decide) rfl fl_X7_dare_26 rfl dX7_dare_35 ?_
        refine nz_aload_n F dX7_dare_38 rfl 0 rfl ?_
        refine nz_get F iw_X7_dare_7 0 (nz_xg0 g a X) rfl 2 (by decide) rfl fl_X7_dare_26 rfl dX7_dare_39 ?_
        refine nz_getN F iw_X7_dare_5 16 (nz_xg16 g a X) rfl 2 (by decide) rfl fn_X7_dare_183 rfl dX7_dare_42 ?_
        refine nz_iload_n F dX7_dare_45 rfl 1 rfl ?_
        refine kX_X2_meanInMillionths_16 a X (X 16 2) v1 (fun Q hM => nz_runSN F gX7_dare_X2_meanInMillionths_n240 rfl nt_X7_dare_X2_meanInMillionths_240 wd_X7_dare_in_RX2 wd_X7_dare_im_X2_meanInMillionths hd_X2_meanInMillionths.2 rfl hM dX7_dare_46 (List.range' 16 9) (hC_X2_meanInMillionths_16 g a X) nd_16_9 rfl (Nat.le_of_ble_eq_true rfl) rfl) h (fun q6 h => ?_)
        refine nz_istore_n (lv' := [(3, .int q6), (0, .ref (a 0)), (1, .int v1), (2, .int v2)]) F dX7_dare_49 rfl (by decide) rfl ?_
        refine nz_iload_n F dX7_dare_50 rfl 0 rfl ?_
        refine nz_mabs F wd_X7_dare_abs0 wd_X7_dare_abs1 wd_X7_dare_abs2 wd_X7_dare_abs3 rfl (Nat.le_of_ble_eq_true rfl) ⟨Nat.le_of_ble_eq_true rfl, Nat.le_of_ble_eq_true rfl⟩ dX7_dare_51 ?_
        refine nz_ldc (v := 1000000) F wd_X7_dare_c244 dX7_dare_54 ?_
        refine kX_X2_sharedDivisor a X (if 0 ≤ q6 then q6 else 0 - q6) 1000000 (fun Q hM => nz_runSN F gX7_dare_X2_sharedDivisor_n245 rfl nt_X7_dare_X2_sharedDivisor_245 wd_X7_dare_in_RX2 wd_X7_dare_im_X2_sharedDivisor hd_X2_sharedDivisor.2 rfl hM dX7_dare_56 ([] : List Nat) rfl rfl rfl (Nat.le_of_ble_eq_true rfl) rfl) h (fun q7 h => ?_)
        refine nz_istore (lv' := [(4, .int q7), (3, .int q6), (0, .ref (a 0)), (1, .int v1), (2, .int v2)]) F dX7_dare_59 (by decide) rfl ?_
        refine nz_iload F dX7_dare_61 0 rfl ?_
        refine nz_if_gt (tgt := 69) F dX7_dare_63 (by decide) (fun c8 => ?_) (fun c8 => ?_)
        · have h := h.1 c8
          refine nz_iload_n F dX7_dare_69 rfl 4 rfl ?_
          refine nz_if_ne (tgt := 77) F dX7_dare_70 (by decide) (fun c9 => ?_) (fun c9 => ?_)
          · have h := h.1 c9
            refine nz_ldc (v := 1000000) F wd_X7_dare_c244 dX7_dare_77 ?_
            refine nz_iload F dX7_dare_79 0 rfl ?_
            obtain ⟨c10, h⟩ := h
            refine nz_idiv F dX7_dare_81 c10 ?_
            exact nz_iret F hQ X h rfl dX7_dare_82
          · have h := h.2 c9
            refine nz_iload_n F dX7_dare_73 rfl 1 rfl ?_
            refine nz_goto (tgt := 79) F dX7_dare_74 (by decide) ?_
            refine nz_iload F dX7_dare_79 0 rfl ?_
            obtain ⟨c11, h⟩ := h
            refine nz_idiv F dX7_dare_81 c11 ?_
            exact nz_iret F hQ X h rfl dX7_dare_82
        · have h := h.2 c8
          refine nz_ldc (v := (-1000000 : Int32)) F wd_X7_dare_c212 dX7_dare_66 ?_
          exact nz_iret F hQ X h rfl dX7_dare_68
      · have h := h.2 c5
        refine nz_ldc (v := (-1000001 : Int32)) F wd_X7_dare_c70 dX7_dare_31 ?_
        exact nz_iret F hQ X h rfl dX7_dare_33
  · have h := h.2 c1
    refine nz_ldc (v := (-1000002 : Int32)) F wd_X7_dare_c141 dX7_dare_10 ?_
    exact nz_iret F hQ X h rfl dX7_dare_12
theorem k_X7_dare {y : nz_Y} {g : nz_G} {k n : Nat} {ws : va_W} {pc : Nat} {ls : List (Nat × Value)} {st rest : List Value} {av : Array Value} {isC : List Nat} {K : Int32 → (Nat → Nat → Int32) → Prop} (a : Nat → Nat) (X : Nat → Nat → Int32) (v1 : Int32) (v2 : Int32) (run : nz_M (yz_l y) yX7_dare wsX7_dare rm_X7_dare g [.ref (a 0), .int v1, .int v2] (nz_wX g a X) (nz_Qi g (nz_wX g a X) (fun r (u : Nat → Nat → Int32) => K r u) (fun u => nz_wX g a u)) → nz_C y g k n ws pc ls st rest (nz_wX g a X) (nz_Qi g (nz_wX g a X) (fun r (u : Nat → Nat → Int32) => K r u) (fun u => nz_wX g a u)) av isC) (h : wp_X7_dare X v1 v2 K) (ws' : (Nat → Nat → Int32) → va_W) (hm : ∀ (m0 : (Nat → Nat → Int32)), nz_mrg ws isC (nz_wX g a m0) = ws' m0) (kk : ∀ (r : Int32) (m0 : (Nat → Nat → Int32)), K r m0 → nz_V y g k n (ws' m0) (pc + 3) ls (.int r :: rest)) : nz_V y g k n ws pc ls st :=
  nz_ci (ws' := fun u => ws' u) (run (c_X7_dare (yz_l y) g a X v1 v2 K h)) (fun _ => rfl) (fun u => hm u) (fun r u h => kk r u h)
theorem dX7_best_0 : decode cX7_best 0 = .ok (.aload_n 0, 1) := by decide +kernel
theorem dX7_best_1 : decode cX7_best 1 = .ok (.getfield 26, 3) := by decide +kernel
theorem dX7_best_4 : decode cX7_best 4 = .ok (.getfield 137, 3) := by decide +kernel
theorem dX7_best_7 : decode cX7_best 7 = .ok (.ifCond .ne 6, 3) := by decide +kernel
theorem dX7_best_10 : decode cX7_best 10 = .ok (.ldc 141, 2) := by decide +kernel
theorem dX7_best_12 : decode cX7_best 12 = .ok (.ireturn, 1) := by decide +kernel
theorem dX7_best_13 : decode cX7_best 13 = .ok (.iload_n 1, 1) := by decide +kernel
theorem dX7_best_14 : decode cX7_best 14 = .ok (.iconst 0, 1) := by decide +kernel
theorem dX7_best_15 : decode cX7_best 15 = .ok (.iconst 1, 1) := by decide +kernel
theorem dX7_best_16 : decode cX7_best 16 = .ok (.invokestatic 66, 3) := by decide +kernel
theorem dX7_best_19 : decode cX7_best 19 = .ok (.ifCond .ne 6, 3) := by decide +kernel
theorem dX7_best_22 : decode cX7_best 22 = .ok (.ldc 70, 2) := by decide +kernel
theorem dX7_best_24 : decode cX7_best 24 = .ok (.ireturn, 1) := by decide +kernel
theorem dX7_best_25 : decode cX7_best 25 = .ok (.iload_n 1, 1) := by decide +kernel
theorem dX7_best_26 : decode cX7_best 26 = .ok (.ifCond .ne 20, 3) := by decide +kernel
theorem dX7_best_29 : decode cX7_best 29 = .ok (.aload_n 0, 1) := by decide +kernel
theorem dX7_best_30 : decode cX7_best 30 = .ok (.getfield 26, 3) := by decide +kernel
theorem dX7_best_33 : decode cX7_best 33 = .ok (.aload_n 0, 1) := by decide +kernel
theorem dX7_best_34 : decode cX7_best 34 = .ok (.getfield 26, 3) := by decide +kernel
theorem dX7_best_37 : decode cX7_best 37 = .ok (.getfield 183, 3) := by decide +kernel
theorem dX7_best_40 : decode cX7_best 40 = .ok (.invokestatic 248, 3) := by decide +kernel
theorem dX7_best_43 : decode cX7_best 43 = .ok (.goto 10, 3) := by decide +kernel
theorem dX7_best_46 : decode cX7_best 46 = .ok (.aload_n 0, 1) := by decide +kernel
theorem dX7_best_47 : decode cX7_best 47 = .ok (.getfield 26, 3) := by decide +kernel
theorem dX7_best_50 : decode cX7_best 50 = .ok (.invokestatic 251, 3) := by decide +kernel
theorem dX7_best_53 : decode cX7_best 53 = .ok (.ireturn, 1) := by decide +kernel
set_option maxRecDepth 20000 in
theorem ggX7_best_X2_bestDare : GoodIn wsX7_best wsX2_bestDare := goodIn_r _ [10, 11, 12, 9, 13, 14, 28, 29, 30, 31, 32, 33, 34, 35, 36, 37, 38, 39, 40, 41, 42, 43, 44] rfl (by decide +kernel)
set_option maxRecDepth 20000 in
theorem gX7_best_X2_bestDare_n248 : GoodIn wsX7_best (wsX2_bestDare) := ggX7_best_X2_bestDare
set_option maxRecDepth 20000 in
theorem ggX7_best_X2_fairFee : GoodIn wsX7_best wsX2_fairFee := goodIn_r _ [16, 17, 8, 9, 10, 11, 12, 13, 14, 28, 29, 30, 31, 32, 33, 34, 35, 36, 37, 38, 39, 40, 41, 42, 43, 44] rfl (by decide +kernel)
set_option maxRecDepth 20000 in
theorem gX7_best_X2_fairFee_n251 : GoodIn wsX7_best (wsX2_fairFee) := ggX7_best_X2_fairFee
set_option maxRecDepth 20000 in
theorem ggX7_best_X7_isAmong : GoodIn wsX7_best wsX7_isAmong := goodIn_r _ [7] rfl (by decide +kernel)
set_option maxRecDepth 20000 in
theorem gX7_best_X7_isAmong : GoodIn wsX7_best (va_wsS RX7 66 yX7_isAmong wsX7_isAmong) := goodIn_app (goodIn_r _ [4, 5, 6] rfl (by decide +kernel)) ggX7_best_X7_isAmong
theorem hd_X2_fairFee : yX2_fairFee.cls = RX2 ∧ yX2_fairFee.cls ≠ "java/lang/invoke/MethodHandle" ∧ yX2_fairFee.cls ≠ "java/lang/invoke/VarHandle" ∧ (parseMethodDescriptor yX2_fairFee.desc).map (fun d => d.parameters.length) = some 1 := by decide +kernel
theorem hC_X2_fairFee_16 (g : nz_G) (a : Nat → Nat) (X : Nat → Nat → Int32) : (List.range' 16 9).map (fun i => (nz_wX g a X)[i]?) = (([((a 16), .inr (5, [.int (X 16 0), .int (X 16 1), .int (X 16 2), .int (X 16 3), .int (X 16 4), .int (X 16 5), .int (X 16 6), .int (X 16 7), .int (X 16 8), .ref (a 17), .ref (a 18), .ref (a 19), .ref (a 20), .ref (a 21), .ref (a 22), .ref (a 23), .ref (a 24)])), ((a 17), .inl (nz_cI g, 6, .inl (X 17))), ((a 18), .inl (nz_cI g, 6, .inl (X 18))), ((a 19), .inl (nz_cI g, 6, .inl (X 19))), ((a 20), .inl (nz_cI g, 5, .inl (X 20))), ((a 21), .inl (nz_cI g, 5, .inl (X 21))), ((a 22), .inl (nz_cI g, 5, .inl (X 22))), ((a 23), .inl (nz_cI g, 5, .inl (X 23))), ((a 24), .inl (nz_cI g, 48, .inl (X 24)))] : va_W)).map some := rfl
def wX_X2_fairFee_16 (X : Nat → Nat → Int32) (K : Int32 → Prop) : Prop := wp_X2_fairFee (X 16 3) (X 16 4) (fun r => K r)
theorem kX_X2_fairFee_16 {y : nz_Y} {g : nz_G} {k n pc : Nat} {ls : List (Nat × Value)} {st rest : List Value} {av : Array Value} {K : Int32 → Prop} (a : Nat → Nat) (X : Nat → Nat → Int32) (run : ∀ Q : Nat → Array Value → State → Outcome → State → Prop, nz_M (yz_l y) yX2_fairFee wsX2_fairFee rm_X2_fairFee g [.ref (a 16)] [((a 16), .inr (5, [.int (X 16 0), .int (X 16 1), .int (X 16 2), .int (X 16 3), .int (X 16 4), .int (X 16 5), .int (X 16 6), .int (X 16 7), .int (X 16 8), .ref (a 17), .ref (a 18), .ref (a 19), .ref (a 20), .ref (a 21), .ref (a 22), .ref (a 23), .ref (a 24)])), ((a 17), .inl (nz_cI g, 6, .inl (X 17))), ((a 18), .inl (nz_cI g, 6, .inl (X 18))), ((a 19), .inl (nz_cI g, 6, .inl (X 19))), ((a 20), .inl (nz_cI g, 5, .inl (X 20))), ((a 21), .inl (nz_cI g, 5, .inl (X 21))), ((a 22), .inl (nz_cI g, 5, .inl (X 22))), ((a 23), .inl (nz_cI g, 5, .inl (X 23))), ((a 24), .inl (nz_cI g, 48, .inl (X 24)))] Q → nz_C y g k n (nz_wX g a X) pc ls st rest [((a 16), .inr (5, [.int (X 16 0), .int (X 16 1), .int (X 16 2), .int (X 16 3), .int (X 16 4), .int (X 16 5), .int (X 16 6), .int (X 16 7), .int (X 16 8), .ref (a 17), .ref (a 18), .ref (a 19), .ref (a 20), .ref (a 21), .ref (a 22), .ref (a 23), .ref (a 24)])), ((a 17), .inl (nz_cI g, 6, .inl (X 17))), ((a 18), .inl (nz_cI g, 6, .inl (X 18))), ((a 19), .inl (nz_cI g, 6, .inl (X 19))), ((a 20), .inl (nz_cI g, 5, .inl (X 20))), ((a 21), .inl (nz_cI g, 5, .inl (X 21))), ((a 22), .inl (nz_cI g, 5, .inl (X 22))), ((a 23), .inl (nz_cI g, 5, .inl (X 23))), ((a 24), .inl (nz_cI g, 48, .inl (X 24)))] Q av (List.range' 16 9)) (h : wX_X2_fairFee_16 X K) (kk : ∀ (r : Int32), K r → nz_V y g k n (nz_wX g a X) (pc + 3) ls (.int r :: rest)) : nz_V y g k n (nz_wX g a X) pc ls st :=
 k_X2_fairFee (a 16) (a 17) (a 18) (a 19) (a 20) (a 21) (a 22) (a 23) (a 24) (X 16 0) (X 16 1) (X 16 2) (X 16 3) (X 16 4) (X 16 5) (X 16 6) (X 16 7) (X 16 8) (X 17) (X 18) (X 19) (X 20) (X 21) (X 22) (X 23) (X 24) (run _) h (nz_wX g a X) (nz_xm (hC_X2_fairFee_16 g a X) nz_ag.refl) (fun r h => kk r h)
theorem hC_X2_bestDare_16 (g : nz_G) (a : Nat → Nat) (X : Nat → Nat → Int32) : (List.range' 16 9).map (fun i => (nz_wX g a X)[i]?) = (([((a 16), .inr (5, [.int (X 16 0), .int (X 16 1), .int (X 16 2), .int (X 16 3), .int (X 16 4), .int (X 16 5), .int (X 16 6), .int (X 16 7), .int (X 16 8), .ref (a 17), .ref (a 18), .ref (a 19), .ref (a 20), .ref (a 21), .ref (a 22), .ref (a 23), .ref (a 24)])), ((a 17), .inl (nz_cI g, 6, .inl (X 17))), ((a 18), .inl (nz_cI g, 6, .inl (X 18))), ((a 19), .inl (nz_cI g, 6, .inl (X 19))), ((a 20), .inl (nz_cI g, 5, .inl (X 20))), ((a 21), .inl (nz_cI g, 5, .inl (X 21))), ((a 22), .inl (nz_cI g, 5, .inl (X 22))), ((a 23), .inl (nz_cI g, 5, .inl (X 23))), ((a 24), .inl (nz_cI g, 48, .inl (X 24)))] : va_W)).map some := rfl
def wX_X2_bestDare_16 (X : Nat → Nat → Int32) (v1 : Int32) (K : Int32 → Prop) : Prop := wp_X2_bestDare (X 16 3) (X 16 4) v1 (fun r => K r)
theorem kX_X2_bestDare_16 {y : nz_Y} {g : nz_G} {k n pc : Nat} {ls : List (Nat × Value)} {st rest : List Value} {av : Array Value} {K : Int32 → Prop} (a : Nat → Nat) (X : Nat → Nat → Int32) (v1 : Int32) (run : ∀ Q : Nat → Array Value → State → Outcome → State → Prop, nz_M (yz_l y) yX2_bestDare wsX2_bestDare rm_X2_bestDare g [.ref (a 16), .int v1] [((a 16), .inr (5, [.int (X 16 0), .int (X 16 1), .int (X 16 2), .int (X 16 3), .int (X 16 4), .int (X 16 5), .int (X 16 6), .int (X 16 7), .int (X 16 8), .ref (a 17), .ref (a 18), .ref (a 19), .ref (a 20), .ref (a 21), .ref (a 22), .ref (a 23), .ref (a 24)])), ((a 17), .inl (nz_cI g, 6, .inl (X 17))), ((a 18), .inl (nz_cI g, 6, .inl (X 18))), ((a 19), .inl (nz_cI g, 6, .inl (X 19))), ((a 20), .inl (nz_cI g, 5, .inl (X 20))), ((a 21), .inl (nz_cI g, 5, .inl (X 21))), ((a 22), .inl (nz_cI g, 5, .inl (X 22))), ((a 23), .inl (nz_cI g, 5, .inl (X 23))), ((a 24), .inl (nz_cI g, 48, .inl (X 24)))] Q → nz_C y g k n (nz_wX g a X) pc ls st rest [((a 16), .inr (5, [.int (X 16 0), .int (X 16 1), .int (X 16 2), .int (X 16 3), .int (X 16 4), .int (X 16 5), .int (X 16 6), .int (X 16 7), .int (X 16 8), .ref (a 17), .ref (a 18), .ref (a 19), .ref (a 20), .ref (a 21), .ref (a 22), .ref (a 23), .ref (a 24)])), ((a 17), .inl (nz_cI g, 6, .inl (X 17))), ((a 18), .inl (nz_cI g, 6, .inl (X 18))), ((a 19), .inl (nz_cI g, 6, .inl (X 19))), ((a 20), .inl (nz_cI g, 5, .inl (X 20))), ((a 21), .inl (nz_cI g, 5, .inl (X 21))), ((a 22), .inl (nz_cI g, 5, .inl (X 22))), ((a 23), .inl (nz_cI g, 5, .inl (X 23))), ((a 24), .inl (nz_cI g, 48, .inl (X 24)))] Q av (List.range' 16 9)) (h : wX_X2_bestDare_16 X v1 K) (kk : ∀ (r : Int32), K r → nz_V y g k n (nz_wX g a X) (pc + 3) ls (.int r :: rest)) : nz_V y g k n (nz_wX g a X) pc ls st :=
 k_X2_bestDare (a 16) (a 17) (a 18) (a 19) (a 20) (a 21) (a 22) (a 23) (a 24) (X 16 0) (X 16 1) (X 16 2) (X 16 3) (X 16 4) (X 16 5) (X 16 6) (X 16 7) (X 16 8) (X 17) (X 18) (X 19) (X 20) (X 21) (X 22) (X 23) (X 24) v1 (run _) h (nz_wX g a X) (nz_xm (hC_X2_bestDare_16 g a X) nz_ag.refl) (fun r h => kk r h)
/-! X7_best -/
abbrev rm_X7_best : Room := { frames := 3, cells := 0, slots := 0, locals := 70 }
theorem iw_X7_best_7 : ∀ w ∈ wsX70, w ∈ wsX7_best := fun _ h => List.mem_cons_of_mem _ (List.mem_append_left _ (List.mem_append_right _ h))
theorem iw_X7_best_5 : ∀ w ∈ wsX50, w ∈ wsX7_best := fun _ h => List.mem_cons_of_mem _ (List.mem_append_right _ h)
theorem fl_X7_best_26 : Cond.fieldLink RX7 26 "NightStones" "now" "LNightStones$Road;" ∈ wsX7_best := List.mem_of_getElem? (i := 1) rfl
theorem fn_X7_best_137 : Cond.fieldLinkNest RX7 137 "NightStones$Road" "isThere" "Z" RX7 ∈ nz_nest := List.mem_of_getElem? (i := 4) rfl
theorem nt_X7_best_X2_fairFee_251 : Cond.methodLinkNest RX7 251 yX2_fairFee RX7 ∈ nz_nest := List.mem_of_getElem? (i := 95) rfl
theorem wd_X7_best_in_RX2 : Cond.initialized RX2 ∈ wsX7_best := List.mem_of_getElem? (i := 9) rfl
theorem wd_X7_best_im_X2_fairFee : Cond.static yX2_fairFee ∈ wsX7_best := List.mem_of_getElem? (i := 15) rfl
theorem fn_X7_best_183 : Cond.fieldLinkNest RX7 183 "NightStones$Road" "fee" "I" RX7 ∈ nz_nest := List.mem_of_getElem? (i := 8) rfl
theorem nt_X7_best_X2_bestDare_248 : Cond.methodLinkNest RX7 248 yX2_bestDare RX7 ∈ nz_nest := List.mem_of_getElem? (i := 94) rfl
theorem wd_X7_best_im_X2_bestDare : Cond.static yX2_bestDare ∈ wsX7_best := List.mem_of_getElem? (i := 8) rfl
theorem wd_X7_best_c70 : Cond.constant RX7 70 (-1000001) ∈ wsX7_best := List.mem_of_getElem? (i := 3) rfl
theorem wd_X7_best_c141 : Cond.constant RX7 141 (-1000002) ∈ wsX7_best := List.mem_of_getElem? (i := 2) rfl
def wp_X7_best (X : Nat → Nat → Int32) (v1 : Int32) (K : Int32 → (Nat → Nat → Int32) → Prop) : Prop := ((¬ (X 16 0) = 0 → wX_X7_isAmong v1 0 1 (fun q2 => ((¬ q2 = 0 → ((¬ v1 = 0 → wX_X2_fairFee_16 X (fun q5 => K q5 X)) ∧ (v1 = 0 → wX_X2_bestDare_16 X (X 16 2) (fun q6 => K q6 X)))) ∧ (q2 = 0 → K (-1000001 : Int32) X)))) ∧ ((X 16 0) = 0 → K (-1000002 : Int32) X))
set_option maxHeartbeats 4000000 in
set_option maxRecDepth 100000 in
theorem c_X7_best (l : Launch) (g : nz_G) (a : Nat → Nat) (X : Nat → Nat → Int32) (v1 : Int32) (K : Int32 → (Nat → Nat → Int32) → Prop) (h : wp_X7_best X v1 K) : nz_M l yX7_best wsX7_best rm_X7_best g [.ref (a 0), .int v1] (nz_wX g a X) (nz_Qi g (nz_wX g a X) (fun r (u : Nat → Nat → Int32) => K r u) (fun u => nz_wX g a u)) := by
  refine nz_M.of (bytes := cX7_best) (nL := 2) (ret := (some .int)) (own := RX7) (by decide) rfl rfl ⟨rfl, rfl⟩ rfl ?_
  intro y F hl hQ
  obtain ⟨sz, hQ⟩ := hQ
  refine nz_ent (lv' := [(0, .ref (a 0)), (1, .int v1)]) rfl ?_
  unfold wp_X7_best at h
  refine nz_aload_n F dX7_best_0 rfl 0 rfl ?_
  refine nz_get F iw_X7_best_7 0 (nz_xg0 g a X) rfl 2 (by decide) rfl fl_X7_best_26 rfl dX7_best_1 ?_
  refine nz_getN F iw_X7_best_5 16 (nz_xg16 g a X) rfl 0 (by decide) rfl fn_X7_best_137 rfl dX7_best_4 ?_
  refine nz_if_ne (tgt := 13) F dX7_best_7 (by decide) (fun c1 => ?_) (fun c1 => ?_)
  · have h := h.1 c1
    refine nz_iload_n F dX7_best_13 rfl 1 rfl ?_
    refine nz_iconst (v := 0) F dX7_best_14 (by decide) ?_
    refine nz_iconst (v := 1) F dX7_best_15 (by decide) ?_
    refine kX_X7_isAmong a X v1 0 1 (fun Q hM => nz_runS F gX7_best_X7_isAmong rfl hd_X7_isAmong.2 rfl hM dX7_best_16 ([] : List Nat) rfl rfl rfl (Nat.le_of_ble_eq_true rfl) rfl) h (fun q2 h => ?_)
    refine nz_if_ne (tgt := 25) F dX7_best_19 (by decide) (fun c3 => ?_) (fun c3 => ?_)
    · have h := h.1 c3
      refine nz_iload_n F dX7_best_25 rfl 1 rfl ?_
      refine nz_if_ne (tgt := 46) F dX7_best_26 (by decide) (fun c4 => ?_) (fun c4 => ?_)
      · have h := h.1 c4
        refine nz_aload_n F dX7_best_46 rfl 0 rfl ?_
        refine nz_get F iw_X7_best_7 0 (nz_xg0 g a X) rfl 2 (by decide) rfl fl_X7_best_26 rfl dX7_best_47 ?_
        refine kX_X2_fairFee_16 a X (fun Q hM => nz_runSN F gX7_best_X2_fairFee_n251 rfl nt_X7_best_X2_fairFee_251 wd_X7_best_in_RX2 wd_X7_best_im_X2_fairFee hd_X2_fairFee.2 rfl hM dX7_best_50 (List.range' 16 9) (hC_X2_fairFee_16 g a X) nd_16_9 rfl (Nat.le_of_ble_eq_true rfl) rfl) h (fun q5 h => ?_)
        exact nz_iret F hQ X h rfl dX7_best_53
      · have h := h.2 c4
        refine nz_aload_n F dX7_best_29 rfl 0 rfl ?_
        refine nz_get F iw_X7_best_7 0 (nz_xg0 g a X) rfl 2 (by decide) rfl fl_X7_best_26 rfl dX7_best_30 ?_
        refine nz_aload_n F dX7_best_33 rfl 0 rfl ?_
        refine nz_get F iw_X7_best_7 0 (nz_xg0 g a X) rfl 2 (by decide) rfl fl_X7_best_26 rfl dX7_best_34 ?_
        refine nz_getN F iw_X7_best_5 16 (nz_xg16 g a X) rfl 2 (by decide) rfl fn_X7_best_183 rfl dX7_best_37 ?_
        refine kX_X2_bestDare_16 a X (X 16 2) (fun Q hM => nz_runSN F gX7_best_X2_bestDare_n248 rfl nt_X7_best_X2_bestDare_248 wd_X7_best_in_RX2 wd_X7_best_im_X2_bestDare hd_X2_bestDare.2 rfl hM dX7_best_40 (List.range' 16 9) (hC_X2_bestDare_16 g a X) nd_16_9 rfl (Nat.le_of_ble_eq_true rfl) rfl) h (fun q6 h => ?_)
        refine nz_goto (tgt := 53) F dX7_best_43 (by decide) ?_
        exact nz_iret F hQ X h rfl dX7_best_53
    · have h := h.2 c3
      refine nz_ldc (v := (-1000001 : Int32)) F wd_X7_best_c70 dX7_best_22 ?_
      exact nz_iret F hQ X h rfl dX7_best_24
  · have h := h.2 c1
    refine nz_ldc (v := (-1000002 : Int32)) F wd_X7_best_c141 dX7_best_10 ?_
    exact nz_iret F hQ X h rfl dX7_best_12
theorem k_X7_best {y : nz_Y} {g : nz_G} {k n : Nat} {ws : va_W} {pc : Nat} {ls : List (Nat × Value)} {st rest : List Value} {av : Array Value} {isC : List Nat} {K : Int32 → (Nat → Nat → Int32) → Prop} (a : Nat → Nat) (X : Nat → Nat → Int32) (v1 : Int32) (run : nz_M (yz_l y) yX7_best wsX7_best rm_X7_best g [.ref (a 0), .int v1] (nz_wX g a X) (nz_Qi g (nz_wX g a X) (fun r (u : Nat → Nat → Int32) => K r u) (fun u => nz_wX g a u)) → nz_C y g k n ws pc ls st rest (nz_wX g a X) (nz_Qi g (nz_wX g a X) (fun r (u : Nat → Nat → Int32) => K r u) (fun u => nz_wX g a u)) av isC) (h : wp_X7_best X v1 K) (ws' : (Nat → Nat → Int32) → va_W) (hm : ∀ (m0 : (Nat → Nat → Int32)), nz_mrg ws isC (nz_wX g a m0) = ws' m0) (kk : ∀ (r : Int32) (m0 : (Nat → Nat → Int32)), K r m0 → nz_V y g k n (ws' m0) (pc + 3) ls (.int r :: rest)) : nz_V y g k n ws pc ls st :=
  nz_ci (ws' := fun u => ws' u) (run (c_X7_best (yz_l y) g a X v1 K h)) (fun _ => rfl) (fun u => hm u) (fun r u h => kk r u h)
theorem dX7_image_0 : decode cX7_image 0 = .ok (.iload_n 1, 1) := by decide +kernel
theorem dX7_image_1 : decode cX7_image 1 = .ok (.iconst 0, 1) := by decide +kernel
theorem dX7_image_2 : decode cX7_image 2 = .ok (.aload_n 0, 1) := by decide +kernel
theorem dX7_image_3 : decode cX7_image 3 = .ok (.getfield 30, 3) := by decide +kernel
theorem dX7_image_6 : decode cX7_image 6 = .ok (.arraylength, 1) := by decide +kernel
theorem dX7_image_7 : decode cX7_image 7 = .ok (.iconst 1, 1) := by decide +kernel
theorem dX7_image_8 : decode cX7_image 8 = .ok (.isub, 1) := by decide +kernel
theorem dX7_image_9 : decode cX7_image 9 = .ok (.invokestatic 66, 3) := by decide +kernel
theorem dX7_image_12 : decode cX7_image 12 = .ok (.ifCond .ne 6, 3) := by decide +kernel
theorem dX7_image_15 : decode cX7_image 15 = .ok (.ldc 70, 2) := by decide +kernel
theorem dX7_image_17 : decode cX7_image 17 = .ok (.ireturn, 1) := by decide +kernel
theorem dX7_image_18 : decode cX7_image 18 = .ok (.aload_n 0, 1) := by decide +kernel
theorem dX7_image_19 : decode cX7_image 19 = .ok (.getfield 26, 3) := by decide +kernel
theorem dX7_image_22 : decode cX7_image 22 = .ok (.getfield 137, 3) := by decide +kernel
theorem dX7_image_25 : decode cX7_image 25 = .ok (.ifCond .ne 6, 3) := by decide +kernel
theorem dX7_image_28 : decode cX7_image 28 = .ok (.ldc 141, 2) := by decide +kernel
theorem dX7_image_30 : decode cX7_image 30 = .ok (.ireturn, 1) := by decide +kernel
theorem dX7_image_31 : decode cX7_image 31 = .ok (.aload_n 0, 1) := by decide +kernel
theorem dX7_image_32 : decode cX7_image 32 = .ok (.getfield 30, 3) := by decide +kernel
theorem dX7_image_35 : decode cX7_image 35 = .ok (.iload_n 1, 1) := by decide +kernel
theorem dX7_image_36 : decode cX7_image 36 = .ok (.aaload, 1) := by decide +kernel
theorem dX7_image_37 : decode cX7_image 37 = .ok (.aload_n 0, 1) := by decide +kernel
theorem dX7_image_38 : decode cX7_image 38 = .ok (.getfield 26, 3) := by decide +kernel
theorem dX7_image_41 : decode cX7_image 41 = .ok (.invokevirtual 127, 3) := by decide +kernel
theorem dX7_image_44 : decode cX7_image 44 = .ok (.iconst 1, 1) := by decide +kernel
theorem dX7_image_45 : decode cX7_image 45 = .ok (.ireturn, 1) := by decide +kernel
set_option maxRecDepth 20000 in
theorem ggX7_image_X5_become : GoodIn wsX7_image wsX5_become := goodIn_r _ [12, 13, 14, 15, 16, 17, 18, 19, 20, 21, 22, 23, 24, 25, 26, 27, 28, 29, 30, 31, 32, 33, 44, 45, 46, 47, 48, 49, 50, 51, 52, 53, 54, 55, 56, 57, 58, 59, 60] rfl (by decide +kernel)
set_option maxRecDepth 20000 in
theorem gX7_image_X5_become_n127 : GoodIn wsX7_image (wsX5_become) := ggX7_image_X5_become
set_option maxRecDepth 20000 in
theorem ggX7_image_X7_isAmong : GoodIn wsX7_image wsX7_isAmong := goodIn_r _ [8] rfl (by decide +kernel)
set_option maxRecDepth 20000 in
theorem gX7_image_X7_isAmong : GoodIn wsX7_image (va_wsS RX7 66 yX7_isAmong wsX7_isAmong) := goodIn_app (goodIn_r _ [5, 6, 7] rfl (by decide +kernel)) ggX7_image_X7_isAmong
theorem nz_xg25 (g : nz_G) (a : Nat → Nat) (X : Nat → Nat → Int32) : (nz_wX g a X)[25]? = some ((a 25), .inl (nz_cR g, 2, .inr (.inr (.inr (.inr (nz_img (a 26) (a 35))))))) := rfl
theorem nd_26_9_16_9 : va_nd (List.range' 26 9 ++ List.range' 16 9) = true := by decide +kernel
theorem nz_xg26 (g : nz_G) (a : Nat → Nat) (X : Nat → Nat → Int32) : (nz_wX g a X)[26]? = some ((a 26), .inr (5, [.int (X 26 0), .int (X 26 1), .int (X 26 2), .int (X 26 3), .int (X 26 4), .int (X 26 5), .int (X 26 6), .int (X 26 7), .int (X 26 8), .ref (a 27), .ref (a 28), .ref (a 29), .ref (a 30), .ref (a 31), .ref (a 32), .ref (a 33), .ref (a 34)])) := rfl
theorem hC_X5_become_26_16 (g : nz_G) (a : Nat → Nat) (X : Nat → Nat → Int32) : (List.range' 26 9 ++ List.range' 16 9).map (fun i => (nz_wX g a X)[i]?) = (([((a 26), .inr (5, [.int (X 26 0), .int (X 26 1), .int (X 26 2), .int (X 26 3), .int (X 26 4), .int (X 26 5), .int (X 26 6), .int (X 26 7), .int (X 26 8), .ref (a 27), .ref (a 28), .ref (a 29), .ref (a 30), .ref (a 31), .ref (a 32), .ref (a 33), .ref (a 34)])), ((a 27), .inl (nz_cI g, 6, .inl (X 27))), ((a 28), .inl (nz_cI g, 6, .inl (X 28))), ((a 29), .inl (nz_cI g, 6, .inl (X 29))), ((a 30), .inl (nz_cI g, 5, .inl (X 30))), ((a 31), .inl (nz_cI g, 5, .inl (X 31))), ((a 32), .inl (nz_cI g, 5, .inl (X 32))), ((a 33), .inl (nz_cI g, 5, .inl (X 33))), ((a 34), .inl (nz_cI g, 48, .inl (X 34))), ((a 16), .inr (5, [.int (X 16 0), .int (X 16 1), .int (X 16 2), .int (X 16 3), .int (X 16 4), .int (X 16 5), .int (X 16 6), .int (X 16 7), .int (X 16 8), .ref (a 17), .ref (a 18), .ref (a 19), .ref (a 20), .ref (a 21), .ref (a 22), .ref (a 23), .ref (a 24)])), ((a 17), .inl (nz_cI g, 6, .inl (X 17))), ((a 18), .inl (nz_cI g, 6, .inl (X 18))), ((a 19), .inl (nz_cI g, 6, .inl (X 19))), ((a 20), .inl (nz_cI g, 5, .inl (X 20))), ((a 21), .inl (nz_cI g, 5, .inl (X 21))), ((a 22), .inl (nz_cI g, 5, .inl (X 22))), ((a 23), .inl (nz_cI g, 5, .inl (X 23))), ((a 24), .inl (nz_cI g, 48, .inl (X 24)))] : va_W)).map some := rfl
def wX_X5_become_26_16 (X : Nat → Nat → Int32) (K : (Nat → Nat → Int32) → Prop) : Prop := wp_X5_become (X 27) (X 28) (X 29) (X 30) (X 31) (X 32) (X 33) (X 34) (X 16 0) (X 16 1) (X 16 2) (X 16 3) (X 16 4) (X 16 5) (X 16 6) (X 16 7) (X 16 8) (X 17) (X 18) (X 19) (X 20) (X 21) (X 22) (X 23) (X 24) (fun m0 m1 m2 m3 m4 m5 m6 m7 m8 m9 m10 m11 m12 m13 m14 m15 m16 => K (va_up (va_up (va_up (va_up (va_up (va_up (va_up (va_up (va_up X 26 (upd (upd (upd (upd (upd (upd (upd (upd (upd (X 26) 0 m0) 1 m1) 2 m2) 3 m3) 4 m4) 5 m5) 6 m6) 7 m7) 8 m8)) 27 m9) 28 m10) 29 m11) 30 m12) 31 m13) 32 m14) 33 m15) 34 m16))
theorem kX_X5_become_26_16 {y : nz_Y} {g : nz_G} {k n pc : Nat} {ls : List (Nat × Value)} {st rest : List Value} {av : Array Value} {K : (Nat → Nat → Int32) → Prop} (a : Nat → Nat) (X : Nat → Nat → Int32) (run : ∀ Q : Nat → Array Value → State → Outcome → State → Prop, nz_M (yz_l y) yX5_become wsX5_become rm_X5_become g [.ref (a 26), .ref (a 16)] [((a 26), .inr (5, [.int (X 26 0), .int (X 26 1), .int (X 26 2), .int (X 26 3), .int (X 26 4), .int (X 26 5), .int (X 26 6), .int (X 26 7), .int (X 26 8), .ref (a 27), .ref (a 28), .ref (a 29), .ref (a 30), .ref (a 31), .ref (a 32), .ref (a 33), .ref (a 34)])), ((a 27), .inl (nz_cI g, 6, .inl (X 27))), ((a 28), .inl (nz_cI g, 6, .inl (X 28))), ((a 29), .inl (nz_cI g, 6, .inl (X 29))), ((a 30), .inl (nz_cI g, 5, .inl (X 30))), ((a 31), .inl (nz_cI g, 5, .inl (X 31))), ((a 32), .inl (nz_cI g, 5, .inl (X 32))), ((a 33), .inl (nz_cI g, 5, .inl (X 33))), ((a 34), .inl (nz_cI g, 48, .inl (X 34))), ((a 16), .inr (5, [.int (X 16 0), .int (X 16 1), .int (X 16 2), .int (X 16 3), .int (X 16 4), .int (X 16 5), .int (X 16 6), .int (X 16 7), .int (X 16 8), .ref (a 17), .ref (a 18), .ref (a 19), .ref (a 20), .ref (a 21), .ref (a 22), .ref (a 23), .ref (a 24)])), ((a 17), .inl (nz_cI g, 6, .inl (X 17))), ((a 18), .inl (nz_cI g, 6, .inl (X 18))), ((a 19), .inl (nz_cI g, 6, .inl (X 19))), ((a 20), .inl (nz_cI g, 5, .inl (X 20))), ((a 21), .inl (nz_cI g, 5, .inl (X 21))), ((a 22), .inl (nz_cI g, 5, .inl (X 22))), ((a 23), .inl (nz_cI g, 5, .inl (X 23))), ((a 24), .inl (nz_cI g, 48, .inl (X 24)))] Q → nz_C y g k n (nz_wX g a X) pc ls st rest [((a 26), .inr (5, [.int (X 26 0), .int (X 26 1), .int (X 26 2), .int (X 26 3), .int (X 26 4), .int (X 26 5), .int (X 26 6), .int (X 26 7), .int (X 26 8), .ref (a 27), .ref (a 28), .ref (a 29), .ref (a 30), .ref (a 31), .ref (a 32), .ref (a 33), .ref (a 34)])), ((a 27), .inl (nz_cI g, 6, .inl (X 27))), ((a 28), .inl (nz_cI g, 6, .inl (X 28))), ((a 29), .inl (nz_cI g, 6, .inl (X 29))), ((a 30), .inl (nz_cI g, 5, .inl (X 30))), ((a 31), .inl (nz_cI g, 5, .inl (X 31))), ((a 32), .inl (nz_cI g, 5, .inl (X 32))), ((a 33), .inl (nz_cI g, 5, .inl (X 33))), ((a 34), .inl (nz_cI g, 48, .inl (X 34))), ((a 16), .inr (5, [.int (X 16 0), .int (X 16 1), .int (X 16 2), .int (X 16 3), .int (X 16 4), .int (X 16 5), .int (X 16 6), .int (X 16 7), .int (X 16 8), .ref (a 17), .ref (a 18), .ref (a 19), .ref (a 20), .ref (a 21), .ref (a 22), .ref (a 23), .ref (a 24)])), ((a 17), .inl (nz_cI g, 6, .inl (X 17))), ((a 18), .inl (nz_cI g, 6, .inl (X 18))), ((a 19), .inl (nz_cI g, 6, .inl (X 19))), ((a 20), .inl (nz_cI g, 5, .inl (X 20))), ((a 21), .inl (nz_cI g, 5, .inl (X 21))), ((a 22), .inl (nz_cI g, 5, .inl (X 22))), ((a 23), .inl (nz_cI g, 5, .inl (X 23))), ((a 24), .inl (nz_cI g, 48, .inl (X 24)))] Q av (List.range' 26 9 ++ List.range' 16 9)) (h : wX_X5_become_26_16 X K) (kk : ∀ (X1 : Nat → Nat → Int32), K X1 → nz_V y g k n (nz_wX g a X1) (pc + 3) ls (rest)) : nz_V y g k n (nz_wX g a X) pc ls st :=
 k_X5_become (a 26) (a 27) (a 28) (a 29) (a 30) (a 31) (a 32) (a 33) (a 34) (a 16) (a 17) (a 18) (a 19) (a 20) (a 21) (a 22) (a 23) (a 24) (X 26 0) (X 26 1) (X 26 2) (X 26 3) (X 26 4) (X 26 5) (X 26 6) (X 26 7) (X 26 8) (X 27) (X 28) (X 29) (X 30) (X 31) (X 32) (X 33) (X 34) (X 16 0) (X 16 1) (X 16 2) (X 16 3) (X 16 4) (X 16 5) (X 16 6) (X 16 7) (X 16 8) (X 17) (X 18) (X 19) (X 20) (X 21) (X 22) (X 23) (X 24) (run _) h (fun m0 m1 m2 m3 m4 m5 m6 m7 m8 m9 m10 m11 m12 m13 m14 m15 m16 => nz_wX g a (va_up (va_up (va_up (va_up (va_up (va_up (va_up (va_up (va_up X 26 (upd (upd (upd (upd (upd (upd (upd (upd (upd (X 26) 0 m0) 1 m1) 2 m2) 3 m3) 4 m4) 5 m5) 6 m6) 7 m7) 8 m8)) 27 m9) 28 m10) 29 m11) 30 m12) 31 m13) 32 m14) 33 m15) 34 m16)) (fun m0 m1 m2 m3 m4 m5 m6 m7 m8 m9 m10 m11 m12 m13 m14 m15 m16 => nz_xm (hC_X5_become_26_16 g a (va_up (va_up (va_up (va_up (va_up (va_up (va_up (va_up (va_up X 26 (upd (upd (upd (upd (upd (upd (upd (upd (upd (X 26) 0 m0) 1 m1) 2 m2) 3 m3) 4 m4) 5 m5) 6 m6) 7 m7) 8 m8)) 27 m9) 28 m10) 29 m11) 30 m12) 31 m13) 32 m14) 33 m15) 34 m16)) (nz_ag.up (nz_ag.up (nz_ag.up (nz_ag.up (nz_ag.up (nz_ag.up (nz_ag.up (nz_ag.up (nz_ag.up nz_ag.refl rfl) rfl) rfl) rfl) rfl) rfl) rfl) rfl) rfl)) (fun m0 m1 m2 m3 m4 m5 m6 m7 m8 m9 m10 m11 m12 m13 m14 m15 m16 h => kk (va_up (va_up (va_up (va_up (va_up (va_up (va_up (va_up (va_up X 26 (upd (upd (upd (upd (upd (upd (upd (upd (upd (X 26) 0 m0) 1 m1) 2 m2) 3 m3) 4 m4) 5 m5) 6 m6) 7 m7) 8 m8)) 27 m9) 28 m10) 29 m11) 30 m12) 31 m13) 32 m14) 33 m15) 34 m16) h)
theorem nd_35_9_16_9 : va_nd (List.range' 35 9 ++ List.range' 16 9) = true := by decide +kernel
theorem nz_xg35 (g : nz_G) (a : Nat → Nat) (X : Nat → Nat → Int32) : (nz_wX g a X)[35]? = some ((a 35), .inr (5, [.int (X 35 0), .int (X 35 1), .int (X 35 2), .int (X 35 3), .int (X 35 4), .int (X 35 5), .int (X 35 6), .int (X 35 7), .int (X 35 8), .ref (a 36), .ref (a 37), .ref (a 38), .ref (a 39), .ref (a 40), .ref (a 41), .ref (a 42), .ref (a 43)])) := rfl
theorem hC_X5_become_35_16 (g : nz_G) (a : Nat → Nat) (X : Nat → Nat → Int32) : (List.range' 35 9 ++ List.range' 16 9).map (fun i => (nz_wX g a X)[i]?) = (([((a 35), .inr (5, [.int (X 35 0), .int (X 35 1), .int (X 35 2), .int (X 35 3), .int (X 35 4), .int (X 35 5), .int (X 35 6), .int (X 35 7), .int (X 35 8), .ref (a 36), .ref (a 37), .ref (a 38), .ref (a 39), .ref (a 40), .ref (a 41), .ref (a 42), .ref (a 43)])), ((a 36), .inl (nz_cI g, 6, .inl (X 36))), ((a 37), .inl (nz_cI g, 6, .inl (X 37))), ((a 38), .inl (nz_cI g, 6, .inl (X 38))), ((a 39), .inl (nz_cI g, 5, .inl (X 39))), ((a 40), .inl (nz_cI g, 5, .inl (X 40))), ((a 41), .inl (nz_cI g, 5, .inl (X 41))), ((a 42), .inl (nz_cI g, 5, .inl (X 42))), ((a 43), .inl (nz_cI g, 48, .inl (X 43))), ((a 16), .inr (5, [.int (X 16 0), .int (X 16 1), .int (X 16 2), .int (X 16 3), .int (X 16 4), .int (X 16 5), .int (X 16 6), .int (X 16 7), .int (X 16 8), .ref (a 17), .ref (a 18), .ref (a 19), .ref (a 20), .ref (a 21), .ref (a 22), .ref (a 23), .ref (a 24)])), ((a 17), .inl (nz_cI g, 6, .inl (X 17))), ((a 18), .inl (nz_cI g, 6, .inl (X 18))), ((a 19), .inl (nz_cI g, 6, .inl (X 19))), ((a 20), .inl (nz_cI g, 5, .inl (X 20))), ((a 21), .inl (nz_cI g, 5, .inl (X 21))), ((a 22), .inl (nz_cI g, 5, .inl (X 22))), ((a 23), .inl (nz_cI g, 5, .inl (X 23))), ((a 24), .inl (nz_cI g, 48, .inl (X 24)))] : va_W)).map some := rfl
def wX_X5_become_35_16 (X : Nat → Nat → Int32) (K : (Nat → Nat → Int32) → Prop) : Prop := wp_X5_become (X 36) (X 37) (X 38) (X 39) (X 40) (X 41) (X 42) (X 43) (X 16 0) (X 16 1) (X 16 2) (X 16 3) (X 16 4) (X 16 5) (X 16 6) (X 16 7) (X 16 8) (X 17) (X 18) (X 19) (X 20) (X 21) (X 22) (X 23) (X 24) (fun m0 m1 m2 m3 m4 m5 m6 m7 m8 m9 m10 m11 m12 m13 m14 m15 m16 => K (va_up (va_up (va_up (va_up (va_up (va_up (va_up (va_up (va_up X 35 (upd (upd (upd (upd (upd (upd (upd (upd (upd (X 35) 0 m0) 1 m1) 2 m2) 3 m3) 4 m4) 5 m5) 6 m6) 7 m7) 8 m8)) 36 m9) 37 m10) 38 m11) 39 m12) 40 m13) 41 m14) 42 m15) 43 m16))
theorem kX_X5_become_35_16 {y : nz_Y} {g : nz_G} {k n pc : Nat} {ls : List (Nat × Value)} {st rest : List Value} {av : Array Value} {K : (Nat → Nat → Int32) → Prop} (a : Nat → Nat) (X : Nat → Nat → Int32) (run : ∀ Q : Nat → Array Value → State → Outcome → State → Prop, nz_M (yz_l y) yX5_become wsX5_become rm_X5_become g [.ref (a 35), .ref (a 16)] [((a 35), .inr (5, [.int (X 35 0), .int (X 35 1), .int (X 35 2), .int (X 35 3), .int (X 35 4), .int (X 35 5), .int (X 35 6), .int (X 35 7), .int (X 35 8), .ref (a 36), .ref (a 37), .ref (a 38), .ref (a 39), .ref (a 40), .ref (a 41), .ref (a 42), .ref (a 43)])), ((a 36), .inl (nz_cI g, 6, .inl (X 36))), ((a 37), .inl (nz_cI g, 6, .inl (X 37))), ((a 38), .inl (nz_cI g, 6, .inl (X 38))), ((a 39), .inl (nz_cI g, 5, .inl (X 39))), ((a 40), .inl (nz_cI g, 5, .inl (X 40))), ((a 41), .inl (nz_cI g, 5, .inl (X 41))), ((a 42), .inl (nz_cI g, 5, .inl (X 42))), ((a 43), .inl (nz_cI g, 48, .inl (X 43))), ((a 16), .inr (5, [.int (X 16 0), .int (X 16 1), .int (X 16 2), .int (X 16 3), .int (X 16 4), .int (X 16 5), .int (X 16 6), .int (X 16 7), .int (X 16 8), .ref (a 17), .ref (a 18), .ref (a 19), .ref (a 20), .ref (a 21), .ref (a 22), .ref (a 23), .ref (a 24)])), ((a 17), .inl (nz_cI g, 6, .inl (X 17))), ((a 18), .inl (nz_cI g, 6, .inl (X 18))), ((a 19), .inl (nz_cI g, 6, .inl (X 19))), ((a 20), .inl (nz_cI g, 5, .inl (X 20))), ((a 21), .inl (nz_cI g, 5, .inl (X 21))), ((a 22), .inl (nz_cI g, 5, .inl (X 22))), ((a 23), .inl (nz_cI g, 5, .inl (X 23))), ((a 24), .inl (nz_cI g, 48, .inl (X 24)))] Q → nz_C y g k n (nz_wX g a X) pc ls st rest [((a 35), .inr (5, [.int (X 35 0), .int (X 35 1), .int (X 35 2), .int (X 35 3), .int (X 35 4), .int (X 35 5), .int (X 35 6), .int (X 35 7), .int (X 35 8), .ref (a 36), .ref (a 37), .ref (a 38), .ref (a 39), .ref (a 40), .ref (a 41), .ref (a 42), .ref (a 43)])), ((a 36), .inl (nz_cI g, 6, .inl (X 36))), ((a 37), .inl (nz_cI g, 6, .inl (X 37))), ((a 38), .inl (nz_cI g, 6, .inl (X 38))), ((a 39), .inl (nz_cI g, 5, .inl (X 39))), ((a 40), .inl (nz_cI g, 5, .inl (X 40))), ((a 41), .inl (nz_cI g, 5, .inl (X 41))), ((a 42), .inl (nz_cI g, 5, .inl (X 42))), ((a 43), .inl (nz_cI g, 48, .inl (X 43))), ((a 16), .inr (5, [.int (X 16 0), .int (X 16 1), .int (X 16 2), .int (X 16 3), .int (X 16 4), .int (X 16 5), .int (X 16 6), .int (X 16 7), .int (X 16 8), .ref (a 17), .ref (a 18), .ref (a 19), .ref (a 20), .ref (a 21), .ref (a 22), .ref (a 23), .ref (a 24)])), ((a 17), .inl (nz_cI g, 6, .inl (X 17))), ((a 18), .inl (nz_cI g, 6, .inl (X 18))), ((a 19), .inl (nz_cI g, 6, .inl (X 19))), ((a 20), .inl (nz_cI g, 5, .inl (X 20))), ((a 21), .inl (nz_cI g, 5, .inl (X 21))), ((a 22), .inl (nz_cI g, 5, .inl (X 22))), ((a 23), .inl (nz_cI g, 5, .inl (X 23))), ((a 24), .inl (nz_cI g, 48, .inl (X 24)))] Q av (List.range' 35 9 ++ List.range' 16 9)) (h : wX_X5_become_35_16 X K) (kk : ∀ (X1 : Nat → Nat → Int32), K X1 → nz_V y g k n (nz_wX g a X1) (pc + 3) ls (rest)) : nz_V y g k n (nz_wX g a X) pc ls st :=
 k_X5_become (a 35) (a 36) (a 37) (a 38) (a 39) (a 40) (a 41) (a 42) (a 43) (a 16) (a 17) (a 18) (a 19) (a 20) (a 21) (a 22) (a 23) (a 24) (X 35 0) (X 35 1) (X 35 2) (X 35 3) (X 35 4) (X 35 5) (X 35 6) (X 35 7) (X 35 8) (X 36) (X 37) (X 38) (X 39) (X 40) (X 41) (X 42) (X 43) (X 16 0) (X 16 1) (X 16 2) (X 16 3) (X 16 4) (X 16 5) (X 16 6) (X 16 7) (X 16 8) (X 17) (X 18) (X 19) (X 20) (X 21) (X 22) (X 23) (X 24) (run _) h (fun m0 m1 m2 m3 m4 m5 m6 m7 m8 m9 m10 m11 m12 m13 m14 m15 m16 => nz_wX g a (va_up (va_up (va_up (va_up (va_up (va_up (va_up (va_up (va_up X 35 (upd (upd (upd (upd (upd (upd (upd (upd (upd (X 35) 0 m0) 1 m1) 2 m2) 3 m3) 4 m4) 5 m5) 6 m6) 7 m7) 8 m8)) 36 m9) 37 m10) 38 m11) 39 m12) 40 m13) 41 m14) 42 m15) 43 m16)) (fun m0 m1 m2 m3 m4 m5 m6 m7 m8 m9 m10 m11 m12 m13 m14 m15 m16 => nz_xm (hC_X5_become_35_16 g a (va_up (va_up (va_up (va_up (va_up (va_up (va_up (va_up (va_up X 35 (upd (upd (upd (upd (upd (upd (upd (upd (upd (X 35) 0 m0) 1 m1) 2 m2) 3 m3) 4 m4) 5 m5) 6 m6) 7 m7) 8 m8)) 36 m9) 37 m10) 38 m11) 39 m12) 40 m13) 41 m14) 42 m15) 43 m16)) (nz_ag.up (nz_ag.up (nz_ag.up (nz_ag.up (nz_ag.up (nz_ag.up (nz_ag.up (nz_ag.up (nz_ag.up nz_ag.refl rfl) rfl) rfl) rfl) rfl) rfl) rfl) rfl) rfl)) (fun m0 m1 m2 m3 m4 m5 m6 m7 m8 m9 m10 m11 m12 m13 m14 m15 m16 h => kk (va_up (va_up (va_up (va_up (va_up (va_up (va_up (va_up (va_up X 35 (upd (upd (upd (upd (upd (upd (upd (upd (upd (X 35) 0 m0) 1 m1) 2 m2) 3 m3) 4 m4) 5 m5) 6 m6) 7 m7) 8 m8)) 36 m9) 37 m10) 38 m11) 39 m12) 40 m13) 41 m14) 42 m15) 43 m16) h)
/-! X7_image -/
abbrev rm_X7_image : Room := { frames := 2, cells := 0, slots := 0, locals := 47 }
theorem iw_X7_image_7 : ∀ w ∈ wsX70, w ∈ wsX7_image := fun _ h => List.mem_cons_of_mem _ (List.mem_append_left _ (List.mem_append_right _ h))
theorem iw_X7_image_5 : ∀ w ∈ wsX50, w ∈ wsX7_image := fun _ h => List.mem_cons_of_mem _ (List.mem_append_right _ h)
theorem fl_X7_image_30 : Cond.fieldLink RX7 30 "NightStones" "images" "[LNightStones$Road;" ∈ wsX7_image := List.mem_of_getElem? (i := 1) rfl
theorem fl_X7_image_26 : Cond.fieldLink RX7 26 "NightStones" "now" "LNightStones$Road;" ∈ wsX7_image := List.mem_of_getElem? (i := 3) rfl
theorem fn_X7_image_137 : Cond.fieldLinkNest RX7 137 "NightStones$Road" "isThere" "Z" RX7 ∈ nz_nest := List.mem_of_getElem? (i := 4) rfl
theorem nt_X7_image_X5_become_127 : Cond.methodLinkNest RX7 127 yX5_become RX7 ∈ nz_nest := List.mem_of_getElem? (i := 68) rfl
theorem wd_X7_image_in_RX5 : Cond.initialized RX5 ∈ wsX7_image := List.mem_of_getElem? (i := 10) rfl
theorem wd_X7_image_im_X5_become : Cond.instanceMethod yX5_become ∈ wsX7_image := List.mem_of_getElem? (i := 9) rfl
theorem wd_X7_image_se_X5_become : Cond.selects RX5 yX5_become yX5_become ∈ wsX7_image := List.mem_of_getElem? (i := 11) rfl
theorem wd_X7_image_c141 : Cond.constant RX7 141 (-1000002) ∈ wsX7_image := List.mem_of_getElem? (i := 4) rfl
theorem wd_X7_image_c70 : Cond.constant RX7 70 (-1000001) ∈ wsX7_image := List.mem_of_getElem? (i := 2) rfl
def wp_X7_image (X : Nat → Nat → Int32) (v1 : Int32) (K : Int32 → (Nat → Nat → Int32) → Prop) : Prop := wX_X7_isAmong v1 0 (2 - 1) (fun q1 => ((¬ q1 = 0 → ((¬ (X 16 0) = 0 → ((v1 = 0 ∧ wX_X5_become_26_16 X (fun X4 => K 1 X4)) ∨ (v1 = 1 ∧ wX_X5_become_35_16 X (fun X5 => K 1 X5)))) ∧ ((X 16 0) = 0 → K (-1000002 : Int32) X))) ∧ (q1 = 0 → K (-1000001 : Int32) X)))
set_option maxHeartbeats 4000000 in
set_option maxRecDepth 100000 in
theorem c_X7_image (l : Launch) (g : nz_G) (a : Nat → Nat) (X : Nat → Nat → Int32) (v1 : Int32) (K : Int32 → (Nat → Nat → Int32) → Prop) (h : wp_X7_image X v1 K) : nz_M l yX7_image wsX7_image rm_X7_image g [.ref (a 0), .int v1] (nz_wX g a X) (nz_Qi g (nz_wX g a X) (fun r (u : Nat → Nat → Int32) => K r u) (fun u => nz_wX g a u)) := by
  refine nz_M.of (bytes := cX7_image) (nL := 2) (ret := (some .int)) (own := RX7) (by decide) rfl rfl ⟨rfl, rfl⟩ rfl ?_
  intro y F hl hQ
  obtain ⟨sz, hQ⟩ := hQ
  refine nz_ent (lv' := [(0, .ref (a 0)), (1, .int v1)]) rfl ?_
  unfold wp_X7_image at h
  refine nz_iload_n F dX7_image_0 rfl 1 rfl ?_
  refine nz_iconst (v := 0) F dX7_image_1 (by decide) ?_
  refine nz_aload_n F dX7_image_2 rfl 0 rfl ?_
  refine nz_get F iw_X7_image_7 0 (nz_xg0 g a X) rfl 3 (by decide) rfl fl_X7_image_30 rfl dX7_image_3 ?_
  refine nz_alen (v := 2) F 25 2 (nz_xg25 g a X) rfl rfl dX7_image_6 ?_
  refine nz_iconst (v := 1) F dX7_image_7 (by decide) ?_
  refine nz_isub F dX7_image_8 ?_
  refine kX_X7_isAmong a X v1 0 (2 - 1) (fun Q hM => nz_runS F gX7_image_X7_isAmong rfl hd_X7_isAmong.2 rfl hM dX7_image_9 ([] : List Nat) rfl rfl rfl (Nat.le_of_ble_eq_true rfl) rfl) h (fun q1 h => ?_)
  refine nz_if_ne (tgt := 18) F dX7_image_12 (by decide) (fun c2 => ?_) (fun c2 => ?_)
  · have h := h.1 c2
    refine nz_aload_n F dX7_image_18 rfl 0 rfl ?_
    refine nz_get F iw_X7_image_7 0 (nz_xg0 g a X) rfl 2 (by decide) rfl fl_X7_image_26 rfl dX7_image_19 ?_
    refine nz_getN F iw_X7_image_5 16 (nz_xg16 g a X) rfl 0 (by decide) rfl fn_X7_image_137 rfl dX7_image_22 ?_
    refine nz_if_ne (tgt := 31) F dX7_image_25 (by decide) (fun c3 => ?_) (fun c3 => ?_)
    · have h := h.1 c3
      refine nz_aload_n F dX7_image_31 rfl 0 rfl ?_
      refine nz_get F iw_X7_image_7 0 (nz_xg0 g a X) rfl 3 (by decide) rfl fl_X7_image_30 rfl dX7_image_32 ?_
      refine nz_iload_n F dX7_image_35 rfl 1 rfl ?_
      rcases h with ⟨e1, h⟩ | ⟨e1, h⟩
      · refine nz_aald (b := (a 26)) F 25 (nz_xg25 g a X) (by rw [e1]; exact nz_inC rfl) (by rw [e1]; rfl) dX7_image_36 ?_
        refine nz_aload_n F dX7_image_37 rfl 0 rfl ?_
        refine nz_get F iw_X7_image_7 0 (nz_xg0 g a X) rfl 2 (by decide) rfl fl_X7_image_26 rfl dX7_image_38 ?_
        refine kX_X5_become_26_16 a X (fun Q hM => nz_runVN F gX7_image_X5_become_n127 rfl nt_X7_image_X5_become_127 wd_X7_image_in_RX5 wd_X7_image_im_X5_become wd_X7_image_se_X5_become hd_X5_become rfl hM dX7_image_41 (List.range' 26 9 ++ List.range' 16 9) (hC_X5_become_26_16 g a X) nd_26_9_16_9 26 (nz_xg26 g a X) rfl rfl (Nat.le_of_ble_eq_true rfl) rfl) h (fun X4 h => ?_)
        refine nz_iconst (v := 1) F dX7_image_44 (by decide) ?_
        exact nz_iret F hQ X4 h rfl dX7_image_45
      · refine nz_aald (b := (a 35)) F 25 (nz_xg25 g a X) (by rw [e1]; exact nz_inC rfl) (by rw [e1]; rfl) dX7_image_36 ?_
        refine nz_aload_n F dX7_image_37 rfl 0 rfl ?_
        refine nz_get F iw_X7_image_7 0 (nz_xg0 g a X) rfl 2 (by decide) rfl fl_X7_image_26 rfl dX7_image_38 ?_
        refine kX_X5_become_35_16 a X (fun Q hM => nz_runVN F gX7_image_X5_become_n127 rfl nt_X7_image_X5_become_127 wd_X7_image_in_RX5 wd_X7_image_im_X5_become wd_X7_image_se_X5_become hd_X5_become rfl hM dX7_image_41 (List.range' 35 9 ++ List.range' 16 9) (hC_X5_become_35_16 g a X) nd_35_9_16_9 35 (nz_xg35 g a X) rfl rfl (Nat.le_of_ble_eq_true rfl) rfl) h (fun X5 h => ?_)
        refine nz_iconst (v := 1) F dX7_image_44 (by decide) ?_
        exact nz_iret F hQ X5 h rfl dX7_image_45
    · have h := h.2 c3
      refine nz_ldc (v := (-1000002 : Int32)) F wd_X7_image_c141 dX7_image_28 ?_
      exact nz_iret F hQ X h rfl dX7_image_30
  · have h := h.2 c2
    refine nz_ldc (v := (-1000001 : Int32)) F wd_X7_image_c70 dX7_image_15 ?_
    exact nz_iret F hQ X h rfl dX7_image_17
theorem k_X7_image {y : nz_Y} {g : nz_G} {k n : Nat} {ws : va_W} {pc : Nat} {ls : List (Nat × Value)} {st rest : List Value} {av : Array Value} {isC : List Nat} {K : Int32 → (Nat → Nat → Int32) → Prop} (a : Nat → Nat) (X : Nat → Nat → Int32) (v1 : Int32) (run : nz_M (yz_l y) yX7_image wsX7_image rm_X7_image g [.ref (a 0), .int v1] (nz_wX g a X) (nz_Qi g (nz_wX g a X) (fun r (u : Nat → Nat → Int32) => K r u) (fun u => nz_wX g a u)) → nz_C y g k n ws pc ls st rest (nz_wX g a X) (nz_Qi g (nz_wX g a X) (fun r (u : Nat → Nat → Int32) => K r u) (fun u => nz_wX g a u)) av isC) (h : wp_X7_image X v1 K) (ws' : (Nat → Nat → Int32) → va_W) (hm : ∀ (m0 : (Nat → Nat → Int32)), nz_mrg ws isC (nz_wX g a m0) = ws' m0) (kk : ∀ (r : Int32) (m0 : (Nat → Nat → Int32)), K r m0 → nz_V y g k n (ws' m0) (pc + 3) ls (.int r :: rest)) : nz_V y g k n ws pc ls st :=
  nz_ci (ws' := fun u => ws' u) (run (c_X7_image (yz_l y) g a X v1 K h)) (fun _ => rfl) (fun u => hm u) (fun r u h => kk r u h)
