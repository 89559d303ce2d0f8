theorem dX7_drop_0 : decode cX7_drop 0 = .ok (.iload_n 1, 1) := by decide +kernel
theorem dX7_drop_1 : decode cX7_drop 1 = .ok (.invokestatic 62, 3) := by decide +kernel
theorem dX7_drop_4 : decode cX7_drop 4 = .ok (.ifCond .ne 6, 3) := by decide +kernel
theorem dX7_drop_7 : decode cX7_drop 7 = .ok (.ldc 70, 2) := by decide +kernel
theorem dX7_drop_9 : decode cX7_drop 9 = .ok (.ireturn, 1) := by decide +kernel
theorem dX7_drop_10 : decode cX7_drop 10 = .ok (.aload_n 0, 1) := by decide +kernel
theorem dX7_drop_11 : decode cX7_drop 11 = .ok (.getfield 10, 3) := by decide +kernel
theorem dX7_drop_14 : decode cX7_drop 14 = .ok (.iload_n 1, 1) := by decide +kernel
theorem dX7_drop_15 : decode cX7_drop 15 = .ok (.invokevirtual 97, 3) := by decide +kernel
theorem dX7_drop_18 : decode cX7_drop 18 = .ok (.ifCond .eq 9, 3) := by decide +kernel
theorem dX7_drop_21 : decode cX7_drop 21 = .ok (.aload_n 0, 1) := by decide +kernel
theorem dX7_drop_22 : decode cX7_drop 22 = .ok (.iconst 1, 1) := by decide +kernel
theorem dX7_drop_23 : decode cX7_drop 23 = .ok (.invokevirtual 71, 3) := by decide +kernel
theorem dX7_drop_26 : decode cX7_drop 26 = .ok (.ireturn, 1) := by decide +kernel
theorem dX7_drop_27 : decode cX7_drop 27 = .ok (.aload_n 0, 1) := by decide +kernel
theorem dX7_drop_28 : decode cX7_drop 28 = .ok (.aload_n 0, 1) := by decide +kernel
theorem dX7_drop_29 : decode cX7_drop 29 = .ok (.getfield 10, 3) := by decide +kernel
theorem dX7_drop_32 : decode cX7_drop 32 = .ok (.iload_n 1, 1) := by decide +kernel
theorem dX7_drop_33 : decode cX7_drop 33 = .ok (.invokevirtual 100, 3) := by decide +kernel
theorem dX7_drop_36 : decode cX7_drop 36 = .ok (.invokevirtual 79, 3) := by decide +kernel
theorem dX7_drop_39 : decode cX7_drop 39 = .ok (.ireturn, 1) := by decide +kernel
set_option maxRecDepth 20000 in
theorem ggX7_drop_X6_isMissing : GoodIn wsX7_drop wsX6_isMissing := goodIn_r _ [8, 9, 35, 36, 37] rfl (by decide +kernel)
set_option maxRecDepth 20000 in
theorem gX7_drop_X6_isMissing_n97 : GoodIn wsX7_drop (wsX6_isMissing) := ggX7_drop_X6_isMissing
set_option maxRecDepth 20000 in
theorem ggX7_drop_X6_isRow : GoodIn wsX7_drop wsX6_isRow := goodIn_r _ [5] rfl (by decide +kernel)
set_option maxRecDepth 20000 in
theorem gX7_drop_X6_isRow_n62 : GoodIn wsX7_drop (wsX6_isRow) := ggX7_drop_X6_isRow
set_option maxRecDepth 20000 in
theorem ggX7_drop_X6_remove : GoodIn wsX7_drop wsX6_remove := goodIn_r _ [19, 9, 20, 35, 36, 37] rfl (by decide +kernel)
set_option maxRecDepth 20000 in
theorem gX7_drop_X6_remove_n100 : GoodIn wsX7_drop (wsX6_remove) := ggX7_drop_X6_remove
set_option maxRecDepth 20000 in
theorem ggX7_drop_X7_found : GoodIn wsX7_drop wsX7_found := goodIn_r _ [14, 15, 16, 25, 26, 27, 28, 29, 30, 31, 32, 33, 34] rfl (by decide +kernel)
set_option maxRecDepth 20000 in
theorem gX7_drop_X7_found : GoodIn wsX7_drop (wsV RX7 71 RX7 yX7_found wsX7_found) := goodIn_app (goodIn_r _ [10, 11, 12, 13] rfl (by decide +kernel)) ggX7_drop_X7_found
set_option maxRecDepth 20000 in
theorem ggX7_drop_X7_well : GoodIn wsX7_drop wsX7_well := goodIn_r _ [24, 15, 25, 26, 27, 28, 29, 30, 31, 32, 33, 34] rfl (by decide +kernel)
set_option maxRecDepth 20000 in
theorem gX7_drop_X7_well : GoodIn wsX7_drop (wsV RX7 79 RX7 yX7_well wsX7_well) := goodIn_app (goodIn_r _ [21, 22, 23, 13] rfl (by decide +kernel)) ggX7_drop_X7_well
theorem hd_X6_remove : yX6_remove.cls = RX6 ∧ yX6_remove.cls ≠ "java/lang/invoke/MethodHandle" ∧ yX6_remove.cls ≠ "java/lang/invoke/VarHandle" ∧ (parseMethodDescriptor yX6_remove.desc).map (fun d => d.parameters.length) = some 1 := by decide +kernel
theorem hC_X6_isMissing_1_54 (g : nz_G) (a : Nat → Nat) (X : Nat → Nat → Int32) : (List.range' 1 4 ++ List.range' 54 8).map (fun i => (nz_wX g a X)[i]?) = ((([((a 1), .inr (6, [.ref (a 4), .ref (a 2), .ref (a 3)])), ((a 2), .inl (nz_cI g, 8, .inl (X 2))), ((a 3), .inl (nz_cI g, 8, .inl (X 3))), ((a 4), .inl (nz_cA g, 8, .inr (.inr (.inr (.inr (fun j => some (a (54 + j))))))))] ++ nz_pool g (fun j => a (54 + j)) (fun j => X (54 + j))) : va_W)).map some := rfl
def wX_X6_isMissing_1_54 (X : Nat → Nat → Int32) (v1 : Int32) (K : Int32 → Prop) : Prop := wp_X6_isMissing (X 2) v1 (fun r => K r)
theorem kX_X6_isMissing_1_54 {y : nz_Y} {g : nz_G} {k n pc : Nat} {ls : List (Nat × Value)} {st rest : List Value} {av : Array Value} {K : Int32 → Prop} (a : Nat → Nat) (X : Nat → Nat → Int32) (v1 : Int32) (run : ∀ Q : Nat → Array Value → State → Outcome → State → Prop, nz_M (yz_l y) yX6_isMissing wsX6_isMissing rm_X6_isMissing g [.ref (a 1), .int v1] ([((a 1), .inr (6, [.ref (a 4), .ref (a 2), .ref (a 3)])), ((a 2), .inl (nz_cI g, 8, .inl (X 2))), ((a 3), .inl (nz_cI g, 8, .inl (X 3))), ((a 4), .inl (nz_cA g, 8, .inr (.inr (.inr (.inr (fun j => some (a (54 + j))))))))] ++ nz_pool g (fun j => a (54 + j)) (fun j => X (54 + j))) Q → nz_C y g k n (nz_wX g a X) pc ls st rest ([((a 1), .inr (6, [.ref (a 4), .ref (a 2), .ref (a 3)])), ((a 2), .inl (nz_cI g, 8, .inl (X 2))), ((a 3), .inl (nz_cI g, 8, .inl (X 3))), ((a 4), .inl (nz_cA g, 8, .inr (.inr (.inr (.inr (fun j => some (a (54 + j))))))))] ++ nz_pool g (fun j => a (54 + j)) (fun j => X (54 + j))) Q av (List.range' 1 4 ++ List.range' 54 8)) (h : wX_X6_isMissing_1_54 X v1 K) (kk : ∀ (r : Int32), K r → nz_V y g k n (nz_wX g a X) (pc + 3) ls (.int r :: rest)) : nz_V y g k n (nz_wX g a X) pc ls st :=
 k_X6_isMissing (a 1) (a 4) (a 2) (a 3) (fun j => a (54 + j)) (X 2) (X 3) (fun j => X (54 + j)) v1 (run _) h (nz_wX g a X) (nz_xm (hC_X6_isMissing_1_54 g a X) nz_ag.refl) (fun r h => kk r h)
theorem hC_X6_remove_1_54 (g : nz_G) (a : Nat → Nat) (X : Nat → Nat → Int32) : (List.range' 1 4 ++ List.range' 54 8).map (fun i => (nz_wX g a X)[i]?) = ((([((a 1), .inr (6, [.ref (a 4), .ref (a 2), .ref (a 3)])), ((a 2), .inl (nz_cI g, 8, .inl (X 2))), ((a 3), .inl (nz_cI g, 8, .inl (X 3))), ((a 4), .inl (nz_cA g, 8, .inr (.inr (.inr (.inr (fun j => some (a (54 + j))))))))] ++ nz_pool g (fun j => a (54 + j)) (fun j => X (54 + j))) : va_W)).map some := rfl
def wX_X6_remove_1_54 (X : Nat → Nat → Int32) (v1 : Int32) (K : Int32 → (Nat → Nat → Int32) → Prop) : Prop := wp_X6_remove (X 2) (X 3) v1 (fun r m0 => K r (va_up X 2 m0))
theorem kX_X6_remove_1_54 {y : nz_Y} {g : nz_G} {k n pc : Nat} {ls : List (Nat × Value)} {st rest : List Value} {av : Array Value} {K : Int32 → (Nat → Nat → Int32) → Prop} (a : Nat → Nat) (X : Nat → Nat → Int32) (v1 : Int32) (run : ∀ Q : Nat → Array Value → State → Outcome → State → Prop, nz_M (yz_l y) yX6_remove wsX6_remove rm_X6_remove g [.ref (a 1), .int v1] ([((a 1), .inr (6, [.ref (a 4), .ref (a 2), .ref (a 3)])), ((a 2), .inl (nz_cI g, 8, .inl (X 2))), ((a 3), .inl (nz_cI g, 8, .inl (X 3))), ((a 4), .inl (nz_cA g, 8, .inr (.inr (.inr (.inr (fun j => some (a (54 + j))))))))] ++ nz_pool g (fun j => a (54 + j)) (fun j => X (54 + j))) Q → nz_C y g k n (nz_wX g a X) pc ls st rest ([((a 1), .inr (6, [.ref (a 4), .ref (a 2), .ref (a 3)])), ((a 2), .inl (nz_cI g, 8, .inl (X 2))), ((a 3), .inl (nz_cI g, 8, .inl (X 3))), ((a 4), .inl (nz_cA g, 8, .inr (.inr (.inr (.inr (fun j => some (a (54 + j))))))))] ++ nz_pool g (fun j => a (54 + j)) (fun j => X (54 + j))) Q av (List.range' 1 4 ++ List.range' 54 8)) (h : wX_X6_remove_1_54 X v1 K) (kk : ∀ (r : Int32) (X1 : Nat → Nat → Int32), K r X1 → nz_V y g k n (nz_wX g a X1) (pc + 3) ls (.int r :: rest)) : nz_V y g k n (nz_wX g a X) pc ls st :=
 k_X6_remove (a 1) (a 4) (a 2) (a 3) (fun j => a (54 + j)) (X 2) (X 3) (fun j => X (54 + j)) v1 (run _) h (fun m0 => nz_wX g a (va_up X 2 m0)) (fun m0 => nz_xm (hC_X6_remove_1_54 g a (va_up X 2 m0)) (nz_ag.up nz_ag.refl rfl)) (fun r m0 h => kk r (va_up X 2 m0) h)
/-! X7_drop -/
abbrev rm_X7_drop : Room := { frames := 1, cells := 0, slots := 0, locals := 21 }
theorem iw_X7_drop_7 : ∀ w ∈ wsX70, w ∈ wsX7_drop := fun _ h => List.mem_cons_of_mem _ (List.mem_append_left _ (List.mem_append_right _ h))
theorem nt_X7_drop_X6_isRow_62 : Cond.methodLinkNest RX7 62 yX6_isRow RX7 ∈ nz_nest := List.mem_of_getElem? (i := 55) rfl
theorem wd_X7_drop_in_RX6 : Cond.initialized RX6 ∈ wsX7_drop := List.mem_of_getElem? (i := 4) rfl
theorem wd_X7_drop_im_X6_isRow : Cond.static yX6_isRow ∈ wsX7_drop := List.mem_of_getElem? (i := 3) rfl
theorem fl_X7_drop_10 : Cond.fieldLink RX7 10 "NightStones" "rows" "LNightStones$Rows;" ∈ wsX7_drop := List.mem_of_getElem? (i := 2) rfl
theorem nt_X7_drop_X6_isMissing_97 : Cond.methodLinkNest RX7 97 yX6_isMissing RX7 ∈ nz_nest := List.mem_of_getElem? (i := 61) rfl
theorem wd_X7_drop_im_X6_isMissing : Cond.instanceMethod yX6_isMissing ∈ wsX7_drop := List.mem_of_getElem? (i := 6) rfl
theorem wd_X7_drop_se_X6_isMissing : Cond.selects RX6 yX6_isMissing yX6_isMissing ∈ wsX7_drop := List.mem_of_getElem? (i := 7) rfl
theorem nt_X7_drop_X6_remove_100 : Cond.methodLinkNest RX7 100 yX6_remove RX7 ∈ nz_nest := List.mem_of_getElem? (i := 62) rfl
theorem wd_X7_drop_im_X6_remove : Cond.instanceMethod yX6_remove ∈ wsX7_drop := List.mem_of_getElem? (i := 17) rfl
theorem wd_X7_drop_se_X6_remove : Cond.selects RX6 yX6_remove yX6_remove ∈ wsX7_drop := List.mem_of_getElem? (i := 18) rfl
theorem wd_X7_drop_c70 : Cond.constant RX7 70 (-1000001) ∈ wsX7_drop := List.mem_of_getElem? (i := 1) rfl
def wp_X7_drop (X : Nat → Nat → Int32) (v1 : Int32) (K : Int32 → (Nat → Nat → Int32) → Prop) : Prop := wX_X6_isRow v1 (fun q1 => ((¬ q1 = 0 → wX_X6_isMissing_1_54 X v1 (fun q3 => ((q3 = 0 → wX_X6_remove_1_54 X v1 (fun q5 X6 => wX_X7_well_0 X6 q5 (fun q7 X8 => K q7 X8))) ∧ (¬ (q3 = 0) → wX_X7_found_0 X 1 (fun q9 X10 => K q9 X10))))) ∧ (q1 = 0 → K (-1000001 : Int32) X)))
set_option maxHeartbeats 4000000 in
set_option maxRecDepth 100000 in
theorem c_X7_drop (l : Launch) (g : nz_G) (a : Nat → Nat) (X : Nat → Nat → Int32) (v1 : Int32) (K : Int32 → (Nat → Nat → Int32) → Prop) (h : wp_X7_drop X v1 K) : nz_M l yX7_drop wsX7_drop rm_X7_drop g [.ref (a 0), .int v1] (nz_wX g a X) (nz_Qi g (nz_wX g a X) (fun r (u : Nat → Nat → Int32) => K r u) (fun u => nz_wX g a u)) := by
  refine nz_M.of (bytes := cX7_drop) (nL := 2) (ret := (some .int)) (own := RX7) (by decide) rfl rfl ⟨rfl, rfl⟩ rfl ?_
  intro y F hl hQ
  obtain ⟨sz, hQ⟩ := hQ
  refine nz_ent (lv' := [(0, .ref (a 0)), (1, .int v1)]) rfl ?_
  unfold wp_X7_drop at h
  refine nz_iload_n F dX7_drop_0 rfl 1 rfl ?_
  refine kX_X6_isRow a X v1 (fun Q hM => nz_runSN F gX7_drop_X6_isRow_n62 rfl nt_X7_drop_X6_isRow_62 wd_X7_drop_in_RX6 wd_X7_drop_im_X6_isRow hd_X6_isRow.2 rfl hM dX7_drop_1 ([] : List Nat) rfl rfl rfl (Nat.le_of_ble_eq_true rfl) rfl) h (fun q1 h => ?_)
  refine nz_if_ne (tgt := 10) F dX7_drop_4 (by decide) (fun c2 => ?_) (fun c2 => ?_)
  · have h := h.1 c2
    refine nz_aload_n F dX7_drop_10 rfl 0 rfl ?_
    refine nz_get F iw_X7_drop_7 0 (nz_xg0 g a X) rfl 0 (by decide) rfl fl_X7_drop_10 rfl dX7_drop_11 ?_
    refine nz_iload_n F dX7_drop_14 rfl 1 rfl ?_
    refine kX_X6_isMissing_1_54 a X v1 (fun Q hM => nz_runVN F gX7_drop_X6_isMissing_n97 rfl nt_X7_drop_X6_isMissing_97 wd_X7_drop_in_RX6 wd_X7_drop_im_X6_isMissing wd_X7_drop_se_X6_isMissing hd_X6_isMissing rfl hM dX7_drop_15 (List.range' 1 4 ++ List.range' 54 8) (hC_X6_isMissing_1_54 g a X) nd_1_4_54_8 1 (nz_xg1 g a X) rfl rfl (Nat.le_of_ble_eq_true rfl) rfl) h (fun q3 h => ?_)
    refine nz_if_eq (tgt := 27) F dX7_drop_18 (by decide) (fun c4 => ?_) (fun c4 => ?_)
    · have h := h.1 c4
      refine nz_aload_n F dX7_drop_27 rfl 0 rfl ?_
      refine nz_aload_n F dX7_drop_28 rfl 0 rfl ?_
      refine nz_get F iw_X7_drop_7 0 (nz_xg0 g a X) rfl 0 (by decide) rfl fl_X7_drop_10 rfl dX7_drop_29 ?_
      refine nz_iload_n F dX7_drop_32 rfl 1 rfl ?_
      refine kX_X6_remove_1_54 a X v1 (fun Q hM => nz_runVN F gX7_drop_X6_remove_n100 rfl nt_X7_drop_X6_remove_100 wd_X7_drop_in_RX6 wd_X7_drop_im_X6_remove wd_X7_drop_se_X6_remove hd_X6_remove rfl hM dX7_drop_33 (List.range' 1 4 ++ List.range' 54 8) (hC_X6_remove_1_54 g a X) nd_1_4_54_8 1 (nz_xg1 g a X) rfl rfl (Nat.le_of_ble_eq_true rfl) rfl) h (fun q5 X6 h => ?_)
      refine kX_X7_well_0 a X6 q5 (fun Q hM => nz_runV F gX7_drop_X7_well rfl hd_X7_well rfl hM dX7_drop_36 (List.range' 0 1) (hC_X7_well_0 g a X6) nd_0_1 0 (nz_xg0 g a X6) rfl rfl (Nat.le_of_ble_eq_true rfl) rfl) h (fun q7 X8 h => ?_)
      exact nz_iret F hQ X8 h rfl dX7_drop_39
    · have h := h.2 c4
      refine nz_aload_n F dX7_drop_21 rfl 0 rfl ?_
      refine nz_iconst (v := 1) F dX7_drop_22 (by decide) ?_
      refine kX_X7_found_0 a X 1 (fun Q hM => nz_runV F gX7_drop_X7_found rfl hd_X7_found rfl hM dX7_drop_23 (List.range' 0 1) (hC_X7_found_0 g a X) nd_0_1 0 (nz_xg0 g a X) rfl rfl (Nat.le_of_ble_eq_true rfl) rfl) h (fun q9 X10 h => ?_)
      exact nz_iret F hQ X10 h rfl dX7_drop_26
  · have h := h.2 c2
    refine nz_ldc (v := (-1000001 : Int32)) F wd_X7_drop_c70 dX7_drop_7 ?_
    exact nz_iret F hQ X h rfl dX7_drop_9
theorem k_X7_drop {y : nz_Y} {g : nz_G} {k n : Nat} {ws : va_W} {pc : Nat} {ls : List (Nat × Value)} {st rest : List Value} {av : Array Value} {isC : List Nat} {K : Int32 → (Nat → Nat → Int32) → Prop} (a : Nat → Nat) (X : Nat → Nat → Int32) (v1 : Int32) (run : nz_M (yz_l y) yX7_drop wsX7_drop rm_X7_drop g [.ref (a 0), .int v1] (nz_wX g a X) (nz_Qi g (nz_wX g a X) (fun r (u : Nat → Nat → Int32) => K r u) (fun u => nz_wX g a u)) → nz_C y g k n ws pc ls st rest (nz_wX g a X) (nz_Qi g (nz_wX g a X) (fun r (u : Nat → Nat → Int32) => K r u) (fun u => nz_wX g a u)) av isC) (h : wp_X7_drop X v1 K) (ws' : (Nat → Nat → Int32) → va_W) (hm : ∀ (m0 : (Nat → Nat → Int32)), nz_mrg ws isC (nz_wX g a m0) = ws' m0) (kk : ∀ (r : Int32) (m0 : (Nat → Nat → Int32)), K r m0 → nz_V y g k n (ws' m0) (pc + 3) ls (.int r :: rest)) : nz_V y g k n ws pc ls st :=
  nz_ci (ws' := fun u => ws' u) (run (c_X7_drop (yz_l y) g a X v1 K h)) (fun _ => rfl) (fun u => hm u) (fun r u h => kk r u h)
theorem dX7_feed_0 : decode cX7_feed 0 = .ok (.iload_n 3, 1) := by decide +kernel
theorem dX7_feed_1 : decode cX7_feed 1 = .ok (.iconst 1, 1) := by decide +kernel
theorem dX7_feed_2 : decode cX7_feed 2 = .ok (.bipush 8, 2) := by decide +kernel
theorem dX7_feed_4 : decode cX7_feed 4 = .ok (.invokestatic 66, 3) := by decide +kernel
theorem dX7_feed_7 : decode cX7_feed 7 = .ok (.ifCond .ne 6, 3) := by decide +kernel
theorem dX7_feed_10 : decode cX7_feed 10 = .ok (.ldc 70, 2) := by decide +kernel
theorem dX7_feed_12 : decode cX7_feed 12 = .ok (.ireturn, 1) := by decide +kernel
theorem dX7_feed_13 : decode cX7_feed 13 = .ok (.aload_n 0, 1) := by decide +kernel
theorem dX7_feed_14 : decode cX7_feed 14 = .ok (.getfield 19, 3) := by decide +kernel
theorem dX7_feed_17 : decode cX7_feed 17 = .ok (.iload_n 3, 1) := by decide +kernel
theorem dX7_feed_18 : decode cX7_feed 18 = .ok (.invokevirtual 103, 3) := by decide +kernel
theorem dX7_feed_21 : decode cX7_feed 21 = .ok (.ifCond .ne 6, 3) := by decide +kernel
theorem dX7_feed_24 : decode cX7_feed 24 = .ok (.ldc 106, 2) := by decide +kernel
theorem dX7_feed_26 : decode cX7_feed 26 = .ok (.ireturn, 1) := by decide +kernel
theorem dX7_feed_27 : decode cX7_feed 27 = .ok (.aload_n 0, 1) := by decide +kernel
theorem dX7_feed_28 : decode cX7_feed 28 = .ok (.getfield 19, 3) := by decide +kernel
theorem dX7_feed_31 : decode cX7_feed 31 = .ok (.lload_n 1, 1) := by decide +kernel
theorem dX7_feed_32 : decode cX7_feed 32 = .ok (.iload_n 3, 1) := by decide +kernel
theorem dX7_feed_33 : decode cX7_feed 33 = .ok (.invokevirtual 107, 3) := by decide +kernel
theorem dX7_feed_36 : decode cX7_feed 36 = .ok (.ireturn, 1) := by decide +kernel
set_option maxRecDepth 20000 in
theorem ggX7_feed_X4_append : GoodIn wsX7_feed wsX4_append := goodIn_r _ [15, 16, 12, 27, 28, 29, 30, 31, 32, 33, 34] rfl (by decide +kernel)
set_option maxRecDepth 20000 in
theorem gX7_feed_X4_append_n107 : GoodIn wsX7_feed (wsX4_append) := ggX7_feed_X4_append
set_option maxRecDepth 20000 in
theorem ggX7_feed_X4_hasRoomFor : GoodIn wsX7_feed wsX4_hasRoomFor := goodIn_r _ [11, 12, 27, 28, 29, 30, 31, 32, 33, 34] rfl (by decide +kernel)
set_option maxRecDepth 20000 in
theorem gX7_feed_X4_hasRoomFor_n103 : GoodIn wsX7_feed (wsX4_hasRoomFor) := ggX7_feed_X4_hasRoomFor
set_option maxRecDepth 20000 in
theorem ggX7_feed_X7_isAmong : GoodIn wsX7_feed wsX7_isAmong := goodIn_r _ [7] rfl (by decide +kernel)
set_option maxRecDepth 20000 in
theorem gX7_feed_X7_isAmong : GoodIn wsX7_feed (va_wsS RX7 66 yX7_isAmong wsX7_isAmong) := goodIn_app (goodIn_r _ [4, 5, 6] rfl (by decide +kernel)) ggX7_feed_X7_isAmong
theorem hd_X4_append : yX4_append.cls = RX4 ∧ yX4_append.cls ≠ "java/lang/invoke/MethodHandle" ∧ yX4_append.cls ≠ "java/lang/invoke/VarHandle" ∧ (parseMethodDescriptor yX4_append.desc).map (fun d => d.parameters.length) = some 2 := by decide +kernel
theorem hd_X4_hasRoomFor : yX4_hasRoomFor.cls = RX4 ∧ yX4_hasRoomFor.cls ≠ "java/lang/invoke/MethodHandle" ∧ yX4_hasRoomFor.cls ≠ "java/lang/invoke/VarHandle" ∧ (parseMethodDescriptor yX4_hasRoomFor.desc).map (fun d => d.parameters.length) = some 1 := by decide +kernel
theorem nd_5_2 : va_nd (List.range' 5 2) = true := by decide +kernel
theorem nz_xg5 (g : nz_G) (a : Nat → Nat) (X : Nat → Nat → Int32) : (nz_wX g a X)[5]? = some ((a 5), .inr (4, [.ref (a 6), .ref (a 7), .int (X 5 2), .int (X 5 3), .int (X 5 4), .int (X 5 5), .int (X 5 6), .int (X 5 7)])) := rfl
theorem hC_X4_hasRoomFor_5 (g : nz_G) (a : Nat → Nat) (X : Nat → Nat → Int32) : (List.range' 5 2).map (fun i => (nz_wX g a X)[i]?) = (([((a 5), .inr (4, [.ref (a 6), .ref (a 7), .int (X 5 2), .int (X 5 3), .int (X 5 4), .int (X 5 5), .int (X 5 6), .int (X 5 7)])), ((a 6), .inl (nz_cI g, 400, .inl (X 6)))] : va_W)).map some := rfl
def wX_X4_hasRoomFor_5 (X : Nat → Nat → Int32) (v1 : Int32) (K : Int32 → Prop) : Prop := wp_X4_hasRoomFor (X 5 2) v1 (fun r => K r)
theorem kX_X4_hasRoomFor_5 {y : nz_Y} {g : nz_G} {k n pc : Nat} {ls : List (Nat × Value)} {st rest : List Value} {av : Array Value} {K : Int32 → Prop} (a : Nat → Nat) (X : Nat → Nat → Int32) (v1 : Int32) (run : ∀ Q : Nat → Array Value → State → Outcome → State → Prop, nz_M (yz_l y) yX4_hasRoomFor wsX4_hasRoomFor rm_X4_hasRoomFor g [.ref (a 5), .int v1] [((a 5), .inr (4, [.ref (a 6), .ref (a 7), .int (X 5 2), .int (X 5 3), .int (X 5 4), .int (X 5 5), .int (X 5 6), .int (X 5 7)])), ((a 6), .inl (nz_cI g, 400, .inl (X 6)))] Q → nz_C y g k n (nz_wX g a X) pc ls st rest [((a 5), .inr (4, [.ref (a 6), .ref (a 7), .int (X 5 2), .int (X 5 3), .int (X 5 4), .int (X 5 5), .int (X 5 6), .int (X 5 7)])), ((a 6), .inl (nz_cI g, 400, .inl (X 6)))] Q av (List.range' 5 2)) (h : wX_X4_hasRoomFor_5 X v1 K) (kk : ∀ (r : Int32), K r → nz_V y g k n (nz_wX g a X) (pc + 3) ls (.int r :: rest)) : nz_V y g k n (nz_wX g a X) pc ls st :=
 k_X4_hasRoomFor (a 5) (a 6) (a 7) (X 5 2) (X 5 3) (X 5 4) (X 5 5) (X 5 6) (X 5 7) (X 6) v1 (run _) h (nz_wX g a X) (nz_xm (hC_X4_hasRoomFor_5 g a X) nz_ag.refl) (fun r h => kk r h)
theorem hC_X4_append_5 (g : nz_G) (a : Nat → Nat) (X : Nat → Nat → Int32) : (List.range' 5 2).map (fun i => (nz_wX g a X)[i]?) = (([((a 5), .inr (4, [.ref (a 6), .ref (a 7), .int (X 5 2), .int (X 5 3), .int (X 5 4), .int (X 5 5), .int (X 5 6), .int (X 5 7)])), ((a 6), .inl (nz_cI g, 400, .inl (X 6)))] : va_W)).map some := rfl
def wX_X4_append_5 (X : Nat → Nat → Int32) (v1 : Int64) (v3 : Int32) (K : Int32 → (Nat → Nat → Int32) → Prop) : Prop := wp_X4_append (X 5 2) (X 6) v1 v3 (fun r m0 m1 => K r (va_up (va_up X 5 (upd (X 5) 2 m0)) 6 m1))
theorem kX_X4_append_5 {y : nz_Y} {g : nz_G} {k n pc : Nat} {ls : List (Nat × Value)} {st rest : List Value} {av : Array Value} {K : Int32 → (Nat → Nat → Int32) → Prop} (a : Nat → Nat) (X : Nat → Nat → Int32) (v1 : Int64) (v3 : Int32) (run : ∀ Q : Nat → Array Value → State → Outcome → State → Prop, nz_M (yz_l y) yX4_append wsX4_append rm_X4_append g [.ref (a 5), .long v1, .int v3] [((a 5), .inr (4, [.ref (a 6), .ref (a 7), .int (X 5 2), .int (X 5 3), .int (X 5 4), .int (X 5 5), .int (X 5 6), .int (X 5 7)])), ((a 6), .inl (nz_cI g, 400, .inl (X 6)))] Q → nz_C y g k n (nz_wX g a X) pc ls st rest [((a 5), .inr (4, [.ref (a 6), .ref (a 7), .int (X 5 2), .int (X 5 3), .int (X 5 4), .int (X 5 5), .int (X 5 6), .int (X 5 7)])), ((a 6), .inl (nz_cI g, 400, .inl (X 6)))] Q av (List.range' 5 2)) (h : wX_X4_append_5 X v1 v3 K) (kk : ∀ (r : Int32) (X1 : Nat → Nat → Int32), K r X1 → nz_V y g k n (nz_wX g a X1) (pc + 3) ls (.int r :: rest)) : nz_V y g k n (nz_wX g a X) pc ls st :=
 k_X4_append (a 5) (a 6) (a 7) (X 5 2) (X 5 3) (X 5 4) (X 5 5) (X 5 6) (X 5 7) (X 6) v1 v3 (run _) h (fun m0 m1 => nz_wX g a (va_up (va_up X 5 (upd (X 5) 2 m0)) 6 m1)) (fun m0 m1 => nz_xm (hC_X4_append_5 g a (va_up (va_up X 5 (upd (X 5) 2 m0)) 6 m1)) (nz_ag.up (nz_ag.up nz_ag.refl rfl) rfl)) (fun r m0 m1 h => kk r (va_up (va_up X 5 (upd (X 5) 2 m0)) 6 m1) h)
/-! X7_feed -/
abbrev rm_X7_feed : Room := { frames := 1, cells := 0, slots := 0, locals := 24 }
theorem iw_X7_feed_7 : ∀ w ∈ wsX70, w ∈ wsX7_feed := fun _ h => List.mem_cons_of_mem _ (List.mem_append_left _ (List.mem_append_right _ h))
theorem fl_X7_feed_19 : Cond.fieldLink RX7 19 "NightStones" "reader" "LNightStones$Reader;" ∈ wsX7_feed := List.mem_of_getElem? (i := 2) rfl
theorem nt_X7_feed_X4_hasRoomFor_103 : Cond.methodLinkNest RX7 103 yX4_hasRoomFor RX7 ∈ nz_nest := List.mem_of_getElem? (i := 63) rfl
theorem wd_X7_feed_in_RX4 : Cond.initialized RX4 ∈ wsX7_feed := List.mem_of_getElem? (i := 9) rfl
theorem wd_X7_feed_im_X4_hasRoomFor : Cond.instanceMethod yX4_hasRoomFor ∈ wsX7_feed := List.mem_of_getElem? (i := 8) rfl
theorem wd_X7_feed_se_X4_hasRoomFor : Cond.selects RX4 yX4_hasRoomFor yX4_hasRoomFor ∈ wsX7_feed := List.mem_of_getElem? (i := 10) rfl
theorem nt_X7_feed_X4_append_107 : Cond.methodLinkNest RX7 107 yX4_append RX7 ∈ nz_nest := List.mem_of_getElem? (i := 64) rfl
theorem wd_X7_feed_im_X4_append : Cond.instanceMethod yX4_append ∈ wsX7_feed := List.mem_of_getElem? (i := 13) rfl
theorem wd_X7_feed_se_X4_append : Cond.selects RX4 yX4_append yX4_append ∈ wsX7_feed := List.mem_of_getElem? (i := 14) rfl
theorem wd_X7_feed_c106 : Cond.constant RX7 106 (-1000003) ∈ wsX7_feed := List.mem_of_getElem? (i := 3) rfl
theorem wd_X7_feed_c70 : Cond.constant RX7 70 (-1000001) ∈ wsX7_feed := List.mem_of_getElem? (i := 1) rfl
def wp_X7_feed (X : Nat → Nat → Int32) (v1 : Int64) (v3 : Int32) (K : Int32 → (Nat → Nat → Int32) → Prop) : Prop := wX_X7_isAmong v3 1 8 (fun q1 => ((¬ q1 = 0 → wX_X4_hasRoomFor_5 X v3 (fun q3 => ((¬ q3 = 0 → wX_X4_append_5 X v1 v3 (fun q5 X6 => K q5 X6)) ∧ (q3 = 0 → K (-1000003 : Int32) X)))) ∧ (q1 = 0 → K (-1000001 : Int32) X)))
set_option maxHeartbeats 4000000 in
set_option maxRecDepth 100000 in
theorem c_X7_feed (l : Launch) (g : nz_G) (a : Nat → Nat) (X : Nat → Nat → Int32) (v1 : Int64) (v3 : Int32) (K : Int32 → (Nat → Nat → Int32) → Prop) (h : wp_X7_feed X v1 v3 K) : nz_M l yX7_feed wsX7_feed rm_X7_feed g [.ref (a 0), .long v1, .int v3] (nz_wX g a X) (nz_Qi g (nz_wX g a X) (fun r (u : Nat → Nat → Int32) => K r u) (fun u => nz_wX g a u)) := by
  refine nz_M.of (bytes := cX7_feed) (nL := 4) (ret := (some .int)) (own := RX7) (by decide) rfl rfl ⟨rfl, rfl⟩ rfl ?_
  intro y F hl hQ
  obtain ⟨sz, hQ⟩ := hQ
  refine nz_ent (lv' := [(0, .ref (a 0)), (1, .long v1), (3, .int v3)]) rfl ?_
  unfold wp_X7_feed at h
  refine nz_iload_n F dX7_feed_0 rfl 2 rfl ?_
  refine nz_iconst (v := 1) F dX7_feed_1 (by decide) ?_
  refine nz_bipush (v := 8) F dX7_feed_2 (by decide) ?_
  refine kX_X7_isAmong a X v3 1 8 (fun Q hM => nz_runS F gX7_feed_X7_isAmong rfl hd_X7_isAmong.2 rfl hM dX7_feed_4 ([] : List Nat) rfl rfl rfl (Nat.le_of_ble_eq_true rfl) rfl) h (fun q1 h => ?_)
  refine nz_if_ne (tgt := 13) F dX7_feed_7 (by decide) (fun c2 => ?_) (fun c2 => ?_)
  · have h := h.1 c2
    refine nz_aload_n F dX7_feed_13 rfl 0 rfl ?_
    refine nz_get F iw_X7_feed_7 0 (nz_xg0 g a X) rfl 1 (by decide) rfl fl_X7_feed_19 rfl dX7_feed_14 ?_
    refine nz_iload_n F dX7_feed_17 rfl 2 rfl ?_
    refine kX_X4_hasRoomFor_5 a X v3 (fun Q hM => nz_runVN F gX7_feed_X4_hasRoomFor_n103 rfl nt_X7_feed_X4_hasRoomFor_103 wd_X7_feed_in_RX4 wd_X7_feed_im_X4_hasRoomFor wd_X7_feed_se_X4_hasRoomFor hd_X4_hasRoomFor rfl hM dX7_feed_18 (List.range' 5 2) (hC_X4_hasRoomFor_5 g a X) nd_5_2 5 (nz_xg5 g a X) rfl rfl (Nat.le_of_ble_eq_true rfl) rfl) h (fun q3 h => ?_)
    refine nz_if_ne (tgt := 27) F dX7_feed_21 (by decide) (fun c4 => ?_) (fun c4 => ?_)
    · have h := h.1 c4
      refine nz_aload_n F dX7_feed_27 rfl 0 rfl ?_
      refine nz_get F iw_X7_feed_7 0 (nz_xg0 g a X) rfl 1 (by decide) rfl fl_X7_feed_19 rfl dX7_feed_28 ?_
      refine nz_lload_n F dX7_feed_31 rfl 1 rfl ?_
      refine nz_iload_n F dX7_feed_32 rfl 2 rfl ?_
      refine kX_X4_append_5 a X v1 v3 (fun Q hM => nz_runVN F gX7_feed_X4_append_n107 rfl nt_X7_feed_X4_append_107 wd_X7_feed_in_RX4 wd_X7_feed_im_X4_append wd_X7_feed_se_X4_append hd_X4_append rfl hM dX7_feed_33 (List.range' 5 2) (hC_X4_append_5 g a X) nd_5_2 5 (nz_xg5 g a X) rfl rfl (Nat.le_of_ble_eq_true rfl) rfl) h (fun q5 X6 h => ?_)
      exact nz_iret F hQ X6 h rfl dX7_feed_36
    · have h := h.2 c4
      refine nz_ldc (v := (-1000003 : Int32)) F wd_X7_feed_c106 dX7_feed_24 ?_
      exact nz_iret F hQ X h rfl dX7_feed_26
  · have h := h.2 c2
    refine nz_ldc (v := (-1000001 : Int32)) F wd_X7_feed_c70 dX7_feed_10 ?_
    exact nz_iret F hQ X h rfl dX7_feed_12
theorem k_X7_feed {y : nz_Y} {g : nz_G} {k n : Nat} {ws : va_W} {pc : Nat} {ls : List (Nat × Value)} {st rest : List Value} {av : Array Value} {isC : List Nat} {K : Int32 → (Nat → Nat → Int32) → Prop} (a : Nat → Nat) (X : Nat → Nat → Int32) (v1 : Int64) (v3 : Int32) (run : nz_M (yz_l y) yX7_feed wsX7_feed rm_X7_feed g [.ref (a 0), .long v1, .int v3] (nz_wX g a X) (nz_Qi g (nz_wX g a X) (fun r (u : Nat → Nat → Int32) => K r u) (fun u => nz_wX g a u)) → nz_C y g k n ws pc ls st rest (nz_wX g a X) (nz_Qi g (nz_wX g a X) (fun r (u : Nat → Nat → Int32) => K r u) (fun u => nz_wX g a u)) av isC) (h : wp_X7_feed X v1 v3 K) (ws' : (Nat → Nat → Int32) → va_W) (hm : ∀ (m0 : (Nat → Nat → Int32)), nz_mrg ws isC (nz_wX g a m0) = ws' m0) (kk : ∀ (r : Int32) (m0 : (Nat → Nat → Int32)), K r m0 → nz_V y g k n (ws' m0) (pc + 3) ls (.int r :: rest)) : nz_V y g k n ws pc ls st :=
  nz_ci (ws' := fun u => ws' u) (run (c_X7_feed (yz_l y) g a X v1 v3 K h)) (fun _ => rfl) (fun u => hm u) (fun r u h => kk r u h)
theorem dX7_road_0 : decode cX7_road 0 = .ok (.aload_n 0, 1) := by decide +kernel
theorem dX7_road_1 : decode cX7_road 1 = .ok (.getfield 19, 3) := by decide +kernel
theorem dX7_road_4 : decode cX7_road 4 = .ok (.invokevirtual 111, 3) := by decide +kernel
theorem dX7_road_7 : decode cX7_road 7 = .ok (.istore_n 1, 1) := by decide +kernel
theorem dX7_road_8 : decode cX7_road 8 = .ok (.iload_n 1, 1) := by decide +kernel
theorem dX7_road_9 : decode cX7_road 9 = .ok (.ifCond .eq 19, 3) := by decide +kernel
theorem dX7_road_12 : decode cX7_road 12 = .ok (.aload_n 0, 1) := by decide +kernel
theorem dX7_road_13 : decode cX7_road 13 = .ok (.iload_n 1, 1) := by decide +kernel
theorem dX7_road_14 : decode cX7_road 14 = .ok (.putfield 115, 3) := by decide +kernel
theorem dX7_road_17 : decode cX7_road 17 = .ok (.ldc 119, 2) := by decide +kernel
theorem dX7_road_19 : decode cX7_road 19 = .ok (.aload_n 0, 1) := by decide +kernel
theorem dX7_road_20 : decode cX7_road 20 = .ok (.getfield 19, 3) := by decide +kernel
theorem dX7_road_23 : decode cX7_road 23 = .ok (.invokevirtual 120, 3) := by decide +kernel
theorem dX7_road_26 : decode cX7_road 26 = .ok (.isub, 1) := by decide +kernel
theorem dX7_road_27 : decode cX7_road 27 = .ok (.ireturn, 1) := by decide +kernel
theorem dX7_road_28 : decode cX7_road 28 = .ok (.aload_n 0, 1) := by decide +kernel
theorem dX7_road_29 : decode cX7_road 29 = .ok (.getfield 26, 3) := by decide +kernel
theorem dX7_road_32 : decode cX7_road 32 = .ok (.aload_n 0, 1) := by decide +kernel
theorem dX7_road_33 : decode cX7_road 33 = .ok (.getfield 19, 3) := by decide +kernel
theorem dX7_road_36 : decode cX7_road 36 = .ok (.invokevirtual 123, 3) := by decide +kernel
theorem dX7_road_39 : decode cX7_road 39 = .ok (.invokevirtual 127, 3) := by decide +kernel
theorem dX7_road_42 : decode cX7_road 42 = .ok (.aload_n 0, 1) := by decide +kernel
theorem dX7_road_43 : decode cX7_road 43 = .ok (.getfield 37, 3) := by decide +kernel
theorem dX7_road_46 : decode cX7_road 46 = .ok (.invokevirtual 131, 3) := by decide +kernel
theorem dX7_road_49 : decode cX7_road 49 = .ok (.aload_n 0, 1) := by decide +kernel
theorem dX7_road_50 : decode cX7_road 50 = .ok (.getfield 26, 3) := by decide +kernel
theorem dX7_road_53 : decode cX7_road 53 = .ok (.getfield 134, 3) := by decide +kernel
theorem dX7_road_56 : decode cX7_road 56 = .ok (.ireturn, 1) := by decide +kernel
set_option maxRecDepth 20000 in
theorem ggX7_road_X0_clear : GoodIn wsX7_road wsX0_clear := goodIn_r _ [162, 163, 199, 200, 201] rfl (by decide +kernel)
set_option maxRecDepth 20000 in
theorem gX7_road_X0_clear_n131 : GoodIn wsX7_road (wsX0_clear) := ggX7_road_X0_clear
set_option maxRecDepth 20000 in
theorem ggX7_road_X4_place : GoodIn wsX7_road wsX4_place := goodIn_r _ [133, 23, 191, 192, 193, 194, 195, 196, 197, 198] rfl (by decide +kernel)
set_option maxRecDepth 20000 in
theorem gX7_road_X4_place_n120 : GoodIn wsX7_road (wsX4_place) := ggX7_road_X4_place
set_option maxRecDepth 20000 in
theorem ggX7_road_X4_read : GoodIn wsX7_road wsX4_read := goodIn_r _ [9, 10, 11, 12, 13, 14, 15, 16, 17, 18, 19, 20, 21, 7, 22, 23, 24, 25, 26, 27, 28, 29, 30, 31, 32, 33, 34, 35, 36, 37, 38, 39, 40, 41, 42, 43, 44, 45, 46, 47, 48, 49, 50, 51, 52, 53, 54, 55, 56, 57, 58, 59, 60, 61, 62, 63, 64, 65, 66, 67, 68, 69, 70, 71, 72, 73, 74, 75, 76, 77, 78, 79, 80, 81, 82, 83, 84, 85, 86, 87, 88, 89, 90, 91, 92, 93, 94, 95, 96, 97, 98, 99, 100, 101, 102, 103, 104, 105, 106, 107, 108, 109, 110, 111, 112, 113, 114, 115, 116, 117, 118, 119, 120, 121, 122, 123, 124, 125, 126, 127, 128, 129, 130, 191, 192, 193, 194, 195, 196, 197, 198, 174, 175, 176, 177, 178, 179, 180, 181, 182, 183, 184, 185, 186, 187, 188, 189, 190] rfl (by decide +kernel)
set_option maxRecDepth 20000 in
theorem gX7_road_X4_read_n111 : GoodIn wsX7_road (wsX4_read) := ggX7_road_X4_read
set_option maxRecDepth 20000 in
theorem ggX7_road_X4_roadRead : GoodIn wsX7_road wsX4_roadRead := goodIn_r _ [136, 13, 191, 192, 193, 194, 195, 196, 197, 198] rfl (by decide +kernel)
set_option maxRecDepth 20000 in
theorem gX7_road_X4_roadRead_n123 : GoodIn wsX7_road (wsX4_roadRead) := ggX7_road_X4_roadRead
set_option maxRecDepth 20000 in
theorem ggX7_road_X5_become : GoodIn wsX7_road wsX5_become := goodIn_r _ [140, 141, 142, 143, 144, 145, 146, 147, 148, 149, 150, 151, 15, 16, 17, 152, 153, 154, 155, 156, 157, 158, 174, 175, 176, 177, 178, 179, 180, 181, 182, 183, 184, 185, 186, 187, 188, 189, 190] rfl (by decide +kernel)
set_option maxRecDepth 20000 in
theorem gX7_road_X5_become_n127 : GoodIn wsX7_road (wsX5_become) := ggX7_road_X5_become
theorem hd_X0_clear : yX0_clear.cls = RX0 ∧ yX0_clear.cls ≠ "java/lang/invoke/MethodHandle" ∧ yX0_clear.cls ≠ "java/lang/invoke/VarHandle" ∧ (parseMethodDescriptor yX0_clear.desc).map (fun d => d.parameters.length) = some 0 := by decide +kernel
theorem hd_X4_place : yX4_place.cls = RX4 ∧ yX4_place.cls ≠ "java/lang/invoke/MethodHandle" ∧ yX4_place.cls ≠ "java/lang/invoke/VarHandle" ∧ (parseMethodDescriptor yX4_place.desc).map (fun d => d.parameters.length) = some 0 := by decide +kernel
theorem hd_X4_read : yX4_read.cls = RX4 ∧ yX4_read.cls ≠ "java/lang/invoke/MethodHandle" ∧ yX4_read.cls ≠ "java/lang/invoke/VarHandle" ∧ (parseMethodDescriptor yX4_read.desc).map (fun d => d.parameters.length) = some 0 := by decide +kernel
theorem hd_X4_roadRead : yX4_roadRead.cls = RX4 ∧ yX4_roadRead.cls ≠ "java/lang/invoke/MethodHandle" ∧ yX4_roadRead.cls ≠ "java/lang/invoke/VarHandle" ∧ (parseMethodDescriptor yX4_roadRead.desc).map (fun d => d.parameters.length) = some 0 := by decide +kernel
theorem hd_X5_become : yX5_become.cls = RX5 ∧ yX5_become.cls ≠ "java/lang/invoke/MethodHandle" ∧ yX5_become.cls ≠ "java/lang/invoke/VarHandle" ∧ (parseMethodDescriptor yX5_become.desc).map (fun d => d.parameters.length) = some 1 := by decide +kernel
theorem nd_5_11 : va_nd (List.range' 5 11) = true := by decide +kernel
theorem hC_X4_read_5 (g : nz_G) (a : Nat → Nat) (X : Nat → Nat → Int32) : (List.range' 5 11).map (fun i => (nz_wX g a X)[i]?) = (([((a 5), .inr (4, [.ref (a 6), .ref (a 7), .int (X 5 2), .int (X 5 3), .int (X 5 4), .int (X 5 5), .int (X 5 6), .int (X 5 7)])), ((a 6), .inl (nz_cI g, 400, .inl (X 6))), ((a 7), .inr (5, [.int (X 7 0), .int (X 7 1), .int (X 7 2), .int (X 7 3), .int (X 7 4), .int (X 7 5), .int (X 7 6), .int (X 7 7), .int (X 7 8), .ref (a 8), .ref (a 9), .ref (a 10), .ref (a 11), .ref (a 12), .ref (a 13), .ref (a 14), .ref (a 15)])), ((a 8), .inl (nz_cI g, 6, .inl (X 8))), ((a 9), .inl (nz_cI g, 6, .inl (X 9))), ((a 10), .inl (nz_cI g, 6, .inl (X 10))), ((a 11), .inl (nz_cI g, 5, .inl (X 11))), ((a 12), .inl (nz_cI g, 5, .inl (X 12))), ((a 13), .inl (nz_cI g, 5, .inl (X 13))), ((a 14), .inl (nz_cI g, 5, .inl (X 14))), ((a 15), .inl (nz_cI g, 48, .inl (X 15)))] : va_W)).map some := rfl
def wX_X4_read_5 (X : Nat → Nat → Int32) (K : Int32 → (Nat → Nat → Int32) → Prop) : Prop := wp_X4_read (X 5 2) (X 5 3) (X 5 5) (X 5 6) (X 6) (X 8) (X 9) (X 10) (X 11) (X 12) (X 13) (X 14) (fun r m0 m1 m2 m3 m4 m5 m6 m7 m8 m9 m10 m11 m12 m13 m14 m15 m16 m17 m18 m19 m20 m21 => K r (va_up (va_up (va_up (va_up (va_up (va_up (va_up (va_up (va_up X 5 (upd (upd (upd (upd (upd (upd (X 5) 2 m0) 3 m1) 4 m2) 5 m3) 6 m4) 7 m5)) 7 (upd (upd (upd (upd (upd (upd (upd (upd (upd (X 7) 0 m6) 1 m7) 2 m8) 3 m9) 4 m10) 5 m11) 6 m12) 7 m13) 8 m14)) 8 m15) 9 m16) 10 m17) 11 m18) 12 m19) 13 m20) 14 m21))
theorem kX_X4_read_5 {y : nz_Y} {g : nz_G} {k n pc : Nat} {ls : List (Nat × Value)} {st rest : List Value} {av : Array Value} {K : Int32 → (Nat → Nat → Int32) → Prop} (a : Nat → Nat) (X : Nat → Nat → Int32) (run : ∀ Q : Nat → Array Value → State → Outcome → State → Prop, nz_M (yz_l y) yX4_read wsX4_read rm_X4_read g [.ref (a 5)] [((a 5), .inr (4, [.ref (a 6), .ref (a 7), .int (X 5 2), .int (X 5 3), .int (X 5 4), .int (X 5 5), .int (X 5 6), .int (X 5 7)])), ((a 6), .inl (nz_cI g, 400, .inl (X 6))), ((a 7), .inr (5, [.int (X 7 0), .int (X 7 1), .int (X 7 2), .int (X 7 3), .int (X 7 4), .int (X 7 5), .int (X 7 6), .int (X 7 7), .int (X 7 8), .ref (a 8), .ref (a 9), .ref (a 10), .ref (a 11), .ref (a 12), .ref (a 13), .ref (a 14), .ref (a 15)])), ((a 8), .inl (nz_cI g, 6, .inl (X 8))), ((a 9), .inl (nz_cI g, 6, .inl (X 9))), ((a 10), .inl (nz_cI g, 6, .inl (X 10))), ((a 11), .inl (nz_cI g, 5, .inl (X 11))), ((a 12), .inl (nz_cI g, 5, .inl (X 12))), ((a 13), .inl (nz_cI g, 5, .inl (X 13))), ((a 14), .inl (nz_cI g, 5, .inl (X 14))), ((a 15), .inl (nz_cI g, 48, .inl (X 15)))] Q → nz_C y g k n (nz_wX g a X) pc ls st rest [((a 5), .inr (4, [.ref (a 6), .ref (a 7), .int (X 5 2), .int (X 5 3), .int (X 5 4), .int (X 5 5), .int (X 5 6), .int (X 5 7)])), ((a 6), .inl (nz_cI g, 400, .inl (X 6))), ((a 7), .inr (5, [.int (X 7 0), .int (X 7 1), .int (X 7 2), .int (X 7 3), .int (X 7 4), .int (X 7 5), .int (X 7 6), .int (X 7 7), .int (X 7 8), .ref (a 8), .ref (a 9), .ref (a 10), .ref (a 11), .ref (a 12), .ref (a 13), .ref (a 14), .ref (a 15)])), ((a 8), .inl (nz_cI g, 6, .inl (X 8))), ((a 9), .inl (nz_cI g, 6, .inl (X 9))), ((a 10), .inl (nz_cI g, 6, .inl (X 10))), ((a 11), .inl (nz_cI g, 5, .inl (X 11))), ((a 12), .inl (nz_cI g, 5, .inl (X 12))), ((a 13), .inl (nz_cI g, 5, .inl (X 13))), ((a 14), .inl (nz_cI g, 5, .inl (X 14))), ((a 15), .inl (nz_cI g, 48, .inl (X 15)))] Q av (List.range' 5 11)) (h : wX_X4_read_5 X K) (kk : ∀ (r : Int32) (X1 : Nat → Nat → Int32), K r X1 → nz_V y g k n (nz_wX g a X1) (pc + 3) ls (.int r :: rest)) : nz_V y g k n (nz_wX g a X) pc ls st :=
 k_X4_read (a 5) (a 6) (a 7) (a 8) (a 9) (a 10) (a 11) (a 12) (a 13) (a 14) (a 15) (X 5 2) (X 5 3) (X 5 4) (X 5 5) (X 5 6) (X 5 7) (X 6) (X 7 0) (X 7 1) (X 7 2) (X 7 3) (X 7 4) (X 7 5) (X 7 6) (X 7 7) (X 7 8) (X 8) (X 9) (X 10) (X 11) (X 12) (X 13) (X 14) (X 15) (run _) h (fun m0 m1 m2 m3 m4 m5 m6 m7 m8 m9 m10 m11 m12 m13 m14 m15 m16 m17 m18 m19 m20 m21 => nz_wX g a (va_up (va_up (va_up (va_up (va_up (va_up (va_up (va_up (va_up X 5 (upd (upd (upd (upd (upd (upd (X 5) 2 m0) 3 m1) 4 m2) 5 m3) 6 m4) 7 m5)) 7 (upd (upd (upd (upd (upd (upd (upd (upd (upd (X 7) 0 m6) 1 m7) 2 m8) 3 m9) 4 m10) 5 m11) 6 m12) 7 m13) 8 m14)) 8 m15) 9 m16) 10 m17) 11 m18) 12 m19) 13 m20) 14 m21)) (fun m0 m1 m2 m3 m4 m5 m6 m7 m8 m9 m10 m11 m12 m13 m14 m15 m16 m17 m18 m19 m20 m21 => nz_xm (hC_X4_read_5 g a (va_up (va_up (va_up (va_up (va_up (va_up (va_up (va_up (va_up X 5 (upd (upd (upd (upd (upd (upd (X 5) 2 m0) 3 m1) 4 m2) 5 m3) 6 m4) 7 m5)) 7 (upd (upd (upd (upd (upd (upd (upd (upd (upd (X 7) 0 m6) 1 m7) 2 m8) 3 m9) 4 m10) 5 m11) 6 m12) 7 m13) 8 m14)) 8 m15) 9 m16) 10 m17) 11 m18) 12 m19) 13 m20) 14 m21)) (nz_ag.up (nz_ag.up (nz_ag.up (nz_ag.up (nz_ag.up (nz_ag.up (nz_ag.up (nz_ag.up (nz_ag.up nz_ag.refl rfl) rfl) rfl) rfl) rfl) rfl) rfl) rfl) rfl)) (fun r m0 m1 m2 m3 m4 m5 m6 m7 m8 m9 m10 m11 m12 m13 m14 m15 m16 m17 m18 m19 m20 m21 h => kk r (va_up (va_up (va_up (va_up (va_up (va_up (va_up (va_up (va_up X 5 (upd (upd (upd (upd (upd (upd (X 5) 2 m0) 3 m1) 4 m2) 5 m3) 6 m4) 7 m5)) 7 (upd (upd (upd (upd (upd (upd (upd (upd (upd (X 7) 0 m6) 1 m7) 2 m8) 3 m9) 4 m10) 5 m11) 6 m12) 7 m13) 8 m14)) 8 m15) 9 m16) 10 m17) 11 m18) 12 m19) 13 m20) 14 m21) h)
theorem hC_X4_roadRead_5 (g : nz_G) (a : Nat → Nat) (X : Nat → Nat → Int32) : (List.range' 5 2).map (fun i => (nz_wX g a X)[i]?) = (([((a 5), .inr (4, [.ref (a 6), .ref (a 7), .int (X 5 2), .int (X 5 3), .int (X 5 4), .int (X 5 5), .int (X 5 6), .int (X 5 7)])), ((a 6), .inl (nz_cI g, 400, .inl (X 6)))] : va_W)).map some := rfl
def wX_X4_roadRead_5 (K : Prop) : Prop := wp_X4_roadRead K
theorem kX_X4_roadRead_5 {y : nz_Y} {g : nz_G} {k n pc : Nat} {ls : List (Nat × Value)} {st rest : List Value} {av : Array Value} {K : Prop} (a : Nat → Nat) (X : Nat → Nat → Int32) (run : ∀ Q : Nat → Array Value → State → Outcome → State → Prop, nz_M (yz_l y) yX4_roadRead wsX4_roadRead rm_X4_roadRead g [.ref (a 5)] [((a 5), .inr (4, [.ref (a 6), .ref (a 7), .int (X 5 2), .int (X 5 3), .int (X 5 4), .int (X 5 5), .int (X 5 6), .int (X 5 7)])), ((a 6), .inl (nz_cI g, 400, .inl (X 6)))] Q → nz_C y g k n (nz_wX g a X) pc ls st rest [((a 5), .inr (4, [.ref (a 6), .ref (a 7), .int (X 5 2), .int (X 5 3), .int (X 5 4), .int (X 5 5), .int (X 5 6), .int (X 5 7)])), ((a 6), .inl (nz_cI g, 400, .inl (X 6)))] Q av (List.range' 5 2)) (h : wX_X4_roadRead_5 K) (kk : K → nz_V y g k n (nz_wX g a X) (pc + 3) ls (.ref (a 7) :: rest)) : nz_V y g k n (nz_wX g a X) pc ls st :=
 k_X4_roadRead (a 5) (a 6) (a 7) (X 5 2) (X 5 3) (X 5 4) (X 5 5) (X 5 6) (X 5 7) (X 6) (run _) h (nz_wX g a X) (nz_xm (hC_X4_roadRead_5 g a X) nz_ag.refl) kk
theorem nd_16_9_7_9 : va_nd (List.range' 16 9 ++ List.range' 7 9) = true := by decide +kernel
theorem nz_xg16 (g : nz_G) (a : Nat → Nat) (X : Nat → Nat → Int32) : (nz_wX g a X)[16]? = some ((a 16), .inr (5, [.int (X 16 0), .int (X 16 1), .int (X 16 2), .int (X 16 3), .int (X 16 4), .int (X 16 5), .int (X 16 6), .int (X 16 7), .int (X 16 8), .ref (a 17), .ref (a 18), .ref (a 19), .ref (a 20), .ref (a 21), .ref (a 22), .ref (a 23), .ref (a 24)])) := rfl
theorem hC_X5_become_16_7 (g : nz_G) (a : Nat → Nat) (X : Nat → Nat → Int32) : (List.range' 16 9 ++ List.range' 7 9).map (fun i => (nz_wX g a X)[i]?) = (([((a 16), .inr (5, [.int (X 16 0), .int (X 16 1), .int (X 16 2), .int (X 16 3), .int (X 16 4), .int (X 16 5), .int (X 16 6), .int (X 16 7), .int (X 16 8), .ref (a 17), .ref (a 18), .ref (a 19), .ref (a 20), .ref (a 21), .ref (a 22), .ref (a 23), .ref (a 24)])), ((a 17), .inl (nz_cI g, 6, .inl (X 17))), ((a 18), .inl (nz_cI g, 6, .inl (X 18))), ((a 19), .inl (nz_cI g, 6, .inl (X 19))), ((a 20), .inl (nz_cI g, 5, .inl (X 20))), ((a 21), .inl (nz_cI g, 5, .inl (X 21))), ((a 22), .inl (nz_cI g, 5, .inl (X 22))), ((a 23), .inl (nz_cI g, 5, .inl (X 23))), ((a 24), .inl (nz_cI g, 48, .inl (X 24))), ((a 7), .inr (5, [.int (X 7 0), .int (X 7 1), .int (X 7 2), .int (X 7 3), .int (X 7 4), .int (X 7 5), .int (X 7 6), .int (X 7 7), .int (X 7 8), .ref (a 8), .ref (a 9), .ref (a 10), .ref (a 11), .ref (a 12), .ref (a 13), .ref (a 14), .ref (a 15)])), ((a 8), .inl (nz_cI g, 6, .inl (X 8))), ((a 9), .inl (nz_cI g, 6, .inl (X 9))), ((a 10), .inl (nz_cI g, 6, .inl (X 10))), ((a 11), .inl (nz_cI g, 5, .inl (X 11))), ((a 12), .inl (nz_cI g, 5, .inl (X 12))), ((a 13), .inl (nz_cI g, 5, .inl (X 13))), ((a 14), .inl (nz_cI g, 5, .inl (X 14))), ((a 15), .inl (nz_cI g, 48, .inl (X 15)))] : va_W)).map some := rfl
def wX_X5_become_16_7 (X : Nat → Nat → Int32) (K : (Nat → Nat → Int32) → Prop) : Prop := wp_X5_become (X 17) (X 18) (X 19) (X 20) (X 21) (X 22) (X 23) (X 24) (X 7 0) (X 7 1) (X 7 2) (X 7 3) (X 7 4) (X 7 5) (X 7 6) (X 7 7) (X 7 8) (X 8) (X 9) (X 10) (X 11) (X 12) (X 13) (X 14) (X 15) (fun m0 m1 m2 m3 m4 m5 m6 m7 m8 m9 m10 m11 m12 m13 m14 m15 m16 => K (va_up (va_up (va_up (va_up (va_up (va_up (va_up (va_up (va_up X 16 (upd (upd (upd (upd (upd (upd (upd (upd (upd (X 16) 0 m0) 1 m1) 2 m2) 3 m3) 4 m4) 5 m5) 6 m6) 7 m7) 8 m8)) 17 m9) 18 m10) 19 m11) 20 m12) 21 m13) 22 m14) 23 m15) 24 m16))
theorem kX_X5_become_16_7 {y : nz_Y} {g : nz_G} {k n pc : Nat} {ls : List (Nat × Value)} {st rest : List Value} {av : Array Value} {K : (Nat → Nat → Int32) → Prop} (a : Nat → Nat) (X : Nat → Nat → Int32) (run : ∀ Q : Nat → Array Value → State → Outcome → State → Prop, nz_M (yz_l y) yX5_become wsX5_become rm_X5_become g [.ref (a 16), .ref (a 7)] [((a 16), .inr (5, [.int (X 16 0), .int (X 16 1), .int (X 16 2), .int (X 16 3), .int (X 16 4), .int (X 16 5), .int (X 16 6), .int (X 16 7), .int (X 16 8), .ref (a 17), .ref (a 18), .ref (a 19), .ref (a 20), .ref (a 21), .ref (a 22), .ref (a 23), .ref (a 24)])), ((a 17), .inl (nz_cI g, 6, .inl (X 17))), ((a 18), .inl (nz_cI g, 6, .inl (X 18))), ((a 19), .inl (nz_cI g, 6, .inl (X 19))), ((a 20), .inl (nz_cI g, 5, .inl (X 20))), ((a 21), .inl (nz_cI g, 5, .inl (X 21))), ((a 22), .inl (nz_cI g, 5, .inl (X 22))), ((a 23), .inl (nz_cI g, 5, .inl (X 23))), ((a 24), .inl (nz_cI g, 48, .inl (X 24))), ((a 7), .inr (5, [.int (X 7 0), .int (X 7 1), .int (X 7 2), .int (X 7 3), .int (X 7 4), .int (X 7 5), .int (X 7 6), .int (X 7 7), .int (X 7 8), .ref (a 8), .ref (a 9), .ref (a 10), .ref (a 11), .ref (a 12), .ref (a 13), .ref (a 14), .ref (a 15)])), ((a 8), .inl (nz_cI g, 6, .inl (X 8))), ((a 9), .inl (nz_cI g, 6, .inl (X 9))), ((a 10), .inl (nz_cI g, 6, .inl (X 10))), ((a 11), .inl (nz_cI g, 5, .inl (X 11))), ((a 12), .inl (nz_cI g, 5, .inl (X 12))), ((a 13), .inl (nz_cI g, 5, .inl (X 13))), ((a 14), .inl (nz_cI g, 5, .inl (X 14))), ((a 15), .inl (nz_cI g, 48, .inl (X 15)))] Q → nz_C y g k n (nz_wX g a X) pc ls st rest [((a 16), .inr (5, [.int (X 16 0), .int (X 16 1), .int (X 16 2), .int (X 16 3), .int (X 16 4), .int (X 16 5), .int (X 16 6), .int (X 16 7), .int (X 16 8), .ref (a 17), .ref (a 18), .ref (a 19), .ref (a 20), .ref (a 21), .ref (a 22), .ref (a 23), .ref (a 24)])), ((a 17), .inl (nz_cI g, 6, .inl (X 17))), ((a 18), .inl (nz_cI g, 6, .inl (X 18))), ((a 19), .inl (nz_cI g, 6, .inl (X 19))), ((a 20), .inl (nz_cI g, 5, .inl (X 20))), ((a 21), .inl (nz_cI g, 5, .inl (X 21))), ((a 22), .inl (nz_cI g, 5, .inl (X 22))), ((a 23), .inl (nz_cI g, 5, .inl (X 23))), ((a 24), .inl (nz_cI g, 48, .inl (X 24))), ((a 7), .inr (5, [.int (X 7 0), .int (X 7 1), .int (X 7 2), .int (X 7 3), .int (X 7 4), .int (X 7 5), .int (X 7 6), .int (X 7 7), .int (X 7 8), .ref (a 8), .ref (a 9), .ref (a 10), .ref (a 11), .ref (a 12), .ref (a 13), .ref (a 14), .ref (a 15)])), ((a 8), .inl (nz_cI g, 6, .inl (X 8))), ((a 9), .inl (nz_cI g, 6, .inl (X 9))), ((a 10), .inl (nz_cI g, 6, .inl (X 10))), ((a 11), .inl (nz_cI g, 5, .inl (X 11))), ((a 12), .inl (nz_cI g, 5, .inl (X 12))), ((a 13), .inl (nz_cI g, 5, .inl (X 13))), ((a 14), .inl (nz_cI g, 5, .inl (X 14))), ((a 15), .inl (nz_cI g, 48, .inl (X 15)))] Q av (List.range' 16 9 ++ List.range' 7 9)) (h : wX_X5_become_16_7 X K) (kk : ∀ (X1 : Nat → Nat → Int32), K X1 → nz_V y g k n (nz_wX g a X1) (pc + 3) ls (rest)) : nz_V y g k n (nz_wX g a X) pc ls st :=
 k_X5_become (a 16) (a 17) (a 18) (a 19) (a 20) (a 21) (a 22) (a 23) (a 24) (a 7) (a 8) (a 9) (a 10) (a 11) (a 12) (a 13) (a 14) (a 15) (X 16 0) (X 16 1) (X 16 2) (X 16 3) (X 16 4) (X 16 5) (X 16 6) (X 16 7) (X 16 8) (X 17) (X 18) (X 19) (X 20) (X 21) (X 22) (X 23) (X 24) (X 7 0) (X 7 1) (X 7 2) (X 7 3) (X 7 4) (X 7 5) (X 7 6) (X 7 7) (X 7 8) (X 8) (X 9) (X 10) (X 11) (X 12) (X 13) (X 14) (X 15) (run _) h (fun m0 m1 m2 m3 m4 m5 m6 m7 m8 m9 m10 m11 m12 m13 m14 m15 m16 => nz_wX g a (va_up (va_up (va_up (va_up (va_up (va_up (va_up (va_up (va_up X 16 (upd (upd (upd (upd (upd (upd (upd (upd (upd (X 16) 0 m0) 1 m1) 2 m2) 3 m3) 4 m4) 5 m5) 6 m6) 7 m7) 8 m8)) 17 m9) 18 m10) 19 m11) 20 m12) 21 m13) 22 m14) 23 m15) 24 m16)) (fun m0 m1 m2 m3 m4 m5 m6 m7 m8 m9 m10 m11 m12 m13 m14 m15 m16 => nz_xm (hC_X5_become_16_7 g a (va_up (va_up (va_up (va_up (va_up (va_up (va_up (va_up (va_up X 16 (upd (upd (upd (upd (upd (upd (upd (upd (upd (X 16) 0 m0) 1 m1) 2 m2) 3 m3) 4 m4) 5 m5) 6 m6) 7 m7) 8 m8)) 17 m9) 18 m10) 19 m11) 20 m12) 21 m13) 22 m14) 23 m15) 24 m16)) (nz_ag.up (nz_ag.up (nz_ag.up (nz_ag.up (nz_ag.up (nz_ag.up (nz_ag.up (nz_ag.up (nz_ag.up nz_ag.refl rfl) rfl) rfl) rfl) rfl) rfl) rfl) rfl) rfl)) (fun m0 m1 m2 m3 m4 m5 m6 m7 m8 m9 m10 m11 m12 m13 m14 m15 m16 h => kk (va_up (va_up (va_up (va_up (va_up (va_up (va_up (va_up (va_up X 16 (upd (upd (upd (upd (upd (upd (upd (upd (upd (X 16) 0 m0) 1 m1) 2 m2) 3 m3) 4 m4) 5 m5) 6 m6) 7 m7) 8 m8)) 17 m9) 18 m10) 19 m11) 20 m12) 21 m13) 22 m14) 23 m15) 24 m16) h)
theorem nd_44_3 : va_nd (List.range' 44 3) = true := by decide +kernel
theorem nz_xg44 (g : nz_G) (a : Nat → Nat) (X : Nat → Nat → Int32) : (nz_wX g a X)[44]? = some ((a 44), .inr (0, [.ref (a 45), .ref (a 46), .int (X 44 2)])) := rfl
theorem hC_X0_clear_44 (g : nz_G) (a : Nat → Nat) (X : Nat → Nat → Int32) : (List.range' 44 3).map (fun i => (nz_wX g a X)[i]?) = (([((a 44), .inr (0, [.ref (a 45), .ref (a 46), .int (X 44 2)])), ((a 45), .inl (nz_cI g, 144, .inl (X 45))), ((a 46), .inl (nz_cI g, 24, .inl (X 46)))] : va_W)).map some := rfl
def wX_X0_clear_44 (X : Nat → Nat → Int32) (K : (Nat → Nat → Int32) → Prop) : Prop := wp_X0_clear (fun m0 => K (va_up X 44 (upd (X 44) 2 m0)))
theorem kX_X0_clear_44 {y : nz_Y} {g : nz_G} {k n pc : Nat} {ls : List (Nat × Value)} {st rest : List Value} {av : Array Value} {K : (Nat → Nat → Int32) → Prop} (a : Nat → Nat) (X : Nat → Nat → Int32) (run : ∀ Q : Nat → Array Value → State → Outcome → State → Prop, nz_M (yz_l y) yX0_clear wsX0_clear rm_X0_clear g [.ref (a 44)] [((a 44), .inr (0, [.ref (a 45), .ref (a 46), .int (X 44 2)])), ((a 45), .inl (nz_cI g, 144, .inl (X 45))), ((a 46), .inl (nz_cI g, 24, .inl (X 46)))] Q → nz_C y g k n (nz_wX g a X) pc ls st rest [((a 44), .inr (0, [.ref (a 45), .ref (a 46), .int (X 44 2)])), ((a 45), .inl (nz_cI g, 144, .inl (X 45))), ((a 46), .inl (nz_cI g, 24, .inl (X 46)))] Q av (List.range' 44 3)) (h : wX_X0_clear_44 X K) (kk : ∀ (X1 : Nat → Nat → Int32), K X1 → nz_V y g k n (nz_wX g a X1) (pc + 3) ls (rest)) : nz_V y g k n (nz_wX g a X) pc ls st :=
 k_X0_clear (a 44) (a 45) (a 46) (X 44 2) (X 45) (X 46) (run _) h (fun m0 => nz_wX g a (va_up X 44 (upd (X 44) 2 m0))) (fun m0 => nz_xm (hC_X0_clear_44 g a (va_up X 44 (upd (X 44) 2 m0))) (nz_ag.up nz_ag.refl rfl)) (fun m0 h => kk (va_up X 44 (upd (X 44) 2 m0)) h)
theorem hC_X4_place_5 (g : nz_G) (a : Nat → Nat) (X : Nat → Nat → Int32) : (List.range' 5 2).map (fun i => (nz_wX g a X)[i]?) = (([((a 5), .inr (4, [.ref (a 6), .ref (a 7), .int (X 5 2), .int (X 5 3), .int (X 5 4), .int (X 5 5), .int (X 5 6), .int (X 5 7)])), ((a 6), .inl (nz_cI g, 400, .inl (X 6)))] : va_W)).map some := rfl
def wX_X4_place_5 (X : Nat → Nat → Int32) (K : Int32 → Prop) : Prop := wp_X4_place (X 5 3) (fun r => K r)
theorem kX_X4_place_5 {y : nz_Y} {g : nz_G} {k n pc : Nat} {ls : List (Nat × Value)} {st rest : List Value} {av : Array Value} {K : Int32 → Prop} (a : Nat → Nat) (X : Nat → Nat → Int32) (run : ∀ Q : Nat → Array Value → State → Outcome → State → Prop, nz_M (yz_l y) yX4_place wsX4_place rm_X4_place g [.ref (a 5)] [((a 5), .inr (4, [.ref (a 6), .ref (a 7), .int (X 5 2), .int (X 5 3), .int (X 5 4), .int (X 5 5), .int (X 5 6), .int (X 5 7)])), ((a 6), .inl (nz_cI g, 400, .inl (X 6)))] Q → nz_C y g k n (nz_wX g a X) pc ls st rest [((a 5), .inr (4, [.ref (a 6), .ref (a 7), .int (X 5 2), .int (X 5 3), .int (X 5 4), .int (X 5 5), .int (X 5 6), .int (X 5 7)])), ((a 6), .inl (nz_cI g, 400, .inl (X 6)))] Q av (List.range' 5 2)) (h : wX_X4_place_5 X K) (kk : ∀ (r : Int32), K r → nz_V y g k n (nz_wX g a X) (pc + 3) ls (.int r :: rest)) : nz_V y g k n (nz_wX g a X) pc ls st :=
 k_X4_place (a 5) (a 6) (a 7) (X 5 2) (X 5 3) (X 5 4) (X 5 5) (X 5 6) (X 5 7) (X 6) (run _) h (nz_wX g a X) (nz_xm (hC_X4_place_5 g a X) nz_ag.refl) (fun r h => kk r h)
/-! X7_road -/
abbrev rm_X7_road : Room := { frames := 9, cells := 0, slots := 0, locals := 189 }
theorem iw_X7_road_7 : ∀ w ∈ wsX70, w ∈ wsX7_road := fun _ h => List.mem_cons_of_mem _ (List.mem_append_left _ (List.mem_append_left _ (List.mem_append_left _ (List.mem_append_right _ h))))
theorem iw_X7_road_5 : ∀ w ∈ wsX50, w ∈ wsX7_road := fun _ h => List.mem_cons_of_mem _ (List.mem_append_left _ (List.mem_append_left _ (List.mem_append_right _ h)))
theorem fl_X7_road_19 : Cond.fieldLink RX7 19 "NightStones" "reader" "LNightStones$Reader;" ∈ wsX7_road := List.mem_of_getElem? (i := 1) rfl
theorem nt_X7_road_X4_read_111 : Cond.methodLinkNest RX7 111 yX4_read RX7 ∈ nz_nest := List.mem_of_getElem? (i := 65) rfl
theorem wd_X7_road_in_RX4 : Cond.initialized RX4 ∈ wsX7_road := List.mem_of_getElem? (i := 7) rfl
theorem wd_X7_road_im_X4_read : Cond.instanceMethod yX4_read ∈ wsX7_road := List.mem_of_getElem? (i := 6) rfl
theorem wd_X7_road_se_X4_read : Cond.selects RX4 yX4_read yX4_read ∈ wsX7_road := List.mem_of_getElem? (i := 8) rfl
theorem fl_X7_road_26 : Cond.fieldLink RX7 26 "NightStones" "now" "LNightStones$Road;" ∈ wsX7_road := List.mem_of_getElem? (i := 4) rfl
theorem nt_X7_road_X4_roadRead_123 : Cond.methodLinkNest RX7 123 yX4_roadRead RX7 ∈ nz_nest := List.mem_of_getElem? (i := 67) rfl
theorem wd_X7_road_im_X4_roadRead : Cond.instanceMethod yX4_roadRead ∈ wsX7_road := List.mem_of_getElem? (i := 134) rfl
theorem wd_X7_road_se_X4_roadRead : Cond.selects RX4 yX4_roadRead yX4_roadRead ∈ wsX7_road := List.mem_of_getElem? (i := 135) rfl
theorem nt_X7_road_X5_become_127 : Cond.methodLinkNest RX7 127 yX5_become RX7 ∈ nz_nest := List.mem_of_getElem? (i := 68) rfl
theorem wd_X7_road_in_RX5 : Cond.initialized RX5 ∈ wsX7_road := List.mem_of_getElem? (i := 138) rfl
theorem wd_X7_road_im_X5_become : Cond.instanceMethod yX5_become ∈ wsX7_road := List.mem_of_getElem? (i := 137) rfl
theorem wd_X7_road_se_X5_become : Cond.selects RX5 yX5_become yX5_become ∈ wsX7_road := List.mem_of_getElem? (i := 139) rfl
theorem fl_X7_road_37 : Cond.fieldLink RX7 37 "NightStones" "acts" "LNightStones$Acts;" ∈ wsX7_road := List.mem_of_getElem? (i := 5) rfl
theorem nt_X7_road_X0_clear_131 : Cond.methodLinkNest RX7 131 yX0_clear RX7 ∈ nz_nest := List.mem_of_getElem? (i := 69) rfl
theorem wd_X7_road_in_RX0 : Cond.initialized RX0 ∈ wsX7_road := List.mem_of_getElem? (i := 160) rfl
theorem wd_X7_road_im_X0_clear : Cond.instanceMethod yX0_clear ∈ wsX7_road := List.mem_of_getElem? (i := 159) rfl
theorem wd_X7_road_se_X0_clear : Cond.selects RX0 yX0_clear yX0_clear ∈ wsX7_road := List.mem_of_getElem? (i := 161) rfl
theorem fn_X7_road_134 : Cond.fieldLinkNest RX7 134 "NightStones$Road" "stones" "I" RX7 ∈ nz_nest := List.mem_of_getElem? (i := 20) rfl
theorem fl_X7_road_115 : Cond.fieldLink RX7 115 "NightStones" "latestFault" "I" ∈ wsX7_road := List.mem_of_getElem? (i := 2) rfl
theorem wd_X7_road_c119 : Cond.constant RX7 119 (-1000100) ∈ wsX7_road := List.mem_of_getElem? (i := 3) rfl
theorem nt_X7_road_X4_place_120 : Cond.methodLinkNest RX7 120 yX4_place RX7 ∈ nz_nest := List.mem_of_getElem? (i := 66) rfl
theorem wd_X7_road_im_X4_place : Cond.instanceMethod yX4_place ∈ wsX7_road := List.mem_of_getElem? (i := 131) rfl
theorem wd_X7_road_se_X4_place : Cond.selects RX4 yX4_place yX4_place ∈ wsX7_road := List.mem_of_getElem? (i := 132) rfl
def wp_X7_road (X : Nat → Nat → Int32) (K : Int32 → (Nat → Nat → Int32) → Prop) : Prop := wX_X4_read_5 X (fun q1 X2 => ((q1 = 0 → wX_X4_roadRead_5 (wX_X5_become_16_7 X2 (fun X4 => wX_X0_clear_44 X4 (fun X5 => K (X5 16 6) X5)))) ∧ (¬ (q1 = 0) → wX_X4_place_5 (va_up X2 0 (upd (X2 0) 8 q1)) (fun q6 => K ((-1000100 : Int32) - q6) (va_up X2 0 (upd (X2 0) 8 q1))))))
set_option maxHeartbeats 4000000 in
set_option maxRecDepth 100000 in
theorem c_X7_road (l : Launch) (g : nz_G) (a : Nat → Nat) (X : Nat → Nat → Int32) (K : Int32 → (Nat → Nat → Int32) → Prop) (h : wp_X7_road X K) : nz_M l yX7_road wsX7_road rm_X7_road g [.ref (a 0)] (nz_wX g a X) (nz_Qi g (nz_wX g a X) (fun r (u : Nat → Nat → Int32) => K r u) (fun u => nz_wX g a u)) := by
  refine nz_M.of (bytes := cX7_road) (nL := 2) (ret := (some .int)) (own := RX7) (by decide) rfl rfl ⟨rfl, rfl⟩ rfl ?_
  intro y F hl hQ
  obtain ⟨sz, hQ⟩ := hQ
  refine nz_ent (lv' := [(0, .ref (a 0))]) rfl ?_
  unfold wp_X7_road at h
  refine nz_aload_n F dX7_road_0 rfl 0 rfl ?_
  refine nz_get F iw_X7_road_7 0 (nz_xg0 g a X) rfl 1 (by decide) rfl fl_X7_road_19 rfl dX7_road_1 ?_
  refine kX_X4_read_5 a X (fun Q hM => nz_runVN F gX7_road_X4_read_n111 rfl nt_X7_road_X4_read_111 wd_X7_road_in_RX4 wd_X7_road_im_X4_read wd_X7_road_se_X4_read hd_X4_read rfl hM dX7_road_4 (List.range' 5 11) (hC_X4_read_5 g a X) nd_5_11 5 (nz_xg5 g a X) rfl rfl (Nat.le_of_ble_eq_true rfl) rfl) h (fun q1 X2 h => ?_)
  refine nz_istore_n (lv' := [(1, .int q1), (0, .ref (a 0))]) F dX7_road_7 rfl (by decide) rfl ?_
  refine nz_iload_n F dX7_road_8 rfl 0 rfl ?_
  refine nz_if_eq (tgt := 28) F dX7_road_9 (by decide) (fun c3 => ?_) (fun c3 => ?_)
  · have h := h.1 c3
    refine nz_aload_n F dX7_road_28 rfl 1 rfl ?_
    refine nz_get F iw_X7_road_7 0 (nz_xg0 g a X2) rfl 2 (by decide) rfl fl_X7_road_26 rfl dX7_road_29 ?_
    refine nz_aload_n F dX7_road_32 rfl 1 rfl ?_
    refine nz_get F iw_X7_road_7 0 (nz_xg0 g a X2) rfl 1 (by decide) rfl fl_X7_road_19 rfl dX7_road_33 ?_
    refine kX_X4_roadRead_5 a X2 (fun Q hM => nz_runVN F gX7_road_X4_roadRead_n123 rfl nt_X7_road_X4_roadRead_123 wd_X7_road_in_RX4 wd_X7_road_im_X4_roadRead wd_X7_road_se_X4_roadRead hd_X4_roadRead rfl hM dX7_road_36 (List.range' 5 2) (hC_X4_roadRead_5 g a X2) nd_5_2 5 (nz_xg5 g a X2) rfl rfl (Nat.le_of_ble_eq_true rfl) rfl) h (fun h => ?_)
    refine kX_X5_become_16_7 a X2 (fun Q hM => nz_runVN F gX7_road_X5_become_n127 rfl nt_X7_road_X5_become_127 wd_X7_road_in_RX5 wd_X7_road_im_X5_become wd_X7_road_se_X5_become hd_X5_become rfl hM dX7_road_39 (List.range' 16 9 ++ List.range' 7 9) (hC_X5_become_16_7 g a X2) nd_16_9_7_9 16 (nz_xg16 g a X2) rfl rfl (Nat.le_of_ble_eq_true rfl) rfl) h (fun X4 h => ?_)
    refine nz_aload_n F dX7_road_42 rfl 1 rfl ?_
    refine nz_get F iw_X7_road_7 0 (nz_xg0 g a X4) rfl 4 (by decide) rfl fl_X7_road_37 rfl dX7_road_43 ?_
    refine kX_X0_clear_44 a X4 (fun Q hM => nz_runVN F gX7_road_X0_clear_n131 rfl nt_X7_road_X0_clear_131 wd_X7_road_in_RX0 wd_X7_road_im_X0_clear wd_X7_road_se_X0_clear hd_X0_clear rfl hM dX7_road_46 (List.range' 44 3) (hC_X0_clear_44 g a X4) nd_44_3 44 (nz_xg44 g a X4) rfl rfl (Nat.le_of_ble_eq_true rfl) rfl) h (fun X5 h => ?_)
    refine nz_aload_n F dX7_road_49 rfl 1 rfl ?_
    refine nz_get F iw_X7_road_7 0 (nz_xg0 g a X5) rfl 2 (by decide) rfl fl_X7_road_26 rfl dX7_road_50 ?_
    refine nz_getN F iw_X7_road_5 16 (nz_xg16 g a X5) rfl 6 (by decide) rfl fn_X7_road_134 rfl dX7_road_53 ?_
    exact nz_iret F hQ X5 h rfl dX7_road_56
  · have h := h.2 c3
    refine nz_aload_n F dX7_road_12 rfl 1 rfl ?_
    refine nz_iload_n F dX7_road_13 rfl 0 rfl ?_
    refine nz_put (ws' := (nz_wX g a (va_up X2 0 (upd (X2 0) 8 q1)))) F iw_X7_road_7 tyX7 tyX7_ok nmX7 0 (nz_xg0 g a X2) rfl 8 (by decide) rfl fl_X7_road_115 rfl rfl (Nat.le_of_ble_eq_true rfl) dX7_road_14 (nz_xput (nz_xg0 g a (va_up X2 0 (upd (X2 0) 8 q1)))) ?_
    refine nz_ldc (v := (-1000100 : Int32)) F wd_X7_road_c119 dX7_road_17 ?_
    refine nz_aload_n F dX7_road_19 rfl 1 rfl ?_
    refine nz_get F iw_X7_road_7 0 (nz_xg0 g a (va_up X2 0 (upd (X2 0) 8 q1))) rfl 1 (by decide) rfl fl_X7_road_19 rfl dX7_road_20 ?_
    refine kX_X4_place_5 a (va_up X2 0 (upd (X2 0) 8 q1)) (fun Q hM => nz_runVN F gX7_road_X4_place_n120 rfl nt_X7_road_X4_place_120 wd_X7_road_in_RX4 wd_X7_road_im_X4_place wd_X7_road_se_X4_place hd_X4_place rfl hM dX7_road_23 (List.range' 5 2) (hC_X4_place_5 g a (va_up X2 0 (upd (X2 0) 8 q1))) nd_5_2 5 (nz_xg5 g a (va_up X2 0 (upd (X2 0) 8 q1))) rfl rfl (Nat.le_of_ble_eq_true rfl) rfl) h (fun q6 h => ?_)
    refine nz_isub F dX7_road_26 ?_
    exact nz_iret F hQ (va_up X2 0 (upd (X2 0) 8 q1)) h rfl dX7_road_27
theorem k_X7_road {y : nz_Y} {g : nz_G} {k n : Nat} {ws : va_W} {pc : Nat} {ls : List (Nat × Value)} {st rest : List Value} {av : Array Value} {isC : List Nat} {K : Int32 → (Nat → Nat → Int32) → Prop} (a : Nat → Nat) (X : Nat → Nat → Int32) (run : nz_M (yz_l y) yX7_road wsX7_road rm_X7_road g [.ref (a 0)] (nz_wX g a X) (nz_Qi g (nz_wX g a X) (fun r (u : Nat → Nat → Int32) => K r u) (fun u => nz_wX g a u)) → nz_C y g k n ws pc ls st rest (nz_wX g a X) (nz_Qi g (nz_wX g a X) (fun r (u : Nat → Nat → Int32) => K r u) (fun u => nz_wX g a u)) av isC) (h : wp_X7_road X K) (ws' : (Nat → Nat → Int32) → va_W) (hm : ∀ (m0 : (Nat → Nat → Int32)), nz_mrg ws isC (nz_wX g a m0) = ws' m0) (kk : ∀ (r : Int32) (m0 : (Nat → Nat → Int32)), K r m0 → nz_V y g k n (ws' m0) (pc + 3) ls (.int r :: rest)) : nz_V y g k n ws pc ls st :=
  nz_ci (ws' := fun u => ws' u) (run (c_X7_road (yz_l y) g a X K h)) (fun _ => rfl) (fun u => hm u) (fun r u h => kk r u h)
