theorem dX7_row_0 : decode cX7_row 0 = .ok (.iload_n 1, 1) := by decide +kernel
theorem dX7_row_1 : decode cX7_row 1 = .ok (.invokestatic 62, 3) := by decide +kernel
theorem dX7_row_4 : decode cX7_row 4 = .ok (.ifCond .eq 18, 3) := by decide +kernel
theorem dX7_row_7 : decode cX7_row 7 = .ok (.iload_n 2, 1) := by decide +kernel
theorem dX7_row_8 : decode cX7_row 8 = .ok (.iconst 0, 1) := by decide +kernel
theorem dX7_row_9 : decode cX7_row 9 = .ok (.iconst 2, 1) := by decide +kernel
theorem dX7_row_10 : decode cX7_row 10 = .ok (.invokestatic 66, 3) := by decide +kernel
theorem dX7_row_13 : decode cX7_row 13 = .ok (.ifCond .eq 9, 3) := by decide +kernel
theorem dX7_row_16 : decode cX7_row 16 = .ok (.iload_n 3, 1) := by decide +kernel
theorem dX7_row_17 : decode cX7_row 17 = .ok (.bipush 40, 2) := by decide +kernel
theorem dX7_row_19 : decode cX7_row 19 = .ok (.if_icmp .le 6, 3) := by decide +kernel
theorem dX7_row_22 : decode cX7_row 22 = .ok (.ldc 70, 2) := by decide +kernel
theorem dX7_row_24 : decode cX7_row 24 = .ok (.ireturn, 1) := by decide +kernel
theorem dX7_row_25 : decode cX7_row 25 = .ok (.iload_n 3, 1) := by decide +kernel
theorem dX7_row_26 : decode cX7_row 26 = .ok (.ifCond .ge 9, 3) := by decide +kernel
theorem dX7_row_29 : decode cX7_row 29 = .ok (.aload_n 0, 1) := by decide +kernel
theorem dX7_row_30 : decode cX7_row 30 = .ok (.iconst 4, 1) := by decide +kernel
theorem dX7_row_31 : decode cX7_row 31 = .ok (.invokevirtual 71, 3) := by decide +kernel
theorem dX7_row_34 : decode cX7_row 34 = .ok (.ireturn, 1) := by decide +kernel
theorem dX7_row_35 : decode cX7_row 35 = .ok (.aload_n 0, 1) := by decide +kernel
theorem dX7_row_36 : decode cX7_row 36 = .ok (.getfield 10, 3) := by decide +kernel
theorem dX7_row_39 : decode cX7_row 39 = .ok (.iload_n 1, 1) := by decide +kernel
theorem dX7_row_40 : decode cX7_row 40 = .ok (.iload_n 2, 1) := by decide +kernel
theorem dX7_row_41 : decode cX7_row 41 = .ok (.iload_n 3, 1) := by decide +kernel
theorem dX7_row_42 : decode cX7_row 42 = .ok (.invokevirtual 75, 3) := by decide +kernel
theorem dX7_row_45 : decode cX7_row 45 = .ok (.aload_n 0, 1) := by decide +kernel
theorem dX7_row_46 : decode cX7_row 46 = .ok (.iload_n 3, 1) := by decide +kernel
theorem dX7_row_47 : decode cX7_row 47 = .ok (.invokevirtual 79, 3) := by decide +kernel
theorem dX7_row_50 : decode cX7_row 50 = .ok (.ireturn, 1) := by decide +kernel
set_option maxRecDepth 20000 in
theorem ggX7_row_X6_isRow : GoodIn wsX7_row wsX6_isRow := goodIn_r _ [5] rfl (by decide +kernel)
set_option maxRecDepth 20000 in
theorem gX7_row_X6_isRow_n62 : GoodIn wsX7_row (wsX6_isRow) := ggX7_row_X6_isRow
set_option maxRecDepth 20000 in
theorem ggX7_row_X6_make : GoodIn wsX7_row wsX6_make := goodIn_r _ [18, 19, 20, 21, 22, 23, 24, 25, 40, 41, 42] rfl (by decide +kernel)
set_option maxRecDepth 20000 in
theorem gX7_row_X6_make_n75 : GoodIn wsX7_row (wsX6_make) := ggX7_row_X6_make
set_option maxRecDepth 20000 in
theorem ggX7_row_X7_found : GoodIn wsX7_row wsX7_found := goodIn_r _ [13, 14, 15, 30, 31, 32, 33, 34, 35, 36, 37, 38, 39] rfl (by decide +kernel)
set_option maxRecDepth 20000 in
theorem gX7_row_X7_found : GoodIn wsX7_row (wsV RX7 71 RX7 yX7_found wsX7_found) := goodIn_app (goodIn_r _ [10, 11, 12, 8] rfl (by decide +kernel)) ggX7_row_X7_found
set_option maxRecDepth 20000 in
theorem ggX7_row_X7_isAmong : GoodIn wsX7_row wsX7_isAmong := goodIn_r _ [9] rfl (by decide +kernel)
set_option maxRecDepth 20000 in
theorem gX7_row_X7_isAmong : GoodIn wsX7_row (va_wsS RX7 66 yX7_isAmong wsX7_isAmong) := goodIn_app (goodIn_r _ [6, 7, 8] rfl (by decide +kernel)) ggX7_row_X7_isAmong
set_option maxRecDepth 20000 in
theorem ggX7_row_X7_well : GoodIn wsX7_row wsX7_well := goodIn_r _ [29, 14, 30, 31, 32, 33, 34, 35, 36, 37, 38, 39] rfl (by decide +kernel)
set_option maxRecDepth 20000 in
theorem gX7_row_X7_well : GoodIn wsX7_row (wsV RX7 79 RX7 yX7_well wsX7_well) := goodIn_app (goodIn_r _ [26, 27, 28, 8] rfl (by decide +kernel)) ggX7_row_X7_well
theorem hd_X6_isRow : yX6_isRow.cls = RX6 ∧ yX6_isRow.cls ≠ "java/lang/invoke/MethodHandle" ∧ yX6_isRow.cls ≠ "java/lang/invoke/VarHandle" ∧ (parseMethodDescriptor yX6_isRow.desc).map (fun d => d.parameters.length) = some 1 := by decide +kernel
theorem hd_X6_make : yX6_make.cls = RX6 ∧ yX6_make.cls ≠ "java/lang/invoke/MethodHandle" ∧ yX6_make.cls ≠ "java/lang/invoke/VarHandle" ∧ (parseMethodDescriptor yX6_make.desc).map (fun d => d.parameters.length) = some 3 := by decide +kernel
theorem hd_X7_found : yX7_found.cls = RX7 ∧ yX7_found.cls ≠ "java/lang/invoke/MethodHandle" ∧ yX7_found.cls ≠ "java/lang/invoke/VarHandle" ∧ (parseMethodDescriptor yX7_found.desc).map (fun d => d.parameters.length) = some 1 := by decide +kernel
theorem hd_X7_well : yX7_well.cls = RX7 ∧ yX7_well.cls ≠ "java/lang/invoke/MethodHandle" ∧ yX7_well.cls ≠ "java/lang/invoke/VarHandle" ∧ (parseMethodDescriptor yX7_well.desc).map (fun d => d.parameters.length) = some 1 := by decide +kernel
def wX_X6_isRow (v0 : Int32) (K : Int32 → Prop) : Prop := wp_X6_isRow v0 (fun r => K r)
theorem kX_X6_isRow {y : nz_Y} {g : nz_G} {k n pc : Nat} {ls : List (Nat × Value)} {st rest : List Value} {av : Array Value} {K : Int32 → Prop} (a : Nat → Nat) (X : Nat → Nat → Int32) (v0 : Int32) (run : ∀ Q : Nat → Array Value → State → Outcome → State → Prop, nz_M (yz_l y) yX6_isRow wsX6_isRow rm_X6_isRow g [.int v0] [] Q → nz_C y g k n (nz_wX g a X) pc ls st rest [] Q av ([] : List Nat)) (h : wX_X6_isRow v0 K) (kk : ∀ (r : Int32), K r → nz_V y g k n (nz_wX g a X) (pc + 3) ls (.int r :: rest)) : nz_V y g k n (nz_wX g a X) pc ls st :=
 k_X6_isRow v0 (run _) h (nz_wX g a X) rfl (fun r h => kk r h)
def wX_X7_isAmong (v0 : Int32) (v1 : Int32) (v2 : Int32) (K : Int32 → Prop) : Prop := wp_X7_isAmong v0 v1 v2 (fun r => K r)
theorem kX_X7_isAmong {y : nz_Y} {g : nz_G} {k n pc : Nat} {ls : List (Nat × Value)} {st rest : List Value} {av : Array Value} {K : Int32 → Prop} (a : Nat → Nat) (X : Nat → Nat → Int32) (v0 : Int32) (v1 : Int32) (v2 : Int32) (run : ∀ Q : Nat → Array Value → State → Outcome → State → Prop, nz_M (yz_l y) yX7_isAmong wsX7_isAmong rm_X7_isAmong g [.int v0, .int v1, .int v2] [] Q → nz_C y g k n (nz_wX g a X) pc ls st rest [] Q av ([] : List Nat)) (h : wX_X7_isAmong v0 v1 v2 K) (kk : ∀ (r : Int32), K r → nz_V y g k n (nz_wX g a X) (pc + 3) ls (.int r :: rest)) : nz_V y g k n (nz_wX g a X) pc ls st :=
 k_X7_isAmong v0 v1 v2 (run _) h (nz_wX g a X) rfl (fun r h => kk r h)
theorem nz_xg0 (g : nz_G) (a : Nat → Nat) (X : Nat → Nat → Int32) : (nz_wX g a X)[0]? = some ((a 0), .inr (7, [.ref (a 1), .ref (a 5), .ref (a 16), .ref (a 25), .ref (a 44), .ref (a 47), .ref (a 49), .ref (a 52), .int (X 0 8), .int (X 0 9)])) := rfl
theorem nd_1_4_54_8 : va_nd (List.range' 1 4 ++ List.range' 54 8) = true := by decide +kernel
theorem nz_xg1 (g : nz_G) (a : Nat → Nat) (X : Nat → Nat → Int32) : (nz_wX g a X)[1]? = some ((a 1), .inr (6, [.ref (a 4), .ref (a 2), .ref (a 3)])) := rfl
theorem hC_X6_make_1_54 (g : nz_G) (a : Nat → Nat) (X : Nat → Nat → Int32) : (List.range' 1 4 ++ List.range' 54 8).map (fun i => (nz_wX g a X)[i]?) = ((([((a 1), .inr (6, [.ref (a 4), .ref (a 2), .ref (a 3)])), ((a 2), .inl (nz_cI g, 8, .inl (X 2))), ((a 3), .inl (nz_cI g, 8, .inl (X 3))), ((a 4), .inl (nz_cA g, 8, .inr (.inr (.inr (.inr (fun j => some (a (54 + j))))))))] ++ nz_pool g (fun j => a (54 + j)) (fun j => X (54 + j))) : va_W)).map some := rfl
def wX_X6_make_1_54 (X : Nat → Nat → Int32) (v1 : Int32) (v2 : Int32) (v3 : Int32) (K : (Nat → Nat → Int32) → Prop) : Prop := wp_X6_make (X 2) (X 3) (fun j => X (54 + j)) v1 v2 v3 (fun m0 m1 m2 => K (nz_putp (va_up (va_up X 2 m0) 3 m1) m2))
theorem kX_X6_make_1_54 {y : nz_Y} {g : nz_G} {k n pc : Nat} {ls : List (Nat × Value)} {st rest : List Value} {av : Array Value} {K : (Nat → Nat → Int32) → Prop} (a : Nat → Nat) (X : Nat → Nat → Int32) (v1 : Int32) (v2 : Int32) (v3 : Int32) (run : ∀ Q : Nat → Array Value → State → Outcome → State → Prop, nz_M (yz_l y) yX6_make wsX6_make rm_X6_make g [.ref (a 1), .int v1, .int v2, .int v3] ([((a 1), .inr (6, [.ref (a 4), .ref (a 2), .ref (a 3)])), ((a 2), .inl (nz_cI g, 8, .inl (X 2))), ((a 3), .inl (nz_cI g, 8, .inl (X 3))), ((a 4), .inl (nz_cA g, 8, .inr (.inr (.inr (.inr (fun j => some (a (54 + j))))))))] ++ nz_pool g (fun j => a (54 + j)) (fun j => X (54 + j))) Q → nz_C y g k n (nz_wX g a X) pc ls st rest ([((a 1), .inr (6, [.ref (a 4), .ref (a 2), .ref (a 3)])), ((a 2), .inl (nz_cI g, 8, .inl (X 2))), ((a 3), .inl (nz_cI g, 8, .inl (X 3))), ((a 4), .inl (nz_cA g, 8, .inr (.inr (.inr (.inr (fun j => some (a (54 + j))))))))] ++ nz_pool g (fun j => a (54 + j)) (fun j => X (54 + j))) Q av (List.range' 1 4 ++ List.range' 54 8)) (h : wX_X6_make_1_54 X v1 v2 v3 K) (kk : ∀ (X1 : Nat → Nat → Int32), K X1 → nz_V y g k n (nz_wX g a X1) (pc + 3) ls (rest)) : nz_V y g k n (nz_wX g a X) pc ls st :=
 k_X6_make (a 1) (a 4) (a 2) (a 3) (fun j => a (54 + j)) (X 2) (X 3) (fun j => X (54 + j)) v1 v2 v3 (run _) h (fun m0 m1 m2 => nz_wX g a (nz_putp (va_up (va_up X 2 m0) 3 m1) m2)) (fun m0 m1 m2 => nz_xm (hC_X6_make_1_54 g a (nz_putp (va_up (va_up X 2 m0) 3 m1) m2)) (nz_ag.pool (nz_ag.up (nz_ag.up nz_ag.refl rfl) rfl) rfl)) (fun m0 m1 m2 h => kk (nz_putp (va_up (va_up X 2 m0) 3 m1) m2) h)
theorem nd_0_1 : va_nd (List.range' 0 1) = true := by decide +kernel
theorem hC_X7_well_0 (g : nz_G) (a : Nat → Nat) (X : Nat → Nat → Int32) : (List.range' 0 1).map (fun i => (nz_wX g a X)[i]?) = (([((a 0), .inr (7, [.ref (a 1), .ref (a 5), .ref (a 16), .ref (a 25), .ref (a 44), .ref (a 47), .ref (a 49), .ref (a 52), .int (X 0 8), .int (X 0 9)]))] : va_W)).map some := rfl
def wX_X7_well_0 (X : Nat → Nat → Int32) (v1 : Int32) (K : Int32 → (Nat → Nat → Int32) → Prop) : Prop := wp_X7_well v1 (fun r m0 => K r (va_up X 0 (upd (X 0) 9 m0)))
theorem kX_X7_well_0 {y : nz_Y} {g : nz_G} {k n pc : Nat} {ls : List (Nat × Value)} {st rest : List Value} {av : Array Value} {K : Int32 → (Nat → Nat → Int32) → Prop} (a : Nat → Nat) (X : Nat → Nat → Int32) (v1 : Int32) (run : ∀ Q : Nat → Array Value → State → Outcome → State → Prop, nz_M (yz_l y) yX7_well wsX7_well rm_X7_well g [.ref (a 0), .int v1] [((a 0), .inr (7, [.ref (a 1), .ref (a 5), .ref (a 16), .ref (a 25), .ref (a 44), .ref (a 47), .ref (a 49), .ref (a 52), .int (X 0 8), .int (X 0 9)]))] Q → nz_C y g k n (nz_wX g a X) pc ls st rest [((a 0), .inr (7, [.ref (a 1), .ref (a 5), .ref (a 16), .ref (a 25), .ref (a 44), .ref (a 47), .ref (a 49), .ref (a 52), .int (X 0 8), .int (X 0 9)]))] Q av (List.range' 0 1)) (h : wX_X7_well_0 X v1 K) (kk : ∀ (r : Int32) (X1 : Nat → Nat → Int32), K r X1 → nz_V y g k n (nz_wX g a X1) (pc + 3) ls (.int r :: rest)) : nz_V y g k n (nz_wX g a X) pc ls st :=
 k_X7_well (a 0) (a 1) (a 5) (a 16) (a 25) (a 44) (a 47) (a 49) (a 52) (X 0 8) (X 0 9) v1 (run _) h (fun m0 => nz_wX g a (va_up X 0 (upd (X 0) 9 m0))) (fun m0 => nz_xm (hC_X7_well_0 g a (va_up X 0 (upd (X 0) 9 m0))) (nz_ag.up nz_ag.refl rfl)) (fun r m0 h => kk r (va_up X 0 (upd (X 0) 9 m0)) h)
theorem hC_X7_found_0 (g : nz_G) (a : Nat → Nat) (X : Nat → Nat → Int32) : (List.range' 0 1).map (fun i => (nz_wX g a X)[i]?) = (([((a 0), .inr (7, [.ref (a 1), .ref (a 5), .ref (a 16), .ref (a 25), .ref (a 44), .ref (a 47), .ref (a 49), .ref (a 52), .int (X 0 8), .int (X 0 9)]))] : va_W)).map some := rfl
def wX_X7_found_0 (X : Nat → Nat → Int32) (v1 : Int32) (K : Int32 → (Nat → Nat → Int32) → Prop) : Prop := wp_X7_found v1 (fun r m0 => K r (va_up X 0 (upd (X 0) 9 m0)))
theorem kX_X7_found_0 {y : nz_Y} {g : nz_G} {k n pc : Nat} {ls : List (Nat × Value)} {st rest : List Value} {av : Array Value} {K : Int32 → (Nat → Nat → Int32) → Prop} (a : Nat → Nat) (X : Nat → Nat → Int32) (v1 : Int32) (run : ∀ Q : Nat → Array Value → State → Outcome → State → Prop, nz_M (yz_l y) yX7_found wsX7_found rm_X7_found g [.ref (a 0), .int v1] [((a 0), .inr (7, [.ref (a 1), .ref (a 5), .ref (a 16), .ref (a 25), .ref (a 44), .ref (a 47), .ref (a 49), .ref (a 52), .int (X 0 8), .int (X 0 9)]))] Q → nz_C y g k n (nz_wX g a X) pc ls st rest [((a 0), .inr (7, [.ref (a 1), .ref (a 5), .ref (a 16), .ref (a 25), .ref (a 44), .ref (a 47), .ref (a 49), .ref (a 52), .int (X 0 8), .int (X 0 9)]))] Q av (List.range' 0 1)) (h : wX_X7_found_0 X v1 K) (kk : ∀ (r : Int32) (X1 : Nat → Nat → Int32), K r X1 → nz_V y g k n (nz_wX g a X1) (pc + 3) ls (.int r :: rest)) : nz_V y g k n (nz_wX g a X) pc ls st :=
 k_X7_found (a 0) (a 1) (a 5) (a 16) (a 25) (a 44) (a 47) (a 49) (a 52) (X 0 8) (X 0 9) v1 (run _) h (fun m0 => nz_wX g a (va_up X 0 (upd (X 0) 9 m0))) (fun m0 => nz_xm (hC_X7_found_0 g a (va_up X 0 (upd (X 0) 9 m0))) (nz_ag.up nz_ag.refl rfl)) (fun r m0 h => kk r (va_up X 0 (upd (X 0) 9 m0)) h)
/-! X7_row -/
abbrev rm_X7_row : Room := { frames := 2, cells := 0, slots := 0, locals := 46 }
theorem iw_X7_row_7 : ∀ w ∈ wsX70, w ∈ wsX7_row := fun _ h => List.mem_cons_of_mem _ (List.mem_append_left _ (List.mem_append_right _ h))
theorem nt_X7_row_X6_isRow_62 : Cond.methodLinkNest RX7 62 yX6_isRow RX7 ∈ nz_nest := List.mem_of_getElem? (i := 55) rfl
theorem wd_X7_row_in_RX6 : Cond.initialized RX6 ∈ wsX7_row := List.mem_of_getElem? (i := 4) rfl
theorem wd_X7_row_im_X6_isRow : Cond.static yX6_isRow ∈ wsX7_row := List.mem_of_getElem? (i := 3) rfl
theorem wd_X7_row_c70 : Cond.constant RX7 70 (-1000001) ∈ wsX7_row := List.mem_of_getElem? (i := 1) rfl
theorem fl_X7_row_10 : Cond.fieldLink RX7 10 "NightStones" "rows" "LNightStones$Rows;" ∈ wsX7_row := List.mem_of_getElem? (i := 2) rfl
theorem nt_X7_row_X6_make_75 : Cond.methodLinkNest RX7 75 yX6_make RX7 ∈ nz_nest := List.mem_of_getElem? (i := 56) rfl
theorem wd_X7_row_im_X6_make : Cond.instanceMethod yX6_make ∈ wsX7_row := List.mem_of_getElem? (i := 16) rfl
theorem wd_X7_row_se_X6_make : Cond.selects RX6 yX6_make yX6_make ∈ wsX7_row := List.mem_of_getElem? (i := 17) rfl
def wp_X7_row (X : Nat → Nat → Int32) (v1 : Int32) (v2 : Int32) (v3 : Int32) (K : Int32 → (Nat → Nat → Int32) → Prop) : Prop := wX_X6_isRow v1 (fun q1 => ((q1 = 0 → K (-1000001 : Int32) X) ∧ (¬ (q1 = 0) → wX_X7_isAmong v2 0 2 (fun q3 => ((q3 = 0 → K (-1000001 : Int32) X) ∧ (¬ (q3 = 0) → ((v3 ≤ 40 → ((0 ≤ v3 → wX_X6_make_1_54 X v1 v2 v3 (fun X7 => wX_X7_well_0 X7 v3 (fun q8 X9 => K q8 X9))) ∧ (¬ (0 ≤ v3) → wX_X7_found_0 X 4 (fun q10 X11 => K q10 X11)))) ∧ (¬ (v3 ≤ 40) → K (-1000001 : Int32) X))))))))
set_option maxHeartbeats 4000000 in
set_option maxRecDepth 100000 in
theorem c_X7_row (l : Launch) (g : nz_G) (a : Nat → Nat) (X : Nat → Nat → Int32) (v1 : Int32) (v2 : Int32) (v3 : Int32) (K : Int32 → (Nat → Nat → Int32) → Prop) (h : wp_X7_row X v1 v2 v3 K) : nz_M l yX7_row wsX7_row rm_X7_row g [.ref (a 0), .int v1, .int v2, .int v3] (nz_wX g a X) (nz_Qi g (nz_wX g a X) (fun r (u : Nat → Nat → Int32) => K r u) (fun u => nz_wX g a u)) := by
  refine nz_M.of (bytes := cX7_row) (nL := 4) (ret := (some .int)) (own := RX7) (by decide) rfl rfl ⟨rfl, rfl⟩ rfl ?_
  intro y F hl hQ
  obtain ⟨sz, hQ⟩ := hQ
  refine nz_ent (lv' := [(0, .ref (a 0)), (1, .int v1), (2, .int v2), (3, .int v3)]) rfl ?_
  unfold wp_X7_row at h
  refine nz_iload_n F dX7_row_0 rfl 1 rfl ?_
  refine kX_X6_isRow a X v1 (fun Q hM => nz_runSN F gX7_row_X6_isRow_n62 rfl nt_X7_row_X6_isRow_62 wd_X7_row_in_RX6 wd_X7_row_im_X6_isRow hd_X6_isRow.2 rfl hM dX7_row_1 ([] : List Nat) rfl rfl rfl (Nat.le_of_ble_eq_true rfl) rfl) h (fun q1 h => ?_)
  refine nz_if_eq (tgt := 22) F dX7_row_4 (by decide) (fun c2 => ?_) (fun c2 => ?_)
  · have h := h.1 c2
    refine nz_ldc (v := (-1000001 : Int32)) F wd_X7_row_c70 dX7_row_22 ?_
    exact nz_iret F hQ X h rfl dX7_row_24
  · have h := h.2 c2
    refine nz_iload_n F dX7_row_7 rfl 2 rfl ?_
    refine nz_iconst (v := 0) F dX7_row_8 (by decide) ?_
    refine nz_iconst (v := 2) F dX7_row_9 (by decide) ?_
    refine kX_X7_isAmong a X v2 0 2 (fun Q hM => nz_runS F gX7_row_X7_isAmong rfl hd_X7_isAmong.2 rfl hM dX7_row_10 ([] : List Nat) rfl rfl rfl (Nat.le_of_ble_eq_true rfl) rfl) h (fun q3 h => ?_)
    refine nz_if_eq (tgt := 22) F dX7_row_13 (by decide) (fun c4 => ?_) (fun c4 => ?_)
    · have h := h.1 c4
      refine nz_ldc (v := (-1000001 : Int32)) F wd_X7_row_c70 dX7_row_22 ?_
      exact nz_iret F hQ X h rfl dX7_row_24
    · have h := h.2 c4
      refine nz_iload_n F dX7_row_16 rfl 3 rfl ?_
      refine nz_bipush (v := 40) F dX7_row_17 (by decide) ?_
      refine nz_icmp_le (tgt := 25) F dX7_row_19 (by decide) (fun c5 => ?_) (fun c5 => ?_)
      · have h := h.1 c5
        refine nz_iload_n F dX7_row_25 rfl 3 rfl ?_
        refine nz_if_ge (tgt := 35) F dX7_row_26 (by decide) (fun c6 => ?_) (fun c6 => ?_)
        · have h := h.1 c6
          refine nz_aload_n F dX7_row_35 rfl 0 rfl ?_
          refine nz_get F iw_X7_row_7 0 (nz_xg0 g a X) rfl 0 (by decide) rfl fl_X7_row_10 rfl dX7_row_36 ?_
          refine nz_iload_n F dX7_row_39 rfl 1 rfl ?_
          refine nz_iload_n F dX7_row_40 rfl 2 rfl ?_
          refine nz_iload_n F dX7_row_41 rfl 3 rfl ?_
          refine kX_X6_make_1_54 a X v1 v2 v3 (fun Q hM => nz_runVN F gX7_row_X6_make_n75 rfl nt_X7_row_X6_make_75 wd_X7_row_in_RX6 wd_X7_row_im_X6_make wd_X7_row_se_X6_make hd_X6_make rfl hM dX7_row_42 (List.range' 1 4 ++ List.range' 54 8) (hC_X6_make_1_54 g a X) nd_1_4_54_8 1 (nz_xg1 g a X) rfl rfl (Nat.le_of_ble_eq_true rfl) rfl) h (fun X7 h => ?_)
          refine nz_aload_n F dX7_row_45 rfl 0 rfl ?_
          refine nz_iload_n F dX7_row_46 rfl 3 rfl ?_
          refine kX_X7_well_0 a X7 v3 (fun Q hM => nz_runV F gX7_row_X7_well rfl hd_X7_well rfl hM dX7_row_47 (List.range' 0 1) (hC_X7_well_0 g a X7) nd_0_1 0 (nz_xg0 g a X7) rfl rfl (Nat.le_of_ble_eq_true rfl) rfl) h (fun q8 X9 h => ?_)
          exact nz_iret F hQ X9 h rfl dX7_row_50
        · have h := h.2 c6
          refine nz_aload_n F dX7_row_29 rfl 0 rfl ?_
          refine nz_iconst (v := 4) F dX7_row_30 (by decide) ?_
          refine kX_X7_found_0 a X 4 (fun Q hM => nz_runV F gX7_row_X7_found rfl hd_X7_found rfl hM dX7_row_31 (List.range' 0 1) (hC_X7_found_0 g a X) nd_0_1 0 (nz_xg0 g a X) rfl rfl (Nat.le_of_ble_eq_true rfl) rfl) h (fun q10 X11 h => ?_)
          exact nz_iret F hQ X11 h rfl dX7_row_34
      · have h := h.2 c5
        refine nz_ldc (v := (-1000001 : Int32)) F wd_X7_row_c70 dX7_row_22 ?_
        exact nz_iret F hQ X h rfl dX7_row_24
theorem k_X7_row {y : nz_Y} {g : nz_G} {k n : Nat} {ws : va_W} {pc : Nat} {ls : List (Nat × Value)} {st rest : List Value} {av : Array Value} {isC : List Nat} {K : Int32 → (Nat → Nat → Int32) → Prop} (a : Nat → Nat) (X : Nat → Nat → Int32) (v1 : Int32) (v2 : Int32) (v3 : Int32) (run : nz_M (yz_l y) yX7_row wsX7_row rm_X7_row g [.ref (a 0), .int v1, .int v2, .int v3] (nz_wX g a X) (nz_Qi g (nz_wX g a X) (fun r (u : Nat → Nat → Int32) => K r u) (fun u => nz_wX g a u)) → nz_C y g k n ws pc ls st rest (nz_wX g a X) (nz_Qi g (nz_wX g a X) (fun r (u : Nat → Nat → Int32) => K r u) (fun u => nz_wX g a u)) av isC) (h : wp_X7_row X v1 v2 v3 K) (ws' : (Nat → Nat → Int32) → va_W) (hm : ∀ (m0 : (Nat → Nat → Int32)), nz_mrg ws isC (nz_wX g a m0) = ws' m0) (kk : ∀ (r : Int32) (m0 : (Nat → Nat → Int32)), K r m0 → nz_V y g k n (ws' m0) (pc + 3) ls (.int r :: rest)) : nz_V y g k n ws pc ls st :=
  nz_ci (ws' := fun u => ws' u) (run (c_X7_row (yz_l y) g a X v1 v2 v3 K h)) (fun _ => rfl) (fun u => hm u) (fun r u h => kk r u h)
theorem dX7_set_0 : decode cX7_set 0 = .ok (.iload_n 1, 1) := by decide +kernel
theorem dX7_set_1 : decode cX7_set 1 = .ok (.invokestatic 62, 3) := by decide +kernel
theorem dX7_set_4 : decode cX7_set 4 = .ok (.ifCond .ne 6, 3) := by decide +kernel
theorem dX7_set_7 : decode cX7_set 7 = .ok (.ldc 70, 2) := by decide +kernel
theorem dX7_set_9 : decode cX7_set 9 = .ok (.ireturn, 1) := by decide +kernel
theorem dX7_set_10 : decode cX7_set 10 = .ok (.aload_n 0, 1) := by decide +kernel
theorem dX7_set_11 : decode cX7_set 11 = .ok (.getfield 10, 3) := by decide +kernel
theorem dX7_set_14 : decode cX7_set 14 = .ok (.iload_n 1, 1) := by decide +kernel
theorem dX7_set_15 : decode cX7_set 15 = .ok (.iload_n 2, 1) := by decide +kernel
theorem dX7_set_16 : decode cX7_set 16 = .ok (.iconst 1, 1) := by decide +kernel
theorem dX7_set_17 : decode cX7_set 17 = .ok (.invokevirtual 82, 3) := by decide +kernel
theorem dX7_set_20 : decode cX7_set 20 = .ok (.istore 4, 2) := by decide +kernel
theorem dX7_set_22 : decode cX7_set 22 = .ok (.iload 4, 2) := by decide +kernel
theorem dX7_set_24 : decode cX7_set 24 = .ok (.ifCond .eq 10, 3) := by decide +kernel
theorem dX7_set_27 : decode cX7_set 27 = .ok (.aload_n 0, 1) := by decide +kernel
theorem dX7_set_28 : decode cX7_set 28 = .ok (.iload 4, 2) := by decide +kernel
theorem dX7_set_30 : decode cX7_set 30 = .ok (.invokevirtual 71, 3) := by decide +kernel
theorem dX7_set_33 : decode cX7_set 33 = .ok (.ireturn, 1) := by decide +kernel
theorem dX7_set_34 : decode cX7_set 34 = .ok (.aload_n 0, 1) := by decide +kernel
theorem dX7_set_35 : decode cX7_set 35 = .ok (.aload_n 0, 1) := by decide +kernel
theorem dX7_set_36 : decode cX7_set 36 = .ok (.getfield 10, 3) := by decide +kernel
theorem dX7_set_39 : decode cX7_set 39 = .ok (.iload_n 1, 1) := by decide +kernel
theorem dX7_set_40 : decode cX7_set 40 = .ok (.iload_n 2, 1) := by decide +kernel
theorem dX7_set_41 : decode cX7_set 41 = .ok (.iload_n 3, 1) := by decide +kernel
theorem dX7_set_42 : decode cX7_set 42 = .ok (.invokevirtual 86, 3) := by decide +kernel
theorem dX7_set_45 : decode cX7_set 45 = .ok (.invokevirtual 79, 3) := by decide +kernel
theorem dX7_set_48 : decode cX7_set 48 = .ok (.ireturn, 1) := by decide +kernel
set_option maxRecDepth 20000 in
theorem ggX7_set_X6_findingAt : GoodIn wsX7_set wsX6_findingAt := goodIn_r _ [8, 9, 10, 11, 4, 12, 13, 14, 15, 16, 17, 18, 44, 45, 46] rfl (by decide +kernel)
set_option maxRecDepth 20000 in
theorem gX7_set_X6_findingAt_n82 : GoodIn wsX7_set (wsX6_findingAt) := ggX7_set_X6_findingAt
set_option maxRecDepth 20000 in
theorem ggX7_set_X6_isRow : GoodIn wsX7_set wsX6_isRow := goodIn_r _ [5] rfl (by decide +kernel)
set_option maxRecDepth 20000 in
theorem gX7_set_X6_isRow_n62 : GoodIn wsX7_set (wsX6_isRow) := ggX7_set_X6_isRow
set_option maxRecDepth 20000 in
theorem ggX7_set_X6_put : GoodIn wsX7_set wsX6_put := goodIn_r _ [28, 13, 29, 44, 45, 46] rfl (by decide +kernel)
set_option maxRecDepth 20000 in
theorem gX7_set_X6_put_n86 : GoodIn wsX7_set (wsX6_put) := ggX7_set_X6_put
set_option maxRecDepth 20000 in
theorem ggX7_set_X7_found : GoodIn wsX7_set wsX7_found := goodIn_r _ [23, 24, 25, 34, 35, 36, 37, 38, 39, 40, 41, 42, 43] rfl (by decide +kernel)
set_option maxRecDepth 20000 in
theorem gX7_set_X7_found : GoodIn wsX7_set (wsV RX7 71 RX7 yX7_found wsX7_found) := goodIn_app (goodIn_r _ [19, 20, 21, 22] rfl (by decide +kernel)) ggX7_set_X7_found
set_option maxRecDepth 20000 in
theorem ggX7_set_X7_well : GoodIn wsX7_set wsX7_well := goodIn_r _ [33, 24, 34, 35, 36, 37, 38, 39, 40, 41, 42, 43] rfl (by decide +kernel)
set_option maxRecDepth 20000 in
theorem gX7_set_X7_well : GoodIn wsX7_set (wsV RX7 79 RX7 yX7_well wsX7_well) := goodIn_app (goodIn_r _ [30, 31, 32, 22] rfl (by decide +kernel)) ggX7_set_X7_well
theorem hd_X6_findingAt : yX6_findingAt.cls = RX6 ∧ yX6_findingAt.cls ≠ "java/lang/invoke/MethodHandle" ∧ yX6_findingAt.cls ≠ "java/lang/invoke/VarHandle" ∧ (parseMethodDescriptor yX6_findingAt.desc).map (fun d => d.parameters.length) = some 3 := by decide +kernel
theorem hd_X6_put : yX6_put.cls = RX6 ∧ yX6_put.cls ≠ "java/lang/invoke/MethodHandle" ∧ yX6_put.cls ≠ "java/lang/invoke/VarHandle" ∧ (parseMethodDescriptor yX6_put.desc).map (fun d => d.parameters.length) = some 3 := by decide +kernel
theorem hC_X6_findingAt_1_54 (g : nz_G) (a : Nat → Nat) (X : Nat → Nat → Int32) : (List.range' 1 4 ++ List.range' 54 8).map (fun i => (nz_wX g a X)[i]?) = ((([((a 1), .inr (6, [.ref (a 4), .ref (a 2), .ref (a 3)])), ((a 2), .inl (nz_cI g, 8, .inl (X 2))), ((a 3), .inl (nz_cI g, 8, .inl (X 3))), ((a 4), .inl (nz_cA g, 8, .inr (.inr (.inr (.inr (fun j => some (a (54 + j))))))))] ++ nz_pool g (fun j => a (54 + j)) (fun j => X (54 + j))) : va_W)).map some := rfl
def wX_X6_findingAt_1_54 (X : Nat → Nat → Int32) (v1 : Int32) (v2 : Int32) (v3 : Int32) (K : Int32 → Prop) : Prop := wp_X6_findingAt (X 2) (X 3) v1 v2 v3 (fun r => K r)
theorem kX_X6_findingAt_1_54 {y : nz_Y} {g : nz_G} {k n pc : Nat} {ls : List (Nat × Value)} {st rest : List Value} {av : Array Value} {K : Int32 → Prop} (a : Nat → Nat) (X : Nat → Nat → Int32) (v1 : Int32) (v2 : Int32) (v3 : Int32) (run : ∀ Q : Nat → Array Value → State → Outcome → State → Prop, nz_M (yz_l y) yX6_findingAt wsX6_findingAt rm_X6_findingAt g [.ref (a 1), .int v1, .int v2, .int v3] ([((a 1), .inr (6, [.ref (a 4), .ref (a 2), .ref (a 3)])), ((a 2), .inl (nz_cI g, 8, .inl (X 2))), ((a 3), .inl (nz_cI g, 8, .inl (X 3))), ((a 4), .inl (nz_cA g, 8, .inr (.inr (.inr (.inr (fun j => some (a (54 + j))))))))] ++ nz_pool g (fun j => a (54 + j)) (fun j => X (54 + j))) Q → nz_C y g k n (nz_wX g a X) pc ls st rest ([((a 1), .inr (6, [.ref (a 4), .ref (a 2), .ref (a 3)])), ((a 2), .inl (nz_cI g, 8, .inl (X 2))), ((a 3), .inl (nz_cI g, 8, .inl (X 3))), ((a 4), .inl (nz_cA g, 8, .inr (.inr (.inr (.inr (fun j => some (a (54 + j))))))))] ++ nz_pool g (fun j => a (54 + j)) (fun j => X (54 + j))) Q av (List.range' 1 4 ++ List.range' 54 8)) (h : wX_X6_findingAt_1_54 X v1 v2 v3 K) (kk : ∀ (r : Int32), K r → nz_V y g k n (nz_wX g a X) (pc + 3) ls (.int r :: rest)) : nz_V y g k n (nz_wX g a X) pc ls st :=
 k_X6_findingAt (a 1) (a 4) (a 2) (a 3) (fun j => a (54 + j)) (X 2) (X 3) (fun j => X (54 + j)) v1 v2 v3 (run _) h (nz_wX g a X) (nz_xm (hC_X6_findingAt_1_54 g a X) nz_ag.refl) (fun r h => kk r h)
theorem hC_X6_put_1_54 (g : nz_G) (a : Nat → Nat) (X : Nat → Nat → Int32) : (List.range' 1 4 ++ List.range' 54 8).map (fun i => (nz_wX g a X)[i]?) = ((([((a 1), .inr (6, [.ref (a 4), .ref (a 2), .ref (a 3)])), ((a 2), .inl (nz_cI g, 8, .inl (X 2))), ((a 3), .inl (nz_cI g, 8, .inl (X 3))), ((a 4), .inl (nz_cA g, 8, .inr (.inr (.inr (.inr (fun j => some (a (54 + j))))))))] ++ nz_pool g (fun j => a (54 + j)) (fun j => X (54 + j))) : va_W)).map some := rfl
def wX_X6_put_1_54 (X : Nat → Nat → Int32) (v1 : Int32) (v2 : Int32) (v3 : Int32) (K : Int32 → (Nat → Nat → Int32) → Prop) : Prop := wp_X6_put (X 2) (fun j => X (54 + j)) v1 v2 v3 (fun r m0 => K r (nz_putp X m0))
theorem kX_X6_put_1_54 {y : nz_Y} {g : nz_G} {k n pc : Nat} {ls : List (Nat × Value)} {st rest : List Value} {av : Array Value} {K : Int32 → (Nat → Nat → Int32) → Prop} (a : Nat → Nat) (X : Nat → Nat → Int32) (v1 : Int32) (v2 : Int32) (v3 : Int32) (run : ∀ Q : Nat → Array Value → State → Outcome → State → Prop, nz_M (yz_l y) yX6_put wsX6_put rm_X6_put g [.ref (a 1), .int v1, .int v2, .int v3] ([((a 1), .inr (6, [.ref (a 4), .ref (a 2), .ref (a 3)])), ((a 2), .inl (nz_cI g, 8, .inl (X 2))), ((a 3), .inl (nz_cI g, 8, .inl (X 3))), ((a 4), .inl (nz_cA g, 8, .inr (.inr (.inr (.inr (fun j => some (a (54 + j))))))))] ++ nz_pool g (fun j => a (54 + j)) (fun j => X (54 + j))) Q → nz_C y g k n (nz_wX g a X) pc ls st rest ([((a 1), .inr (6, [.ref (a 4), .ref (a 2), .ref (a 3)])), ((a 2), .inl (nz_cI g, 8, .inl (X 2))), ((a 3), .inl (nz_cI g, 8, .inl (X 3))), ((a 4), .inl (nz_cA g, 8, .inr (.inr (.inr (.inr (fun j => some (a (54 + j))))))))] ++ nz_pool g (fun j => a (54 + j)) (fun j => X (54 + j))) Q av (List.range' 1 4 ++ List.range' 54 8)) (h : wX_X6_put_1_54 X v1 v2 v3 K) (kk : ∀ (r : Int32) (X1 : Nat → Nat → Int32), K r X1 → nz_V y g k n (nz_wX g a X1) (pc + 3) ls (.int r :: rest)) : nz_V y g k n (nz_wX g a X) pc ls st :=
 k_X6_put (a 1) (a 4) (a 2) (a 3) (fun j => a (54 + j)) (X 2) (X 3) (fun j => X (54 + j)) v1 v2 v3 (run _) h (fun m0 => nz_wX g a (nz_putp X m0)) (fun m0 => nz_xm (hC_X6_put_1_54 g a (nz_putp X m0)) (nz_ag.pool nz_ag.refl rfl)) (fun r m0 h => kk r (nz_putp X m0) h)
/-! X7_set -/
abbrev rm_X7_set : Room := { frames := 2, cells := 0, slots := 0, locals := 46 }
theorem iw_X7_set_7 : ∀ w ∈ wsX70, w ∈ wsX7_set := fun _ h => List.mem_cons_of_mem _ (List.mem_append_left _ (List.mem_append_right _ h))
theorem nt_X7_set_X6_isRow_62 : Cond.methodLinkNest RX7 62 yX6_isRow RX7 ∈ nz_nest := List.mem_of_getElem? (i := 55) rfl
theorem wd_X7_set_in_RX6 : Cond.initialized RX6 ∈ wsX7_set := List.mem_of_getElem? (i := 4) rfl
theorem wd_X7_set_im_X6_isRow : Cond.static yX6_isRow ∈ wsX7_set := List.mem_of_getElem? (i := 3) rfl
theorem fl_X7_set_10 : Cond.fieldLink RX7 10 "NightStones" "rows" "LNightStones$Rows;" ∈ wsX7_set := List.mem_of_getElem? (i := 2) rfl
theorem nt_X7_set_X6_findingAt_82 : Cond.methodLinkNest RX7 82 yX6_findingAt RX7 ∈ nz_nest := List.mem_of_getElem? (i := 57) rfl
theorem wd_X7_set_im_X6_findingAt : Cond.instanceMethod yX6_findingAt ∈ wsX7_set := List.mem_of_getElem? (i := 6) rfl
theorem wd_X7_set_se_X6_findingAt : Cond.selects RX6 yX6_findingAt yX6_findingAt ∈ wsX7_set := List.mem_of_getElem? (i := 7) rfl
theorem nt_X7_set_X6_put_86 : Cond.methodLinkNest RX7 86 yX6_put RX7 ∈ nz_nest := List.mem_of_getElem? (i := 58) rfl
theorem wd_X7_set_im_X6_put : Cond.instanceMethod yX6_put ∈ wsX7_set := List.mem_of_getElem? (i := 26) rfl
theorem wd_X7_set_se_X6_put : Cond.selects RX6 yX6_put yX6_put ∈ wsX7_set := List.mem_of_getElem? (i := 27) rfl
theorem wd_X7_set_c70 : Cond.constant RX7 70 (-1000001) ∈ wsX7_set := List.mem_of_getElem? (i := 1) rfl
def wp_X7_set (X : Nat → Nat → Int32) (v1 : Int32) (v2 : Int32) (v3 : Int32) (K : Int32 → (Nat → Nat → Int32) → Prop) : Prop := wX_X6_isRow v1 (fun q1 => ((¬ q1 = 0 → wX_X6_findingAt_1_54 X v1 v2 1 (fun q3 => ((q3 = 0 → wX_X6_put_1_54 X v1 v2 v3 (fun q5 X6 => wX_X7_well_0 X6 q5 (fun q7 X8 => K q7 X8))) ∧ (¬ (q3 = 0) → wX_X7_found_0 X q3 (fun q9 X10 => K q9 X10))))) ∧ (q1 = 0 → K (-1000001 : Int32) X)))
set_option maxHeartbeats 4000000 in
set_option maxRecDepth 100000 in
theorem c_X7_set (l : Launch) (g : nz_G) (a : Nat → Nat) (X : Nat → Nat → Int32) (v1 : Int32) (v2 : Int32) (v3 : Int32) (K : Int32 → (Nat → Nat → Int32) → Prop) (h : wp_X7_set X v1 v2 v3 K) : nz_M l yX7_set wsX7_set rm_X7_set g [.ref (a 0), .int v1, .int v2, .int v3] (nz_wX g a X) (nz_Qi g (nz_wX g a X) (fun r (u : Nat → Nat → Int32) => K r u) (fun u => nz_wX g a u)) := by
  refine nz_M.of (bytes := cX7_set) (nL := 5) (ret := (some .int)) (own := RX7) (by decide) rfl rfl ⟨rfl, rfl⟩ rfl ?_
  intro y F hl hQ
  obtain ⟨sz, hQ⟩ := hQ
  refine nz_ent (lv' := [(0, .ref (a 0)), (1, .int v1), (2, .int v2), (3, .int v3)]) rfl ?_
  unfold wp_X7_set at h
  refine nz_iload_n F dX7_set_0 rfl 1 rfl ?_
  refine kX_X6_isRow a X v1 (fun Q hM => nz_runSN F gX7_set_X6_isRow_n62 rfl nt_X7_set_X6_isRow_62 wd_X7_set_in_RX6 wd_X7_set_im_X6_isRow hd_X6_isRow.2 rfl hM dX7_set_1 ([] : List Nat) rfl rfl rfl (Nat.le_of_ble_eq_true rfl) rfl) h (fun q1 h => ?_)
  refine nz_if_ne (tgt := 10) F dX7_set_4 (by decide) (fun c2 => ?_) (fun c2 => ?_)
  · have h := h.1 c2
    refine nz_aload_n F dX7_set_10 rfl 0 rfl ?_
    refine nz_get F iw_X7_set_7 0 (nz_xg0 g a X) rfl 0 (by decide) rfl fl_X7_set_10 rfl dX7_set_11 ?_
    refine nz_iload_n F dX7_set_14 rfl 1 rfl ?_
    refine nz_iload_n F dX7_set_15 rfl 2 rfl ?_
    refine nz_iconst (v := 1) F dX7_set_16 (by decide) ?_
    refine kX_X6_findingAt_1_54 a X v1 v2 1 (fun Q hM => nz_runVN F gX7_set_X6_findingAt_n82 rfl nt_X7_set_X6_findingAt_82 wd_X7_set_in_RX6 wd_X7_set_im_X6_findingAt wd_X7_set_se_X6_findingAt hd_X6_findingAt rfl hM dX7_set_17 (List.range' 1 4 ++ List.range' 54 8) (hC_X6_findingAt_1_54 g a X) nd_1_4_54_8 1 (nz_xg1 g a X) rfl rfl (Nat.le_of_ble_eq_true rfl) rfl) h (fun q3 h => ?_)
    refine nz_istore (lv' := [(4, .int q3), (0, .ref (a 0)), (1, .int v1), (2, .int v2), (3, .int v3)]) F dX7_set_20 (by decide) rfl ?_
    refine nz_iload F dX7_set_22 0 rfl ?_
    refine nz_if_eq (tgt := 34) F dX7_set_24 (by decide) (fun c4 => ?_) (fun c4 => ?_)
    · have h := h.1 c4
      refine nz_aload_n F dX7_set_34 rfl 1 rfl ?_
      refine nz_aload_n F dX7_set_35 rfl 1 rfl ?_
      refine nz_get F iw_X7_set_7 0 (nz_xg0 g a X) rfl 0 (by decide) rfl fl_X7_set_10 rfl dX7_set_36 ?_
      refine nz_iload_n F dX7_set_39 rfl 2 rfl ?_
      refine nz_iload_n F dX7_set_40 rfl 3 rfl ?_
      refine nz_iload_n F dX7_set_41 rfl 4 rfl ?_
      refine kX_X6_put_1_54 a X v1 v2 v3 (fun Q hM => nz_runVN F gX7_set_X6_put_n86 rfl nt_X7_set_X6_put_86 wd_X7_set_in_RX6 wd_X7_set_im_X6_put wd_X7_set_se_X6_put hd_X6_put rfl hM dX7_set_42 (List.range' 1 4 ++ List.range' 54 8) (hC_X6_put_1_54 g a X) nd_1_4_54_8 1 (nz_xg1 g a X) rfl rfl (Nat.le_of_ble_eq_true rfl) rfl) h (fun q5 X6 h => ?_)
      refine kX_X7_well_0 a X6 q5 (fun Q hM => nz_runV F gX7_set_X7_well rfl hd_X7_well rfl hM dX7_set_45 (List.range' 0 1) (hC_X7_well_0 g a X6) nd_0_1 0 (nz_xg0 g a X6) rfl rfl (Nat.le_of_ble_eq_true rfl) rfl) h (fun q7 X8 h => ?_)
      exact nz_iret F hQ X8 h rfl dX7_set_48
    · have h := h.2 c4
      refine nz_aload_n F dX7_set_27 rfl 1 rfl ?_
      refine nz_iload F dX7_set_28 0 rfl ?_
      refine kX_X7_found_0 a X q3 (fun Q hM => nz_runV F gX7_set_X7_found rfl hd_X7_found rfl hM dX7_set_30 (List.range' 0 1) (hC_X7_found_0 g a X) nd_0_1 0 (nz_xg0 g a X) rfl rfl (Nat.le_of_ble_eq_true rfl) rfl) h (fun q9 X10 h => ?_)
      exact nz_iret F hQ X10 h rfl dX7_set_33
  · have h := h.2 c2
    refine nz_ldc (v := (-1000001 : Int32)) F wd_X7_set_c70 dX7_set_7 ?_
    exact nz_iret F hQ X h rfl dX7_set_9
theorem k_X7_set {y : nz_Y} {g : nz_G} {k n : Nat} {ws : va_W} {pc : Nat} {ls : List (Nat × Value)} {st rest : List Value} {av : Array Value} {isC : List Nat} {K : Int32 → (Nat → Nat → Int32) → Prop} (a : Nat → Nat) (X : Nat → Nat → Int32) (v1 : Int32) (v2 : Int32) (v3 : Int32) (run : nz_M (yz_l y) yX7_set wsX7_set rm_X7_set g [.ref (a 0), .int v1, .int v2, .int v3] (nz_wX g a X) (nz_Qi g (nz_wX g a X) (fun r (u : Nat → Nat → Int32) => K r u) (fun u => nz_wX g a u)) → nz_C y g k n ws pc ls st rest (nz_wX g a X) (nz_Qi g (nz_wX g a X) (fun r (u : Nat → Nat → Int32) => K r u) (fun u => nz_wX g a u)) av isC) (h : wp_X7_set X v1 v2 v3 K) (ws' : (Nat → Nat → Int32) → va_W) (hm : ∀ (m0 : (Nat → Nat → Int32)), nz_mrg ws isC (nz_wX g a m0) = ws' m0) (kk : ∀ (r : Int32) (m0 : (Nat → Nat → Int32)), K r m0 → nz_V y g k n (ws' m0) (pc + 3) ls (.int r :: rest)) : nz_V y g k n ws pc ls st :=
  nz_ci (ws' := fun u => ws' u) (run (c_X7_set (yz_l y) g a X v1 v2 v3 K h)) (fun _ => rfl) (fun u => hm u) (fun r u h => kk r u h)
theorem dX7_copy_0 : decode cX7_copy 0 = .ok (.iload_n 1, 1) := by decide +kernel
theorem dX7_copy_1 : decode cX7_copy 1 = .ok (.invokestatic 62, 3) := by decide +kernel
theorem dX7_copy_4 : decode cX7_copy 4 = .ok (.ifCond .eq 10, 3) := by decide +kernel
theorem dX7_copy_7 : decode cX7_copy 7 = .ok (.iload_n 3, 1) := by decide +kernel
theorem dX7_copy_8 : decode cX7_copy 8 = .ok (.invokestatic 62, 3) := by decide +kernel
theorem dX7_copy_11 : decode cX7_copy 11 = .ok (.ifCond .ne 6, 3) := by decide +kernel
theorem dX7_copy_14 : decode cX7_copy 14 = .ok (.ldc 70, 2) := by decide +kernel
theorem dX7_copy_16 : decode cX7_copy 16 = .ok (.ireturn, 1) := by decide +kernel
theorem dX7_copy_17 : decode cX7_copy 17 = .ok (.aload_n 0, 1) := by decide +kernel
theorem dX7_copy_18 : decode cX7_copy 18 = .ok (.getfield 10, 3) := by decide +kernel
theorem dX7_copy_21 : decode cX7_copy 21 = .ok (.iload_n 1, 1) := by decide +kernel
theorem dX7_copy_22 : decode cX7_copy 22 = .ok (.iload_n 2, 1) := by decide +kernel
theorem dX7_copy_23 : decode cX7_copy 23 = .ok (.iload_n 3, 1) := by decide +kernel
theorem dX7_copy_24 : decode cX7_copy 24 = .ok (.iload 4, 2) := by decide +kernel
theorem dX7_copy_26 : decode cX7_copy 26 = .ok (.iload 5, 2) := by decide +kernel
theorem dX7_copy_28 : decode cX7_copy 28 = .ok (.invokevirtual 89, 3) := by decide +kernel
theorem dX7_copy_31 : decode cX7_copy 31 = .ok (.istore 6, 2) := by decide +kernel
theorem dX7_copy_33 : decode cX7_copy 33 = .ok (.iload 6, 2) := by decide +kernel
theorem dX7_copy_35 : decode cX7_copy 35 = .ok (.ifCond .eq 10, 3) := by decide +kernel
theorem dX7_copy_38 : decode cX7_copy 38 = .ok (.aload_n 0, 1) := by decide +kernel
theorem dX7_copy_39 : decode cX7_copy 39 = .ok (.iload 6, 2) := by decide +kernel
theorem dX7_copy_41 : decode cX7_copy 41 = .ok (.invokevirtual 71, 3) := by decide +kernel
theorem dX7_copy_44 : decode cX7_copy 44 = .ok (.ireturn, 1) := by decide +kernel
theorem dX7_copy_45 : decode cX7_copy 45 = .ok (.aload_n 0, 1) := by decide +kernel
theorem dX7_copy_46 : decode cX7_copy 46 = .ok (.getfield 10, 3) := by decide +kernel
theorem dX7_copy_49 : decode cX7_copy 49 = .ok (.iload_n 1, 1) := by decide +kernel
theorem dX7_copy_50 : decode cX7_copy 50 = .ok (.iload_n 2, 1) := by decide +kernel
theorem dX7_copy_51 : decode cX7_copy 51 = .ok (.iload_n 3, 1) := by decide +kernel
theorem dX7_copy_52 : decode cX7_copy 52 = .ok (.iload 4, 2) := by decide +kernel
theorem dX7_copy_54 : decode cX7_copy 54 = .ok (.iload 5, 2) := by decide +kernel
theorem dX7_copy_56 : decode cX7_copy 56 = .ok (.invokevirtual 93, 3) := by decide +kernel
theorem dX7_copy_59 : decode cX7_copy 59 = .ok (.aload_n 0, 1) := by decide +kernel
theorem dX7_copy_60 : decode cX7_copy 60 = .ok (.iload 5, 2) := by decide +kernel
theorem dX7_copy_62 : decode cX7_copy 62 = .ok (.invokevirtual 79, 3) := by decide +kernel
theorem dX7_copy_65 : decode cX7_copy 65 = .ok (.ireturn, 1) := by decide +kernel
set_option maxRecDepth 20000 in
theorem ggX7_copy_X6_carryOver : GoodIn wsX7_copy wsX6_carryOver := goodIn_r _ [28, 29, 30, 31, 32, 33, 48, 49, 50] rfl (by decide +kernel)
set_option maxRecDepth 20000 in
theorem gX7_copy_X6_carryOver_n93 : GoodIn wsX7_copy (wsX6_carryOver) := ggX7_copy_X6_carryOver
set_option maxRecDepth 20000 in
theorem ggX7_copy_X6_findingBetween : GoodIn wsX7_copy wsX6_findingBetween := goodIn_r _ [8, 9, 10, 11, 12, 4, 13, 14, 15, 16, 17, 18, 48, 49, 50] rfl (by decide +kernel)
set_option maxRecDepth 20000 in
theorem gX7_copy_X6_findingBetween_n89 : GoodIn wsX7_copy (wsX6_findingBetween) := ggX7_copy_X6_findingBetween
set_option maxRecDepth 20000 in
theorem ggX7_copy_X6_isRow : GoodIn wsX7_copy wsX6_isRow := goodIn_r _ [5] rfl (by decide +kernel)
set_option maxRecDepth 20000 in
theorem gX7_copy_X6_isRow_n62 : GoodIn wsX7_copy (wsX6_isRow) := ggX7_copy_X6_isRow
set_option maxRecDepth 20000 in
theorem ggX7_copy_X7_found : GoodIn wsX7_copy wsX7_found := goodIn_r _ [23, 24, 25, 38, 39, 40, 41, 42, 43, 44, 45, 46, 47] rfl (by decide +kernel)
set_option maxRecDepth 20000 in
theorem gX7_copy_X7_found : GoodIn wsX7_copy (wsV RX7 71 RX7 yX7_found wsX7_found) := goodIn_app (goodIn_r _ [19, 20, 21, 22] rfl (by decide +kernel)) ggX7_copy_X7_found
set_option maxRecDepth 20000 in
theorem ggX7_copy_X7_well : GoodIn wsX7_copy wsX7_well := goodIn_r _ [37, 24, 38, 39, 40, 41, 42, 43, 44, 45, 46, 47] rfl (by decide +kernel)
set_option maxRecDepth 20000 in
theorem gX7_copy_X7_well : GoodIn wsX7_copy (wsV RX7 79 RX7 yX7_well wsX7_well) := goodIn_app (goodIn_r _ [34, 35, 36, 22] rfl (by decide +kernel)) ggX7_copy_X7_well
theorem hd_X6_carryOver : yX6_carryOver.cls = RX6 ∧ yX6_carryOver.cls ≠ "java/lang/invoke/MethodHandle" ∧ yX6_carryOver.cls ≠ "java/lang/invoke/VarHandle" ∧ (parseMethodDescriptor yX6_carryOver.desc).map (fun d => d.parameters.length) = some 5 := by decide +kernel
theorem hd_X6_findingBetween : yX6_findingBetween.cls = RX6 ∧ yX6_findingBetween.cls ≠ "java/lang/invoke/MethodHandle" ∧ yX6_findingBetween.cls ≠ "java/lang/invoke/VarHandle" ∧ (parseMethodDescriptor yX6_findingBetween.desc).map (fun d => d.parameters.length) = some 5 := by decide +kernel
theorem hC_X6_findingBetween_1_54 (g : nz_G) (a : Nat → Nat) (X : Nat → Nat → Int32) : (List.range' 1 4 ++ List.range' 54 8).map (fun i => (nz_wX g a X)[i]?) = ((([((a 1), .inr (6, [.ref (a 4), .ref (a 2), .ref (a 3)])), ((a 2), .inl (nz_cI g, 8, .inl (X 2))), ((a 3), .inl (nz_cI g, 8, .inl (X 3))), ((a 4), .inl (nz_cA g, 8, .inr (.inr (.inr (.inr (fun j => some (a (54 + j))))))))] ++ nz_pool g (fun j => a (54 + j)) (fun j => X (54 + j))) : va_W)).map some := rfl
def wX_X6_findingBetween_1_54 (X : Nat → Nat → Int32) (v1 : Int32) (v2 : Int32) (v3 : Int32) (v4 : Int32) (v5 : Int32) (K : Int32 → Prop) : Prop := wp_X6_findingBetween (X 2) (X 3) v1 v2 v3 v4 v5 (fun r => K r)
theorem kX_X6_findingBetween_1_54 {y : nz_Y} {g : nz_G} {k n pc : Nat} {ls : List (Nat × Value)} {st rest : List Value} {av : Array Value} {K : Int32 → Prop} (a : Nat → Nat) (X : Nat → Nat → Int32) (v1 : Int32) (v2 : Int32) (v3 : Int32) (v4 : Int32) (v5 : Int32) (run : ∀ Q : Nat → Array Value → State → Outcome → State → Prop, nz_M (yz_l y) yX6_findingBetween wsX6_findingBetween rm_X6_findingBetween g [.ref (a 1), .int v1, .int v2, .int v3, .int v4, .int v5] ([((a 1), .inr (6, [.ref (a 4), .ref (a 2), .ref (a 3)])), ((a 2), .inl (nz_cI g, 8, .inl (X 2))), ((a 3), .inl (nz_cI g, 8, .inl (X 3))), ((a 4), .inl (nz_cA g, 8, .inr (.inr (.inr (.inr (fun j => some (a (54 + j))))))))] ++ nz_pool g (fun j => a (54 + j)) (fun j => X (54 + j))) Q → nz_C y g k n (nz_wX g a X) pc ls st rest ([((a 1), .inr (6, [.ref (a 4), .ref (a 2), .ref (a 3)])), ((a 2), .inl (nz_cI g, 8, .inl (X 2))), ((a 3), .inl (nz_cI g, 8, .inl (X 3))), ((a 4), .inl (nz_cA g, 8, .inr (.inr (.inr (.inr (fun j => some (a (54 + j))))))))] ++ nz_pool g (fun j => a (54 + j)) (fun j => X (54 + j))) Q av (List.range' 1 4 ++ List.range' 54 8)) (h : wX_X6_findingBetween_1_54 X v1 v2 v3 v4 v5 K) (kk : ∀ (r : Int32), K r → nz_V y g k n (nz_wX g a X) (pc + 3) ls (.int r :: rest)) : nz_V y g k n (nz_wX g a X) pc ls st :=
 k_X6_findingBetween (a 1) (a 4) (a 2) (a 3) (fun j => a (54 + j)) (X 2) (X 3) (fun j => X (54 + j)) v1 v2 v3 v4 v5 (run _) h (nz_wX g a X) (nz_xm (hC_X6_findingBetween_1_54 g a X) nz_ag.refl) (fun r h => kk r h)
theorem hC_X6_carryOver_1_54 (g : nz_G) (a : Nat → Nat) (X : Nat → Nat → Int32) : (List.range' 1 4 ++ List.range' 54 8).map (fun i => (nz_wX g a X)[i]?) = ((([((a 1), .inr (6, [.ref (a 4), .ref (a 2), .ref (a 3)])), ((a 2), .inl (nz_cI g, 8, .inl (X 2))), ((a 3), .inl (nz_cI g, 8, .inl (X 3))), ((a 4), .inl (nz_cA g, 8, .inr (.inr (.inr (.inr (fun j => some (a (54 + j))))))))] ++ nz_pool g (fun j => a (54 + j)) (fun j => X (54 + j))) : va_W)).map some := rfl
def wX_X6_carryOver_1_54 (X : Nat → Nat → Int32) (v1 : Int32) (v2 : Int32) (v3 : Int32) (v4 : Int32) (v5 : Int32) (K : (Nat → Nat → Int32) → Prop) : Prop := wp_X6_carryOver (fun j => X (54 + j)) v1 v2 v3 v4 v5 (fun m0 => K (nz_putp X m0))
theorem kX_X6_carryOver_1_54 {y : nz_Y} {g : nz_G} {k n pc : Nat} {ls : List (Nat × Value)} {st rest : List Value} {av : Array Value} {K : (Nat → Nat → Int32) → Prop} (a : Nat → Nat) (X : Nat → Nat → Int32) (v1 : Int32) (v2 : Int32) (v3 : Int32) (v4 : Int32) (v5 : Int32) (run : ∀ Q : Nat → Array Value → State → Outcome → State → Prop, nz_M (yz_l y) yX6_carryOver wsX6_carryOver rm_X6_carryOver g [.ref (a 1), .int v1, .int v2, .int v3, .int v4, .int v5] ([((a 1), .inr (6, [.ref (a 4), .ref (a 2), .ref (a 3)])), ((a 2), .inl (nz_cI g, 8, .inl (X 2))), ((a 3), .inl (nz_cI g, 8, .inl (X 3))), ((a 4), .inl (nz_cA g, 8, .inr (.inr (.inr (.inr (fun j => some (a (54 + j))))))))] ++ nz_pool g (fun j => a (54 + j)) (fun j => X (54 + j))) Q → nz_C y g k n (nz_wX g a X) pc ls st rest ([((a 1), .inr (6, [.ref (a 4), .ref (a 2), .ref (a 3)])), ((a 2), .inl (nz_cI g, 8, .inl (X 2))), ((a 3), .inl (nz_cI g, 8, .inl (X 3))), ((a 4), .inl (nz_cA g, 8, .inr (.inr (.inr (.inr (fun j => some (a (54 + j))))))))] ++ nz_pool g (fun j => a (54 + j)) (fun j => X (54 + j))) Q av (List.range' 1 4 ++ List.range' 54 8)) (h : wX_X6_carryOver_1_54 X v1 v2 v3 v4 v5 K) (kk : ∀ (X1 : Nat → Nat → Int32), K X1 → nz_V y g k n (nz_wX g a X1) (pc + 3) ls (rest)) : nz_V y g k n (nz_wX g a X) pc ls st :=
 k_X6_carryOver (a 1) (a 4) (a 2) (a 3) (fun j => a (54 + j)) (X 2) (X 3) (fun j => X (54 + j)) v1 v2 v3 v4 v5 (run _) h (fun m0 => nz_wX g a (nz_putp X m0)) (fun m0 => nz_xm (hC_X6_carryOver_1_54 g a (nz_putp X m0)) (nz_ag.pool nz_ag.refl rfl)) (fun m0 h => kk (nz_putp X m0) h)
/-! X7_copy -/
abbrev rm_X7_copy : Room := { frames := 2, cells := 0, slots := 0, locals := 51 }
theorem iw_X7_copy_7 : ∀ w ∈ wsX70, w ∈ wsX7_copy := fun _ h => List.mem_cons_of_mem _ (List.mem_append_left _ (List.mem_append_right _ h))
theorem nt_X7_copy_X6_isRow_62 : Cond.methodLinkNest RX7 62 yX6_isRow RX7 ∈ nz_nest := List.mem_of_getElem? (i := 55) rfl
theorem wd_X7_copy_in_RX6 : Cond.initialized RX6 ∈ wsX7_copy := List.mem_of_getElem? (i := 4) rfl
theorem wd_X7_copy_im_X6_isRow : Cond.static yX6_isRow ∈ wsX7_copy := List.mem_of_getElem? (i := 3) rfl
theorem wd_X7_copy_c70 : Cond.constant RX7 70 (-1000001) ∈ wsX7_copy := List.mem_of_getElem? (i := 1) rfl
theorem fl_X7_copy_10 : Cond.fieldLink RX7 10 "NightStones" "rows" "LNightStones$Rows;" ∈ wsX7_copy := List.mem_of_getElem? (i := 2) rfl
theorem nt_X7_copy_X6_findingBetween_89 : Cond.methodLinkNest RX7 89 yX6_findingBetween RX7 ∈ nz_nest := List.mem_of_getElem? (i := 59) rfl
theorem wd_X7_copy_im_X6_findingBetween : Cond.instanceMethod yX6_findingBetween ∈ wsX7_copy := List.mem_of_getElem? (i := 6) rfl
theorem wd_X7_copy_se_X6_findingBetween : Cond.selects RX6 yX6_findingBetween yX6_findingBetween ∈ wsX7_copy := List.mem_of_getElem? (i := 7) rfl
theorem nt_X7_copy_X6_carryOver_93 : Cond.methodLinkNest RX7 93 yX6_carryOver RX7 ∈ nz_nest := List.mem_of_getElem? (i := 60) rfl
theorem wd_X7_copy_im_X6_carryOver : Cond.instanceMethod yX6_carryOver ∈ wsX7_copy := List.mem_of_getElem? (i := 26) rfl
theorem wd_X7_copy_se_X6_carryOver : Cond.selects RX6 yX6_carryOver yX6_carryOver ∈ wsX7_copy := List.mem_of_getElem? (i := 27) rfl
def wp_X7_copy (X : Nat → Nat → Int32) (v1 : Int32) (v2 : Int32) (v3 : Int32) (v4 : Int32) (v5 : Int32) (K : Int32 → (Nat → Nat → Int32) → Prop) : Prop := wX_X6_isRow v1 (fun q1 => ((q1 = 0 → K (-1000001 : Int32) X) ∧ (¬ (q1 = 0) → wX_X6_isRow v3 (fun q3 => ((¬ q3 = 0 → wX_X6_findingBetween_1_54 X v1 v2 v3 v4 v5 (fun q5 => ((q5 = 0 → wX_X6_carryOver_1_54 X v1 v2 v3 v4 v5 (fun X7 => wX_X7_well_0 X7 v5 (fun q8 X9 => K q8 X9))) ∧ (¬ (q5 = 0) → wX_X7_found_0 X q5 (fun q10 X11 => K q10 X11))))) ∧ (q3 = 0 → K (-1000001 : Int32) X))))))
set_option maxHeartbeats 4000000 in
set_option maxRecDepth 100000 in
theorem c_X7_copy (l : Launch) (g : nz_G) (a : Nat → Nat) (X : Nat → Nat → Int32) (v1 : Int32) (v2 : Int32) (v3 : Int32) (v4 : Int32) (v5 : Int32) (K : Int32 → (Nat → Nat → Int32) → Prop) (h : wp_X7_copy X v1 v2 v3 v4 v5 K) : nz_M l yX7_copy wsX7_copy rm_X7_copy g [.ref (a 0), .int v1, .int v2, .int v3, .int v4, .int v5] (nz_wX g a X) (nz_Qi g (nz_wX g a X) (fun r (u : Nat → Nat → Int32) => K r u) (fun u => nz_wX g a u)) := by
  refine nz_M.of (bytes := cX7_copy) (nL := 7) (ret := (some .int)) (own := RX7) (by decide) rfl rfl ⟨rfl, rfl⟩ rfl ?_
  intro y F hl hQ
  obtain ⟨sz, hQ⟩ := hQ
  refine nz_ent (lv' := [(0, .ref (a 0)), (1, .int v1), (2, .int v2), (3, .int v3), (4, .int v4), (5, .int v5)]) rfl ?_
  unfold wp_X7_copy at h
  refine nz_iload_n F dX7_copy_0 rfl 1 rfl ?_
  refine kX_X6_isRow a X v1 (fun Q hM => nz_runSN F gX7_copy_X6_isRow_n62 rfl nt_X7_copy_X6_isRow_62 wd_X7_copy_in_RX6 wd_X7_copy_im_X6_isRow hd_X6_isRow.2 rfl hM dX7_copy_1 ([] : List Nat) rfl rfl rfl (Nat.le_of_ble_eq_true rfl) rfl) h (fun q1 h => ?_)
  refine nz_if_eq (tgt := 14) F dX7_copy_4 (by decide) (fun c2 => ?_) (fun c2 => ?_)
  · have h := h.1 c2
    refine nz_ldc (v := (-1000001 : Int32)) F wd_X7_copy_c70 dX7_copy_14 ?_
    exact nz_iret F hQ X h rfl dX7_copy_16
  · have h := h.2 c2
    refine nz_iload_n F dX7_copy_7 rfl 3 rfl ?_
    refine kX_X6_isRow a X v3 (fun Q hM => nz_runSN F gX7_copy_X6_isRow_n62 rfl nt_X7_copy_X6_isRow_62 wd_X7_copy_in_RX6 wd_X7_copy_im_X6_isRow hd_X6_isRow.2 rfl hM dX7_copy_8 ([] : List Nat) rfl rfl rfl (Nat.le_of_ble_eq_true rfl) rfl) h (fun q3 h => ?_)
    refine nz_if_ne (tgt := 17) F dX7_copy_11 (by decide) (fun c4 => ?_) (fun c4 => ?_)
    · have h := h.1 c4
      refine nz_aload_n F dX7_copy_17 rfl 0 rfl ?_
      refine nz_get F iw_X7_copy_7 0 (nz_xg0 g a X) rfl 0 (by decide) rfl fl_X7_copy_10 rfl dX7_copy_18 ?_
      refine nz_iload_n F dX7_copy_21 rfl 1 rfl ?_
      refine nz_iload_n F dX7_copy_22 rfl 2 rfl ?_
      refine nz_iload_n F dX7_copy_23 rfl 3 rfl ?_
      refine nz_iload F dX7_copy_24 4 rfl ?_
      refine nz_iload F dX7_copy_26 5 rfl ?_
      refine kX_X6_findingBetween_1_54 a X v1 v2 v3 v4 v5 (fun Q hM => nz_runVN F gX7_copy_X6_findingBetween_n89 rfl nt_X7_copy_X6_findingBetween_89 wd_X7_copy_in_RX6 wd_X7_copy_im_X6_findingBetween wd_X7_copy_se_X6_findingBetween hd_X6_findingBetween rfl hM dX7_copy_28 (List.range' 1 4 ++ List.range' 54 8) (hC_X6_findingBetween_1_54 g a X) nd_1_4_54_8 1 (nz_xg1 g a X) rfl rfl (Nat.le_of_ble_eq_true rfl) rfl) h (fun q5 h => ?_)
      refine nz_istore (lv' := [(6, .int q5), (0, .ref (a 0)), (1, .int v1), (2, .int v2), (3, .int v3), (4, .int v4), (5, .int v5)]) F dX7_copy_31 (by decide) rfl ?_
      refine nz_iload F dX7_copy_33 0 rfl ?_
      refine nz_if_eq (tgt := 45) F dX7_copy_35 (by decide) (fun c6 => ?_) (fun c6 => ?_)
      · have h := h.1 c6
        refine nz_aload_n F dX7_copy_45 rfl 1 rfl ?_
        refine nz_get F iw_X7_copy_7 0 (nz_xg0 g a X) rfl 0 (by decide) rfl fl_X7_copy_10 rfl dX7_copy_46 ?_
        refine nz_iload_n F dX7_copy_49 rfl 2 rfl ?_
        refine nz_iload_n F dX7_copy_50 rfl 3 rfl ?_
        refine nz_iload_n F dX7_copy_51 rfl 4 rfl ?_
        refine nz_iload F dX7_copy_52 5 rfl ?_
        refine nz_iload F dX7_copy_54 6 rfl ?_
        refine kX_X6_carryOver_1_54 a X v1 v2 v3 v4 v5 (fun Q hM => nz_runVN F gX7_copy_X6_carryOver_n93 rfl nt_X7_copy_X6_carryOver_93 wd_X7_copy_in_RX6 wd_X7_copy_im_X6_carryOver wd_X7_copy_se_X6_carryOver hd_X6_carryOver rfl hM dX7_copy_56 (List.range' 1 4 ++ List.range' 54 8) (hC_X6_carryOver_1_54 g a X) nd_1_4_54_8 1 (nz_xg1 g a X) rfl rfl (Nat.le_of_ble_eq_true rfl) rfl) h (fun X7 h => ?_)
        refine nz_aload_n F dX7_copy_59 rfl 1 rfl ?_
        refine nz_iload F dX7_copy_60 6 rfl ?_
        refine kX_X7_well_0 a X7 v5 (fun Q hM => nz_runV F gX7_copy_X7_well rfl hd_X7_well rfl hM dX7_copy_62 (List.range' 0 1) (hC_X7_well_0 g a X7) nd_0_1 0 (nz_xg0 g a X7) rfl rfl (Nat.le_of_ble_eq_true rfl) rfl) h (fun q8 X9 h => ?_)
        exact nz_iret F hQ X9 h rfl dX7_copy_65
      · have h := h.2 c6
        refine nz_aload_n F dX7_copy_38 rfl 1 rfl ?_
        refine nz_iload F dX7_copy_39 0 rfl ?_
        refine kX_X7_found_0 a X q5 (fun Q hM => nz_runV F gX7_copy_X7_found rfl hd_X7_found rfl hM dX7_copy_41 (List.range' 0 1) (hC_X7_found_0 g a X) nd_0_1 0 (nz_xg0 g a X) rfl rfl (Nat.le_of_ble_eq_true rfl) rfl) h (fun q10 X11 h => ?_)
        exact nz_iret F hQ X11 h rfl dX7_copy_44
    · have h := h.2 c4
      refine nz_ldc (v := (-1000001 : Int32)) F wd_X7_copy_c70 dX7_copy_14 ?_
      exact nz_iret F hQ X h rfl dX7_copy_16
theorem k_X7_copy {y : nz_Y} {g : nz_G} {k n : Nat} {ws : va_W} {pc : Nat} {ls : List (Nat × Value)} {st rest : List Value} {av : Array Value} {isC : List Nat} {K : Int32 → (Nat → Nat → Int32) → Prop} (a : Nat → Nat) (X : Nat → Nat → Int32) (v1 : Int32) (v2 : Int32) (v3 : Int32) (v4 : Int32) (v5 : Int32) (run : nz_M (yz_l y) yX7_copy wsX7_copy rm_X7_copy g [.ref (a 0), .int v1, .int v2, .int v3, .int v4, .int v5] (nz_wX g a X) (nz_Qi g (nz_wX g a X) (fun r (u : Nat → Nat → Int32) => K r u) (fun u => nz_wX g a u)) → nz_C y g k n ws pc ls st rest (nz_wX g a X) (nz_Qi g (nz_wX g a X) (fun r (u : Nat → Nat → Int32) => K r u) (fun u => nz_wX g a u)) av isC) (h : wp_X7_copy X v1 v2 v3 v4 v5 K) (ws' : (Nat → Nat → Int32) → va_W) (hm : ∀ (m0 : (Nat → Nat → Int32)), nz_mrg ws isC (nz_wX g a m0) = ws' m0) (kk : ∀ (r : Int32) (m0 : (Nat → Nat → Int32)), K r m0 → nz_V y g k n (ws' m0) (pc + 3) ls (.int r :: rest)) : nz_V y g k n ws pc ls st :=
  nz_ci (ws' := fun u => ws' u) (run (c_X7_copy (yz_l y) g a X v1 v2 v3 v4 v5 K h)) (fun _ => rfl) (fun u => hm u) (fun r u h => kk r u h)
