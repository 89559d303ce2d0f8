theorem dX7_fault_0 : decode cX7_fault 0 = .ok (.aload_n 0, 1) := by decide +kernel
theorem dX7_fault_1 : decode cX7_fault 1 = .ok (.getfield 115, 3) := by decide +kernel
theorem dX7_fault_4 : decode cX7_fault 4 = .ok (.ireturn, 1) := by decide +kernel
/-! X7_fault -/
abbrev rm_X7_fault : Room := { frames := 0, cells := 0, slots := 0, locals := 0 }
theorem iw_X7_fault_7 : ∀ w ∈ wsX70, w ∈ wsX7_fault := fun _ h => List.mem_cons_of_mem _ (List.mem_append_right _ h)
theorem fl_X7_fault_115 : Cond.fieldLink RX7 115 "NightStones" "latestFault" "I" ∈ wsX7_fault := List.mem_of_getElem? (i := 1) rfl
def wp_X7_fault (X : Nat → Nat → Int32) (K : Int32 → (Nat → Nat → Int32) → Prop) : Prop := K (X 0 8) X
set_option maxHeartbeats 4000000 in
set_option maxRecDepth 100000 in
theorem c_X7_fault (l : Launch) (g : nz_G) (a : Nat → Nat) (X : Nat → Nat → Int32) (K : Int32 → (Nat → Nat → Int32) → Prop) (h : wp_X7_fault X K) : nz_M l yX7_fault wsX7_fault rm_X7_fault g [.ref (a 0)] (nz_wX g a X) (nz_Qi g (nz_wX g a X) (fun r (u : Nat → Nat → Int32) => K r u) (fun u => nz_wX g a u)) := by
  refine nz_M.of (bytes := cX7_fault) (nL := 1) (ret := (some .int)) (own := RX7) (by decide) rfl rfl ⟨rfl, rfl⟩ rfl ?_
  intro y F hl hQ
  obtain ⟨sz, hQ⟩ := hQ
  refine nz_ent (lv' := [(0, .ref (a 0))]) rfl ?_
  unfold wp_X7_fault at h
  refine nz_aload_n F dX7_fault_0 rfl 0 rfl ?_
  refine nz_get F iw_X7_fault_7 0 (nz_xg0 g a X) rfl 8 (by decide) rfl fl_X7_fault_115 rfl dX7_fault_1 ?_
  exact nz_iret F hQ X h rfl dX7_fault_4
theorem k_X7_fault {y : nz_Y} {g : nz_G} {k n : Nat} {ws : va_W} {pc : Nat} {ls : List (Nat × Value)} {st rest : List Value} {av : Array Value} {isC : List Nat} {K : Int32 → (Nat → Nat → Int32) → Prop} (a : Nat → Nat) (X : Nat → Nat → Int32) (run : nz_M (yz_l y) yX7_fault wsX7_fault rm_X7_fault g [.ref (a 0)] (nz_wX g a X) (nz_Qi g (nz_wX g a X) (fun r (u : Nat → Nat → Int32) => K r u) (fun u => nz_wX g a u)) → nz_C y g k n ws pc ls st rest (nz_wX g a X) (nz_Qi g (nz_wX g a X) (fun r (u : Nat → Nat → Int32) => K r u) (fun u => nz_wX g a u)) av isC) (h : wp_X7_fault X K) (ws' : (Nat → Nat → Int32) → va_W) (hm : ∀ (m0 : (Nat → Nat → Int32)), nz_mrg ws isC (nz_wX g a m0) = ws' m0) (kk : ∀ (r : Int32) (m0 : (Nat → Nat → Int32)), K r m0 → nz_V y g k n (ws' m0) (pc + 3) ls (.int r :: rest)) : nz_V y g k n ws pc ls st :=
  nz_ci (ws' := fun u => ws' u) (run (c_X7_fault (yz_l y) g a X K h)) (fun _ => rfl) (fun u => hm u) (fun r u h => kk r u h)
theorem dX7_night_0 : decode cX7_night 0 = .ok (.aload_n 0, 1) := by decide +kernel
theorem dX7_night_1 : decode cX7_night 1 = .ok (.getfield 26, 3) := by decide +kernel
theorem dX7_night_4 : decode cX7_night 4 = .ok (.getfield 137, 3) := by decide +kernel
theorem dX7_night_7 : decode cX7_night 7 = .ok (.ifCond .ne 6, 3) := by decide +kernel
theorem dX7_night_10 : decode cX7_night 10 = .ok (.ldc 141, 2) := by decide +kernel
theorem dX7_night_12 : decode cX7_night 12 = .ok (.ireturn, 1) := by decide +kernel
theorem dX7_night_13 : decode cX7_night 13 = .ok (.aload_n 0, 1) := by decide +kernel
theorem dX7_night_14 : decode cX7_night 14 = .ok (.getfield 26, 3) := by decide +kernel
theorem dX7_night_17 : decode cX7_night 17 = .ok (.getfield 142, 3) := by decide +kernel
theorem dX7_night_20 : decode cX7_night 20 = .ok (.sipush 9999, 3) := by decide +kernel
theorem dX7_night_23 : decode cX7_night 23 = .ok (.if_icmp .lt 6, 3) := by decide +kernel
theorem dX7_night_26 : decode cX7_night 26 = .ok (.ldc 106, 2) := by decide +kernel
theorem dX7_night_28 : decode cX7_night 28 = .ok (.ireturn, 1) := by decide +kernel
theorem dX7_night_29 : decode cX7_night 29 = .ok (.aload_n 0, 1) := by decide +kernel
theorem dX7_night_30 : decode cX7_night 30 = .ok (.getfield 37, 3) := by decide +kernel
theorem dX7_night_33 : decode cX7_night 33 = .ok (.aload_n 0, 1) := by decide +kernel
theorem dX7_night_34 : decode cX7_night 34 = .ok (.getfield 26, 3) := by decide +kernel
theorem dX7_night_37 : decode cX7_night 37 = .ok (.invokevirtual 145, 3) := by decide +kernel
theorem dX7_night_40 : decode cX7_night 40 = .ok (.aload_n 0, 1) := by decide +kernel
theorem dX7_night_41 : decode cX7_night 41 = .ok (.getfield 26, 3) := by decide +kernel
theorem dX7_night_44 : decode cX7_night 44 = .ok (.aload_n 0, 1) := by decide +kernel
theorem dX7_night_45 : decode cX7_night 45 = .ok (.getfield 26, 3) := by decide +kernel
theorem dX7_night_48 : decode cX7_night 48 = .ok (.getfield 148, 3) := by decide +kernel
theorem dX7_night_51 : decode cX7_night 51 = .ok (.aload_n 0, 1) := by decide +kernel
theorem dX7_night_52 : decode cX7_night 52 = .ok (.getfield 26, 3) := by decide +kernel
theorem dX7_night_55 : decode cX7_night 55 = .ok (.getfield 142, 3) := by decide +kernel
theorem dX7_night_58 : decode cX7_night 58 = .ok (.bipush 31, 2) := by decide +kernel
theorem dX7_night_60 : decode cX7_night 60 = .ok (.invokevirtual 152, 3) := by decide +kernel
theorem dX7_night_63 : decode cX7_night 63 = .ok (.aload_n 0, 1) := by decide +kernel
theorem dX7_night_64 : decode cX7_night 64 = .ok (.getfield 26, 3) := by decide +kernel
theorem dX7_night_67 : decode cX7_night 67 = .ok (.dup, 1) := by decide +kernel
theorem dX7_night_68 : decode cX7_night 68 = .ok (.getfield 142, 3) := by decide +kernel
theorem dX7_night_71 : decode cX7_night 71 = .ok (.iconst 1, 1) := by decide +kernel
theorem dX7_night_72 : decode cX7_night 72 = .ok (.iadd, 1) := by decide +kernel
theorem dX7_night_73 : decode cX7_night 73 = .ok (.putfield 142, 3) := by decide +kernel
theorem dX7_night_76 : decode cX7_night 76 = .ok (.aload_n 0, 1) := by decide +kernel
theorem dX7_night_77 : decode cX7_night 77 = .ok (.getfield 37, 3) := by decide +kernel
theorem dX7_night_80 : decode cX7_night 80 = .ok (.aload_n 0, 1) := by decide +kernel
theorem dX7_night_81 : decode cX7_night 81 = .ok (.getfield 26, 3) := by decide +kernel
theorem dX7_night_84 : decode cX7_night 84 = .ok (.invokevirtual 156, 3) := by decide +kernel
theorem dX7_night_87 : decode cX7_night 87 = .ok (.ireturn, 1) := by decide +kernel
set_option maxRecDepth 20000 in
theorem ggX7_night_X0_displacedByLatest : GoodIn wsX7_night wsX0_displacedByLatest := goodIn_r _ [49, 9, 10, 77, 78, 79, 60, 61, 62, 63, 64, 65, 66, 67, 68, 69, 70, 71, 72, 73, 74, 75, 76] rfl (by decide +kernel)
set_option maxRecDepth 20000 in
theorem gX7_night_X0_displacedByLatest_n156 : GoodIn wsX7_night (wsX0_displacedByLatest) := ggX7_night_X0_displacedByLatest
set_option maxRecDepth 20000 in
theorem ggX7_night_X0_keep : GoodIn wsX7_night wsX0_keep := goodIn_r _ [8, 9, 10, 11, 12, 13, 14, 15, 77, 78, 79, 60, 61, 62, 63, 64, 65, 66, 67, 68, 69, 70, 71, 72, 73, 74, 75, 76] rfl (by decide +kernel)
set_option maxRecDepth 20000 in
theorem gX7_night_X0_keep_n145 : GoodIn wsX7_night (wsX0_keep) := ggX7_night_X0_keep
set_option maxRecDepth 20000 in
theorem ggX7_night_X5_pass : GoodIn wsX7_night wsX5_pass := goodIn_r _ [19, 20, 21, 22, 23, 17, 24, 25, 26, 27, 28, 29, 30, 31, 32, 33, 34, 35, 36, 37, 38, 39, 40, 41, 42, 43, 44, 45, 46, 60, 61, 62, 63, 64, 65, 66, 67, 68, 69, 70, 71, 72, 73, 74, 75, 76] rfl (by decide +kernel)
set_option maxRecDepth 20000 in
theorem gX7_night_X5_pass_n152 : GoodIn wsX7_night (wsX5_pass) := ggX7_night_X5_pass
theorem hd_X0_displacedByLatest : yX0_displacedByLatest.cls = RX0 ∧ yX0_displacedByLatest.cls ≠ "java/lang/invoke/MethodHandle" ∧ yX0_displacedByLatest.cls ≠ "java/lang/invoke/VarHandle" ∧ (parseMethodDescriptor yX0_displacedByLatest.desc).map (fun d => d.parameters.length) = some 1 := by decide +kernel
theorem hd_X0_keep : yX0_keep.cls = RX0 ∧ yX0_keep.cls ≠ "java/lang/invoke/MethodHandle" ∧ yX0_keep.cls ≠ "java/lang/invoke/VarHandle" ∧ (parseMethodDescriptor yX0_keep.desc).map (fun d => d.parameters.length) = some 1 := by decide +kernel
theorem nd_44_3_16_9 : va_nd (List.range' 44 3 ++ List.range' 16 9) = true := by decide +kernel
theorem hC_X0_keep_44_16 (g : nz_G) (a : Nat → Nat) (X : Nat → Nat → Int32) : (List.range' 44 3 ++ List.range' 16 9).map (fun i => (nz_wX g a X)[i]?) = (([((a 44), .inr (0, [.ref (a 45), .ref (a 46), .int (X 44 2)])), ((a 45), .inl (nz_cI g, 144, .inl (X 45))), ((a 46), .inl (nz_cI g, 24, .inl (X 46))), ((a 16), .inr (5, [.int (X 16 0), .int (X 16 1), .int (X 16 2), .int (X 16 3), .int (X 16 4), .int (X 16 5), .int (X 16 6), .int (X 16 7), .int (X 16 8), .ref (a 17), .ref (a 18), .ref (a 19), .ref (a 20), .ref (a 21), .ref (a 22), .ref (a 23), .ref (a 24)])), ((a 17), .inl (nz_cI g, 6, .inl (X 17))), ((a 18), .inl (nz_cI g, 6, .inl (X 18))), ((a 19), .inl (nz_cI g, 6, .inl (X 19))), ((a 20), .inl (nz_cI g, 5, .inl (X 20))), ((a 21), .inl (nz_cI g, 5, .inl (X 21))), ((a 22), .inl (nz_cI g, 5, .inl (X 22))), ((a 23), .inl (nz_cI g, 5, .inl (X 23))), ((a 24), .inl (nz_cI g, 48, .inl (X 24)))] : va_W)).map some := rfl
def wX_X0_keep_44_16 (X : Nat → Nat → Int32) (K : (Nat → Nat → Int32) → Prop) : Prop := wp_X0_keep (X 44 2) (X 45) (X 46) (X 16 5) (X 18) (fun m0 m1 m2 => K (va_up (va_up (va_up X 44 (upd (X 44) 2 m0)) 45 m1) 46 m2))
theorem kX_X0_keep_44_16 {y : nz_Y} {g : nz_G} {k n pc : Nat} {ls : List (Nat × Value)} {st rest : List Value} {av : Array Value} {K : (Nat → Nat → Int32) → Prop} (a : Nat → Nat) (X : Nat → Nat → Int32) (run : ∀ Q : Nat → Array Value → State → Outcome → State → Prop, nz_M (yz_l y) yX0_keep wsX0_keep rm_X0_keep g [.ref (a 44), .ref (a 16)] [((a 44), .inr (0, [.ref (a 45), .ref (a 46), .int (X 44 2)])), ((a 45), .inl (nz_cI g, 144, .inl (X 45))), ((a 46), .inl (nz_cI g, 24, .inl (X 46))), ((a 16), .inr (5, [.int (X 16 0), .int (X 16 1), .int (X 16 2), .int (X 16 3), .int (X 16 4), .int (X 16 5), .int (X 16 6), .int (X 16 7), .int (X 16 8), .ref (a 17), .ref (a 18), .ref (a 19), .ref (a 20), .ref (a 21), .ref (a 22), .ref (a 23), .ref (a 24)])), ((a 17), .inl (nz_cI g, 6, .inl (X 17))), ((a 18), .inl (nz_cI g, 6, .inl (X 18))), ((a 19), .inl (nz_cI g, 6, .inl (X 19))), ((a 20), .inl (nz_cI g, 5, .inl (X 20))), ((a 21), .inl (nz_cI g, 5, .inl (X 21))), ((a 22), .inl (nz_cI g, 5, .inl (X 22))), ((a 23), .inl (nz_cI g, 5, .inl (X 23))), ((a 24), .inl (nz_cI g, 48, .inl (X 24)))] Q → nz_C y g k n (nz_wX g a X) pc ls st rest [((a 44), .inr (0, [.ref (a 45), .ref (a 46), .int (X 44 2)])), ((a 45), .inl (nz_cI g, 144, .inl (X 45))), ((a 46), .inl (nz_cI g, 24, .inl (X 46))), ((a 16), .inr (5, [.int (X 16 0), .int (X 16 1), .int (X 16 2), .int (X 16 3), .int (X 16 4), .int (X 16 5), .int (X 16 6), .int (X 16 7), .int (X 16 8), .ref (a 17), .ref (a 18), .ref (a 19), .ref (a 20), .ref (a 21), .ref (a 22), .ref (a 23), .ref (a 24)])), ((a 17), .inl (nz_cI g, 6, .inl (X 17))), ((a 18), .inl (nz_cI g, 6, .inl (X 18))), ((a 19), .inl (nz_cI g, 6, .inl (X 19))), ((a 20), .inl (nz_cI g, 5, .inl (X 20))), ((a 21), .inl (nz_cI g, 5, .inl (X 21))), ((a 22), .inl (nz_cI g, 5, .inl (X 22))), ((a 23), .inl (nz_cI g, 5, .inl (X 23))), ((a 24), .inl (nz_cI g, 48, .inl (X 24)))] Q av (List.range' 44 3 ++ List.range' 16 9)) (h : wX_X0_keep_44_16 X K) (kk : ∀ (X1 : Nat → Nat → Int32), K X1 → nz_V y g k n (nz_wX g a X1) (pc + 3) ls (rest)) : nz_V y g k n (nz_wX g a X) pc ls st :=
 k_X0_keep (a 44) (a 45) (a 46) (a 16) (a 17) (a 18) (a 19) (a 20) (a 21) (a 22) (a 23) (a 24) (X 44 2) (X 45) (X 46) (X 16 0) (X 16 1) (X 16 2) (X 16 3) (X 16 4) (X 16 5) (X 16 6) (X 16 7) (X 16 8) (X 17) (X 18) (X 19) (X 20) (X 21) (X 22) (X 23) (X 24) (run _) h (fun m0 m1 m2 => nz_wX g a (va_up (va_up (va_up X 44 (upd (X 44) 2 m0)) 45 m1) 46 m2)) (fun m0 m1 m2 => nz_xm (hC_X0_keep_44_16 g a (va_up (va_up (va_up X 44 (upd (X 44) 2 m0)) 45 m1) 46 m2)) (nz_ag.up (nz_ag.up (nz_ag.up nz_ag.refl rfl) rfl) rfl)) (fun m0 m1 m2 h => kk (va_up (va_up (va_up X 44 (upd (X 44) 2 m0)) 45 m1) 46 m2) h)
theorem nd_16_9 : va_nd (List.range' 16 9) = true := by decide +kernel
theorem hC_X5_pass_at_16 (g : nz_G) (a : Nat → Nat) (X : Nat → Nat → Int32) : (List.range' 16 9).map (fun i => (nz_wX g a X)[i]?) = (([((a 16), .inr (5, [.int (X 16 0), .int (X 16 1), .int (X 16 2), .int (X 16 3), .int (X 16 4), .int (X 16 5), .int (X 16 6), .int (X 16 7), .int (X 16 8), .ref (a 17), .ref (a 18), .ref (a 19), .ref (a 20), .ref (a 21), .ref (a 22), .ref (a 23), .ref (a 24)])), ((a 17), .inl (nz_cI g, 6, .inl (X 17))), ((a 18), .inl (nz_cI g, 6, .inl (X 18))), ((a 19), .inl (nz_cI g, 6, .inl (X 19))), ((a 20), .inl (nz_cI g, 5, .inl (X 20))), ((a 21), .inl (nz_cI g, 5, .inl (X 21))), ((a 22), .inl (nz_cI g, 5, .inl (X 22))), ((a 23), .inl (nz_cI g, 5, .inl (X 23))), ((a 24), .inl (nz_cI g, 48, .inl (X 24)))] : va_W)).map some := rfl
def wX_X5_pass_at_16 (X : Nat → Nat → Int32) (v2 : Int32) (v3 : Int32) (K : (Nat → Nat → Int32) → Prop) : Prop := wp_X5_pass_at (X 16 1) (X 16 6) (X 16 7) (X 18) (X 19) (X 20) (X 21) (X 22) (X 23) v2 v3 (fun m0 => K (va_up X 18 m0))
theorem kX_X5_pass_at_16 {y : nz_Y} {g : nz_G} {k n pc : Nat} {ls : List (Nat × Value)} {st rest : List Value} {av : Array Value} {K : (Nat → Nat → Int32) → Prop} (a : Nat → Nat) (X : Nat → Nat → Int32) (v2 : Int32) (v3 : Int32) (run : ∀ Q : Nat → Array Value → State → Outcome → State → Prop, nz_M (yz_l y) yX5_pass wsX5_pass rm_X5_pass_at g [.ref (a 16), .ref (a 18), .int v2, .int v3] [((a 16), .inr (5, [.int (X 16 0), .int (X 16 1), .int (X 16 2), .int (X 16 3), .int (X 16 4), .int (X 16 5), .int (X 16 6), .int (X 16 7), .int (X 16 8), .ref (a 17), .ref (a 18), .ref (a 19), .ref (a 20), .ref (a 21), .ref (a 22), .ref (a 23), .ref (a 24)])), ((a 17), .inl (nz_cI g, 6, .inl (X 17))), ((a 18), .inl (nz_cI g, 6, .inl (X 18))), ((a 19), .inl (nz_cI g, 6, .inl (X 19))), ((a 20), .inl (nz_cI g, 5, .inl (X 20))), ((a 21), .inl (nz_cI g, 5, .inl (X 21))), ((a 22), .inl (nz_cI g, 5, .inl (X 22))), ((a 23), .inl (nz_cI g, 5, .inl (X 23))), ((a 24), .inl (nz_cI g, 48, .inl (X 24)))] Q → nz_C y g k n (nz_wX g a X) pc ls st rest [((a 16), .inr (5, [.int (X 16 0), .int (X 16 1), .int (X 16 2), .int (X 16 3), .int (X 16 4), .int (X 16 5), .int (X 16 6), .int (X 16 7), .int (X 16 8), .ref (a 17), .ref (a 18), .ref (a 19), .ref (a 20), .ref (a 21), .ref (a 22), .ref (a 23), .ref (a 24)])), ((a 17), .inl (nz_cI g, 6, .inl (X 17))), ((a 18), .inl (nz_cI g, 6, .inl (X 18))), ((a 19), .inl (nz_cI g, 6, .inl (X 19))), ((a 20), .inl (nz_cI g, 5, .inl (X 20))), ((a 21), .inl (nz_cI g, 5, .inl (X 21))), ((a 22), .inl (nz_cI g, 5, .inl (X 22))), ((a 23), .inl (nz_cI g, 5, .inl (X 23))), ((a 24), .inl (nz_cI g, 48, .inl (X 24)))] Q av (List.range' 16 9)) (h : wX_X5_pass_at_16 X v2 v3 K) (kk : ∀ (X1 : Nat → Nat → Int32), K X1 → nz_V y g k n (nz_wX g a X1) (pc + 3) ls (rest)) : nz_V y g k n (nz_wX g a X) pc ls st :=
 k_X5_pass_at (a 16) (a 17) (a 18) (a 19) (a 20) (a 21) (a 22) (a 23) (a 24) (X 16 0) (X 16 1) (X 16 2) (X 16 3) (X 16 4) (X 16 5) (X 16 6) (X 16 7) (X 16 8) (X 17) (X 18) (X 19) (X 20) (X 21) (X 22) (X 23) (X 24) v2 v3 (run _) h (fun m0 => nz_wX g a (va_up X 18 m0)) (fun m0 => nz_xm (hC_X5_pass_at_16 g a (va_up X 18 m0)) (nz_ag.up nz_ag.refl rfl)) (fun m0 h => kk (va_up X 18 m0) h)
theorem hC_X0_displacedByLatest_44_16 (g : nz_G) (a : Nat → Nat) (X : Nat → Nat → Int32) : (List.range' 44 3 ++ List.range' 16 9).map (fun i => (nz_wX g a X)[i]?) = (([((a 44), .inr (0, [.ref (a 45), .ref (a 46), .int (X 44 2)])), ((a 45), .inl (nz_cI g, 144, .inl (X 45))), ((a 46), .inl (nz_cI g, 24, .inl (X 46))), ((a 16), .inr (5, [.int (X 16 0), .int (X 16 1), .int (X 16 2), .int (X 16 3), .int (X 16 4), .int (X 16 5), .int (X 16 6), .int (X 16 7), .int (X 16 8), .ref (a 17), .ref (a 18), .ref (a 19), .ref (a 20), .ref (a 21), .ref (a 22), .ref (a 23), .ref (a 24)])), ((a 17), .inl (nz_cI g, 6, .inl (X 17))), ((a 18), .inl (nz_cI g, 6, .inl (X 18))), ((a 19), .inl (nz_cI g, 6, .inl (X 19))), ((a 20), .inl (nz_cI g, 5, .inl (X 20))), ((a 21), .inl (nz_cI g, 5, .inl (X 21))), ((a 22), .inl (nz_cI g, 5, .inl (X 22))), ((a 23), .inl (nz_cI g, 5, .inl (X 23))), ((a 24), .inl (nz_cI g, 48, .inl (X 24)))] : va_W)).map some := rfl
def wX_X0_displacedByLatest_44_16 (X : Nat → Nat → Int32) (K : Int32 → Prop) : Prop := wp_X0_displacedByLatest (X 44 2) (X 45) (X 16 6) (X 18) (fun r => K r)
theorem kX_X0_displacedByLatest_44_16 {y : nz_Y} {g : nz_G} {k n pc : Nat} {ls : List (Nat × Value)} {st rest : List Value} {av : Array Value} {K : Int32 → Prop} (a : Nat → Nat) (X : Nat → Nat → Int32) (run : ∀ Q : Nat → Array Value → State → Outcome → State → Prop, nz_M (yz_l y) yX0_displacedByLatest wsX0_displacedByLatest rm_X0_displacedByLatest g [.ref (a 44), .ref (a 16)] [((a 44), .inr (0, [.ref (a 45), .ref (a 46), .int (X 44 2)])), ((a 45), .inl (nz_cI g, 144, .inl (X 45))), ((a 46), .inl (nz_cI g, 24, .inl (X 46))), ((a 16), .inr (5, [.int (X 16 0), .int (X 16 1), .int (X 16 2), .int (X 16 3), .int (X 16 4), .int (X 16 5), .int (X 16 6), .int (X 16 7), .int (X 16 8), .ref (a 17), .ref (a 18), .ref (a 19), .ref (a 20), .ref (a 21), .ref (a 22), .ref (a 23), .ref (a 24)])), ((a 17), .inl (nz_cI g, 6, .inl (X 17))), ((a 18), .inl (nz_cI g, 6, .inl (X 18))), ((a 19), .inl (nz_cI g, 6, .inl (X 19))), ((a 20), .inl (nz_cI g, 5, .inl (X 20))), ((a 21), .inl (nz_cI g, 5, .inl (X 21))), ((a 22), .inl (nz_cI g, 5, .inl (X 22))), ((a 23), .inl (nz_cI g, 5, .inl (X 23))), ((a 24), .inl (nz_cI g, 48, .inl (X 24)))] Q → nz_C y g k n (nz_wX g a X) pc ls st rest [((a 44), .inr (0, [.ref (a 45), .ref (a 46), .int (X 44 2)])), ((a 45), .inl (nz_cI g, 144, .inl (X 45))), ((a 46), .inl (nz_cI g, 24, .inl (X 46))), ((a 16), .inr (5, [.int (X 16 0), .int (X 16 1), .int (X 16 2), .int (X 16 3), .int (X 16 4), .int (X 16 5), .int (X 16 6), .int (X 16 7), .int (X 16 8), .ref (a 17), .ref (a 18), .ref (a 19), .ref (a 20), .ref (a 21), .ref (a 22), .ref (a 23), .ref (a 24)])), ((a 17), .inl (nz_cI g, 6, .inl (X 17))), ((a 18), .inl (nz_cI g, 6, .inl (X 18))), ((a 19), .inl (nz_cI g, 6, .inl (X 19))), ((a 20), .inl (nz_cI g, 5, .inl (X 20))), ((a 21), .inl (nz_cI g, 5, .inl (X 21))), ((a 22), .inl (nz_cI g, 5, .inl (X 22))), ((a 23), .inl (nz_cI g, 5, .inl (X 23))), ((a 24), .inl (nz_cI g, 48, .inl (X 24)))] Q av (List.range' 44 3 ++ List.range' 16 9)) (h : wX_X0_displacedByLatest_44_16 X K) (kk : ∀ (r : Int32), K r → nz_V y g k n (nz_wX g a X) (pc + 3) ls (.int r :: rest)) : nz_V y g k n (nz_wX g a X) pc ls st :=
 k_X0_displacedByLatest (a 44) (a 45) (a 46) (a 16) (a 17) (a 18) (a 19) (a 20) (a 21) (a 22) (a 23) (a 24) (X 44 2) (X 45) (X 46) (X 16 0) (X 16 1) (X 16 2) (X 16 3) (X 16 4) (X 16 5) (X 16 6) (X 16 7) (X 16 8) (X 17) (X 18) (X 19) (X 20) (X 21) (X 22) (X 23) (X 24) (run _) h (nz_wX g a X) (nz_xm (hC_X0_displacedByLatest_44_16 g a X) nz_ag.refl) (fun r h => kk r h)
/-! X7_night -/
abbrev rm_X7_night : Room := { frames := 3, cells := 0, slots := 0, locals := 73 }
theorem iw_X7_night_7 : ∀ w ∈ wsX70, w ∈ wsX7_night := fun _ h => List.mem_cons_of_mem _ (List.mem_append_left _ (List.mem_append_left _ (List.mem_append_right _ h)))
theorem iw_X7_night_5 : ∀ w ∈ wsX50, w ∈ wsX7_night := fun _ h => List.mem_cons_of_mem _ (List.mem_append_left _ (List.mem_append_right _ h))
theorem fl_X7_night_26 : Cond.fieldLink RX7 26 "NightStones" "now" "LNightStones$Road;" ∈ wsX7_night := List.mem_of_getElem? (i := 1) rfl
theorem fn_X7_night_137 : Cond.fieldLinkNest RX7 137 "NightStones$Road" "isThere" "Z" RX7 ∈ nz_nest := List.mem_of_getElem? (i := 4) rfl
theorem fn_X7_night_142 : Cond.fieldLinkNest RX7 142 "NightStones$Road" "nights" "I" RX7 ∈ nz_nest := List.mem_of_getElem? (i := 16) rfl
theorem fl_X7_night_37 : Cond.fieldLink RX7 37 "NightStones" "acts" "LNightStones$Acts;" ∈ wsX7_night := List.mem_of_getElem? (i := 4) rfl
theorem nt_X7_night_X0_keep_145 : Cond.methodLinkNest RX7 145 yX0_keep RX7 ∈ nz_nest := List.mem_of_getElem? (i := 70) rfl
theorem wd_X7_night_in_RX0 : Cond.initialized RX0 ∈ wsX7_night := List.mem_of_getElem? (i := 6) rfl
theorem wd_X7_night_im_X0_keep : Cond.instanceMethod yX0_keep ∈ wsX7_night := List.mem_of_getElem? (i := 5) rfl
theorem wd_X7_night_se_X0_keep : Cond.selects RX0 yX0_keep yX0_keep ∈ wsX7_night := List.mem_of_getElem? (i := 7) rfl
theorem fn_X7_night_148 : Cond.fieldLinkNest RX7 148 "NightStones$Road" "at" "[I" RX7 ∈ nz_nest := List.mem_of_getElem? (i := 34) rfl
theorem nt_X7_night_X5_pass_152 : Cond.methodLinkNest RX7 152 yX5_pass RX7 ∈ nz_nest := List.mem_of_getElem? (i := 71) rfl
theorem wd_X7_night_in_RX5 : Cond.initialized RX5 ∈ wsX7_night := List.mem_of_getElem? (i := 17) rfl
theorem wd_X7_night_im_X5_pass : Cond.instanceMethod yX5_pass ∈ wsX7_night := List.mem_of_getElem? (i := 16) rfl
theorem wd_X7_night_se_X5_pass : Cond.selects RX5 yX5_pass yX5_pass ∈ wsX7_night := List.mem_of_getElem? (i := 18) rfl
theorem nt_X7_night_X0_displacedByLatest_156 : Cond.methodLinkNest RX7 156 yX0_displacedByLatest RX7 ∈ nz_nest := List.mem_of_getElem? (i := 72) rfl
theorem wd_X7_night_im_X0_displacedByLatest : Cond.instanceMethod yX0_displacedByLatest ∈ wsX7_night := List.mem_of_getElem? (i := 47) rfl
theorem wd_X7_night_se_X0_displacedByLatest : Cond.selects RX0 yX0_displacedByLatest yX0_displacedByLatest ∈ wsX7_night := List.mem_of_getElem? (i := 48) rfl
theorem wd_X7_night_c106 : Cond.constant RX7 106 (-1000003) ∈ wsX7_night := List.mem_of_getElem? (i := 3) rfl
theorem wd_X7_night_c141 : Cond.constant RX7 141 (-1000002) ∈ wsX7_night := List.mem_of_getElem? (i := 2) rfl
def wp_X7_night (X : Nat → Nat → Int32) (K : Int32 → (Nat → Nat → Int32) → Prop) : Prop := ((¬ (X 16 0) = 0 → (((X 16 5) < 9999 → wX_X0_keep_44_16 X (fun X3 => wX_X5_pass_at_16 X3 (X3 16 5) 31 (fun X4 => wX_X0_displacedByLatest_44_16 (va_up X4 16 (upd (X4 16) 5 ((X4 16 5) + 1))) (fun q5 => K q5 (va_up X4 16 (upd (X4 16) 5 ((X4 16 5) + 1))))))) ∧ (¬ ((X 16 5) < 9999) → K (-1000003 : Int32) X))) ∧ ((X 16 0) = 0 → K (-1000002 : Int32) X))
set_option maxHeartbeats 4000000 in
set_option maxRecDepth 100000 in
theorem c_X7_night (l : Launch) (g : nz_G) (a : Nat → Nat) (X : Nat → Nat → Int32) (K : Int32 → (Nat → Nat → Int32) → Prop) (h : wp_X7_night X K) : nz_M l yX7_night wsX7_night rm_X7_night g [.ref (a 0)] (nz_wX g a X) (nz_Qi g (nz_wX g a X) (fun r (u : Nat → Nat → Int32) => K r u) (fun u => nz_wX g a u)) := by
  refine nz_M.of (bytes := cX7_night) (nL := 1) (ret := (some .int)) (own := RX7) (by decide) rfl rfl ⟨rfl, rfl⟩ rfl ?_
  intro y F hl hQ
  obtain ⟨sz, hQ⟩ := hQ
  refine nz_ent (lv' := [(0, .ref (a 0))]) rfl ?_
  unfold wp_X7_night at h
  refine nz_aload_n F dX7_night_0 rfl 0 rfl ?_
  refine nz_get F iw_X7_night_7 0 (nz_xg0 g a X) rfl 2 (by decide) rfl fl_X7_night_26 rfl dX7_night_1 ?_
  refine nz_getN F iw_X7_night_5 16 (nz_xg16 g a X) rfl 0 (by decide) rfl fn_X7_night_137 rfl dX7_night_4 ?_
  refine nz_if_ne (tgt := 13) F dX7_night_7 (by decide) (fun c1 => ?_) (fun c1 => ?_)
  · have h := h.1 c1
    refine nz_aload_n F dX7_night_13 rfl 0 rfl ?_
    refine nz_get F iw_X7_night_7 0 (nz_xg0 g a X) rfl 2 (by decide) rfl fl_X7_night_26 rfl dX7_night_14 ?_
    refine nz_getN F iw_X7_night_5 16 (nz_xg16 g a X) rfl 5 (by decide) rfl fn_X7_night_142 rfl dX7_night_17 ?_
    refine nz_sipush (v := 9999) F dX7_night_20 (by decide) ?_
    refine nz_icmp_lt (tgt := 29) F dX7_night_23 (by decide) (fun c2 => ?_) (fun c2 => ?_)
    · have h := h.1 c2
      refine nz_aload_n F dX7_night_29 rfl 0 rfl ?_
      refine nz_get F iw_X7_night_7 0 (nz_xg0 g a X) rfl 4 (by decide) rfl fl_X7_night_37 rfl dX7_night_30 ?_
      refine nz_aload_n F dX7_night_33 rfl 0 rfl ?_
      refine nz_get F iw_X7_night_7 0 (nz_xg0 g a X) rfl 2 (by decide) rfl fl_X7_night_26 rfl dX7_night_34 ?_
      refine kX_X0_keep_44_16 a X (fun Q hM => nz_runVN F gX7_night_X0_keep_n145 rfl nt_X7_night_X0_keep_145 wd_X7_night_in_RX0 wd_X7_night_im_X0_keep wd_X7_night_se_X0_keep hd_X0_keep rfl hM dX7_night_37 (List.range' 44 3 ++ List.range' 16 9) (hC_X0_keep_44_16 g a X) nd_44_3_16_9 44 (nz_xg44 g a X) rfl rfl (Nat.le_of_ble_eq_true rfl) rfl) h (fun X3 h => ?_)
      refine nz_aload_n F dX7_night_40 rfl 0 rfl ?_
      refine nz_get F iw_X7_night_7 0 (nz_xg0 g a X3) rfl 2 (by decide) rfl fl_X7_night_26 rfl dX7_night_41 ?_
      refine nz_aload_n F dX7_night_44 rfl 0 rfl ?_
      refine nz_get F iw_X7_night_7 0 (nz_xg0 g a X3) rfl 2 (by decide) rfl fl_X7_night_26 rfl dX7_night_45 ?_
      refine nz_getN F iw_X7_night_5 16 (nz_xg16 g a X3) rfl 10 (by decide) rfl fn_X7_night_148 rfl dX7_night_48 ?_
      refine nz_aload_n F dX7_night_51 rfl 0 rfl ?_
      refine nz_get F iw_X7_night_7 0 (nz_xg0 g a X3) rfl 2 (by decide) rfl fl_X7_night_26 rfl dX7_night_52 ?_
      refine nz_getN F iw_X7_night_5 16 (nz_xg16 g a X3) rfl 5 (by decide) rfl fn_X7_night_142 rfl dX7_night_55 ?_
      refine nz_bipush (v := 31) F dX7_night_58 (by decide) ?_
      refine kX_X5_pass_at_16 a X3 (X3 16 5) 31 (fun Q hM => nz_runVN F gX7_night_X5_pass_n152 rfl nt_X7_night_X5_pass_152 wd_X7_night_in_RX5 wd_X7_night_im_X5_pass wd_X7_night_se_X5_pass hd_X5_pass rfl hM dX7_night_60 (List.range' 16 9) (hC_X5_pass_at_16 g a X3) nd_16_9 16 (nz_xg16 g a X3) rfl rfl (Nat.le_of_ble_eq_true rfl) rfl) h (fun X4 h => ?_)
      refine nz_aload_n F dX7_night_63 rfl 0 rfl ?_
      refine nz_get F iw_X7_night_7 0 (nz_xg0 g a X4) rfl 2 (by decide) rfl fl_X7_night_26 rfl dX7_night_64 ?_
      refine nz_dup F dX7_night_67 rfl ?_
      refine nz_getN F iw_X7_night_5 16 (nz_xg16 g a X4) rfl 5 (by decide) rfl fn_X7_night_142 rfl dX7_night_68 ?_
      refine nz_iconst (v := 1) F dX7_night_71 (by decide) ?_
      refine nz_iadd F dX7_night_72 ?_
      refine nz_putN (ws' := (nz_wX g a (va_up X4 16 (upd (X4 16) 5 ((X4 16 5) + 1))))) F iw_X7_night_5 tyX5 tyX5_ok nmX5 16 (nz_xg16 g a X4) rfl 5 (by decide) rfl fn_X7_night_142 rfl rfl (Nat.le_of_ble_eq_true rfl) dX7_night_73 (nz_xput (nz_xg16 g a (va_up X4 16 (upd (X4 16) 5 ((X4 16 5) + 1))))) ?_
      refine nz_aload_n F dX7_night_76 rfl 0 rfl ?_
      refine nz_get F iw_X7_night_7 0 (nz_xg0 g a (va_up X4 16 (upd (X4 16) 5 ((X4 16 5) + 1)))) rfl 4 (by decide) rfl fl_X7_night_37 rfl dX7_night_77 ?_
      refine nz_aload_n F dX7_night_80 rfl 0 rfl ?_
      refine nz_get F iw_X7_night_7 0 (nz_xg0 g a (va_up X4 16 (upd (X4 16) 5 ((X4 16 5) + 1)))) rfl 2 (by decide) rfl fl_X7_night_26 rfl dX7_night_81 ?_
      refine kX_X0_displacedByLatest_44_16 a (va_up X4 16 (upd (X4 16) 5 ((X4 16 5) + 1))) (fun Q hM => nz_runVN F gX7_night_X0_displacedByLatest_n156 rfl nt_X7_night_X0_displacedByLatest_156 wd_X7_night_in_RX0 wd_X7_night_im_X0_displacedByLatest wd_X7_night_se_X0_displacedByLatest hd_X0_displacedByLatest rfl hM dX7_night_84 (List.range' 44 3 ++ List.range' 16 9) (hC_X0_displacedByLatest_44_16 g a (va_up X4 16 (upd (X4 16) 5 ((X4 16 5) + 1)))) nd_44_3_16_9 44 (nz_xg44 g a (va_up X4 16 (upd (X4 16) 5 ((X4 16 5) + 1)))) rfl rfl (Nat.le_of_ble_eq_true rfl) rfl) h (fun q5 h => ?_)
      exact nz_iret F hQ (va_up X4 16 (upd (X4 16) 5 ((X4 16 5) + 1))) h rfl dX7_night_87
    · have h := h.2 c2
      refine nz_ldc (v := (-1000003 : Int32)) F wd_X7_night_c106 dX7_night_26 ?_
      exact nz_iret F hQ X h rfl dX7_night_28
  · have h := h.2 c1
    refine nz_ldc (v := (-1000002 : Int32)) F wd_X7_night_c141 dX7_night_10 ?_
    exact nz_iret F hQ X h rfl dX7_night_12
theorem k_X7_night {y : nz_Y} {g : nz_G} {k n : Nat} {ws : va_W} {pc : Nat} {ls : List (Nat × Value)} {st rest : List Value} {av : Array Value} {isC : List Nat} {K : Int32 → (Nat → Nat → Int32) → Prop} (a : Nat → Nat) (X : Nat → Nat → Int32) (run : nz_M (yz_l y) yX7_night wsX7_night rm_X7_night g [.ref (a 0)] (nz_wX g a X) (nz_Qi g (nz_wX g a X) (fun r (u : Nat → Nat → Int32) => K r u) (fun u => nz_wX g a u)) → nz_C y g k n ws pc ls st rest (nz_wX g a X) (nz_Qi g (nz_wX g a X) (fun r (u : Nat → Nat → Int32) => K r u) (fun u => nz_wX g a u)) av isC) (h : wp_X7_night X K) (ws' : (Nat → Nat → Int32) → va_W) (hm : ∀ (m0 : (Nat → Nat → Int32)), nz_mrg ws isC (nz_wX g a m0) = ws' m0) (kk : ∀ (r : Int32) (m0 : (Nat → Nat → Int32)), K r m0 → nz_V y g k n (ws' m0) (pc + 3) ls (.int r :: rest)) : nz_V y g k n ws pc ls st :=
  nz_ci (ws' := fun u => ws' u) (run (c_X7_night (yz_l y) g a X K h)) (fun _ => rfl) (fun u => hm u) (fun r u h => kk r u h)
theorem dX7_prove_0 : decode cX7_prove 0 = .ok (.aload_n 0, 1) := by decide +kernel
theorem dX7_prove_1 : decode cX7_prove 1 = .ok (.getfield 26, 3) := by decide +kernel
theorem dX7_prove_4 : decode cX7_prove 4 = .ok (.iload_n 1, 1) := by decide +kernel
theorem dX7_prove_5 : decode cX7_prove 5 = .ok (.invokevirtual 160, 3) := by decide +kernel
theorem dX7_prove_8 : decode cX7_prove 8 = .ok (.ifCond .ne 6, 3) := by decide +kernel
theorem dX7_prove_11 : decode cX7_prove 11 = .ok (.ldc 70, 2) := by decide +kernel
theorem dX7_prove_13 : decode cX7_prove 13 = .ok (.ireturn, 1) := by decide +kernel
theorem dX7_prove_14 : decode cX7_prove 14 = .ok (.aload_n 0, 1) := by decide +kernel
theorem dX7_prove_15 : decode cX7_prove 15 = .ok (.getfield 26, 3) := by decide +kernel
theorem dX7_prove_18 : decode cX7_prove 18 = .ok (.getfield 148, 3) := by decide +kernel
theorem dX7_prove_21 : decode cX7_prove 21 = .ok (.iload_n 1, 1) := by decide +kernel
theorem dX7_prove_22 : decode cX7_prove 22 = .ok (.iaload, 1) := by decide +kernel
theorem dX7_prove_23 : decode cX7_prove 23 = .ok (.aload_n 0, 1) := by decide +kernel
theorem dX7_prove_24 : decode cX7_prove 24 = .ok (.getfield 26, 3) := by decide +kernel
theorem dX7_prove_27 : decode cX7_prove 27 = .ok (.getfield 163, 3) := by decide +kernel
theorem dX7_prove_30 : decode cX7_prove 30 = .ok (.iload_n 1, 1) := by decide +kernel
theorem dX7_prove_31 : decode cX7_prove 31 = .ok (.iaload, 1) := by decide +kernel
theorem dX7_prove_32 : decode cX7_prove 32 = .ok (.isub, 1) := by decide +kernel
theorem dX7_prove_33 : decode cX7_prove 33 = .ok (.invokestatic 166, 3) := by decide +kernel
theorem dX7_prove_36 : decode cX7_prove 36 = .ok (.istore_n 2, 1) := by decide +kernel
theorem dX7_prove_37 : decode cX7_prove 37 = .ok (.iload_n 2, 1) := by decide +kernel
theorem dX7_prove_38 : decode cX7_prove 38 = .ok (.ifCond .eq 14, 3) := by decide +kernel
theorem dX7_prove_41 : decode cX7_prove 41 = .ok (.aload_n 0, 1) := by decide +kernel
theorem dX7_prove_42 : decode cX7_prove 42 = .ok (.getfield 26, 3) := by decide +kernel
theorem dX7_prove_45 : decode cX7_prove 45 = .ok (.iload_n 1, 1) := by decide +kernel
theorem dX7_prove_46 : decode cX7_prove 46 = .ok (.invokevirtual 171, 3) := by decide +kernel
theorem dX7_prove_49 : decode cX7_prove 49 = .ok (.ifCond .ne 6, 3) := by decide +kernel
theorem dX7_prove_52 : decode cX7_prove 52 = .ok (.ldc 141, 2) := by decide +kernel
theorem dX7_prove_54 : decode cX7_prove 54 = .ok (.ireturn, 1) := by decide +kernel
theorem dX7_prove_55 : decode cX7_prove 55 = .ok (.aload_n 0, 1) := by decide +kernel
theorem dX7_prove_56 : decode cX7_prove 56 = .ok (.getfield 37, 3) := by decide +kernel
theorem dX7_prove_59 : decode cX7_prove 59 = .ok (.aload_n 0, 1) := by decide +kernel
theorem dX7_prove_60 : decode cX7_prove 60 = .ok (.getfield 26, 3) := by decide +kernel
theorem dX7_prove_63 : decode cX7_prove 63 = .ok (.invokevirtual 145, 3) := by decide +kernel
theorem dX7_prove_66 : decode cX7_prove 66 = .ok (.aload_n 0, 1) := by decide +kernel
theorem dX7_prove_67 : decode cX7_prove 67 = .ok (.getfield 26, 3) := by decide +kernel
theorem dX7_prove_70 : decode cX7_prove 70 = .ok (.getfield 148, 3) := by decide +kernel
theorem dX7_prove_73 : decode cX7_prove 73 = .ok (.iload_n 1, 1) := by decide +kernel
theorem dX7_prove_74 : decode cX7_prove 74 = .ok (.aload_n 0, 1) := by decide +kernel
theorem dX7_prove_75 : decode cX7_prove 75 = .ok (.getfield 26, 3) := by decide +kernel
theorem dX7_prove_78 : decode cX7_prove 78 = .ok (.getfield 163, 3) := by decide +kernel
theorem dX7_prove_81 : decode cX7_prove 81 = .ok (.iload_n 1, 1) := by decide +kernel
theorem dX7_prove_82 : decode cX7_prove 82 = .ok (.iaload, 1) := by decide +kernel
theorem dX7_prove_83 : decode cX7_prove 83 = .ok (.iastore, 1) := by decide +kernel
theorem dX7_prove_84 : decode cX7_prove 84 = .ok (.iload_n 2, 1) := by decide +kernel
theorem dX7_prove_85 : decode cX7_prove 85 = .ok (.ireturn, 1) := by decide +kernel
set_option maxRecDepth 20000 in
theorem ggX7_prove_X0_keep : GoodIn wsX7_prove wsX0_keep := goodIn_r _ [28, 29, 30, 31, 32, 33, 34, 35, 63, 64, 65, 46, 47, 48, 49, 50, 51, 52, 53, 54, 55, 56, 57, 58, 59, 60, 61, 62] rfl (by decide +kernel)
set_option maxRecDepth 20000 in
theorem gX7_prove_X0_keep_n145 : GoodIn wsX7_prove (wsX0_keep) := ggX7_prove_X0_keep
set_option maxRecDepth 20000 in
theorem ggX7_prove_X5_isStone : GoodIn wsX7_prove wsX5_isStone := goodIn_r _ [12, 13, 46, 47, 48, 49, 50, 51, 52, 53, 54, 55, 56, 57, 58, 59, 60, 61, 62] rfl (by decide +kernel)
set_option maxRecDepth 20000 in
theorem gX7_prove_X5_isStone_n160 : GoodIn wsX7_prove (wsX5_isStone) := ggX7_prove_X5_isStone
set_option maxRecDepth 20000 in
theorem ggX7_prove_X5_isWayHomeFree : GoodIn wsX7_prove wsX5_isWayHomeFree := goodIn_r _ [16, 17, 18, 19, 20, 5, 21, 22, 23, 24, 13, 46, 47, 48, 49, 50, 51, 52, 53, 54, 55, 56, 57, 58, 59, 60, 61, 62] rfl (by decide +kernel)
set_option maxRecDepth 20000 in
theorem gX7_prove_X5_isWayHomeFree_n171 : GoodIn wsX7_prove (wsX5_isWayHomeFree) := ggX7_prove_X5_isWayHomeFree
theorem hd_X5_isWayHomeFree : yX5_isWayHomeFree.cls = RX5 ∧ yX5_isWayHomeFree.cls ≠ "java/lang/invoke/MethodHandle" ∧ yX5_isWayHomeFree.cls ≠ "java/lang/invoke/VarHandle" ∧ (parseMethodDescriptor yX5_isWayHomeFree.desc).map (fun d => d.parameters.length) = some 1 := by decide +kernel
theorem hC_X5_isStone_16 (g : nz_G) (a : Nat → Nat) (X : Nat → Nat → Int32) : (List.range' 16 9).map (fun i => (nz_wX g a X)[i]?) = (([((a 16), .inr (5, [.int (X 16 0), .int (X 16 1), .int (X 16 2), .int (X 16 3), .int (X 16 4), .int (X 16 5), .int (X 16 6), .int (X 16 7), .int (X 16 8), .ref (a 17), .ref (a 18), .ref (a 19), .ref (a 20), .ref (a 21), .ref (a 22), .ref (a 23), .ref (a 24)])), ((a 17), .inl (nz_cI g, 6, .inl (X 17))), ((a 18), .inl (nz_cI g, 6, .inl (X 18))), ((a 19), .inl (nz_cI g, 6, .inl (X 19))), ((a 20), .inl (nz_cI g, 5, .inl (X 20))), ((a 21), .inl (nz_cI g, 5, .inl (X 21))), ((a 22), .inl (nz_cI g, 5, .inl (X 22))), ((a 23), .inl (nz_cI g, 5, .inl (X 23))), ((a 24), .inl (nz_cI g, 48, .inl (X 24)))] : va_W)).map some := rfl
def wX_X5_isStone_16 (X : Nat → Nat → Int32) (v1 : Int32) (K : Int32 → Prop) : Prop := wp_X5_isStone (X 16 6) v1 (fun r => K r)
theorem kX_X5_isStone_16 {y : nz_Y} {g : nz_G} {k n pc : Nat} {ls : List (Nat × Value)} {st rest : List Value} {av : Array Value} {K : Int32 → Prop} (a : Nat → Nat) (X : Nat → Nat → Int32) (v1 : Int32) (run : ∀ Q : Nat → Array Value → State → Outcome → State → Prop, nz_M (yz_l y) yX5_isStone wsX5_isStone rm_X5_isStone g [.ref (a 16), .int v1] [((a 16), .inr (5, [.int (X 16 0), .int (X 16 1), .int (X 16 2), .int (X 16 3), .int (X 16 4), .int (X 16 5), .int (X 16 6), .int (X 16 7), .int (X 16 8), .ref (a 17), .ref (a 18), .ref (a 19), .ref (a 20), .ref (a 21), .ref (a 22), .ref (a 23), .ref (a 24)])), ((a 17), .inl (nz_cI g, 6, .inl (X 17))), ((a 18), .inl (nz_cI g, 6, .inl (X 18))), ((a 19), .inl (nz_cI g, 6, .inl (X 19))), ((a 20), .inl (nz_cI g, 5, .inl (X 20))), ((a 21), .inl (nz_cI g, 5, .inl (X 21))), ((a 22), .inl (nz_cI g, 5, .inl (X 22))), ((a 23), .inl (nz_cI g, 5, .inl (X 23))), ((a 24), .inl (nz_cI g, 48, .inl (X 24)))] Q → nz_C y g k n (nz_wX g a X) pc ls st rest [((a 16), .inr (5, [.int (X 16 0), .int (X 16 1), .int (X 16 2), .int (X 16 3), .int (X 16 4), .int (X 16 5), .int (X 16 6), .int (X 16 7), .int (X 16 8), .ref (a 17), .ref (a 18), .ref (a 19), .ref (a 20), .ref (a 21), .ref (a 22), .ref (a 23), .ref (a 24)])), ((a 17), .inl (nz_cI g, 6, .inl (X 17))), ((a 18), .inl (nz_cI g, 6, .inl (X 18))), ((a 19), .inl (nz_cI g, 6, .inl (X 19))), ((a 20), .inl (nz_cI g, 5, .inl (X 20))), ((a 21), .inl (nz_cI g, 5, .inl (X 21))), ((a 22), .inl (nz_cI g, 5, .inl (X 22))), ((a 23), .inl (nz_cI g, 5, .inl (X 23))), ((a 24), .inl (nz_cI g, 48, .inl (X 24)))] Q av (List.range' 16 9)) (h : wX_X5_isStone_16 X v1 K) (kk : ∀ (r : Int32), K r → nz_V y g k n (nz_wX g a X) (pc + 3) ls (.int r :: rest)) : nz_V y g k n (nz_wX g a X) pc ls st :=
 k_X5_isStone (a 16) (a 17) (a 18) (a 19) (a 20) (a 21) (a 22) (a 23) (a 24) (X 16 0) (X 16 1) (X 16 2) (X 16 3) (X 16 4) (X 16 5) (X 16 6) (X 16 7) (X 16 8) (X 17) (X 18) (X 19) (X 20) (X 21) (X 22) (X 23) (X 24) v1 (run _) h (nz_wX g a X) (nz_xm (hC_X5_isStone_16 g a X) nz_ag.refl) (fun r h => kk r h)
theorem nz_xg18 (g : nz_G) (a : Nat → Nat) (X : Nat → Nat → Int32) : (nz_wX g a X)[18]? = some ((a 18), .inl (nz_cI g, 6, .inl (X 18))) := rfl
theorem nz_xg19 (g : nz_G) (a : Nat → Nat) (X : Nat → Nat → Int32) : (nz_wX g a X)[19]? = some ((a 19), .inl (nz_cI g, 6, .inl (X 19))) := rfl
theorem hC_X5_isWayHomeFree_16 (g : nz_G) (a : Nat → Nat) (X : Nat → Nat → Int32) : (List.range' 16 9).map (fun i => (nz_wX g a X)[i]?) = (([((a 16), .inr (5, [.int (X 16 0), .int (X 16 1), .int (X 16 2), .int (X 16 3), .int (X 16 4), .int (X 16 5), .int (X 16 6), .int (X 16 7), .int (X 16 8), .ref (a 17), .ref (a 18), .ref (a 19), .ref (a 20), .ref (a 21), .ref (a 22), .ref (a 23), .ref (a 24)])), ((a 17), .inl (nz_cI g, 6, .inl (X 17))), ((a 18), .inl (nz_cI g, 6, .inl (X 18))), ((a 19), .inl (nz_cI g, 6, .inl (X 19))), ((a 20), .inl (nz_cI g, 5, .inl (X 20))), ((a 21), .inl (nz_cI g, 5, .inl (X 21))), ((a 22), .inl (nz_cI g, 5, .inl (X 22))), ((a 23), .inl (nz_cI g, 5, .inl (X 23))), ((a 24), .inl (nz_cI g, 48, .inl (X 24)))] : va_W)).map some := rfl
def wX_X5_isWayHomeFree_16 (X : Nat → Nat → Int32) (v1 : Int32) (K : Int32 → Prop) : Prop := wp_X5_isWayHomeFree (X 16 6) (X 18) (X 19) v1 (fun r => K r)
theorem kX_X5_isWayHomeFree_16 {y : nz_Y} {g : nz_G} {k n pc : Nat} {ls : List (Nat × Value)} {st rest : List Value} {av : Array Value} {K : Int32 → Prop} (a : Nat → Nat) (X : Nat → Nat → Int32) (v1 : Int32) (run : ∀ Q : Nat → Array Value → State → Outcome → State → Prop, nz_M (yz_l y) yX5_isWayHomeFree wsX5_isWayHomeFree rm_X5_isWayHomeFree g [.ref (a 16), .int v1] [((a 16), .inr (5, [.int (X 16 0), .int (X 16 1), .int (X 16 2), .int (X 16 3), .int (X 16 4), .int (X 16 5), .int (X 16 6), .int (X 16 7), .int (X 16 8), .ref (a 17), .ref (a 18), .ref (a 19), .ref (a 20), .ref (a 21), .ref (a 22), .ref (a 23), .ref (a 24)])), ((a 17), .inl (nz_cI g, 6, .inl (X 17))), ((a 18), .inl (nz_cI g, 6, .inl (X 18))), ((a 19), .inl (nz_cI g, 6, .inl (X 19))), ((a 20), .inl (nz_cI g, 5, .inl (X 20))), ((a 21), .inl (nz_cI g, 5, .inl (X 21))), ((a 22), .inl (nz_cI g, 5, .inl (X 22))), ((a 23), .inl (nz_cI g, 5, .inl (X 23))), ((a 24), .inl (nz_cI g, 48, .inl (X 24)))] Q → nz_C y g k n (nz_wX g a X) pc ls st rest [((a 16), .inr (5, [.int (X 16 0), .int (X 16 1), .int (X 16 2), .int (X 16 3), .int (X 16 4), .int (X 16 5), .int (X 16 6), .int (X 16 7), .int (X 16 8), .ref (a 17), .ref (a 18), .ref (a 19), .ref (a 20), .ref (a 21), .ref (a 22), .ref (a 23), .ref (a 24)])), ((a 17), .inl (nz_cI g, 6, .inl (X 17))), ((a 18), .inl (nz_cI g, 6, .inl (X 18))), ((a 19), .inl (nz_cI g, 6, .inl (X 19))), ((a 20), .inl (nz_cI g, 5, .inl (X 20))), ((a 21), .inl (nz_cI g, 5, .inl (X 21))), ((a 22), .inl (nz_cI g, 5, .inl (X 22))), ((a 23), .inl (nz_cI g, 5, .inl (X 23))), ((a 24), .inl (nz_cI g, 48, .inl (X 24)))] Q av (List.range' 16 9)) (h : wX_X5_isWayHomeFree_16 X v1 K) (kk : ∀ (r : Int32), K r → nz_V y g k n (nz_wX g a X) (pc + 3) ls (.int r :: rest)) : nz_V y g k n (nz_wX g a X) pc ls st :=
 k_X5_isWayHomeFree (a 16) (a 17) (a 18) (a 19) (a 20) (a 21) (a 22) (a 23) (a 24) (X 16 0) (X 16 1) (X 16 2) (X 16 3) (X 16 4) (X 16 5) (X 16 6) (X 16 7) (X 16 8) (X 17) (X 18) (X 19) (X 20) (X 21) (X 22) (X 23) (X 24) v1 (run _) h (nz_wX g a X) (nz_xm (hC_X5_isWayHomeFree_16 g a X) nz_ag.refl) (fun r h => kk r h)
/-! X7_prove -/
abbrev rm_X7_prove : Room := { frames := 2, cells := 0, slots := 0, locals := 47 }
theorem iw_X7_prove_7 : ∀ w ∈ wsX70, w ∈ wsX7_prove := fun _ h => List.mem_cons_of_mem _ (List.mem_append_left _ (List.mem_append_left _ (List.mem_append_right _ h)))
theorem iw_X7_prove_5 : ∀ w ∈ wsX50, w ∈ wsX7_prove := fun _ h => List.mem_cons_of_mem _ (List.mem_append_left _ (List.mem_append_right _ h))
theorem fl_X7_prove_26 : Cond.fieldLink RX7 26 "NightStones" "now" "LNightStones$Road;" ∈ wsX7_prove := List.mem_of_getElem? (i := 1) rfl
theorem nt_X7_prove_X5_isStone_160 : Cond.methodLinkNest RX7 160 yX5_isStone RX7 ∈ nz_nest := List.mem_of_getElem? (i := 73) rfl
theorem wd_X7_prove_in_RX5 : Cond.initialized RX5 ∈ wsX7_prove := List.mem_of_getElem? (i := 10) rfl
theorem wd_X7_prove_im_X5_isStone : Cond.instanceMethod yX5_isStone ∈ wsX7_prove := List.mem_of_getElem? (i := 9) rfl
theorem wd_X7_prove_se_X5_isStone : Cond.selects RX5 yX5_isStone yX5_isStone ∈ wsX7_prove := List.mem_of_getElem? (i := 11) rfl
theorem fn_X7_prove_148 : Cond.fieldLinkNest RX7 148 "NightStones$Road" "at" "[I" RX7 ∈ nz_nest := List.mem_of_getElem? (i := 34) rfl
theorem fn_X7_prove_163 : Cond.fieldLinkNest RX7 163 "NightStones$Road" "home" "[I" RX7 ∈ nz_nest := List.mem_of_getElem? (i := 38) rfl
theorem wd_X7_prove_abs0 : Cond.methodLink RX7 166 Lib.Math.abs.name ∈ wsX7_prove := List.mem_of_getElem? (i := 3) rfl
theorem wd_X7_prove_abs1 : Cond.static Lib.Math.abs.name ∈ wsX7_prove := List.mem_of_getElem? (i := 4) rfl
theorem wd_X7_prove_abs2 : Cond.initialized "java/lang/Math" ∈ wsX7_prove := List.mem_of_getElem? (i := 5) rfl
theorem wd_X7_prove_abs3 : Cond.code Lib.Math.abs.name Lib.Math.abs.code 1 (some .int) ∈ wsX7_prove := List.mem_of_getElem? (i := 6) rfl
theorem wd_X7_prove_c141 : Cond.constant RX7 141 (-1000002) ∈ wsX7_prove := List.mem_of_getElem? (i := 7) rfl
theorem nt_X7_prove_X5_isWayHomeFree_171 : Cond.methodLinkNest RX7 171 yX5_isWayHomeFree RX7 ∈ nz_nest := List.mem_of_getElem? (i := 74) rfl
theorem wd_X7_prove_im_X5_isWayHomeFree : Cond.instanceMethod yX5_isWayHomeFree ∈ wsX7_prove := List.mem_of_getElem? (i := 14) rfl
theorem wd_X7_prove_se_X5_isWayHomeFree : Cond.selects RX5 yX5_isWayHomeFree yX5_isWayHomeFree ∈ wsX7_prove := List.mem_of_getElem? (i := 15) rfl
theorem fl_X7_prove_37 : Cond.fieldLink RX7 37 "NightStones" "acts" "LNightStones$Acts;" ∈ wsX7_prove := List.mem_of_getElem? (i := 8) rfl
theorem nt_X7_prove_X0_keep_145 : Cond.methodLinkNest RX7 145 yX0_keep RX7 ∈ nz_nest := List.mem_of_getElem? (i := 70) rfl
theorem wd_X7_prove_in_RX0 : Cond.initialized RX0 ∈ wsX7_prove := List.mem_of_getElem? (i := 26) rfl
theorem wd_X7_prove_im_X0_keep : Cond.instanceMethod yX0_keep ∈ wsX7_prove := List.mem_of_getElem? (i := 25) rfl
theorem wd_X7_prove_se_X0_keep : Cond.selects RX0 yX0_keep yX0_keep ∈ wsX7_prove := List.mem_of_getElem? (i := 27) rfl
theorem wd_X7_prove_c70 : Cond.constant RX7 70 (-1000001) ∈ wsX7_prove := List.mem_of_getElem? (i := 2) rfl
def wp_X7_prove (X : Nat → Nat → Int32) (v1 : Int32) (K : Int32 → (Nat → Nat → Int32) → Prop) : Prop := wX_X5_isStone_16 X v1 (fun q1 => ((¬ q1 = 0 → (vp_in v1 6 ∧ (vp_in v1 6 ∧ (∀ w5 : Int32, w5 = (if 0 ≤ (((X 18) v1.toNatClampNeg) - ((X 19) v1.toNatClampNeg)) then (((X 18) v1.toNatClampNeg) - ((X 19) v1.toNatClampNeg)) else 0 - (((X 18) v1.toNatClampNeg) - ((X 19) v1.toNatClampNeg))) → ((w5 = 0 → K (-1000002 : Int32) X) ∧ (¬ (w5 = 0) → wX_X5_isWayHomeFree_16 X v1 (fun q7 => ((¬ q7 = 0 → wX_X0_keep_44_16 X (fun X9 => (vp_in v1 6 ∧ (vp_in v1 6 ∧ K w5 (va_up X9 18 (upd (X9 18) v1.toNatClampNeg ((X9 19) v1.toNatClampNeg))))))) ∧ (q7 = 0 → K (-1000002 : Int32) X))))))))) ∧ (q1 = 0 → K (-1000001 : Int32) X)))
set_option maxHeartbeats 4000000 in
set_option maxRecDepth 100000 in
theorem c_X7_prove (l : Launch) (g : nz_G) (a : Nat → Nat) (X : Nat → Nat → Int32) (v1 : Int32) (K : Int32 → (Nat → Nat → Int32) → Prop) (h : wp_X7_prove X v1 K) : nz_M l yX7_prove wsX7_prove rm_X7_prove g [.ref (a 0), .int v1] (nz_wX g a X) (nz_Qi g (nz_wX g a X) (fun r (u : Nat → Nat → Int32) => K r u) (fun u => nz_wX g a u)) := by
  refine nz_M.of (bytes := cX7_prove) (nL := 3) (ret := (some .int)) (own := RX7) (by decide) rfl rfl ⟨rfl, rfl⟩ rfl ?_
  intro y F hl hQ
  obtain ⟨sz, hQ⟩ := hQ
  refine nz_ent (lv' := [(0, .ref (a 0)), (1, .int v1)]) rfl ?_
  unfold wp_X7_prove at h
  refine nz_aload_n F dX7_prove_0 rfl 0 rfl ?_
  refine nz_get F iw_X7_prove_7 0 (nz_xg0 g a X) rfl 2 (by decide) rfl fl_X7_prove_26 rfl dX7_prove_1 ?_
  refine nz_iload_n F dX7_prove_4 rfl 1 rfl ?_
  refine kX_X5_isStone_16 a X v1 (fun Q hM => nz_runVN F gX7_prove_X5_isStone_n160 rfl nt_X7_prove_X5_isStone_160 wd_X7_prove_in_RX5 wd_X7_prove_im_X5_isStone wd_X7_prove_se_X5_isStone hd_X5_isStone rfl hM dX7_prove_5 (List.range' 16 9) (hC_X5_isStone_16 g a X) nd_16_9 16 (nz_xg16 g a X) rfl rfl (Nat.le_of_ble_eq_true rfl) rfl) h (fun q1 h => ?_)
  refine nz_if_ne (tgt := 14) F dX7_prove_8 (by decide) (fun c2 => ?_) (fun c2 => ?_)
  · have h := h.1 c2
    refine nz_aload_n F dX7_prove_14 rfl 0 rfl ?_
    refine nz_get F iw_X7_prove_7 0 (nz_xg0 g a X) rfl 2 (by decide) rfl fl_X7_prove_26 rfl dX7_prove_15 ?_
    refine nz_getN F iw_X7_prove_5 16 (nz_xg16 g a X) rfl 10 (by decide) rfl fn_X7_prove_148 rfl dX7_prove_18 ?_
    refine nz_iload_n F dX7_prove_21 rfl 1 rfl ?_
    obtain ⟨i3, h⟩ := h
    refine nz_iald F 18 (nz_xg18 g a X) i3 dX7_prove_22 ?_
    refine nz_aload_n F dX7_prove_23 rfl 0 rfl ?_
    refine nz_get F iw_X7_prove_7 0 (nz_xg0 g a X) rfl 2 (by decide) rfl fl_X7_prove_26 rfl dX7_prove_24 ?_
    refine nz_getN F iw_X7_prove_5 16 (nz_xg16 g a X) rfl 11 (by decide) rfl fn_X7_prove_163 rfl dX7_prove_27 ?_
    refine nz_iload_n F dX7_prove_30 rfl 1 rfl ?_
    obtain ⟨i4, h⟩ := h
    refine nz_iald F 19 (nz_xg19 g a X) i4 dX7_prove_31 ?_
    refine nz_isub F dX7_prove_32 ?_
    refine nz_mabs F wd_X7_prove_abs0 wd_X7_prove_abs1 wd_X7_prove_abs2 wd_X7_prove_abs3 rfl (Nat.le_of_ble_eq_true rfl) ⟨Nat.le_of_ble_eq_true rfl, Nat.le_of_ble_eq_true rfl⟩ dX7_prove_33 ?_
    refine nz_topi (fun w5 ew5 => ?_)
    have h := h w5 ew5
    refine nz_istore_n (lv' := [(2, .int w5), (0, .ref (a 0)), (1, .int v1)]) F dX7_prove_36 rfl (by decide) rfl ?_
    refine nz_iload_n F dX7_prove_37 rfl 0 rfl ?_
    refine nz_if_eq (tgt := 52) F dX7_prove_38 (by decide) (fun c6 => ?_) (fun c6 => ?_)
    · have h := h.1 c6
      refine nz_ldc (v := (-1000002 : Int32)) F wd_X7_prove_c141 dX7_prove_52 ?_
      exact nz_iret F hQ X h rfl dX7_prove_54
    · have h := h.2 c6
      refine nz_aload_n F dX7_prove_41 rfl 1 rfl ?_
      refine nz_get F iw_X7_prove_7 0 (nz_xg0 g a X) rfl 2 (by decide) rfl fl_X7_prove_26 rfl dX7_prove_42 ?_
      refine nz_iload_n F dX7_prove_45 rfl 2 rfl ?_
      refine kX_X5_isWayHomeFree_16 a X v1 (fun Q hM => nz_runVN F gX7_prove_X5_isWayHomeFree_n171 rfl nt_X7_prove_X5_isWayHomeFree_171 wd_X7_prove_in_RX5 wd_X7_prove_im_X5_isWayHomeFree wd_X7_prove_se_X5_isWayHomeFree hd_X5_isWayHomeFree rfl hM dX7_prove_46 (List.range' 16 9) (hC_X5_isWayHomeFree_16 g a X) nd_16_9 16 (nz_xg16 g a X) rfl rfl (Nat.le_of_ble_eq_true rfl) rfl) h (fun q7 h => ?_)
      refine nz_if_ne (tgt := 55) F dX7_prove_49 (by decide) (fun c8 => ?_) (fun c8 => ?_)
      · have h := h.1 c8
        refine nz_aload_n F dX7_prove_55 rfl 1 rfl ?_
        refine nz_get F iw_X7_prove_7 0 (nz_xg0 g a X) rfl 4 (by decide) rfl fl_X7_prove_37 rfl dX7_prove_56 ?_
        refine nz_aload_n F dX7_prove_59 rfl 1 rfl ?_
        refine nz_get F iw_X7_prove_7 0 (nz_xg0 g a X) rfl 2 (by decide) rfl fl_X7_prove_26 rfl dX7_prove_60 ?_
        refine kX_X0_keep_44_16 a X (fun Q hM => nz_runVN F gX7_prove_X0_keep_n145 rfl nt_X7_prove_X0_keep_145 wd_X7_prove_in_RX0 wd_X7_prove_im_X0_keep wd_X7_prove_se_X0_keep hd_X0_keep rfl hM dX7_prove_63 (List.range' 44 3 ++ List.range' 16 9) (hC_X0_keep_44_16 g a X) nd_44_3_16_9 44 (nz_xg44 g a X) rfl rfl (Nat.le_of_ble_eq_true rfl) rfl) h (fun X9 h => ?_)
        refine nz_aload_n F dX7_prove_66 rfl 1 rfl ?_
        refine nz_get F iw_X7_prove_7 0 (nz_xg0 g a X9) rfl 2 (by decide) rfl fl_X7_prove_26 rfl dX7_prove_67 ?_
        refine nz_getN F iw_X7_prove_5 16 (nz_xg16 g a X9) rfl 10 (by decide) rfl fn_X7_prove_148 rfl dX7_prove_70 ?_
        refine nz_iload_n F dX7_prove_73 rfl 2 rfl ?_
        refine nz_aload_n F dX7_prove_74 rfl 1 rfl ?_
        refine nz_get F iw_X7_prove_7 0 (nz_xg0 g a X9) rfl 2 (by decide) rfl fl_X7_prove_26 rfl dX7_prove_75 ?_
        refine nz_getN F iw_X7_prove_5 16 (nz_xg16 g a X9) rfl 11 (by decide) rfl fn_X7_prove_163 rfl dX7_prove_78 ?_
        refine nz_iload_n F dX7_prove_81 rfl 2 rfl ?_
        obtain ⟨i10, h⟩ := h
        refine nz_iald F 19 (nz_xg19 g a X9) i10 dX7_prove_82 ?_
        obtain ⟨i11, h⟩ := h
        refine nz_iast (ws' := (nz_wX g a (va_up X9 18 (upd (X9 18) v1.toNatClampNeg ((X9 19) v1.toNatClampNeg))))) F 18 (nz_xg18 g a X9) i11 dX7_prove_83 (nz_xput (nz_xg18 g a (va_up X9 18 (upd (X9 18) v1.toNatClampNeg ((X9 19) v1.toNatClampNeg))))) ?_
        refine nz_iload_n F dX7_prove_84 rfl 0 rfl ?_
        exact nz_iret F hQ (va_up X9 18 (upd (X9 18) v1.toNatClampNeg ((X9 19) v1.toNatClampNeg))) h rfl dX7_prove_85
      · have h := h.2 c8
        refine nz_ldc (v := (-1000002 : Int32)) F wd_X7_prove_c141 dX7_prove_52 ?_
        exact nz_iret F hQ X h rfl dX7_prove_54
  · have h := h.2 c2
    refine nz_ldc (v := (-1000001 : Int32)) F wd_X7_prove_c70 dX7_prove_11 ?_
    exact nz_iret F hQ X h rfl dX7_prove_13
theorem k_X7_prove {y : nz_Y} {g : nz_G} {k n : Nat} {ws : va_W} {pc : Nat} {ls : List (Nat × Value)} {st rest : List Value} {av : Array Value} {isC : List Nat} {K : Int32 → (Nat → Nat → Int32) → Prop} (a : Nat → Nat) (X : Nat → Nat → Int32) (v1 : Int32) (run : nz_M (yz_l y) yX7_prove wsX7_prove rm_X7_prove g [.ref (a 0), .int v1] (nz_wX g a X) (nz_Qi g (nz_wX g a X) (fun r (u : Nat → Nat → Int32) => K r u) (fun u => nz_wX g a u)) → nz_C y g k n ws pc ls st rest (nz_wX g a X) (nz_Qi g (nz_wX g a X) (fun r (u : Nat → Nat → Int32) => K r u) (fun u => nz_wX g a u)) av isC) (h : wp_X7_prove X v1 K) (ws' : (Nat → Nat → Int32) → va_W) (hm : ∀ (m0 : (Nat → Nat → Int32)), nz_mrg ws isC (nz_wX g a m0) = ws' m0) (kk : ∀ (r : Int32) (m0 : (Nat → Nat → Int32)), K r m0 → nz_V y g k n (ws' m0) (pc + 3) ls (.int r :: rest)) : nz_V y g k n ws pc ls st :=
  nz_ci (ws' := fun u => ws' u) (run (c_X7_prove (yz_l y) g a X v1 K h)) (fun _ => rfl) (fun u => hm u) (fun r u h => kk r u h)
