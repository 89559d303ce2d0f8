theorem dX7_forget_0 : decode cX7_forget 0 = .ok (.aload_n 0, 1) := by decide +kernel
theorem dX7_forget_1 : decode cX7_forget 1 = .ok (.getfield 26, 3) := by decide +kernel
theorem dX7_forget_4 : decode cX7_forget 4 = .ok (.getfield 201, 3) := by decide +kernel
theorem dX7_forget_7 : decode cX7_forget 7 = .ok (.istore_n 1, 1) := by decide +kernel
theorem dX7_forget_8 : decode cX7_forget 8 = .ok (.aload_n 0, 1) := by decide +kernel
theorem dX7_forget_9 : decode cX7_forget 9 = .ok (.getfield 26, 3) := by decide +kernel
theorem dX7_forget_12 : decode cX7_forget 12 = .ok (.iconst 0, 1) := by decide +kernel
theorem dX7_forget_13 : decode cX7_forget 13 = .ok (.putfield 201, 3) := by decide +kernel
theorem dX7_forget_16 : decode cX7_forget 16 = .ok (.iload_n 1, 1) := by decide +kernel
theorem dX7_forget_17 : decode cX7_forget 17 = .ok (.ireturn, 1) := by decide +kernel
/-! X7_forget -/
abbrev rm_X7_forget : Room := { frames := 0, cells := 0, slots := 0, locals := 0 }
theorem iw_X7_forget_7 : ∀ w ∈ wsX70, w ∈ wsX7_forget := fun _ h => List.mem_cons_of_mem _ (List.mem_append_left _ (List.mem_append_right _ h))
theorem iw_X7_forget_5 : ∀ w ∈ wsX50, w ∈ wsX7_forget := fun _ h => List.mem_cons_of_mem _ (List.mem_append_right _ h)
theorem fl_X7_forget_26 : Cond.fieldLink RX7 26 "NightStones" "now" "LNightStones$Road;" ∈ wsX7_forget := List.mem_of_getElem? (i := 1) rfl
theorem fn_X7_forget_201 : Cond.fieldLinkNest RX7 201 "NightStones$Road" "heard" "I" RX7 ∈ nz_nest := List.mem_of_getElem? (i := 27) rfl
def wp_X7_forget (X : Nat → Nat → Int32) (K : Int32 → (Nat → Nat → Int32) → Prop) : Prop := K (X 16 8) (va_up X 16 (upd (X 16) 8 0))
set_option maxHeartbeats 4000000 in
set_option maxRecDepth 100000 in
theorem c_X7_forget (l : Launch) (g : nz_G) (a : Nat → Nat) (X : Nat → Nat → Int32) (K : Int32 → (Nat → Nat → Int32) → Prop) (h : wp_X7_forget X K) : nz_M l yX7_forget wsX7_forget rm_X7_forget g [.ref (a 0)] (nz_wX g a X) (nz_Qi g (nz_wX g a X) (fun r (u : Nat → Nat → Int32) => K r u) (fun u => nz_wX g a u)) := by
  refine nz_M.of (bytes := cX7_forget) (nL := 2) (ret := (some .int)) (own := RX7) (by decide) rfl rfl ⟨rfl, rfl⟩ rfl ?_
  intro y F hl hQ
  obtain ⟨sz, hQ⟩ := hQ
  refine nz_ent (lv' := [(0, .ref (a 0))]) rfl ?_
  unfold wp_X7_forget at h
  refine nz_aload_n F dX7_forget_0 rfl 0 rfl ?_
  refine nz_get F iw_X7_forget_7 0 (nz_xg0 g a X) rfl 2 (by decide) rfl fl_X7_forget_26 rfl dX7_forget_1 ?_
  refine nz_getN F iw_X7_forget_5 16 (nz_xg16 g a X) rfl 8 (by decide) rfl fn_X7_forget_201 rfl dX7_forget_4 ?_
  refine nz_istore_n (lv' := [(1, .int (X 16 8)), (0, .ref (a 0))]) F dX7_forget_7 rfl (by decide) rfl ?_
  refine nz_aload_n F dX7_forget_8 rfl 1 rfl ?_
  refine nz_get F iw_X7_forget_7 0 (nz_xg0 g a X) rfl 2 (by decide) rfl fl_X7_forget_26 rfl dX7_forget_9 ?_
  refine nz_iconst (v := 0) F dX7_forget_12 (by decide) ?_
  refine nz_putN (ws' := (nz_wX g a (va_up X 16 (upd (X 16) 8 0)))) F iw_X7_forget_5 tyX5 tyX5_ok nmX5 16 (nz_xg16 g a X) rfl 8 (by decide) rfl fn_X7_forget_201 rfl rfl (Nat.le_of_ble_eq_true rfl) dX7_forget_13 (nz_xput (nz_xg16 g a (va_up X 16 (upd (X 16) 8 0)))) ?_
  refine nz_iload_n F dX7_forget_16 rfl 0 rfl ?_
  exact nz_iret F hQ (va_up X 16 (upd (X 16) 8 0)) h rfl dX7_forget_17
theorem k_X7_forget {y : nz_Y} {g : nz_G} {k n : Nat} {ws : va_W} {pc : Nat} {ls : List (Nat × Value)} {st rest : List Value} {av : Array Value} {isC : List Nat} {K : Int32 → (Nat → Nat → Int32) → Prop} (a : Nat → Nat) (X : Nat → Nat → Int32) (run : nz_M (yz_l y) yX7_forget wsX7_forget rm_X7_forget g [.ref (a 0)] (nz_wX g a X) (nz_Qi g (nz_wX g a X) (fun r (u : Nat → Nat → Int32) => K r u) (fun u => nz_wX g a u)) → nz_C y g k n ws pc ls st rest (nz_wX g a X) (nz_Qi g (nz_wX g a X) (fun r (u : Nat → Nat → Int32) => K r u) (fun u => nz_wX g a u)) av isC) (h : wp_X7_forget X K) (ws' : (Nat → Nat → Int32) → va_W) (hm : ∀ (m0 : (Nat → Nat → Int32)), nz_mrg ws isC (nz_wX g a m0) = ws' m0) (kk : ∀ (r : Int32) (m0 : (Nat → Nat → Int32)), K r m0 → nz_V y g k n (ws' m0) (pc + 3) ls (.int r :: rest)) : nz_V y g k n ws pc ls st :=
  nz_ci (ws' := fun u => ws' u) (run (c_X7_forget (yz_l y) g a X K h)) (fun _ => rfl) (fun u => hm u) (fun r u h => kk r u h)
theorem dX7_ends_0 : decode cX7_ends 0 = .ok (.aload_n 0, 1) := by decide +kernel
theorem dX7_ends_1 : decode cX7_ends 1 = .ok (.getfield 26, 3) := by decide +kernel
theorem dX7_ends_4 : decode cX7_ends 4 = .ok (.iload_n 1, 1) := by decide +kernel
theorem dX7_ends_5 : decode cX7_ends 5 = .ok (.iload_n 2, 1) := by decide +kernel
theorem dX7_ends_6 : decode cX7_ends 6 = .ok (.invokevirtual 204, 3) := by decide +kernel
theorem dX7_ends_9 : decode cX7_ends 9 = .ok (.ifCond .eq 12, 3) := by decide +kernel
theorem dX7_ends_12 : decode cX7_ends 12 = .ok (.iload_n 3, 1) := by decide +kernel
theorem dX7_ends_13 : decode cX7_ends 13 = .ok (.iconst 0, 1) := by decide +kernel
theorem dX7_ends_14 : decode cX7_ends 14 = .ok (.iconst 1, 1) := by decide +kernel
theorem dX7_ends_15 : decode cX7_ends 15 = .ok (.invokestatic 66, 3) := by decide +kernel
theorem dX7_ends_18 : decode cX7_ends 18 = .ok (.ifCond .ne 6, 3) := by decide +kernel
theorem dX7_ends_21 : decode cX7_ends 21 = .ok (.ldc 70, 2) := by decide +kernel
theorem dX7_ends_23 : decode cX7_ends 23 = .ok (.ireturn, 1) := by decide +kernel
theorem dX7_ends_24 : decode cX7_ends 24 = .ok (.aload_n 0, 1) := by decide +kernel
theorem dX7_ends_25 : decode cX7_ends 25 = .ok (.getfield 44, 3) := by decide +kernel
theorem dX7_ends_28 : decode cX7_ends 28 = .ok (.aload_n 0, 1) := by decide +kernel
theorem dX7_ends_29 : decode cX7_ends 29 = .ok (.getfield 26, 3) := by decide +kernel
theorem dX7_ends_32 : decode cX7_ends 32 = .ok (.invokevirtual 208, 3) := by decide +kernel
theorem dX7_ends_35 : decode cX7_ends 35 = .ok (.ifCond .ne 6, 3) := by decide +kernel
theorem dX7_ends_38 : decode cX7_ends 38 = .ok (.ldc 212, 2) := by decide +kernel
theorem dX7_ends_40 : decode cX7_ends 40 = .ok (.ireturn, 1) := by decide +kernel
theorem dX7_ends_41 : decode cX7_ends 41 = .ok (.iload_n 3, 1) := by decide +kernel
theorem dX7_ends_42 : decode cX7_ends 42 = .ok (.ifCond .ne 15, 3) := by decide +kernel
theorem dX7_ends_45 : decode cX7_ends 45 = .ok (.aload_n 0, 1) := by decide +kernel
theorem dX7_ends_46 : decode cX7_ends 46 = .ok (.getfield 44, 3) := by decide +kernel
theorem dX7_ends_49 : decode cX7_ends 49 = .ok (.iload_n 1, 1) := by decide +kernel
theorem dX7_ends_50 : decode cX7_ends 50 = .ok (.iload_n 2, 1) := by decide +kernel
theorem dX7_ends_51 : decode cX7_ends 51 = .ok (.invokevirtual 213, 3) := by decide +kernel
theorem dX7_ends_54 : decode cX7_ends 54 = .ok (.goto 12, 3) := by decide +kernel
theorem dX7_ends_57 : decode cX7_ends 57 = .ok (.aload_n 0, 1) := by decide +kernel
theorem dX7_ends_58 : decode cX7_ends 58 = .ok (.getfield 44, 3) := by decide +kernel
theorem dX7_ends_61 : decode cX7_ends 61 = .ok (.iload_n 1, 1) := by decide +kernel
theorem dX7_ends_62 : decode cX7_ends 62 = .ok (.iload_n 2, 1) := by decide +kernel
theorem dX7_ends_63 : decode cX7_ends 63 = .ok (.invokevirtual 216, 3) := by decide +kernel
theorem dX7_ends_66 : decode cX7_ends 66 = .ok (.ireturn, 1) := by decide +kernel
set_option maxRecDepth 20000 in
theorem ggX7_ends_X3_fit : GoodIn wsX7_ends wsX3_fit := goodIn_r _ [21, 22, 23, 24, 25, 19, 26, 27, 28, 29, 30, 31, 32, 33, 34, 35, 36, 37, 38, 39, 40, 41, 42, 59, 60, 61, 62, 63, 64, 65, 66, 67, 68, 69, 70, 71, 72, 73, 74, 75, 76] rfl (by decide +kernel)
set_option maxRecDepth 20000 in
theorem gX7_ends_X3_fit_n208 : GoodIn wsX7_ends (wsX3_fit) := ggX7_ends_X3_fit
set_option maxRecDepth 20000 in
theorem ggX7_ends_X3_least : GoodIn wsX7_ends wsX3_least := goodIn_r _ [45, 22, 76] rfl (by decide +kernel)
set_option maxRecDepth 20000 in
theorem gX7_ends_X3_least_n213 : GoodIn wsX7_ends (wsX3_least) := ggX7_ends_X3_least
set_option maxRecDepth 20000 in
theorem ggX7_ends_X3_most : GoodIn wsX7_ends wsX3_most := goodIn_r _ [48, 22, 76] rfl (by decide +kernel)
set_option maxRecDepth 20000 in
theorem gX7_ends_X3_most_n216 : GoodIn wsX7_ends (wsX3_most) := ggX7_ends_X3_most
set_option maxRecDepth 20000 in
theorem ggX7_ends_X5_isPair : GoodIn wsX7_ends wsX5_isPair := goodIn_r _ [8, 9, 10, 11, 6, 12, 13, 59, 60, 61, 62, 63, 64, 65, 66, 67, 68, 69, 70, 71, 72, 73, 74, 75] rfl (by decide +kernel)
set_option maxRecDepth 20000 in
theorem gX7_ends_X5_isPair_n204 : GoodIn wsX7_ends (wsX5_isPair) := ggX7_ends_X5_isPair
set_option maxRecDepth 20000 in
theorem ggX7_ends_X7_isAmong : GoodIn wsX7_ends wsX7_isAmong := goodIn_r _ [17] rfl (by decide +kernel)
set_option maxRecDepth 20000 in
theorem gX7_ends_X7_isAmong : GoodIn wsX7_ends (va_wsS RX7 66 yX7_isAmong wsX7_isAmong) := goodIn_app (goodIn_r _ [14, 15, 16] rfl (by decide +kernel)) ggX7_ends_X7_isAmong
theorem hd_X3_fit : yX3_fit.cls = RX3 ∧ yX3_fit.cls ≠ "java/lang/invoke/MethodHandle" ∧ yX3_fit.cls ≠ "java/lang/invoke/VarHandle" ∧ (parseMethodDescriptor yX3_fit.desc).map (fun d => d.parameters.length) = some 1 := by decide +kernel
theorem hC_X5_isPair_16 (g : nz_G) (a : Nat → Nat) (X : Nat → Nat → Int32) : (List.range' 16 9).map (fun i => (nz_wX g a X)[i]?) = (([((a 16), .inr (5, [.int (X 16 0), .int (X 16 1), .int (X 16 2), .int (X 16 3), .int (X 16 4), .int (X 16 5), .int (X 16 6), .int (X 16 7), .int (X 16 8), .ref (a 17), .ref (a 18), .ref (a 19), .ref (a 20), .ref (a 21), .ref (a 22), .ref (a 23), .ref (a 24)])), ((a 17), .inl (nz_cI g, 6, .inl (X 17))), ((a 18), .inl (nz_cI g, 6, .inl (X 18))), ((a 19), .inl (nz_cI g, 6, .inl (X 19))), ((a 20), .inl (nz_cI g, 5, .inl (X 20))), ((a 21), .inl (nz_cI g, 5, .inl (X 21))), ((a 22), .inl (nz_cI g, 5, .inl (X 22))), ((a 23), .inl (nz_cI g, 5, .inl (X 23))), ((a 24), .inl (nz_cI g, 48, .inl (X 24)))] : va_W)).map some := rfl
def wX_X5_isPair_16 (X : Nat → Nat → Int32) (v1 : Int32) (v2 : Int32) (K : Int32 → Prop) : Prop := wp_X5_isPair (X 16 6) v1 v2 (fun r => K r)
theorem kX_X5_isPair_16 {y : nz_Y} {g : nz_G} {k n pc : Nat} {ls : List (Nat × Value)} {st rest : List Value} {av : Array Value} {K : Int32 → Prop} (a : Nat → Nat) (X : Nat → Nat → Int32) (v1 : Int32) (v2 : Int32) (run : ∀ Q : Nat → Array Value → State → Outcome → State → Prop, nz_M (yz_l y) yX5_isPair wsX5_isPair rm_X5_isPair g [.ref (a 16), .int v1, .int v2] [((a 16), .inr (5, [.int (X 16 0), .int (X 16 1), .int (X 16 2), .int (X 16 3), .int (X 16 4), .int (X 16 5), .int (X 16 6), .int (X 16 7), .int (X 16 8), .ref (a 17), .ref (a 18), .ref (a 19), .ref (a 20), .ref (a 21), .ref (a 22), .ref (a 23), .ref (a 24)])), ((a 17), .inl (nz_cI g, 6, .inl (X 17))), ((a 18), .inl (nz_cI g, 6, .inl (X 18))), ((a 19), .inl (nz_cI g, 6, .inl (X 19))), ((a 20), .inl (nz_cI g, 5, .inl (X 20))), ((a 21), .inl (nz_cI g, 5, .inl (X 21))), ((a 22), .inl (nz_cI g, 5, .inl (X 22))), ((a 23), .inl (nz_cI g, 5, .inl (X 23))), ((a 24), .inl (nz_cI g, 48, .inl (X 24)))] Q → nz_C y g k n (nz_wX g a X) pc ls st rest [((a 16), .inr (5, [.int (X 16 0), .int (X 16 1), .int (X 16 2), .int (X 16 3), .int (X 16 4), .int (X 16 5), .int (X 16 6), .int (X 16 7), .int (X 16 8), .ref (a 17), .ref (a 18), .ref (a 19), .ref (a 20), .ref (a 21), .ref (a 22), .ref (a 23), .ref (a 24)])), ((a 17), .inl (nz_cI g, 6, .inl (X 17))), ((a 18), .inl (nz_cI g, 6, .inl (X 18))), ((a 19), .inl (nz_cI g, 6, .inl (X 19))), ((a 20), .inl (nz_cI g, 5, .inl (X 20))), ((a 21), .inl (nz_cI g, 5, .inl (X 21))), ((a 22), .inl (nz_cI g, 5, .inl (X 22))), ((a 23), .inl (nz_cI g, 5, .inl (X 23))), ((a 24), .inl (nz_cI g, 48, .inl (X 24)))] Q av (List.range' 16 9)) (h : wX_X5_isPair_16 X v1 v2 K) (kk : ∀ (r : Int32), K r → nz_V y g k n (nz_wX g a X) (pc + 3) ls (.int r :: rest)) : nz_V y g k n (nz_wX g a X) pc ls st :=
 k_X5_isPair (a 16) (a 17) (a 18) (a 19) (a 20) (a 21) (a 22) (a 23) (a 24) (X 16 0) (X 16 1) (X 16 2) (X 16 3) (X 16 4) (X 16 5) (X 16 6) (X 16 7) (X 16 8) (X 17) (X 18) (X 19) (X 20) (X 21) (X 22) (X 23) (X 24) v1 v2 (run _) h (nz_wX g a X) (nz_xm (hC_X5_isPair_16 g a X) nz_ag.refl) (fun r h => kk r h)
theorem nd_47_2_16_9 : va_nd (List.range' 47 2 ++ List.range' 16 9) = true := by decide +kernel
theorem nz_xg47 (g : nz_G) (a : Nat → Nat) (X : Nat → Nat → Int32) : (nz_wX g a X)[47]? = some ((a 47), .inr (3, [.ref (a 48)])) := rfl
theorem hC_X3_fit_47_16 (g : nz_G) (a : Nat → Nat) (X : Nat → Nat → Int32) : (List.range' 47 2 ++ List.range' 16 9).map (fun i => (nz_wX g a X)[i]?) = (([((a 47), .inr (3, [.ref (a 48)])), ((a 48), .inl (nz_cI g, 36, .inl (X 48))), ((a 16), .inr (5, [.int (X 16 0), .int (X 16 1), .int (X 16 2), .int (X 16 3), .int (X 16 4), .int (X 16 5), .int (X 16 6), .int (X 16 7), .int (X 16 8), .ref (a 17), .ref (a 18), .ref (a 19), .ref (a 20), .ref (a 21), .ref (a 22), .ref (a 23), .ref (a 24)])), ((a 17), .inl (nz_cI g, 6, .inl (X 17))), ((a 18), .inl (nz_cI g, 6, .inl (X 18))), ((a 19), .inl (nz_cI g, 6, .inl (X 19))), ((a 20), .inl (nz_cI g, 5, .inl (X 20))), ((a 21), .inl (nz_cI g, 5, .inl (X 21))), ((a 22), .inl (nz_cI g, 5, .inl (X 22))), ((a 23), .inl (nz_cI g, 5, .inl (X 23))), ((a 24), .inl (nz_cI g, 48, .inl (X 24)))] : va_W)).map some := rfl
def wX_X3_fit_47_16 (X : Nat → Nat → Int32) (K : Int32 → (Nat → Nat → Int32) → Prop) : Prop := wp_X3_fit (X 48) (X 16 1) (X 16 6) (X 16 8) (X 24) (fun r m0 => K r (va_up X 48 m0))
theorem kX_X3_fit_47_16 {y : nz_Y} {g : nz_G} {k n pc : Nat} {ls : List (Nat × Value)} {st rest : List Value} {av : Array Value} {K : Int32 → (Nat → Nat → Int32) → Prop} (a : Nat → Nat) (X : Nat → Nat → Int32) (run : ∀ Q : Nat → Array Value → State → Outcome → State → Prop, nz_M (yz_l y) yX3_fit wsX3_fit rm_X3_fit g [.ref (a 47), .ref (a 16)] [((a 47), .inr (3, [.ref (a 48)])), ((a 48), .inl (nz_cI g, 36, .inl (X 48))), ((a 16), .inr (5, [.int (X 16 0), .int (X 16 1), .int (X 16 2), .int (X 16 3), .int (X 16 4), .int (X 16 5), .int (X 16 6), .int (X 16 7), .int (X 16 8), .ref (a 17), .ref (a 18), .ref (a 19), .ref (a 20), .ref (a 21), .ref (a 22), .ref (a 23), .ref (a 24)])), ((a 17), .inl (nz_cI g, 6, .inl (X 17))), ((a 18), .inl (nz_cI g, 6, .inl (X 18))), ((a 19), .inl (nz_cI g, 6, .inl (X 19))), ((a 20), .inl (nz_cI g, 5, .inl (X 20))), ((a 21), .inl (nz_cI g, 5, .inl (X 21))), ((a 22), .inl (nz_cI g, 5, .inl (X 22))), ((a 23), .inl (nz_cI g, 5, .inl (X 23))), ((a 24), .inl (nz_cI g, 48, .inl (X 24)))] Q → nz_C y g k n (nz_wX g a X) pc ls st rest [((a 47), .inr (3, [.ref (a 48)])), ((a 48), .inl (nz_cI g, 36, .inl (X 48))), ((a 16), .inr (5, [.int (X 16 0), .int (X 16 1), .int (X 16 2), .int (X 16 3), .int (X 16 4), .int (X 16 5), .int (X 16 6), .int (X 16 7), .int (X 16 8), .ref (a 17), .ref (a 18), .ref (a 19), .ref (a 20), .ref (a 21), .ref (a 22), .ref (a 23), .ref (a 24)])), ((a 17), .inl (nz_cI g, 6, .inl (X 17))), ((a 18), .inl (nz_cI g, 6, .inl (X 18))), ((a 19), .inl (nz_cI g, 6, .inl (X 19))), ((a 20), .inl (nz_cI g, 5, .inl (X 20))), ((a 21), .inl (nz_cI g, 5, .inl (X 21))), ((a 22), .inl (nz_cI g, 5, .inl (X 22))), ((a 23), .inl (nz_cI g, 5, .inl (X 23))), ((a 24), .inl (nz_cI g, 48, .inl (X 24)))] Q av (List.range' 47 2 ++ List.range' 16 9)) (h : wX_X3_fit_47_16 X K) (kk : ∀ (r : Int32) (X1 : Nat → Nat → Int32), K r X1 → nz_V y g k n (nz_wX g a X1) (pc + 3) ls (.int r :: rest)) : nz_V y g k n (nz_wX g a X) pc ls st :=
 k_X3_fit (a 47) (a 48) (a 16) (a 17) (a 18) (a 19) (a 20) (a 21) (a 22) (a 23) (a 24) (X 48) (X 16 0) (X 16 1) (X 16 2) (X 16 3) (X 16 4) (X 16 5) (X 16 6) (X 16 7) (X 16 8) (X 17) (X 18) (X 19) (X 20) (X 21) (X 22) (X 23) (X 24) (run _) h (fun m0 => nz_wX g a (va_up X 48 m0)) (fun m0 => nz_xm (hC_X3_fit_47_16 g a (va_up X 48 m0)) (nz_ag.up nz_ag.refl rfl)) (fun r m0 h => kk r (va_up X 48 m0) h)
theorem nd_47_2 : va_nd (List.range' 47 2) = true := by decide +kernel
theorem hC_X3_most_47 (g : nz_G) (a : Nat → Nat) (X : Nat → Nat → Int32) : (List.range' 47 2).map (fun i => (nz_wX g a X)[i]?) = (([((a 47), .inr (3, [.ref (a 48)])), ((a 48), .inl (nz_cI g, 36, .inl (X 48)))] : va_W)).map some := rfl
def wX_X3_most_47 (X : Nat → Nat → Int32) (v1 : Int32) (v2 : Int32) (K : Int32 → Prop) : Prop := wp_X3_most (X 48) v1 v2 (fun r => K r)
theorem kX_X3_most_47 {y : nz_Y} {g : nz_G} {k n pc : Nat} {ls : List (Nat × Value)} {st rest : List Value} {av : Array Value} {K : Int32 → Prop} (a : Nat → Nat) (X : Nat → Nat → Int32) (v1 : Int32) (v2 : Int32) (run : ∀ Q : Nat → Array Value → State → Outcome → State → Prop, nz_M (yz_l y) yX3_most wsX3_most rm_X3_most g [.ref (a 47), .int v1, .int v2] [((a 47), .inr (3, [.ref (a 48)])), ((a 48), .inl (nz_cI g, 36, .inl (X 48)))] Q → nz_C y g k n (nz_wX g a X) pc ls st rest [((a 47), .inr (3, [.ref (a 48)])), ((a 48), .inl (nz_cI g, 36, .inl (X 48)))] Q av (List.range' 47 2)) (h : wX_X3_most_47 X v1 v2 K) (kk : ∀ (r : Int32), K r → nz_V y g k n (nz_wX g a X) (pc + 3) ls (.int r :: rest)) : nz_V y g k n (nz_wX g a X) pc ls st :=
 k_X3_most (a 47) (a 48) (X 48) v1 v2 (run _) h (nz_wX g a X) (nz_xm (hC_X3_most_47 g a X) nz_ag.refl) (fun r h => kk r h)
theorem hC_X3_least_47 (g : nz_G) (a : Nat → Nat) (X : Nat → Nat → Int32) : (List.range' 47 2).map (fun i => (nz_wX g a X)[i]?) = (([((a 47), .inr (3, [.ref (a 48)])), ((a 48), .inl (nz_cI g, 36, .inl (X 48)))] : va_W)).map some := rfl
def wX_X3_least_47 (X : Nat → Nat → Int32) (v1 : Int32) (v2 : Int32) (K : Int32 → Prop) : Prop := wp_X3_least (X 48) v1 v2 (fun r => K r)
theorem kX_X3_least_47 {y : nz_Y} {g : nz_G} {k n pc : Nat} {ls : List (Nat × Value)} {st rest : List Value} {av : Array Value} {K : Int32 → Prop} (a : Nat → Nat) (X : Nat → Nat → Int32) (v1 : Int32) (v2 : Int32) (run : ∀ Q : Nat → Array Value → State → Outcome → State → Prop, nz_M (yz_l y) yX3_least wsX3_least rm_X3_least g [.ref (a 47), .int v1, .int v2] [((a 47), .inr (3, [.ref (a 48)])), ((a 48), .inl (nz_cI g, 36, .inl (X 48)))] Q → nz_C y g k n (nz_wX g a X) pc ls st rest [((a 47), .inr (3, [.ref (a 48)])), ((a 48), .inl (nz_cI g, 36, .inl (X 48)))] Q av (List.range' 47 2)) (h : wX_X3_least_47 X v1 v2 K) (kk : ∀ (r : Int32), K r → nz_V y g k n (nz_wX g a X) (pc + 3) ls (.int r :: rest)) : nz_V y g k n (nz_wX g a X) pc ls st :=
 k_X3_least (a 47) (a 48) (X 48) v1 v2 (run _) h (nz_wX g a X) (nz_xm (hC_X3_least_47 g a X) nz_ag.refl) (fun r h => kk r h)
/-! X7_ends -/
abbrev rm_X7_ends : Room := { frames := 4, cells := 0, slots := 0, locals := 93 }
theorem iw_X7_ends_7 : ∀ w ∈ wsX70, w ∈ wsX7_ends := fun _ h => List.mem_cons_of_mem _ (List.mem_append_left _ (List.mem_append_left _ (List.mem_append_right _ h)))
theorem fl_X7_ends_26 : Cond.fieldLink RX7 26 "NightStones" "now" "LNightStones$Road;" ∈ wsX7_ends := List.mem_of_getElem? (i := 1) rfl
theorem nt_X7_ends_X5_isPair_204 : Cond.methodLinkNest RX7 204 yX5_isPair RX7 ∈ nz_nest := List.mem_of_getElem? (i := 81) rfl
theorem wd_X7_ends_in_RX5 : Cond.initialized RX5 ∈ wsX7_ends := List.mem_of_getElem? (i := 6) rfl
theorem wd_X7_ends_im_X5_isPair : Cond.instanceMethod yX5_isPair ∈ wsX7_ends := List.mem_of_getElem? (i := 5) rfl
theorem wd_X7_ends_se_X5_isPair : Cond.selects RX5 yX5_isPair yX5_isPair ∈ wsX7_ends := List.mem_of_getElem? (i := 7) rfl
theorem wd_X7_ends_c70 : Cond.constant RX7 70 (-1000001) ∈ wsX7_ends := List.mem_of_getElem? (i := 2) rfl
theorem fl_X7_ends_44 : Cond.fieldLink RX7 44 "NightStones" "lengths" "LNightStones$Lengths;" ∈ wsX7_ends := List.mem_of_getElem? (i := 3) rfl
theorem nt_X7_ends_X3_fit_208 : Cond.methodLinkNest RX7 208 yX3_fit RX7 ∈ nz_nest := List.mem_of_getElem? (i := 82) rfl
theorem wd_X7_ends_in_RX3 : Cond.initialized RX3 ∈ wsX7_ends := List.mem_of_getElem? (i := 19) rfl
theorem wd_X7_ends_im_X3_fit : Cond.instanceMethod yX3_fit ∈ wsX7_ends := List.mem_of_getElem? (i := 18) rfl
theorem wd_X7_ends_se_X3_fit : Cond.selects RX3 yX3_fit yX3_fit ∈ wsX7_ends := List.mem_of_getElem? (i := 20) rfl
theorem nt_X7_ends_X3_most_216 : Cond.methodLinkNest RX7 216 yX3_most RX7 ∈ nz_nest := List.mem_of_getElem? (i := 84) rfl
theorem wd_X7_ends_im_X3_most : Cond.instanceMethod yX3_most ∈ wsX7_ends := List.mem_of_getElem? (i := 46) rfl
theorem wd_X7_ends_se_X3_most : Cond.selects RX3 yX3_most yX3_most ∈ wsX7_ends := List.mem_of_getElem? (i := 47) rfl
theorem nt_X7_ends_X3_least_213 : Cond.methodLinkNest RX7 213 yX3_least RX7 ∈ nz_nest := List.mem_of_getElem? (i := 83) rfl
theorem wd_X7_ends_im_X3_least : Cond.instanceMethod yX3_least ∈ wsX7_ends := List.mem_of_getElem? (i := 43) rfl
theorem wd_X7_ends_se_X3_least : Cond.selects RX3 yX3_least yX3_least ∈ wsX7_ends := List.mem_of_getElem? (i := 44) rfl
theorem wd_X7_ends_c212 : Cond.constant RX7 212 (-1000000) ∈ wsX7_ends := List.mem_of_getElem? (i := 4) rfl
def wp_X7_ends (X : Nat → Nat → Int32) (v1 : Int32) (v2 : Int32) (v3 : Int32) (K : Int32 → (Nat → Nat → Int32) → Prop) : Prop := wX_X5_isPair_16 X v1 v2 (fun q1 => ((q1 = 0 → K (-1000001 : Int32) X) ∧ (¬ (q1 = 0) → wX_X7_isAmong v3 0 1 (fun q3 => ((¬ q3 = 0 → wX_X3_fit_47_16 X (fun q5 X6 => ((¬ q5 = 0 → ((¬ v3 = 0 → wX_X3_most_47 X6 v1 v2 (fun q9 => K q9 X6)) ∧ (v3 = 0 → wX_X3_least_47 X6 v1 v2 (fun q10 => K q10 X6)))) ∧ (q5 = 0 → K (-1000000 : Int32) X6)))) ∧ (q3 = 0 → K (-1000001 : Int32) X))))))
set_option maxHeartbeats 4000000 in
set_option maxRecDepth 100000 in
theorem c_X7_ends (l : Launch) (g : nz_G) (a : Nat → Nat) (X : Nat → Nat → Int32) (v1 : Int32) (v2 : Int32) (v3 : Int32) (K : Int32 → (Nat → Nat → Int32) → Prop) (h : wp_X7_ends X v1 v2 v3 K) : nz_M l yX7_ends wsX7_ends rm_X7_ends g [.ref (a 0), .int v1, .int v2, .int v3] (nz_wX g a X) (nz_Qi g (nz_wX g a X) (fun r (u : Nat → Nat → Int32) => K r u) (fun u => nz_wX g a u)) := by
  refine nz_M.of (bytes := cX7_ends) (nL := 4) (ret := (some .int)) (own := RX7) (by decide) rfl rfl ⟨rfl, rfl⟩ rfl ?_
  intro y F hl hQ
  obtain ⟨sz, hQ⟩ := hQ
  refine nz_ent (lv' := [(0, .ref (a 0)), (1, .int v1), (2, .int v2), (3, .int v3)]) rfl ?_
  unfold wp_X7_ends at h
  refine nz_aload_n F dX7_ends_0 rfl 0 rfl ?_
  refine nz_get F iw_X7_ends_7 0 (nz_xg0 g a X) rfl 2 (by decide) rfl fl_X7_ends_26 rfl dX7_ends_1 ?_
  refine nz_iload_n F dX7_ends_4 rfl 1 rfl ?_
  refine nz_iload_n F dX7_ends_5 rfl 2 rfl ?_
  refine kX_X5_isPair_16 a X v1 v2 (fun Q hM => nz_runVN F gX7_ends_X5_isPair_n204 rfl nt_X7_ends_X5_isPair_204 wd_X7_ends_in_RX5 wd_X7_ends_im_X5_isPair wd_X7_ends_se_X5_isPair hd_X5_isPair rfl hM dX7_ends_6 (List.range' 16 9) (hC_X5_isPair_16 g a X) nd_16_9 16 (nz_xg16 g a X) rfl rfl (Nat.le_of_ble_eq_true rfl) rfl) h (fun q1 h => ?_)
  refine nz_if_eq (tgt := 21) F dX7_ends_9 (by decide) (fun c2 => ?_) (fun c2 => ?_)
  · have h := h.1 c2
    refine nz_ldc (v := (-1000001 : Int32)) F wd_X7_ends_c70 dX7_ends_21 ?_
    exact nz_iret F hQ X h rfl dX7_ends_23
  · have h := h.2 c2
    refine nz_iload_n F dX7_ends_12 rfl 3 rfl ?_
    refine nz_iconst (v := 0) F dX7_ends_13 (by decide) ?_
    refine nz_iconst (v := 1) F dX7_ends_14 (by decide) ?_
    refine kX_X7_isAmong a X v3 0 1 (fun Q hM => nz_runS F gX7_ends_X7_isAmong rfl hd_X7_isAmong.2 rfl hM dX7_ends_15 ([] : List Nat) rfl rfl rfl (Nat.le_of_ble_eq_true rfl) rfl) h (fun q3 h => ?_)
    refine nz_if_ne (tgt := 24) F dX7_ends_18 (by decide) (fun c4 => ?_) (fun c4 => ?_)
    · have h := h.1 c4
      refine nz_aload_n F dX7_ends_24 rfl 0 rfl ?_
      refine nz_get F iw_X7_ends_7 0 (nz_xg0 g a X) rfl 5 (by decide) rfl fl_X7_ends_44 rfl dX7_ends_25 ?_
      refine nz_aload_n F dX7_ends_28 rfl 0 rfl ?_
      refine nz_get F iw_X7_ends_7 0 (nz_xg0 g a X) rfl 2 (by decide) rfl fl_X7_ends_26 rfl dX7_ends_29 ?_
      refine kX_X3_fit_47_16 a X (fun Q hM => nz_runVN F gX7_ends_X3_fit_n208 rfl nt_X7_ends_X3_fit_208 wd_X7_ends_in_RX3 wd_X7_ends_im_X3_fit wd_X7_ends_se_X3_fit hd_X3_fit rfl hM dX7_ends_32 (List.range' 47 2 ++ List.range' 16 9) (hC_X3_fit_47_16 g a X) nd_47_2_16_9 47 (nz_xg47 g a X) rfl rfl (Nat.le_of_ble_eq_true rfl) rfl) h (fun q5 X6 h => ?_)
      refine nz_if_ne (tgt := 41) F dX7_ends_35 (by decide) (fun c7 => ?_) (fun c7 => ?_)
      · have h := h.1 c7
        refine nz_iload_n F dX7_ends_41 rfl 3 rfl ?_
        refine nz_if_ne (tgt := 57) F dX7_ends_42 (by decide) (fun c8 => ?_) (fun c8 => ?_)
        · have h := h.1 c8
          refine nz_aload_n F dX7_ends_57 rfl 0 rfl ?_
          refine nz_get F iw_X7_ends_7 0 (nz_xg0 g a X6) rfl 5 (by decide) rfl fl_X7_ends_44 rfl dX7_ends_58 ?_
          refine nz_iload_n F dX7_ends_61 rfl 1 rfl ?_
          refine nz_iload_n F dX7_ends_62 rfl 2 rfl ?_
          refine kX_X3_most_47 a X6 v1 v2 (fun Q hM => nz_runVN F gX7_ends_X3_most_n216 rfl nt_X7_ends_X3_most_216 wd_X7_ends_in_RX3 wd_X7_ends_im_X3_most wd_X7_ends_se_X3_most hd_X3_most rfl hM dX7_ends_63 (List.range' 47 2) (hC_X3_most_47 g a X6) nd_47_2 47 (nz_xg47 g a X6) rfl rfl (Nat.le_of_ble_eq_true rfl) rfl) h (fun q9 h => ?_)
          exact nz_iret F hQ X6 h rfl dX7_ends_66
        · have h := h.2 c8
          refine nz_aload_n F dX7_ends_45 rfl 0 rfl ?_
          refine nz_get F iw_X7_ends_7 0 (nz_xg0 g a X6) rfl 5 (by decide) rfl fl_X7_ends_44 rfl dX7_ends_46 ?_
          refine nz_iload_n F dX7_ends_49 rfl 1 rfl ?_
          refine nz_iload_n F dX7_ends_50 rfl 2 rfl ?_
          refine kX_X3_least_47 a X6 v1 v2 (fun Q hM => nz_runVN F gX7_ends_X3_least_n213 rfl nt_X7_ends_X3_least_213 wd_X7_ends_in_RX3 wd_X7_ends_im_X3_least wd_X7_ends_se_X3_least hd_X3_least rfl hM dX7_ends_51 (List.range' 47 2) (hC_X3_least_47 g a X6) nd_47_2 47 (nz_xg47 g a X6) rfl rfl (Nat.le_of_ble_eq_true rfl) rfl) h (fun q10 h => ?_)
          refine nz_goto (tgt := 66) F dX7_ends_54 (by decide) ?_
          exact nz_iret F hQ X6 h rfl dX7_ends_66
      · have h := h.2 c7
        refine nz_ldc (v := (-1000000 : Int32)) F wd_X7_ends_c212 dX7_ends_38 ?_
        exact nz_iret F hQ X6 h rfl dX7_ends_40
    · have h := h.2 c4
      refine nz_ldc (v := (-1000001 : Int32)) F wd_X7_ends_c70 dX7_ends_21 ?_
      exact nz_iret F hQ X h rfl dX7_ends_23
theorem k_X7_ends {y : nz_Y} {g : nz_G} {k n : Nat} {ws : va_W} {pc : Nat} {ls : List (Nat × Value)} {st rest : List Value} {av : Array Value} {isC : List Nat} {K : Int32 → (Nat → Nat → Int32) → Prop} (a : Nat → Nat) (X : Nat → Nat → Int32) (v1 : Int32) (v2 : Int32) (v3 : Int32) (run : nz_M (yz_l y) yX7_ends wsX7_ends rm_X7_ends g [.ref (a 0), .int v1, .int v2, .int v3] (nz_wX g a X) (nz_Qi g (nz_wX g a X) (fun r (u : Nat → Nat → Int32) => K r u) (fun u => nz_wX g a u)) → nz_C y g k n ws pc ls st rest (nz_wX g a X) (nz_Qi g (nz_wX g a X) (fun r (u : Nat → Nat → Int32) => K r u) (fun u => nz_wX g a u)) av isC) (h : wp_X7_ends X v1 v2 v3 K) (ws' : (Nat → Nat → Int32) → va_W) (hm : ∀ (m0 : (Nat → Nat → Int32)), nz_mrg ws isC (nz_wX g a m0) = ws' m0) (kk : ∀ (r : Int32) (m0 : (Nat → Nat → Int32)), K r m0 → nz_V y g k n (ws' m0) (pc + 3) ls (.int r :: rest)) : nz_V y g k n ws pc ls st :=
  nz_ci (ws' := fun u => ws' u) (run (c_X7_ends (yz_l y) g a X v1 v2 v3 K h)) (fun _ => rfl) (fun u => hm u) (fun r u h => kk r u h)
theorem dX7_widest_0 : decode cX7_widest 0 = .ok (.aload_n 0, 1) := by decide +kernel
theorem dX7_widest_1 : decode cX7_widest 1 = .ok (.getfield 26, 3) := by decide +kernel
theorem dX7_widest_4 : decode cX7_widest 4 = .ok (.getfield 137, 3) := by decide +kernel
theorem dX7_widest_7 : decode cX7_widest 7 = .ok (.ifCond .ne 6, 3) := by decide +kernel
theorem dX7_widest_10 : decode cX7_widest 10 = .ok (.ldc 141, 2) := by decide +kernel
theorem dX7_widest_12 : decode cX7_widest 12 = .ok (.ireturn, 1) := by decide +kernel
theorem dX7_widest_13 : decode cX7_widest 13 = .ok (.aload_n 0, 1) := by decide +kernel
theorem dX7_widest_14 : decode cX7_widest 14 = .ok (.getfield 44, 3) := by decide +kernel
theorem dX7_widest_17 : decode cX7_widest 17 = .ok (.aload_n 0, 1) := by decide +kernel
theorem dX7_widest_18 : decode cX7_widest 18 = .ok (.getfield 26, 3) := by decide +kernel
theorem dX7_widest_21 : decode cX7_widest 21 = .ok (.invokevirtual 208, 3) := by decide +kernel
theorem dX7_widest_24 : decode cX7_widest 24 = .ok (.ifCond .ne 6, 3) := by decide +kernel
theorem dX7_widest_27 : decode cX7_widest 27 = .ok (.ldc 212, 2) := by decide +kernel
theorem dX7_widest_29 : decode cX7_widest 29 = .ok (.ireturn, 1) := by decide +kernel
theorem dX7_widest_30 : decode cX7_widest 30 = .ok (.aload_n 0, 1) := by decide +kernel
theorem dX7_widest_31 : decode cX7_widest 31 = .ok (.getfield 44, 3) := by decide +kernel
theorem dX7_widest_34 : decode cX7_widest 34 = .ok (.aload_n 0, 1) := by decide +kernel
theorem dX7_widest_35 : decode cX7_widest 35 = .ok (.getfield 26, 3) := by decide +kernel
theorem dX7_widest_38 : decode cX7_widest 38 = .ok (.getfield 134, 3) := by decide +kernel
theorem dX7_widest_41 : decode cX7_widest 41 = .ok (.invokevirtual 219, 3) := by decide +kernel
theorem dX7_widest_44 : decode cX7_widest 44 = .ok (.ireturn, 1) := by decide +kernel
set_option maxRecDepth 20000 in
theorem ggX7_widest_X3_fit : GoodIn wsX7_widest wsX3_fit := goodIn_r _ [8, 9, 10, 11, 12, 6, 13, 14, 15, 16, 17, 18, 19, 20, 21, 22, 23, 24, 25, 26, 27, 28, 29, 52, 53, 54, 55, 56, 57, 58, 59, 60, 61, 62, 63, 64, 65, 66, 67, 68, 69] rfl (by decide +kernel)
set_option maxRecDepth 20000 in
theorem gX7_widest_X3_fit_n208 : GoodIn wsX7_widest (wsX3_fit) := ggX7_widest_X3_fit
set_option maxRecDepth 20000 in
theorem ggX7_widest_X3_widestPair : GoodIn wsX7_widest wsX3_widestPair := goodIn_r _ [32, 33, 34, 35, 36, 6, 37, 9, 38, 39, 40, 41, 69] rfl (by decide +kernel)
set_option maxRecDepth 20000 in
theorem gX7_widest_X3_widestPair_n219 : GoodIn wsX7_widest (wsX3_widestPair) := ggX7_widest_X3_widestPair
theorem hd_X3_widestPair : yX3_widestPair.cls = RX3 ∧ yX3_widestPair.cls ≠ "java/lang/invoke/MethodHandle" ∧ yX3_widestPair.cls ≠ "java/lang/invoke/VarHandle" ∧ (parseMethodDescriptor yX3_widestPair.desc).map (fun d => d.parameters.length) = some 1 := by decide +kernel
theorem hC_X3_widestPair_47 (g : nz_G) (a : Nat → Nat) (X : Nat → Nat → Int32) : (List.range' 47 2).map (fun i => (nz_wX g a X)[i]?) = (([((a 47), .inr (3, [.ref (a 48)])), ((a 48), .inl (nz_cI g, 36, .inl (X 48)))] : va_W)).map some := rfl
def wX_X3_widestPair_47 (X : Nat → Nat → Int32) (v1 : Int32) (K : Int32 → Prop) : Prop := wp_X3_widestPair (X 48) v1 (fun r => K r)
theorem kX_X3_widestPair_47 {y : nz_Y} {g : nz_G} {k n pc : Nat} {ls : List (Nat × Value)} {st rest : List Value} {av : Array Value} {K : Int32 → Prop} (a : Nat → Nat) (X : Nat → Nat → Int32) (v1 : Int32) (run : ∀ Q : Nat → Array Value → State → Outcome → State → Prop, nz_M (yz_l y) yX3_widestPair wsX3_widestPair rm_X3_widestPair g [.ref (a 47), .int v1] [((a 47), .inr (3, [.ref (a 48)])), ((a 48), .inl (nz_cI g, 36, .inl (X 48)))] Q → nz_C y g k n (nz_wX g a X) pc ls st rest [((a 47), .inr (3, [.ref (a 48)])), ((a 48), .inl (nz_cI g, 36, .inl (X 48)))] Q av (List.range' 47 2)) (h : wX_X3_widestPair_47 X v1 K) (kk : ∀ (r : Int32), K r → nz_V y g k n (nz_wX g a X) (pc + 3) ls (.int r :: rest)) : nz_V y g k n (nz_wX g a X) pc ls st :=
 k_X3_widestPair (a 47) (a 48) (X 48) v1 (run _) h (nz_wX g a X) (nz_xm (hC_X3_widestPair_47 g a X) nz_ag.refl) (fun r h => kk r h)
/-! X7_widest -/
abbrev rm_X7_widest : Room := { frames := 4, cells := 0, slots := 0, locals := 93 }
theorem iw_X7_widest_7 : ∀ w ∈ wsX70, w ∈ wsX7_widest := fun _ h => List.mem_cons_of_mem _ (List.mem_append_left _ (List.mem_append_left _ (List.mem_append_right _ h)))
theorem iw_X7_widest_5 : ∀ w ∈ wsX50, w ∈ wsX7_widest := fun _ h => List.mem_cons_of_mem _ (List.mem_append_left _ (List.mem_append_right _ h))
theorem fl_X7_widest_26 : Cond.fieldLink RX7 26 "NightStones" "now" "LNightStones$Road;" ∈ wsX7_widest := List.mem_of_getElem? (i := 1) rfl
theorem fn_X7_widest_137 : Cond.fieldLinkNest RX7 137 "NightStones$Road" "isThere" "Z" RX7 ∈ nz_nest := List.mem_of_getElem? (i := 4) rfl
theorem fl_X7_widest_44 : Cond.fieldLink RX7 44 "NightStones" "lengths" "LNightStones$Lengths;" ∈ wsX7_widest := List.mem_of_getElem? (i := 3) rfl
theorem nt_X7_widest_X3_fit_208 : Cond.methodLinkNest RX7 208 yX3_fit RX7 ∈ nz_nest := List.mem_of_getElem? (i := 82) rfl
theorem wd_X7_widest_in_RX3 : Cond.initialized RX3 ∈ wsX7_widest := List.mem_of_getElem? (i := 6) rfl
theorem wd_X7_widest_im_X3_fit : Cond.instanceMethod yX3_fit ∈ wsX7_widest := List.mem_of_getElem? (i := 5) rfl
theorem wd_X7_widest_se_X3_fit : Cond.selects RX3 yX3_fit yX3_fit ∈ wsX7_widest := List.mem_of_getElem? (i := 7) rfl
theorem fn_X7_widest_134 : Cond.fieldLinkNest RX7 134 "NightStones$Road" "stones" "I" RX7 ∈ nz_nest := List.mem_of_getElem? (i := 20) rfl
theorem nt_X7_widest_X3_widestPair_219 : Cond.methodLinkNest RX7 219 yX3_widestPair RX7 ∈ nz_nest := List.mem_of_getElem? (i := 85) rfl
theorem wd_X7_widest_im_X3_widestPair : Cond.instanceMethod yX3_widestPair ∈ wsX7_widest := List.mem_of_getElem? (i := 30) rfl
theorem wd_X7_widest_se_X3_widestPair : Cond.selects RX3 yX3_widestPair yX3_widestPair ∈ wsX7_widest := List.mem_of_getElem? (i := 31) rfl
theorem wd_X7_widest_c212 : Cond.constant RX7 212 (-1000000) ∈ wsX7_widest := List.mem_of_getElem? (i := 4) rfl
theorem wd_X7_widest_c141 : Cond.constant RX7 141 (-1000002) ∈ wsX7_widest := List.mem_of_getElem? (i := 2) rfl
def wp_X7_widest (X : Nat → Nat → Int32) (K : Int32 → (Nat → Nat → Int32) → Prop) : Prop := ((¬ (X 16 0) = 0 → wX_X3_fit_47_16 X (fun q2 X3 => ((¬ q2 = 0 → wX_X3_widestPair_47 X3 (X3 16 6) (fun q5 => K q5 X3)) ∧ (q2 = 0 → K (-1000000 : Int32) X3)))) ∧ ((X 16 0) = 0 → K (-1000002 : Int32) X))
set_option maxHeartbeats 4000000 in
set_option maxRecDepth 100000 in
theorem c_X7_widest (l : Launch) (g : nz_G) (a : Nat → Nat) (X : Nat → Nat → Int32) (K : Int32 → (Nat → Nat → Int32) → Prop) (h : wp_X7_widest X K) : nz_M l yX7_widest wsX7_widest rm_X7_widest g [.ref (a 0)] (nz_wX g a X) (nz_Qi g (nz_wX g a X) (fun r (u : Nat → Nat → Int32) => K r u) (fun u => nz_wX g a u)) := by
  refine nz_M.of (bytes := cX7_widest) (nL := 1) (ret := (some .int)) (own := RX7) (by decide) rfl rfl ⟨rfl, rfl⟩ rfl ?_
  intro y F hl hQ
  obtain ⟨sz, hQ⟩ := hQ
  refine nz_ent (lv' := [(0, .ref (a 0))]) rfl ?_
  unfold wp_X7_widest at h
  refine nz_aload_n F dX7_widest_0 rfl 0 rfl ?_
  refine nz_get F iw_X7_widest_7 0 (nz_xg0 g a X) rfl 2 (by decide) rfl fl_X7_widest_26 rfl dX7_widest_1 ?_
  refine nz_getN F iw_X7_widest_5 16 (nz_xg16 g a X) rfl 0 (by decide) rfl fn_X7_widest_137 rfl dX7_widest_4 ?_
  refine nz_if_ne (tgt := 13) F dX7_widest_7 (by decide) (fun c1 => ?_) (fun c1 => ?_)
  · have h := h.1 c1
    refine nz_aload_n F dX7_widest_13 rfl 0 rfl ?_
    refine nz_get F iw_X7_widest_7 0 (nz_xg0 g a X) rfl 5 (by decide) rfl fl_X7_widest_44 rfl dX7_widest_14 ?_
    refine nz_aload_n F dX7_widest_17 rfl 0 rfl ?_
    refine nz_get F iw_X7_widest_7 0 (nz_xg0 g a X) rfl 2 (by decide) rfl fl_X7_widest_26 rfl dX7_widest_18 ?_
    refine kX_X3_fit_47_16 a X (fun Q hM => nz_runVN F gX7_widest_X3_fit_n208 rfl nt_X7_widest_X3_fit_208 wd_X7_widest_in_RX3 wd_X7_widest_im_X3_fit wd_X7_widest_se_X3_fit hd_X3_fit rfl hM dX7_widest_21 (List.range' 47 2 ++ List.range' 16 9) (hC_X3_fit_47_16 g a X) nd_47_2_16_9 47 (nz_xg47 g a X) rfl rfl (Nat.le_of_ble_eq_true rfl) rfl) h (fun q2 X3 h => ?_)
    refine nz_if_ne (tgt := 30) F dX7_widest_24 (by decide) (fun c4 => ?_) (fun c4 => ?_)
    · have h := h.1 c4
      refine nz_aload_n F dX7_widest_30 rfl 0 rfl ?_
      refine nz_get F iw_X7_widest_7 0 (nz_xg0 g a X3) rfl 5 (by decide) rfl fl_X7_widest_44 rfl dX7_widest_31 ?_
      refine nz_aload_n F dX7_widest_34 rfl 0 rfl ?_
      refine nz_get F iw_X7_widest_7 0 (nz_xg0 g a X3) rfl 2 (by decide) rfl fl_X7_widest_26 rfl dX7_widest_35 ?_
      refine nz_getN F iw_X7_widest_5 16 (nz_xg16 g a X3) rfl 6 (by decide) rfl fn_X7_widest_134 rfl dX7_widest_38 ?_
      refine kX_X3_widestPair_47 a X3 (X3 16 6) (fun Q hM => nz_runVN F gX7_widest_X3_widestPair_n219 rfl nt_X7_widest_X3_widestPair_219 wd_X7_widest_in_RX3 wd_X7_widest_im_X3_widestPair wd_X7_widest_se_X3_widestPair hd_X3_widestPair rfl hM dX7_widest_41 (List.range' 47 2) (hC_X3_widestPair_47 g a X3) nd_47_2 47 (nz_xg47 g a X3) rfl rfl (Nat.le_of_ble_eq_true rfl) rfl) h (fun q5 h => ?_)
      exact nz_iret F hQ X3 h rfl dX7_widest_44
    · have h := h.2 c4
      refine nz_ldc (v := (-1000000 : Int32)) F wd_X7_widest_c212 dX7_widest_27 ?_
      exact nz_iret F hQ X3 h rfl dX7_widest_29
  · have h := h.2 c1
    refine nz_ldc (v := (-1000002 : Int32)) F wd_X7_widest_c141 dX7_widest_10 ?_
    exact nz_iret F hQ X h rfl dX7_widest_12
theorem k_X7_widest {y : nz_Y} {g : nz_G} {k n : Nat} {ws : va_W} {pc : Nat} {ls : List (Nat × Value)} {st rest : List Value} {av : Array Value} {isC : List Nat} {K : Int32 → (Nat → Nat → Int32) → Prop} (a : Nat → Nat) (X : Nat → Nat → Int32) (run : nz_M (yz_l y) yX7_widest wsX7_widest rm_X7_widest g [.ref (a 0)] (nz_wX g a X) (nz_Qi g (nz_wX g a X) (fun r (u : Nat → Nat → Int32) => K r u) (fun u => nz_wX g a u)) → nz_C y g k n ws pc ls st rest (nz_wX g a X) (nz_Qi g (nz_wX g a X) (fun r (u : Nat → Nat → Int32) => K r u) (fun u => nz_wX g a u)) av isC) (h : wp_X7_widest X K) (ws' : (Nat → Nat → Int32) → va_W) (hm : ∀ (m0 : (Nat → Nat → Int32)), nz_mrg ws isC (nz_wX g a m0) = ws' m0) (kk : ∀ (r : Int32) (m0 : (Nat → Nat → Int32)), K r m0 → nz_V y g k n (ws' m0) (pc + 3) ls (.int r :: rest)) : nz_V y g k n ws pc ls st :=
  nz_ci (ws' := fun u => ws' u) (run (c_X7_widest (yz_l y) g a X K h)) (fun _ => rfl) (fun u => hm u) (fun r u h => kk r u h)
