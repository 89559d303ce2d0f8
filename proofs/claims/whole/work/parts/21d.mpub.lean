theorem dX8_forget_0 : decode cX8_forget 0 = .ok (.aload_n 0, 1) := by decide +kernel
theorem dX8_forget_1 : decode cX8_forget 1 = .ok (.iconst 0, 1) := by decide +kernel
theorem dX8_forget_2 : decode cX8_forget 2 = .ok (.putfield 50, 3) := by decide +kernel
theorem dX8_forget_5 : decode cX8_forget 5 = .ok (.aload_n 0, 1) := by decide +kernel
theorem dX8_forget_6 : decode cX8_forget 6 = .ok (.getfield 19, 3) := by decide +kernel
theorem dX8_forget_9 : decode cX8_forget 9 = .ok (.bipush 7, 2) := by decide +kernel
theorem dX8_forget_11 : decode cX8_forget 11 = .ok (.iaload, 1) := by decide +kernel
theorem dX8_forget_12 : decode cX8_forget 12 = .ok (.istore_n 1, 1) := by decide +kernel
theorem dX8_forget_13 : decode cX8_forget 13 = .ok (.aload_n 0, 1) := by decide +kernel
theorem dX8_forget_14 : decode cX8_forget 14 = .ok (.getfield 19, 3) := by decide +kernel
theorem dX8_forget_17 : decode cX8_forget 17 = .ok (.bipush 7, 2) := by decide +kernel
theorem dX8_forget_19 : decode cX8_forget 19 = .ok (.iconst 0, 1) := by decide +kernel
theorem dX8_forget_20 : decode cX8_forget 20 = .ok (.iastore, 1) := by decide +kernel
theorem dX8_forget_21 : decode cX8_forget 21 = .ok (.iload_n 1, 1) := by decide +kernel
theorem dX8_forget_22 : decode cX8_forget 22 = .ok (.ireturn, 1) := by decide +kernel
/-! X8_forget -/
abbrev rm_X8_forget : Room := { frames := 0, cells := 0, slots := 0, locals := 0 }
theorem iw_X8_forget_8 : ∀ w ∈ wsX80, w ∈ wsX8_forget := fun _ h => List.mem_cons_of_mem _ (List.mem_append_right _ h)
theorem fl_X8_forget_50 : Cond.fieldLink RX8 50 "NightStonesModel" "thrown" "I" ∈ wsX8_forget := List.mem_of_getElem? (i := 1) rfl
theorem fl_X8_forget_19 : Cond.fieldLink RX8 19 "NightStonesModel" "road" "[I" ∈ wsX8_forget := List.mem_of_getElem? (i := 2) rfl
def wp_X8_forget (X : Nat → Nat → Int32) (K : Int32 → (Nat → Nat → Int32) → Prop) : Prop := K ((X 4) 7) (va_up (va_up X 0 (upd (X 0) 0 0)) 4 (upd (X 4) 7 0))
set_option maxHeartbeats 4000000 in
set_option maxRecDepth 100000 in
theorem c_X8_forget (l : Launch) (g : nz_G) (a : Nat → Nat) (X : Nat → Nat → Int32) (K : Int32 → (Nat → Nat → Int32) → Prop) (h : wp_X8_forget X K) : nz_M l yX8_forget wsX8_forget rm_X8_forget g [.ref (a 0)] (nz_wM g a X) (nz_Qi g (nz_wM g a X) (fun r (u : Nat → Nat → Int32) => K r u) (fun u => nz_wM g a u)) := by
  refine nz_M.of (bytes := cX8_forget) (nL := 2) (ret := (some .int)) (own := RX8) (by decide) rfl rfl ⟨rfl, rfl⟩ rfl ?_
  intro y F hl hQ
  obtain ⟨sz, hQ⟩ := hQ
  refine nz_ent (lv' := [(0, .ref (a 0))]) rfl ?_
  unfold wp_X8_forget at h
  refine nz_aload_n F dX8_forget_0 rfl 0 rfl ?_
  refine nz_iconst (v := 0) F dX8_forget_1 (by decide) ?_
  refine nz_put (ws' := [((a 0), .inr (8, [.int 0, .int (X 0 1), .ref (a 1), .ref (a 2), .ref (a 3), .ref (a 4), .ref (a 5), .ref (a 6), .int (X 0 8), .ref (a 7), .int (X 0 10), .int (X 0 11), .int (X 0 12), .int (X 0 13), .int (X 0 14), .int (X 0 15), .int (X 0 16), .int (X 0 17), .int (X 0 18), .ref (a 8), .ref (a 9), .ref (a 10), .ref (a 11), .ref (a 12), .ref (a 13), .int (X 0 25)])), ((a 1), .inl (nz_cI g, 8, .inl (X 1))), ((a 2), .inl (nz_cI g, 8, .inl (X 2))), ((a 3), .inl (nz_cI g, 320, .inl (X 3))), ((a 4), .inl (nz_cI g, 94, .inl (X 4))), ((a 5), .inl (nz_cI g, 94, .inl (X 5))), ((a 6), .inl (nz_cI g, 168, .inl (X 6))), ((a 7), .inl (nz_cI g, 400, .inl (X 7))), ((a 8), .inl (nz_cI g, 6, .inl (X 8))), ((a 9), .inl (nz_cI g, 49, .inl (X 9))), ((a 10), .inl (nz_cI g, 6, .inl (X 10))), ((a 11), .inl (nz_cZ g, 2, .inl (X 11))), ((a 12), .inl (nz_cI g, 188, .inl (X 12))), ((a 13), .inl (nz_cI g, 16, .inl (X 13)))]) F iw_X8_forget_8 tyX8 tyX8_ok nmX8 0 rfl rfl 0 (by decide) rfl fl_X8_forget_50 rfl rfl (Nat.le_of_ble_eq_true rfl) dX8_forget_2 rfl ?_
  refine nz_aload_n F dX8_forget_5 rfl 0 rfl ?_
  refine nz_get F iw_X8_forget_8 0 rfl rfl 5 (by decide) rfl fl_X8_forget_19 rfl dX8_forget_6 ?_
  refine nz_bipush (v := 7) F dX8_forget_9 (by decide) ?_
  refine nz_iald F 4 rfl (nz_inC rfl) dX8_forget_11 ?_
  refine nz_vi (z := ((X 4) 7)) rfl ?_
  refine nz_istore_n (lv' := [(1, .int ((X 4) 7)), (0, .ref (a 0))]) F dX8_forget_12 rfl (by decide) rfl ?_
  refine nz_aload_n F dX8_forget_13 rfl 1 rfl ?_
  refine nz_get F iw_X8_forget_8 0 rfl rfl 5 (by decide) rfl fl_X8_forget_19 rfl dX8_forget_14 ?_
  refine nz_bipush (v := 7) F dX8_forget_17 (by decide) ?_
  refine nz_iconst (v := 0) F dX8_forget_19 (by decide) ?_
  refine nz_iast (ws' := [((a 0), .inr (8, [.int 0, .int (X 0 1), .ref (a 1), .ref (a 2), .ref (a 3), .ref (a 4), .ref (a 5), .ref (a 6), .int (X 0 8), .ref (a 7), .int (X 0 10), .int (X 0 11), .int (X 0 12), .int (X 0 13), .int (X 0 14), .int (X 0 15), .int (X 0 16), .int (X 0 17), .int (X 0 18), .ref (a 8), .ref (a 9), .ref (a 10), .ref (a 11), .ref (a 12), .ref (a 13), .int (X 0 25)])), ((a 1), .inl (nz_cI g, 8, .inl (X 1))), ((a 2), .inl (nz_cI g, 8, .inl (X 2))), ((a 3), .inl (nz_cI g, 320, .inl (X 3))), ((a 4), .inl (nz_cI g, 94, .inl (upd (X 4) 7 0))), ((a 5), .inl (nz_cI g, 94, .inl (X 5))), ((a 6), .inl (nz_cI g, 168, .inl (X 6))), ((a 7), .inl (nz_cI g, 400, .inl (X 7))), ((a 8), .inl (nz_cI g, 6, .inl (X 8))), ((a 9), .inl (nz_cI g, 49, .inl (X 9))), ((a 10), .inl (nz_cI g, 6, .inl (X 10))), ((a 11), .inl (nz_cZ g, 2, .inl (X 11))), ((a 12), .inl (nz_cI g, 188, .inl (X 12))), ((a 13), .inl (nz_cI g, 16, .inl (X 13)))]) F 4 rfl (nz_inC rfl) dX8_forget_20 rfl ?_
  refine nz_iload_n F dX8_forget_21 rfl 0 rfl ?_
  exact nz_iret F hQ (va_up (va_up X 0 (upd (X 0) 0 0)) 4 (upd (X 4) 7 0)) h rfl dX8_forget_22
theorem k_X8_forget {y : nz_Y} {g : nz_G} {k n : Nat} {ws : va_W} {pc : Nat} {ls : List (Nat × Value)} {st rest : List Value} {av : Array Value} {isC : List Nat} {K : Int32 → (Nat → Nat → Int32) → Prop} (a : Nat → Nat) (X : Nat → Nat → Int32) (run : nz_M (yz_l y) yX8_forget wsX8_forget rm_X8_forget g [.ref (a 0)] (nz_wM g a X) (nz_Qi g (nz_wM g a X) (fun r (u : Nat → Nat → Int32) => K r u) (fun u => nz_wM g a u)) → nz_C y g k n ws pc ls st rest (nz_wM g a X) (nz_Qi g (nz_wM g a X) (fun r (u : Nat → Nat → Int32) => K r u) (fun u => nz_wM g a u)) av isC) (h : wp_X8_forget X K) (ws' : (Nat → Nat → Int32) → va_W) (hm : ∀ (m0 : (Nat → Nat → Int32)), nz_mrg ws isC (nz_wM g a m0) = ws' m0) (kk : ∀ (r : Int32) (m0 : (Nat → Nat → Int32)), K r m0 → nz_V y g k n (ws' m0) (pc + 3) ls (.int r :: rest)) : nz_V y g k n ws pc ls st :=
  nz_ci (ws' := fun u => ws' u) (run (c_X8_forget (yz_l y) g a X K h)) (fun _ => rfl) (fun u => hm u) (fun r u h => kk r u h)
theorem dX8_ends_0 : decode cX8_ends 0 = .ok (.aload_n 0, 1) := by decide +kernel
theorem dX8_ends_1 : decode cX8_ends 1 = .ok (.iconst 0, 1) := by decide +kernel
theorem dX8_ends_2 : decode cX8_ends 2 = .ok (.putfield 50, 3) := by decide +kernel
theorem dX8_ends_5 : decode cX8_ends 5 = .ok (.aload_n 0, 1) := by decide +kernel
theorem dX8_ends_6 : decode cX8_ends 6 = .ok (.iload_n 1, 1) := by decide +kernel
theorem dX8_ends_7 : decode cX8_ends 7 = .ok (.invokevirtual 206, 3) := by decide +kernel
theorem dX8_ends_10 : decode cX8_ends 10 = .ok (.ifCond .eq 26, 3) := by decide +kernel
theorem dX8_ends_13 : decode cX8_ends 13 = .ok (.aload_n 0, 1) := by decide +kernel
theorem dX8_ends_14 : decode cX8_ends 14 = .ok (.iload_n 2, 1) := by decide +kernel
theorem dX8_ends_15 : decode cX8_ends 15 = .ok (.invokevirtual 206, 3) := by decide +kernel
theorem dX8_ends_18 : decode cX8_ends 18 = .ok (.ifCond .eq 18, 3) := by decide +kernel
theorem dX8_ends_21 : decode cX8_ends 21 = .ok (.iload_n 1, 1) := by decide +kernel
theorem dX8_ends_22 : decode cX8_ends 22 = .ok (.iload_n 2, 1) := by decide +kernel
theorem dX8_ends_23 : decode cX8_ends 23 = .ok (.if_icmp .ge 13, 3) := by decide +kernel
theorem dX8_ends_26 : decode cX8_ends 26 = .ok (.iload_n 3, 1) := by decide +kernel
theorem dX8_ends_27 : decode cX8_ends 27 = .ok (.i2l, 1) := by decide +kernel
theorem dX8_ends_28 : decode cX8_ends 28 = .ok (.lconst 0, 1) := by decide +kernel
theorem dX8_ends_29 : decode cX8_ends 29 = .ok (.lconst 1, 1) := by decide +kernel
theorem dX8_ends_30 : decode cX8_ends 30 = .ok (.invokestatic 60, 3) := by decide +kernel
theorem dX8_ends_33 : decode cX8_ends 33 = .ok (.ifCond .ne 6, 3) := by decide +kernel
theorem dX8_ends_36 : decode cX8_ends 36 = .ok (.ldc 70, 2) := by decide +kernel
theorem dX8_ends_38 : decode cX8_ends 38 = .ok (.ireturn, 1) := by decide +kernel
theorem dX8_ends_39 : decode cX8_ends 39 = .ok (.aload_n 0, 1) := by decide +kernel
theorem dX8_ends_40 : decode cX8_ends 40 = .ok (.invokevirtual 231, 3) := by decide +kernel
theorem dX8_ends_43 : decode cX8_ends 43 = .ok (.ifCond .ne 6, 3) := by decide +kernel
theorem dX8_ends_46 : decode cX8_ends 46 = .ok (.ldc 86, 2) := by decide +kernel
theorem dX8_ends_48 : decode cX8_ends 48 = .ok (.ireturn, 1) := by decide +kernel
theorem dX8_ends_49 : decode cX8_ends 49 = .ok (.iload_n 3, 1) := by decide +kernel
theorem dX8_ends_50 : decode cX8_ends 50 = .ok (.ifCond .ne 18, 3) := by decide +kernel
theorem dX8_ends_53 : decode cX8_ends 53 = .ok (.aload_n 0, 1) := by decide +kernel
theorem dX8_ends_54 : decode cX8_ends 54 = .ok (.getfield 34, 3) := by decide +kernel
theorem dX8_ends_57 : decode cX8_ends 57 = .ok (.bipush 7, 2) := by decide +kernel
theorem dX8_ends_59 : decode cX8_ends 59 = .ok (.iload_n 2, 1) := by decide +kernel
theorem dX8_ends_60 : decode cX8_ends 60 = .ok (.imul, 1) := by decide +kernel
theorem dX8_ends_61 : decode cX8_ends 61 = .ok (.iload_n 1, 1) := by decide +kernel
theorem dX8_ends_62 : decode cX8_ends 62 = .ok (.iadd, 1) := by decide +kernel
theorem dX8_ends_63 : decode cX8_ends 63 = .ok (.iaload, 1) := by decide +kernel
theorem dX8_ends_64 : decode cX8_ends 64 = .ok (.ineg, 1) := by decide +kernel
theorem dX8_ends_65 : decode cX8_ends 65 = .ok (.goto 14, 3) := by decide +kernel
theorem dX8_ends_68 : decode cX8_ends 68 = .ok (.aload_n 0, 1) := by decide +kernel
theorem dX8_ends_69 : decode cX8_ends 69 = .ok (.getfield 34, 3) := by decide +kernel
theorem dX8_ends_72 : decode cX8_ends 72 = .ok (.bipush 7, 2) := by decide +kernel
theorem dX8_ends_74 : decode cX8_ends 74 = .ok (.iload_n 1, 1) := by decide +kernel
theorem dX8_ends_75 : decode cX8_ends 75 = .ok (.imul, 1) := by decide +kernel
theorem dX8_ends_76 : decode cX8_ends 76 = .ok (.iload_n 2, 1) := by decide +kernel
theorem dX8_ends_77 : decode cX8_ends 77 = .ok (.iadd, 1) := by decide +kernel
theorem dX8_ends_78 : decode cX8_ends 78 = .ok (.iaload, 1) := by decide +kernel
theorem dX8_ends_79 : decode cX8_ends 79 = .ok (.ireturn, 1) := by decide +kernel
set_option maxRecDepth 20000 in
theorem ggX8_ends_X8_in : GoodIn wsX8_ends wsX8_in := goodIn_r _ [13] rfl (by decide +kernel)
set_option maxRecDepth 20000 in
theorem gX8_ends_X8_in : GoodIn wsX8_ends (va_wsS RX8 60 yX8_in wsX8_in) := goodIn_app (goodIn_r _ [11, 12, 8] rfl (by decide +kernel)) ggX8_ends_X8_in
set_option maxRecDepth 20000 in
theorem ggX8_ends_X8_isStone : GoodIn wsX8_ends wsX8_isStone := goodIn_r _ [9, 10, 11, 12, 8, 13, 23, 24, 25, 26, 27, 28, 29, 30, 31, 32, 33, 34, 35, 36, 37, 38, 39, 40, 41, 42, 43, 44, 45, 46, 47, 48] rfl (by decide +kernel)
set_option maxRecDepth 20000 in
theorem gX8_ends_X8_isStone : GoodIn wsX8_ends (wsV RX8 206 RX8 yX8_isStone wsX8_isStone) := goodIn_app (goodIn_r _ [5, 6, 7, 8] rfl (by decide +kernel)) ggX8_ends_X8_isStone
set_option maxRecDepth 20000 in
theorem ggX8_ends_X8_layMost : GoodIn wsX8_ends wsX8_layMost := goodIn_r _ [17, 4, 18, 10, 19, 20, 21, 8, 22, 23, 24, 25, 26, 27, 28, 29, 30, 31, 32, 33, 34, 35, 36, 37, 38, 39, 40, 41, 42, 43, 44, 45, 46, 47, 48] rfl (by decide +kernel)
set_option maxRecDepth 20000 in
theorem gX8_ends_X8_layMost : GoodIn wsX8_ends (wsV RX8 231 RX8 yX8_layMost wsX8_layMost) := goodIn_app (goodIn_r _ [14, 15, 16, 8] rfl (by decide +kernel)) ggX8_ends_X8_layMost
theorem hd_X8_layMost : yX8_layMost.cls = RX8 ∧ yX8_layMost.cls ≠ "java/lang/invoke/MethodHandle" ∧ yX8_layMost.cls ≠ "java/lang/invoke/VarHandle" ∧ (parseMethodDescriptor yX8_layMost.desc).map (fun d => d.parameters.length) = some 0 := by decide +kernel
/-! X8_ends -/
abbrev rm_X8_ends : Room := { frames := 2, cells := 0, slots := 0, locals := 48 }
theorem iw_X8_ends_8 : ∀ w ∈ wsX80, w ∈ wsX8_ends := fun _ h => List.mem_cons_of_mem _ (List.mem_append_right _ h)
theorem fl_X8_ends_50 : Cond.fieldLink RX8 50 "NightStonesModel" "thrown" "I" ∈ wsX8_ends := List.mem_of_getElem? (i := 1) rfl
theorem wd_X8_ends_c70 : Cond.constant RX8 70 (-1000001) ∈ wsX8_ends := List.mem_of_getElem? (i := 2) rfl
theorem fl_X8_ends_34 : Cond.fieldLink RX8 34 "NightStonesModel" "most" "[I" ∈ wsX8_ends := List.mem_of_getElem? (i := 4) rfl
theorem wd_X8_ends_c86 : Cond.constant RX8 86 (-1000000) ∈ wsX8_ends := List.mem_of_getElem? (i := 3) rfl
def wp_X8_ends (X : Nat → Nat → Int32) (v1 : Int32) (v2 : Int32) (v3 : Int32) (K : Int32 → (Nat → Nat → Int32) → Prop) : Prop := wp_X8_isStone (X 4) v1 (fun q1 => ((q1 = 0 → K (-1000001 : Int32) (va_up X 0 (upd (X 0) 0 0))) ∧ (¬ (q1 = 0) → wp_X8_isStone (X 4) v2 (fun q3 => ((q3 = 0 → K (-1000001 : Int32) (va_up X 0 (upd (X 0) 0 0))) ∧ (¬ (q3 = 0) → ((v2 ≤ v1 → K (-1000001 : Int32) (va_up X 0 (upd (X 0) 0 0))) ∧ (¬ (v2 ≤ v1) → wp_X8_in ((v3 : Int32).toInt64) 0 1 (fun q6 => ((¬ q6 = 0 → wp_X8_layMost (X 4) (X 9) (fun q8 m9 => ((¬ q8 = 0 → ((¬ v3 = 0 → (vp_in ((7 * v1) + v2) 49 ∧ K (m9 ((7 * v1) + v2).toNatClampNeg) (va_up (va_up X 0 (upd (X 0) 0 0)) 9 m9))) ∧ (v3 = 0 → (vp_in ((7 * v2) + v1) 49 ∧ K (-(m9 ((7 * v2) + v1).toNatClampNeg)) (va_up (va_up X 0 (upd (X 0) 0 0)) 9 m9))))) ∧ (q8 = 0 → K (-1000000 : Int32) (va_up (va_up X 0 (upd (X 0) 0 0)) 9 m9))))) ∧ (q6 = 0 → K (-1000001 : Int32) (va_up X 0 (upd (X 0) 0 0)))))))))))))
set_option maxHeartbeats 4000000 in
set_option maxRecDepth 100000 in
theorem c_X8_ends (l : Launch) (g : nz_G) (a : Nat → Nat) (X : Nat → Nat → Int32) (v1 : Int32) (v2 : Int32) (v3 : Int32) (K : Int32 → (Nat → Nat → Int32) → Prop) (h : wp_X8_ends X v1 v2 v3 K) : nz_M l yX8_ends wsX8_ends rm_X8_ends g [.ref (a 0), .int v1, .int v2, .int v3] (nz_wM g a X) (nz_Qi g (nz_wM g a X) (fun r (u : Nat → Nat → Int32) => K r u) (fun u => nz_wM g a u)) := by
  refine nz_M.of (bytes := cX8_ends) (nL := 4) (ret := (some .int)) (own := RX8) (by decide) rfl rfl ⟨rfl, rfl⟩ rfl ?_
  intro y F hl hQ
  obtain ⟨sz, hQ⟩ := hQ
  refine nz_ent (lv' := [(0, .ref (a 0)), (1, .int v1), (2, .int v2), (3, .int v3)]) rfl ?_
  unfold wp_X8_ends at h
  refine nz_aload_n F dX8_ends_0 rfl 0 rfl ?_
  refine nz_iconst (v := 0) F dX8_ends_1 (by decide) ?_
  refine nz_put (ws' := [((a 0), .inr (8, [.int 0, .int (X 0 1), .ref (a 1), .ref (a 2), .ref (a 3), .ref (a 4), .ref (a 5), .ref (a 6), .int (X 0 8), .ref (a 7), .int (X 0 10), .int (X 0 11), .int (X 0 12), .int (X 0 13), .int (X 0 14), .int (X 0 15), .int (X 0 16), .int (X 0 17), .int (X 0 18), .ref (a 8), .ref (a 9), .ref (a 10), .ref (a 11), .ref (a 12), .ref (a 13), .int (X 0 25)])), ((a 1), .inl (nz_cI g, 8, .inl (X 1))), ((a 2), .inl (nz_cI g, 8, .inl (X 2))), ((a 3), .inl (nz_cI g, 320, .inl (X 3))), ((a 4), .inl (nz_cI g, 94, .inl (X 4))), ((a 5), .inl (nz_cI g, 94, .inl (X 5))), ((a 6), .inl (nz_cI g, 168, .inl (X 6))), ((a 7), .inl (nz_cI g, 400, .inl (X 7))), ((a 8), .inl (nz_cI g, 6, .inl (X 8))), ((a 9), .inl (nz_cI g, 49, .inl (X 9))), ((a 10), .inl (nz_cI g, 6, .inl (X 10))), ((a 11), .inl (nz_cZ g, 2, .inl (X 11))), ((a 12), .inl (nz_cI g, 188, .inl (X 12))), ((a 13), .inl (nz_cI g, 16, .inl (X 13)))]) F iw_X8_ends_8 tyX8 tyX8_ok nmX8 0 rfl rfl 0 (by decide) rfl fl_X8_ends_50 rfl rfl (Nat.le_of_ble_eq_true rfl) dX8_ends_2 rfl ?_
  refine nz_aload_n F dX8_ends_5 rfl 0 rfl ?_
  refine nz_iload_n F dX8_ends_6 rfl 1 rfl ?_
  refine k_X8_isStone (a 0) (a 1) (a 2) (a 3) (a 4) (a 5) (a 6) (a 7) (a 8) (a 9) (a 10) (a 11) (a 12) (a 13) 0 (X 0 1) (X 0 8) (X 0 10) (X 0 11) (X 0 12) (X 0 13) (X 0 14) (X 0 15) (X 0 16) (X 0 17) (X 0 18) (X 0 25) (X 1) (X 2) (X 3) (X 4) (X 5) (X 6) (X 7) (X 8) (X 9) (X 10) (X 11) (X 12) (X 13) v1 (fun hM => nz_runV F gX8_ends_X8_isStone rfl hd_X8_isStone rfl hM dX8_ends_7 [0, 1, 2, 3, 4, 5, 6, 7, 8, 9, 10, 11, 12, 13] rfl rfl 0 rfl rfl rfl (Nat.le_of_ble_eq_true rfl) rfl) h ([((a 0), .inr (8, [.int 0, .int (X 0 1), .ref (a 1), .ref (a 2), .ref (a 3), .ref (a 4), .ref (a 5), .ref (a 6), .int (X 0 8), .ref (a 7), .int (X 0 10), .int (X 0 11), .int (X 0 12), .int (X 0 13), .int (X 0 14), .int (X 0 15), .int (X 0 16), .int (X 0 17), .int (X 0 18), .ref (a 8), .ref (a 9), .ref (a 10), .ref (a 11), .ref (a 12), .ref (a 13), .int (X 0 25)])), ((a 1), .inl (nz_cI g, 8, .inl (X 1))), ((a 2), .inl (nz_cI g, 8, .inl (X 2))), ((a 3), .inl (nz_cI g, 320, .inl (X 3))), ((a 4), .inl (nz_cI g, 94, .inl (X 4))), ((a 5), .inl (nz_cI g, 94, .inl (X 5))), ((a 6), .inl (nz_cI g, 168, .inl (X 6))), ((a 7), .inl (nz_cI g, 400, .inl (X 7))), ((a 8), .inl (nz_cI g, 6, .inl (X 8))), ((a 9), .inl (nz_cI g, 49, .inl (X 9))), ((a 10), .inl (nz_cI g, 6, .inl (X 10))), ((a 11), .inl (nz_cZ g, 2, .inl (X 11))), ((a 12), .inl (nz_cI g, 188, .inl (X 12))), ((a 13), .inl (nz_cI g, 16, .inl (X 13)))]) (rfl) (fun q1 h => ?_)
  refine nz_if_eq (tgt := 36) F dX8_ends_10 (by decide) (fun c2 => ?_) (fun c2 => ?_)
  · have h := h.1 c2
    refine nz_ldc (v := (-1000001 : Int32)) F wd_X8_ends_c70 dX8_ends_36 ?_
    exact nz_iret F hQ (va_up X 0 (upd (X 0) 0 0)) h rfl dX8_ends_38
  · have h := h.2 c2
    refine nz_aload_n F dX8_ends_13 rfl 0 rfl ?_
    refine nz_iload_n F dX8_ends_14 rfl 2 rfl ?_
    refine k_X8_isStone (a 0) (a 1) (a 2) (a 3) (a 4) (a 5) (a 6) (a 7) (a 8) (a 9) (a 10) (a 11) (a 12) (a 13) 0 (X 0 1) (X 0 8) (X 0 10) (X 0 11) (X 0 12) (X 0 13) (X 0 14) (X 0 15) (X 0 16) (X 0 17) (X 0 18) (X 0 25) (X 1) (X 2) (X 3) (X 4) (X 5) (X 6) (X 7) (X 8) (X 9) (X 10) (X 11) (X 12) (X 13) v2 (fun hM => nz_runV F gX8_ends_X8_isStone rfl hd_X8_isStone rfl hM dX8_ends_15 [0, 1, 2, 3, 4, 5, 6, 7, 8, 9, 10, 11, 12, 13] rfl rfl 0 rfl rfl rfl (Nat.le_of_ble_eq_true rfl) rfl) h ([((a 0), .inr (8, [.int 0, .int (X 0 1), .ref (a 1), .ref (a 2), .ref (a 3), .ref (a 4), .ref (a 5), .ref (a 6), .int (X 0 8), .ref (a 7), .int (X 0 10), .int (X 0 11), .int (X 0 12), .int (X 0 13), .int (X 0 14), .int (X 0 15), .int (X 0 16), .int (X 0 17), .int (X 0 18), .ref (a 8), .ref (a 9), .ref (a 10), .ref (a 11), .ref (a 12), .ref (a 13), .int (X 0 25)])), ((a 1), .inl (nz_cI g, 8, .inl (X 1))), ((a 2), .inl (nz_cI g, 8, .inl (X 2))), ((a 3), .inl (nz_cI g, 320, .inl (X 3))), ((a 4), .inl (nz_cI g, 94, .inl (X 4))), ((a 5), .inl (nz_cI g, 94, .inl (X 5))), ((a 6), .inl (nz_cI g, 168, .inl (X 6))), ((a 7), .inl (nz_cI g, 400, .inl (X 7))), ((a 8), .inl (nz_cI g, 6, .inl (X 8))), ((a 9), .inl (nz_cI g, 49, .inl (X 9))), ((a 10), .inl (nz_cI g, 6, .inl (X 10))), ((a 11), .inl (nz_cZ g, 2, .inl (X 11))), ((a 12), .inl (nz_cI g, 188, .inl (X 12))), ((a 13), .inl (nz_cI g, 16, .inl (X 13)))]) (rfl) (fun q3 h => ?_)
    refine nz_if_eq (tgt := 36) F dX8_ends_18 (by decide) (fun c4 => ?_) (fun c4 => ?_)
    · have h := h.1 c4
      refine nz_ldc (v := (-1000001 : Int32)) F wd_X8_ends_c70 dX8_ends_36 ?_
      exact nz_iret F hQ (va_up X 0 (upd (X 0) 0 0)) h rfl dX8_ends_38
    · have h := h.2 c4
      refine nz_iload_n F dX8_ends_21 rfl 1 rfl ?_
      refine nz_iload_n F dX8_ends_22 rfl 2 rfl ?_
      refine nz_icmp_ge (tgt := 36) F dX8_ends_23 (by decide) (fun c5 => ?_) (fun c5 => ?_)
      · have h := h.1 c5
        refine nz_ldc (v := (-1000001 : Int32)) F wd_X8_ends_c70 dX8_ends_36 ?_
        exact nz_iret F hQ (va_up X 0 (upd (X 0) 0 0)) h rfl dX8_ends_38
      · have h := h.2 c5
        refine nz_iload_n F dX8_ends_26 rfl 3 rfl ?_
        refine nz_i2l (v := ((v3 : Int32).toInt64)) F dX8_ends_27 rfl ?_
        refine nz_lconst (v := 0) F dX8_ends_28 (by decide) ?_
        refine nz_lconst (v := 1) F dX8_ends_29 (by decide) ?_
        refine k_X8_in ((v3 : Int32).toInt64) 0 1 (fun hM => nz_runS F gX8_ends_X8_in rfl hd_X8_in.2 rfl hM dX8_ends_30 [] rfl rfl rfl (Nat.le_of_ble_eq_true rfl) rfl) h ([((a 0), .inr (8, [.int 0, .int (X 0 1), .ref (a 1), .ref (a 2), .ref (a 3), .ref (a 4), .ref (a 5), .ref (a 6), .int (X 0 8), .ref (a 7), .int (X 0 10), .int (X 0 11), .int (X 0 12), .int (X 0 13), .int (X 0 14), .int (X 0 15), .int (X 0 16), .int (X 0 17), .int (X 0 18), .ref (a 8), .ref (a 9), .ref (a 10), .ref (a 11), .ref (a 12), .ref (a 13), .int (X 0 25)])), ((a 1), .inl (nz_cI g, 8, .inl (X 1))), ((a 2), .inl (nz_cI g, 8, .inl (X 2))), ((a 3), .inl (nz_cI g, 320, .inl (X 3))), ((a 4), .inl (nz_cI g, 94, .inl (X 4))), ((a 5), .inl (nz_cI g, 94, .inl (X 5))), ((a 6), .inl (nz_cI g, 168, .inl (X 6))), ((a 7), .inl (nz_cI g, 400, .inl (X 7))), ((a 8), .inl (nz_cI g, 6, .inl (X 8))), ((a 9), .inl (nz_cI g, 49, .inl (X 9))), ((a 10), .inl (nz_cI g, 6, .inl (X 10))), ((a 11), .inl (nz_cZ g, 2, .inl (X 11))), ((a 12), .inl (nz_cI g, 188, .inl (X 12))), ((a 13), .inl (nz_cI g, 16, .inl (X 13)))]) (rfl) (fun q6 h => ?_)
        refine nz_if_ne (tgt := 39) F dX8_ends_33 (by decide) (fun c7 => ?_) (fun c7 => ?_)
        · have h := h.1 c7
          refine nz_aload_n F dX8_ends_39 rfl 0 rfl ?_
          refine k_X8_layMost (a 0) (a 1) (a 2) (a 3) (a 4) (a 5) (a 6) (a 7) (a 8) (a 9) (a 10) (a 11) (a 12) (a 13) 0 (X 0 1) (X 0 8) (X 0 10) (X 0 11) (X 0 12) (X 0 13) (X 0 14) (X 0 15) (X 0 16) (X 0 17) (X 0 18) (X 0 25) (X 1) (X 2) (X 3) (X 4) (X 5) (X 6) (X 7) (X 8) (X 9) (X 10) (X 11) (X 12) (X 13) (fun hM => nz_runV F gX8_ends_X8_layMost rfl hd_X8_layMost rfl hM dX8_ends_40 [0, 1, 2, 3, 4, 5, 6, 7, 8, 9, 10, 11, 12, 13] rfl rfl 0 rfl rfl rfl (Nat.le_of_ble_eq_true rfl) rfl) h (fun m9 => [((a 0), .inr (8, [.int 0, .int (X 0 1), .ref (a 1), .ref (a 2), .ref (a 3), .ref (a 4), .ref (a 5), .ref (a 6), .int (X 0 8), .ref (a 7), .int (X 0 10), .int (X 0 11), .int (X 0 12), .int (X 0 13), .int (X 0 14), .int (X 0 15), .int (X 0 16), .int (X 0 17), .int (X 0 18), .ref (a 8), .ref (a 9), .ref (a 10), .ref (a 11), .ref (a 12), .ref (a 13), .int (X 0 25)])), ((a 1), .inl (nz_cI g, 8, .inl (X 1))), ((a 2), .inl (nz_cI g, 8, .inl (X 2))), ((a 3), .inl (nz_cI g, 320, .inl (X 3))), ((a 4), .inl (nz_cI g, 94, .inl (X 4))), ((a 5), .inl (nz_cI g, 94, .inl (X 5))), ((a 6), .inl (nz_cI g, 168, .inl (X 6))), ((a 7), .inl (nz_cI g, 400, .inl (X 7))), ((a 8), .inl (nz_cI g, 6, .inl (X 8))), ((a 9), .inl (nz_cI g, 49, .inl m9)), ((a 10), .inl (nz_cI g, 6, .inl (X 10))), ((a 11), .inl (nz_cZ g, 2, .inl (X 11))), ((a 12), .inl (nz_cI g, 188, .inl (X 12))), ((a 13), .inl (nz_cI g, 16, .inl (X 13)))]) (fun _ => rfl) (fun q8 m9 h => ?_)
          refine nz_if_ne (tgt := 49) F dX8_ends_43 (by decide) (fun c10 => ?_) (fun c10 => ?_)
          · have h := h.1 c10
            refine nz_iload_n F dX8_ends_49 rfl 3 rfl ?_
            refine nz_if_ne (tgt := 68) F dX8_ends_50 (by decide) (fun c11 => ?_) (fun c11 => ?_)
            · have h := h.1 c11
              refine nz_aload_n F dX8_ends_68 rfl 0 rfl ?_
              refine nz_get F iw_X8_ends_8 0 rfl rfl 20 (by decide) rfl fl_X8_ends_34 rfl dX8_ends_69 ?_
              refine nz_bipush (v := 7) F dX8_ends_72 (by decide) ?_
              refine nz_iload_n F dX8_ends_74 rfl 1 rfl ?_
              refine nz_imul F dX8_ends_75 ?_
              refine nz_iload_n F dX8_ends_76 rfl 2 rfl ?_
              refine nz_iadd F dX8_ends_77 ?_
              obtain ⟨i12, h⟩ := h
              refine nz_iald F 9 rfl i12 dX8_ends_78 ?_
              exact nz_iret F hQ (va_up (va_up X 0 (upd (X 0) 0 0)) 9 m9) h rfl dX8_ends_79
            · have h := h.2 c11
              refine nz_aload_n F dX8_ends_53 rfl 0 rfl ?_
              refine nz_get F iw_X8_ends_8 0 rfl rfl 20 (by decide) rfl fl_X8_ends_34 rfl dX8_ends_54 ?_
              refine nz_bipush (v := 7) F dX8_ends_57 (by decide) ?_
              refine nz_iload_n F dX8_ends_59 rfl 2 rfl ?_
              refine nz_imul F dX8_ends_60 ?_
              refine nz_iload_n F dX8_ends_61 rfl 1 rfl ?_
              refine nz_iadd F dX8_ends_62 ?_
              obtain ⟨i13, h⟩ := h
              refine nz_iald F 9 rfl i13 dX8_ends_63 ?_
              refine nz_ineg F dX8_ends_64 ?_
              refine nz_goto (tgt := 79) F dX8_ends_65 (by decide) ?_
              exact nz_iret F hQ (va_up (va_up X 0 (upd (X 0) 0 0)) 9 m9) h rfl dX8_ends_79
          · have h := h.2 c10
            refine nz_ldc (v := (-1000000 : Int32)) F wd_X8_ends_c86 dX8_ends_46 ?_
            exact nz_iret F hQ (va_up (va_up X 0 (upd (X 0) 0 0)) 9 m9) h rfl dX8_ends_48
        · have h := h.2 c7
          refine nz_ldc (v := (-1000001 : Int32)) F wd_X8_ends_c70 dX8_ends_36 ?_
          exact nz_iret F hQ (va_up X 0 (upd (X 0) 0 0)) h rfl dX8_ends_38
theorem k_X8_ends {y : nz_Y} {g : nz_G} {k n : Nat} {ws : va_W} {pc : Nat} {ls : List (Nat × Value)} {st rest : List Value} {av : Array Value} {isC : List Nat} {K : Int32 → (Nat → Nat → Int32) → Prop} (a : Nat → Nat) (X : Nat → Nat → Int32) (v1 : Int32) (v2 : Int32) (v3 : Int32) (run : nz_M (yz_l y) yX8_ends wsX8_ends rm_X8_ends g [.ref (a 0), .int v1, .int v2, .int v3] (nz_wM g a X) (nz_Qi g (nz_wM g a X) (fun r (u : Nat → Nat → Int32) => K r u) (fun u => nz_wM g a u)) → nz_C y g k n ws pc ls st rest (nz_wM g a X) (nz_Qi g (nz_wM g a X) (fun r (u : Nat → Nat → Int32) => K r u) (fun u => nz_wM g a u)) av isC) (h : wp_X8_ends X v1 v2 v3 K) (ws' : (Nat → Nat → Int32) → va_W) (hm : ∀ (m0 : (Nat → Nat → Int32)), nz_mrg ws isC (nz_wM g a m0) = ws' m0) (kk : ∀ (r : Int32) (m0 : (Nat → Nat → Int32)), K r m0 → nz_V y g k n (ws' m0) (pc + 3) ls (.int r :: rest)) : nz_V y g k n ws pc ls st :=
  nz_ci (ws' := fun u => ws' u) (run (c_X8_ends (yz_l y) g a X v1 v2 v3 K h)) (fun _ => rfl) (fun u => hm u) (fun r u h => kk r u h)
theorem dX8_widest_0 : decode cX8_widest 0 = .ok (.aload_n 0, 1) := by decide +kernel
theorem dX8_widest_1 : decode cX8_widest 1 = .ok (.iconst 0, 1) := by decide +kernel
theorem dX8_widest_2 : decode cX8_widest 2 = .ok (.putfield 50, 3) := by decide +kernel
theorem dX8_widest_5 : decode cX8_widest 5 = .ok (.aload_n 0, 1) := by decide +kernel
theorem dX8_widest_6 : decode cX8_widest 6 = .ok (.invokevirtual 192, 3) := by decide +kernel
theorem dX8_widest_9 : decode cX8_widest 9 = .ok (.ifCond .ne 6, 3) := by decide +kernel
theorem dX8_widest_12 : decode cX8_widest 12 = .ok (.ldc 196, 2) := by decide +kernel
theorem dX8_widest_14 : decode cX8_widest 14 = .ok (.ireturn, 1) := by decide +kernel
theorem dX8_widest_15 : decode cX8_widest 15 = .ok (.aload_n 0, 1) := by decide +kernel
theorem dX8_widest_16 : decode cX8_widest 16 = .ok (.invokevirtual 231, 3) := by decide +kernel
theorem dX8_widest_19 : decode cX8_widest 19 = .ok (.ifCond .ne 6, 3) := by decide +kernel
theorem dX8_widest_22 : decode cX8_widest 22 = .ok (.ldc 86, 2) := by decide +kernel
theorem dX8_widest_24 : decode cX8_widest 24 = .ok (.ireturn, 1) := by decide +kernel
theorem dX8_widest_25 : decode cX8_widest 25 = .ok (.ldc 86, 2) := by decide +kernel
theorem dX8_widest_27 : decode cX8_widest 27 = .ok (.istore_n 1, 1) := by decide +kernel
theorem dX8_widest_28 : decode cX8_widest 28 = .ok (.iconst (-1), 1) := by decide +kernel
theorem dX8_widest_29 : decode cX8_widest 29 = .ok (.istore_n 2, 1) := by decide +kernel
theorem dX8_widest_30 : decode cX8_widest 30 = .ok (.iconst 0, 1) := by decide +kernel
theorem dX8_widest_31 : decode cX8_widest 31 = .ok (.istore_n 3, 1) := by decide +kernel
theorem dX8_widest_32 : decode cX8_widest 32 = .ok (.iload_n 3, 1) := by decide +kernel
theorem dX8_widest_33 : decode cX8_widest 33 = .ok (.aload_n 0, 1) := by decide +kernel
theorem dX8_widest_34 : decode cX8_widest 34 = .ok (.getfield 19, 3) := by decide +kernel
theorem dX8_widest_37 : decode cX8_widest 37 = .ok (.iconst 4, 1) := by decide +kernel
theorem dX8_widest_38 : decode cX8_widest 38 = .ok (.iaload, 1) := by decide +kernel
theorem dX8_widest_39 : decode cX8_widest 39 = .ok (.if_icmp .ge 89, 3) := by decide +kernel
theorem dX8_widest_42 : decode cX8_widest 42 = .ok (.iload_n 3, 1) := by decide +kernel
theorem dX8_widest_43 : decode cX8_widest 43 = .ok (.iconst 1, 1) := by decide +kernel
theorem dX8_widest_44 : decode cX8_widest 44 = .ok (.iadd, 1) := by decide +kernel
theorem dX8_widest_45 : decode cX8_widest 45 = .ok (.istore 4, 2) := by decide +kernel
theorem dX8_widest_47 : decode cX8_widest 47 = .ok (.iload 4, 2) := by decide +kernel
theorem dX8_widest_49 : decode cX8_widest 49 = .ok (.aload_n 0, 1) := by decide +kernel
theorem dX8_widest_50 : decode cX8_widest 50 = .ok (.getfield 19, 3) := by decide +kernel
theorem dX8_widest_53 : decode cX8_widest 53 = .ok (.iconst 4, 1) := by decide +kernel
theorem dX8_widest_54 : decode cX8_widest 54 = .ok (.iaload, 1) := by decide +kernel
theorem dX8_widest_55 : decode cX8_widest 55 = .ok (.if_icmp .ge 67, 3) := by decide +kernel
theorem dX8_widest_58 : decode cX8_widest 58 = .ok (.aload_n 0, 1) := by decide +kernel
theorem dX8_widest_59 : decode cX8_widest 59 = .ok (.getfield 34, 3) := by decide +kernel
theorem dX8_widest_62 : decode cX8_widest 62 = .ok (.bipush 7, 2) := by decide +kernel
theorem dX8_widest_64 : decode cX8_widest 64 = .ok (.iload_n 3, 1) := by decide +kernel
theorem dX8_widest_65 : decode cX8_widest 65 = .ok (.imul, 1) := by decide +kernel
theorem dX8_widest_66 : decode cX8_widest 66 = .ok (.iload 4, 2) := by decide +kernel
theorem dX8_widest_68 : decode cX8_widest 68 = .ok (.iadd, 1) := by decide +kernel
theorem dX8_widest_69 : decode cX8_widest 69 = .ok (.iaload, 1) := by decide +kernel
theorem dX8_widest_70 : decode cX8_widest 70 = .ok (.aload_n 0, 1) := by decide +kernel
theorem dX8_widest_71 : decode cX8_widest 71 = .ok (.getfield 34, 3) := by decide +kernel
theorem dX8_widest_74 : decode cX8_widest 74 = .ok (.bipush 7, 2) := by decide +kernel
theorem dX8_widest_76 : decode cX8_widest 76 = .ok (.iload 4, 2) := by decide +kernel
theorem dX8_widest_78 : decode cX8_widest 78 = .ok (.imul, 1) := by decide +kernel
theorem dX8_widest_79 : decode cX8_widest 79 = .ok (.iload_n 3, 1) := by decide +kernel
theorem dX8_widest_80 : decode cX8_widest 80 = .ok (.iadd, 1) := by decide +kernel
theorem dX8_widest_81 : decode cX8_widest 81 = .ok (.iaload, 1) := by decide +kernel
theorem dX8_widest_82 : decode cX8_widest 82 = .ok (.iadd, 1) := by decide +kernel
theorem dX8_widest_83 : decode cX8_widest 83 = .ok (.istore 5, 2) := by decide +kernel
theorem dX8_widest_85 : decode cX8_widest 85 = .ok (.iload 5, 2) := by decide +kernel
theorem dX8_widest_87 : decode cX8_widest 87 = .ok (.iload_n 2, 1) := by decide +kernel
theorem dX8_widest_88 : decode cX8_widest 88 = .ok (.if_icmp .le 13, 3) := by decide +kernel
theorem dX8_widest_91 : decode cX8_widest 91 = .ok (.bipush 6, 2) := by decide +kernel
theorem dX8_widest_93 : decode cX8_widest 93 = .ok (.iload_n 3, 1) := by decide +kernel
theorem dX8_widest_94 : decode cX8_widest 94 = .ok (.imul, 1) := by decide +kernel
theorem dX8_widest_95 : decode cX8_widest 95 = .ok (.iload 4, 2) := by decide +kernel
theorem dX8_widest_97 : decode cX8_widest 97 = .ok (.iadd, 1) := by decide +kernel
theorem dX8_widest_98 : decode cX8_widest 98 = .ok (.goto 4, 3) := by decide +kernel
theorem dX8_widest_101 : decode cX8_widest 101 = .ok (.iload_n 1, 1) := by decide +kernel
theorem dX8_widest_102 : decode cX8_widest 102 = .ok (.istore_n 1, 1) := by decide +kernel
theorem dX8_widest_103 : decode cX8_widest 103 = .ok (.iload 5, 2) := by decide +kernel
theorem dX8_widest_105 : decode cX8_widest 105 = .ok (.iload_n 2, 1) := by decide +kernel
theorem dX8_widest_106 : decode cX8_widest 106 = .ok (.if_icmp .le 8, 3) := by decide +kernel
theorem dX8_widest_109 : decode cX8_widest 109 = .ok (.iload 5, 2) := by decide +kernel
theorem dX8_widest_111 : decode cX8_widest 111 = .ok (.goto 4, 3) := by decide +kernel
theorem dX8_widest_114 : decode cX8_widest 114 = .ok (.iload_n 2, 1) := by decide +kernel
theorem dX8_widest_115 : decode cX8_widest 115 = .ok (.istore_n 2, 1) := by decide +kernel
theorem dX8_widest_116 : decode cX8_widest 116 = .ok (.iinc 4 1, 3) := by decide +kernel
theorem dX8_widest_119 : decode cX8_widest 119 = .ok (.goto (-72), 3) := by decide +kernel
theorem dX8_widest_122 : decode cX8_widest 122 = .ok (.iinc 3 1, 3) := by decide +kernel
theorem dX8_widest_125 : decode cX8_widest 125 = .ok (.goto (-93), 3) := by decide +kernel
theorem dX8_widest_128 : decode cX8_widest 128 = .ok (.iload_n 1, 1) := by decide +kernel
theorem dX8_widest_129 : decode cX8_widest 129 = .ok (.ireturn, 1) := by decide +kernel
set_option maxRecDepth 20000 in
theorem ggX8_widest_X8_isThere : GoodIn wsX8_widest wsX8_isThere := goodIn_r _ [10, 4, 20, 21, 22, 23, 24, 25, 26, 27, 28, 29, 30, 31, 32, 33, 34, 35, 36, 37, 38, 39, 40, 41, 42, 43, 44, 45] rfl (by decide +kernel)
set_option maxRecDepth 20000 in
theorem gX8_widest_X8_isThere : GoodIn wsX8_widest (wsV RX8 192 RX8 yX8_isThere wsX8_isThere) := goodIn_app (goodIn_r _ [6, 7, 8, 9] rfl (by decide +kernel)) ggX8_widest_X8_isThere
set_option maxRecDepth 20000 in
theorem ggX8_widest_X8_layMost : GoodIn wsX8_widest wsX8_layMost := goodIn_r _ [14, 5, 15, 4, 16, 17, 18, 9, 19, 20, 21, 22, 23, 24, 25, 26, 27, 28, 29, 30, 31, 32, 33, 34, 35, 36, 37, 38, 39, 40, 41, 42, 43, 44, 45] rfl (by decide +kernel)
set_option maxRecDepth 20000 in
theorem gX8_widest_X8_layMost : GoodIn wsX8_widest (wsV RX8 231 RX8 yX8_layMost wsX8_layMost) := goodIn_app (goodIn_r _ [11, 12, 13, 9] rfl (by decide +kernel)) ggX8_widest_X8_layMost
/-! X8_widest -/
abbrev rm_X8_widest : Room := { frames := 2, cells := 0, slots := 0, locals := 48 }
theorem iw_X8_widest_8 : ∀ w ∈ wsX80, w ∈ wsX8_widest := fun _ h => List.mem_cons_of_mem _ (List.mem_append_right _ h)
theorem fl_X8_widest_50 : Cond.fieldLink RX8 50 "NightStonesModel" "thrown" "I" ∈ wsX8_widest := List.mem_of_getElem? (i := 1) rfl
theorem wd_X8_widest_c86 : Cond.constant RX8 86 (-1000000) ∈ wsX8_widest := List.mem_of_getElem? (i := 3) rfl
theorem fl_X8_widest_19 : Cond.fieldLink RX8 19 "NightStonesModel" "road" "[I" ∈ wsX8_widest := List.mem_of_getElem? (i := 4) rfl
theorem fl_X8_widest_34 : Cond.fieldLink RX8 34 "NightStonesModel" "most" "[I" ∈ wsX8_widest := List.mem_of_getElem? (i := 5) rfl
theorem wd_X8_widest_c196 : Cond.constant RX8 196 (-1000002) ∈ wsX8_widest := List.mem_of_getElem? (i := 2) rfl
def S_X8_widest_102 (x2 : Int32) (x4 : Int32) (x5 : Int32) (s0 : Int32) (R47 : Int32 → Int32 → Int32 → Prop) (K : Int32 → (Nat → Nat → Int32) → Prop) : Prop := ((x5 ≤ x2 → R47 s0 x2 (x4 + 1)) ∧ (¬ (x5 ≤ x2) → R47 s0 x5 (x4 + 1)))
set_option maxHeartbeats 4000000 in
set_option maxRecDepth 100000 in
theorem t_X8_widest_102 {y : nz_Y} {g : nz_G} (F : nz_F y g cX8_widest 6 wsX8_widest RX8 (some .int) rm_X8_widest) {wc0 : va_W} {sz : Nat} {K : Int32 → (Nat → Nat → Int32) → Prop} {R47 : Int32 → Int32 → Int32 → Prop} (a : Nat → Nat) (X : Nat → Nat → Int32) (x2 : Int32) (x3 : Int32) (x4 : Int32) (x5 : Int32) (s0 : Int32) (c0_0 : Int32) (c9_c : Nat → Int32) (hQ : yz_A y = va_A wc0 sz ∧ yz_Q y = MQ (yz_b y) ((nz_Qi g wc0 (fun r (u : Nat → Nat → Int32) => K r u) (fun u => nz_wM g a u)) sz) (yz_a y) (yz_s y) 0 0 (va_A wc0 sz)) (hR47 : ∀ (x1 : Int32) (x2 : Int32) (x4 : Int32), R47 x1 x2 x4 → nz_V y g 0 0 [((a 0), .inr (8, [.int c0_0, .int (X 0 1), .ref (a 1), .ref (a 2), .ref (a 3), .ref (a 4), .ref (a 5), .ref (a 6), .int (X 0 8), .ref (a 7), .int (X 0 10), .int (X 0 11), .int (X 0 12), .int (X 0 13), .int (X 0 14), .int (X 0 15), .int (X 0 16), .int (X 0 17), .int (X 0 18), .ref (a 8), .ref (a 9), .ref (a 10), .ref (a 11), .ref (a 12), .ref (a 13), .int (X 0 25)])), ((a 1), .inl (nz_cI g, 8, .inl (X 1))), ((a 2), .inl (nz_cI g, 8, .inl (X 2))), ((a 3), .inl (nz_cI g, 320, .inl (X 3))), ((a 4), .inl (nz_cI g, 94, .inl (X 4))), ((a 5), .inl (nz_cI g, 94, .inl (X 5))), ((a 6), .inl (nz_cI g, 168, .inl (X 6))), ((a 7), .inl (nz_cI g, 400, .inl (X 7))), ((a 8), .inl (nz_cI g, 6, .inl (X 8))), ((a 9), .inl (nz_cI g, 49, .inl c9_c)), ((a 10), .inl (nz_cI g, 6, .inl (X 10))), ((a 11), .inl (nz_cZ g, 2, .inl (X 11))), ((a 12), .inl (nz_cI g, 188, .inl (X 12))), ((a 13), .inl (nz_cI g, 16, .inl (X 13)))] 47 [(0, .ref (a 0)), (1, .int x1), (2, .int x2), (3, .int x3), (4, .int x4)] []) : S_X8_widest_102 x2 x4 x5 s0 R47 K → nz_V y g 0 0 [((a 0), .inr (8, [.int c0_0, .int (X 0 1), .ref (a 1), .ref (a 2), .ref (a 3), .ref (a 4), .ref (a 5), .ref (a 6), .int (X 0 8), .ref (a 7), .int (X 0 10), .int (X 0 11), .int (X 0 12), .int (X 0 13), .int (X 0 14), .int (X 0 15), .int (X 0 16), .int (X 0 17), .int (X 0 18), .ref (a 8), .ref (a 9), .ref (a 10), .ref (a 11), .ref (a 12), .ref (a 13), .int (X 0 25)])), ((a 1), .inl (nz_cI g, 8, .inl (X 1))), ((a 2), .inl (nz_cI g, 8, .inl (X 2))), ((a 3), .inl (nz_cI g, 320, .inl (X 3))), ((a 4), .inl (nz_cI g, 94, .inl (X 4))), ((a 5), .inl (nz_cI g, 94, .inl (X 5))), ((a 6), .inl (nz_cI g, 168, .inl (X 6))), ((a 7), .inl (nz_cI g, 400, .inl (X 7))), ((a 8), .inl (nz_cI g, 6, .inl (X 8))), ((a 9), .inl (nz_cI g, 49, .inl c9_c)), ((a 10), .inl (nz_cI g, 6, .inl (X 10))), ((a 11), .inl (nz_cZ g, 2, .inl (X 11))), ((a 12), .inl (nz_cI g, 188, .inl (X 12))), ((a 13), .inl (nz_cI g, 16, .inl (X 13)))] 102 [(0, .ref (a 0)), (2, .int x2), (3, .int x3), (4, .int x4), (5, .int x5)] [.int s0] := by
  intro h
  unfold S_X8_widest_102 at h
  refine nz_istore_n (lv' := [(1, .int s0), (0, .ref (a 0)), (2, .int x2), (3, .int x3), (4, .int x4), (5, .int x5)]) F dX8_widest_102 rfl (by decide) rfl ?_
  refine nz_iload F dX8_widest_103 5 rfl ?_
  refine nz_iload_n F dX8_widest_105 rfl 2 rfl ?_
  refine nz_icmp_le (tgt := 114) F dX8_widest_106 (by decide) (fun c11 => ?_) (fun c11 => ?_)
  · have h := h.1 c11
    refine nz_iload_n F dX8_widest_114 rfl 2 rfl ?_
    refine nz_istore_n (lv' := [(2, .int x2), (1, .int s0), (0, .ref (a 0)), (3, .int x3), (4, .int x4), (5, .int x5)]) F dX8_widest_115 rfl (by decide) rfl ?_
    refine nz_iinc (v := (x4 + 1)) (j := 4) (lv' := [(4, .int (x4 + 1)), (2, .int x2), (1, .int s0), (0, .ref (a 0)), (3, .int x3), (5, .int x5)]) F dX8_widest_116 rfl rfl (by decide) rfl ?_
    refine nz_goto (tgt := 47) F dX8_widest_119 (by decide) ?_
    refine nz_ls (lv' := [(0, .ref (a 0)), (1, .int s0), (2, .int x2), (3, .int x3), (4, .int (x4 + 1))]) [3, 2, 1, 4, 0] rfl ?_
    exact hR47 s0 x2 (x4 + 1) h
  · have h := h.2 c11
    refine nz_iload F dX8_widest_109 5 rfl ?_
    refine nz_goto (tgt := 115) F dX8_widest_111 (by decide) ?_
    refine nz_istore_n (lv' := [(2, .int x5), (1, .int s0), (0, .ref (a 0)), (3, .int x3), (4, .int x4), (5, .int x5)]) F dX8_widest_115 rfl (by decide) rfl ?_
    refine nz_iinc (v := (x4 + 1)) (j := 4) (lv' := [(4, .int (x4 + 1)), (2, .int x5), (1, .int s0), (0, .ref (a 0)), (3, .int x3), (5, .int x5)]) F dX8_widest_116 rfl rfl (by decide) rfl ?_
    refine nz_goto (tgt := 47) F dX8_widest_119 (by decide) ?_
    refine nz_ls (lv' := [(0, .ref (a 0)), (1, .int s0), (2, .int x5), (3, .int x3), (4, .int (x4 + 1))]) [3, 2, 1, 4, 0] rfl ?_
    exact hR47 s0 x5 (x4 + 1) h
def S_X8_widest_47 (X : Nat → Nat → Int32) (x3 : Int32) (c9_c : Nat → Int32) (R32 : Int32 → Int32 → Int32 → Prop) (K : Int32 → (Nat → Nat → Int32) → Prop) (R47 : Int32 → Int32 → Int32 → Prop) (x1 : Int32) (x2 : Int32) (x4 : Int32) : Prop := ((((X 4) 4) ≤ x4 → R32 x1 x2 (x3 + 1)) ∧ (¬ (((X 4) 4) ≤ x4) → (vp_in ((7 * x3) + x4) 49 ∧ (vp_in ((7 * x4) + x3) 49 ∧ ((((c9_c ((7 * x3) + x4).toNatClampNeg) + (c9_c ((7 * x4) + x3).toNatClampNeg)) ≤ x2 → S_X8_widest_102 x2 x4 ((c9_c ((7 * x3) + x4).toNatClampNeg) + (c9_c ((7 * x4) + x3).toNatClampNeg)) x1 R47 K) ∧ (¬ (((c9_c ((7 * x3) + x4).toNatClampNeg) + (c9_c ((7 * x4) + x3).toNatClampNeg)) ≤ x2) → S_X8_widest_102 x2 x4 ((c9_c ((7 * x3) + x4).toNatClampNeg) + (c9_c ((7 * x4) + x3).toNatClampNeg)) ((6 * x3) + x4) R47 K))))))
set_option maxHeartbeats 4000000 in
set_option maxRecDepth 100000 in
theorem t_X8_widest_47 {y : nz_Y} {g : nz_G} (F : nz_F y g cX8_widest 6 wsX8_widest RX8 (some .int) rm_X8_widest) {wc0 : va_W} {sz : Nat} {K : Int32 → (Nat → Nat → Int32) → Prop} {R32 : Int32 → Int32 → Int32 → Prop} (a : Nat → Nat) (X : Nat → Nat → Int32) (x3 : Int32) (c0_0 : Int32) (c9_c : Nat → Int32) (hQ : yz_A y = va_A wc0 sz ∧ yz_Q y = MQ (yz_b y) ((nz_Qi g wc0 (fun r (u : Nat → Nat → Int32) => K r u) (fun u => nz_wM g a u)) sz) (yz_a y) (yz_s y) 0 0 (va_A wc0 sz)) (hR32 : ∀ (x1 : Int32) (x2 : Int32) (x3 : Int32), R32 x1 x2 x3 → nz_V y g 0 0 [((a 0), .inr (8, [.int c0_0, .int (X 0 1), .ref (a 1), .ref (a 2), .ref (a 3), .ref (a 4), .ref (a 5), .ref (a 6), .int (X 0 8), .ref (a 7), .int (X 0 10), .int (X 0 11), .int (X 0 12), .int (X 0 13), .int (X 0 14), .int (X 0 15), .int (X 0 16), .int (X 0 17), .int (X 0 18), .ref (a 8), .ref (a 9), .ref (a 10), .ref (a 11), .ref (a 12), .ref (a 13), .int (X 0 25)])), ((a 1), .inl (nz_cI g, 8, .inl (X 1))), ((a 2), .inl (nz_cI g, 8, .inl (X 2))), ((a 3), .inl (nz_cI g, 320, .inl (X 3))), ((a 4), .inl (nz_cI g, 94, .inl (X 4))), ((a 5), .inl (nz_cI g, 94, .inl (X 5))), ((a 6), .inl (nz_cI g, 168, .inl (X 6))), ((a 7), .inl (nz_cI g, 400, .inl (X 7))), ((a 8), .inl (nz_cI g, 6, .inl (X 8))), ((a 9), .inl (nz_cI g, 49, .inl c9_c)), ((a 10), .inl (nz_cI g, 6, .inl (X 10))), ((a 11), .inl (nz_cZ g, 2, .inl (X 11))), ((a 12), .inl (nz_cI g, 188, .inl (X 12))), ((a 13), .inl (nz_cI g, 16, .inl (X 13)))] 32 [(0, .ref (a 0)), (1, .int x1), (2, .int x2), (3, .int x3)] []) : ∀ (n1 : Nat) (x1 : Int32) (x2 : Int32) (x4 : Int32), nz_it (fun _ _ _ => False) (S_X8_widest_47 X x3 c9_c R32 K) n1 x1 x2 x4 → nz_V y g 0 0 [((a 0), .inr (8, [.int c0_0, .int (X 0 1), .ref (a 1), .ref (a 2), .ref (a 3), .ref (a 4), .ref (a 5), .ref (a 6), .int (X 0 8), .ref (a 7), .int (X 0 10), .int (X 0 11), .int (X 0 12), .int (X 0 13), .int (X 0 14), .int (X 0 15), .int (X 0 16), .int (X 0 17), .int (X 0 18), .ref (a 8), .ref (a 9), .ref (a 10), .ref (a 11), .ref (a 12), .ref (a 13), .int (X 0 25)])), ((a 1), .inl (nz_cI g, 8, .inl (X 1))), ((a 2), .inl (nz_cI g, 8, .inl (X 2))), ((a 3), .inl (nz_cI g, 320, .inl (X 3))), ((a 4), .inl (nz_cI g, 94, .inl (X 4))), ((a 5), .inl (nz_cI g, 94, .inl (X 5))), ((a 6), .inl (nz_cI g, 168, .inl (X 6))), ((a 7), .inl (nz_cI g, 400, .inl (X 7))), ((a 8), .inl (nz_cI g, 6, .inl (X 8))), ((a 9), .inl (nz_cI g, 49, .inl c9_c)), ((a 10), .inl (nz_cI g, 6, .inl (X 10))), ((a 11), .inl (nz_cZ g, 2, .inl (X 11))), ((a 12), .inl (nz_cI g, 188, .inl (X 12))), ((a 13), .inl (nz_cI g, 16, .inl (X 13)))] 47 [(0, .ref (a 0)), (1, .int x1), (2, .int x2), (3, .int x3), (4, .int x4)] [] := by
  intro n1
  induction n1 with
  | zero =>
    intro x1 x2 x4 h
    exact h.elim
  | succ n1 hR47 =>
    intro x1 x2 x4 h
    have h : S_X8_widest_47 X x3 c9_c R32 K (nz_it (fun _ _ _ => False) (S_X8_widest_47 X x3 c9_c R32 K) n1) x1 x2 x4 := h
    unfold S_X8_widest_47 at h
    refine nz_iload F dX8_widest_47 4 rfl ?_
    refine nz_aload_n F dX8_widest_49 rfl 0 rfl ?_
    refine nz_get F iw_X8_widest_8 0 rfl rfl 5 (by decide) rfl fl_X8_widest_19 rfl dX8_widest_50 ?_
    refine nz_iconst (v := 4) F dX8_widest_53 (by decide) ?_
    refine nz_iald F 4 rfl (nz_inC rfl) dX8_widest_54 ?_
    refine nz_vi (z := ((X 4) 4)) rfl ?_
    refine nz_icmp_ge (tgt := 122) F dX8_widest_55 (by decide) (fun c7 => ?_) (fun c7 => ?_)
    · have h := h.1 c7
      refine nz_iinc (v := (x3 + 1)) (j := 3) (lv' := [(3, .int (x3 + 1)), (0, .ref (a 0)), (1, .int x1), (2, .int x2), (4, .int x4)]) F dX8_widest_122 rfl rfl (by decide) rfl ?_
      refine nz_goto (tgt := 32) F dX8_widest_125 (by decide) ?_
      refine nz_ls (lv' := [(0, .ref (a 0)), (1, .int x1), (2, .int x2), (3, .int (x3 + 1))]) [1, 2, 3, 0] rfl ?_
      exact hR32 x1 x2 (x3 + 1) h
    · have h := h.2 c7
      refine nz_aload_n F dX8_widest_58 rfl 0 rfl ?_
      refine nz_get F iw_X8_widest_8 0 rfl rfl 20 (by decide) rfl fl_X8_widest_34 rfl dX8_widest_59 ?_
      refine nz_bipush (v := 7) F dX8_widest_62 (by decide) ?_
      refine nz_iload_n F dX8_widest_64 rfl 3 rfl ?_
      refine nz_imul F dX8_widest_65 ?_
      refine nz_iload F dX8_widest_66 4 rfl ?_
      refine nz_iadd F dX8_widest_68 ?_
      obtain ⟨i8, h⟩ := h
      refine nz_iald F 9 rfl i8 dX8_widest_69 ?_
      refine nz_aload_n F dX8_widest_70 rfl 0 rfl ?_
      refine nz_get F iw_X8_widest_8 0 rfl rfl 20 (by decide) rfl fl_X8_widest_34 rfl dX8_widest_71 ?_
      refine nz_bipush (v := 7) F dX8_widest_74 (by decide) ?_
      refine nz_iload F dX8_widest_76 4 rfl ?_
      refine nz_imul F dX8_widest_78 ?_
      refine nz_iload_n F dX8_widest_79 rfl 3 rfl ?_
      refine nz_iadd F dX8_widest_80 ?_
      obtain ⟨i9, h⟩ := h
      refine nz_iald F 9 rfl i9 dX8_widest_81 ?_
      refine nz_iadd F dX8_widest_82 ?_
      refine nz_istore (lv' := [(5, .int ((c9_c ((7 * x3) + x4).toNatClampNeg) + (c9_c ((7 * x4) + x3).toNatClampNeg))), (0, .ref (a 0)), (1, .int x1), (2, .int x2), (3, .int x3), (4, .int x4)]) F dX8_widest_83 (by decide) rfl ?_
      refine nz_iload F dX8_widest_85 0 rfl ?_
      refine nz_iload_n F dX8_widest_87 rfl 3 rfl ?_
      refine nz_icmp_le (tgt := 101) F dX8_widest_88 (by decide) (fun c10 => ?_) (fun c10 => ?_)
      · have h := h.1 c10
        refine nz_iload_n F dX8_widest_101 rfl 2 rfl ?_
        refine nz_ls (lv' := [(0, .ref (a 0)), (2, .int x2), (3, .int x3), (4, .int x4), (5, .int ((c9_c ((7 * x3) + x4).toNatClampNeg) + (c9_c ((7 * x4) + x3).toNatClampNeg)))]) [1, 3, 4, 5, 0] rfl ?_
        exact t_X8_widest_102 F a X x2 x3 x4 ((c9_c ((7 * x3) + x4).toNatClampNeg) + (c9_c ((7 * x4) + x3).toNatClampNeg)) x1 c0_0 c9_c hQ hR47 h
      · have h := h.2 c10
        refine nz_bipush (v := 6) F dX8_widest_91 (by decide) ?_
        refine nz_iload_n F dX8_widest_93 rfl 4 rfl ?_
        refine nz_imul F dX8_widest_94 ?_
        refine nz_iload F dX8_widest_95 5 rfl ?_
        refine nz_iadd F dX8_widest_97 ?_
        refine nz_goto (tgt := 102) F dX8_widest_98 (by decide) ?_
        refine nz_ls (lv' := [(0, .ref (a 0)), (2, .int x2), (3, .int x3), (4, .int x4), (5, .int ((c9_c ((7 * x3) + x4).toNatClampNeg) + (c9_c ((7 * x4) + x3).toNatClampNeg)))]) [1, 3, 4, 5, 0] rfl ?_
        exact t_X8_widest_102 F a X x2 x3 x4 ((c9_c ((7 * x3) + x4).toNatClampNeg) + (c9_c ((7 * x4) + x3).toNatClampNeg)) ((6 * x3) + x4) c0_0 c9_c hQ hR47 h
def S_X8_widest_32 (X : Nat → Nat → Int32) (c0_0 : Int32) (c9_c : Nat → Int32) (K : Int32 → (Nat → Nat → Int32) → Prop) (R32 : Int32 → Int32 → Int32 → Prop) (x1 : Int32) (x2 : Int32) (x3 : Int32) : Prop := ((((X 4) 4) ≤ x3 → K x1 (va_up (va_up X 0 (upd (X 0) 0 c0_0)) 9 c9_c)) ∧ (¬ (((X 4) 4) ≤ x3) → (∃ n, nz_it (fun _ _ _ => False) (S_X8_widest_47 X x3 c9_c R32 K) n x1 x2 (x3 + 1))))
set_option maxHeartbeats 4000000 in
set_option maxRecDepth 100000 in
theorem t_X8_widest_32 {y : nz_Y} {g : nz_G} (F : nz_F y g cX8_widest 6 wsX8_widest RX8 (some .int) rm_X8_widest) {wc0 : va_W} {sz : Nat} {K : Int32 → (Nat → Nat → Int32) → Prop} (a : Nat → Nat) (X : Nat → Nat → Int32) (c0_0 : Int32) (c9_c : Nat → Int32) (hQ : yz_A y = va_A wc0 sz ∧ yz_Q y = MQ (yz_b y) ((nz_Qi g wc0 (fun r (u : Nat → Nat → Int32) => K r u) (fun u => nz_wM g a u)) sz) (yz_a y) (yz_s y) 0 0 (va_A wc0 sz)) : ∀ (n1 : Nat) (x1 : Int32) (x2 : Int32) (x3 : Int32), nz_it (fun _ _ _ => False) (S_X8_widest_32 X c0_0 c9_c K) n1 x1 x2 x3 → nz_V y g 0 0 [((a 0), .inr (8, [.int c0_0, .int (X 0 1), .ref (a 1), .ref (a 2), .ref (a 3), .ref (a 4), .ref (a 5), .ref (a 6), .int (X 0 8), .ref (a 7), .int (X 0 10), .int (X 0 11), .int (X 0 12), .int (X 0 13), .int (X 0 14), .int (X 0 15), .int (X 0 16), .int (X 0 17), .int (X 0 18), .ref (a 8), .ref (a 9), .ref (a 10), .ref (a 11), .ref (a 12), .ref (a 13), .int (X 0 25)])), ((a 1), .inl (nz_cI g, 8, .inl (X 1))), ((a 2), .inl (nz_cI g, 8, .inl (X 2))), ((a 3), .inl (nz_cI g, 320, .inl (X 3))), ((a 4), .inl (nz_cI g, 94, .inl (X 4))), ((a 5), .inl (nz_cI g, 94, .inl (X 5))), ((a 6), .inl (nz_cI g, 168, .inl (X 6))), ((a 7), .inl (nz_cI g, 400, .inl (X 7))), ((a 8), .inl (nz_cI g, 6, .inl (X 8))), ((a 9), .inl (nz_cI g, 49, .inl c9_c)), ((a 10), .inl (nz_cI g, 6, .inl (X 10))), ((a 11), .inl (nz_cZ g, 2, .inl (X 11))), ((a 12), .inl (nz_cI g, 188, .inl (X 12))), ((a 13), .inl (nz_cI g, 16, .inl (X 13)))] 32 [(0, .ref (a 0)), (1, .int x1), (2, .int x2), (3, .int x3)] [] := by
  intro n1
  induction n1 with
  | zero =>
    intro x1 x2 x3 h
    exact h.elim
  | succ n1 hR32 =>
    intro x1 x2 x3 h
    have h : S_X8_widest_32 X c0_0 c9_c K (nz_it (fun _ _ _ => False) (S_X8_widest_32 X c0_0 c9_c K) n1) x1 x2 x3 := h
    unfold S_X8_widest_32 at h
    refine nz_iload_n F dX8_widest_32 rfl 3 rfl ?_
    refine nz_aload_n F dX8_widest_33 rfl 0 rfl ?_
    refine nz_get F iw_X8_widest_8 0 rfl rfl 5 (by decide) rfl fl_X8_widest_19 rfl dX8_widest_34 ?_
    refine nz_iconst (v := 4) F dX8_widest_37 (by decide) ?_
    refine nz_iald F 4 rfl (nz_inC rfl) dX8_widest_38 ?_
    refine nz_vi (z := ((X 4) 4)) rfl ?_
    refine nz_icmp_ge (tgt := 128) F dX8_widest_39 (by decide) (fun c6 => ?_) (fun c6 => ?_)
    · have h := h.1 c6
      refine nz_iload_n F dX8_widest_128 rfl 1 rfl ?_
      exact nz_iret F hQ (va_up (va_up X 0 (upd (X 0) 0 c0_0)) 9 c9_c) h rfl dX8_widest_129
    · have h := h.2 c6
      refine nz_iload_n F dX8_widest_42 rfl 3 rfl ?_
      refine nz_iconst (v := 1) F dX8_widest_43 (by decide) ?_
      refine nz_iadd F dX8_widest_44 ?_
      refine nz_istore (lv' := [(4, .int (x3 + 1)), (0, .ref (a 0)), (1, .int x1), (2, .int x2), (3, .int x3)]) F dX8_widest_45 (by decide) rfl ?_
      refine nz_ls (lv' := [(0, .ref (a 0)), (1, .int x1), (2, .int x2), (3, .int x3), (4, .int (x3 + 1))]) [1, 2, 3, 4, 0] rfl ?_
      obtain ⟨n1, h⟩ := h
      exact t_X8_widest_47 F a X x3 c0_0 c9_c hQ hR32 n1 x1 x2 (x3 + 1) h
def wp_X8_widest (X : Nat → Nat → Int32) (K : Int32 → (Nat → Nat → Int32) → Prop) : Prop := wp_X8_isThere (X 4) (fun q1 => ((¬ q1 = 0 → wp_X8_layMost (X 4) (X 9) (fun q3 m4 => ((¬ q3 = 0 → (∃ n, nz_it (fun _ _ _ => False) (S_X8_widest_32 X 0 m4 K) n (-1000000 : Int32) (-1 : Int32) 0)) ∧ (q3 = 0 → K (-1000000 : Int32) (va_up (va_up X 0 (upd (X 0) 0 0)) 9 m4))))) ∧ (q1 = 0 → K (-1000002 : Int32) (va_up X 0 (upd (X 0) 0 0)))))
set_option maxHeartbeats 4000000 in
set_option maxRecDepth 100000 in
theorem c_X8_widest (l : Launch) (g : nz_G) (a : Nat → Nat) (X : Nat → Nat → Int32) (K : Int32 → (Nat → Nat → Int32) → Prop) (h : wp_X8_widest X K) : nz_M l yX8_widest wsX8_widest rm_X8_widest g [.ref (a 0)] (nz_wM g a X) (nz_Qi g (nz_wM g a X) (fun r (u : Nat → Nat → Int32) => K r u) (fun u => nz_wM g a u)) := by
  refine nz_M.of (bytes := cX8_widest) (nL := 6) (ret := (some .int)) (own := RX8) (by decide) rfl rfl ⟨rfl, rfl⟩ rfl ?_
  intro y F hl hQ
  obtain ⟨sz, hQ⟩ := hQ
  refine nz_ent (lv' := [(0, .ref (a 0))]) rfl ?_
  unfold wp_X8_widest at h
  refine nz_aload_n F dX8_widest_0 rfl 0 rfl ?_
  refine nz_iconst (v := 0) F dX8_widest_1 (by decide) ?_
  refine nz_put (ws' := [((a 0), .inr (8, [.int 0, .int (X 0 1), .ref (a 1), .ref (a 2), .ref (a 3), .ref (a 4), .ref (a 5), .ref (a 6), .int (X 0 8), .ref (a 7), .int (X 0 10), .int (X 0 11), .int (X 0 12), .int (X 0 13), .int (X 0 14), .int (X 0 15), .int (X 0 16), .int (X 0 17), .int (X 0 18), .ref (a 8), .ref (a 9), .ref (a 10), .ref (a 11), .ref (a 12), .ref (a 13), .int (X 0 25)])), ((a 1), .inl (nz_cI g, 8, .inl (X 1))), ((a 2), .inl (nz_cI g, 8, .inl (X 2))), ((a 3), .inl (nz_cI g, 320, .inl (X 3))), ((a 4), .inl (nz_cI g, 94, .inl (X 4))), ((a 5), .inl (nz_cI g, 94, .inl (X 5))), ((a 6), .inl (nz_cI g, 168, .inl (X 6))), ((a 7), .inl (nz_cI g, 400, .inl (X 7))), ((a 8), .inl (nz_cI g, 6, .inl (X 8))), ((a 9), .inl (nz_cI g, 49, .inl (X 9))), ((a 10), .inl (nz_cI g, 6, .inl (X 10))), ((a 11), .inl (nz_cZ g, 2, .inl (X 11))), ((a 12), .inl (nz_cI g, 188, .inl (X 12))), ((a 13), .inl (nz_cI g, 16, .inl (X 13)))]) F iw_X8_widest_8 tyX8 tyX8_ok nmX8 0 rfl rfl 0 (by decide) rfl fl_X8_widest_50 rfl rfl (Nat.le_of_ble_eq_true rfl) dX8_widest_2 rfl ?_
  refine nz_aload_n F dX8_widest_5 rfl 0 rfl ?_
  refine k_X8_isThere (a 0) (a 1) (a 2) (a 3) (a 4) (a 5) (a 6) (a 7) (a 8) (a 9) (a 10) (a 11) (a 12) (a 13) 0 (X 0 1) (X 0 8) (X 0 10) (X 0 11) (X 0 12) (X 0 13) (X 0 14) (X 0 15) (X 0 16) (X 0 17) (X 0 18) (X 0 25) (X 1) (X 2) (X 3) (X 4) (X 5) (X 6) (X 7) (X 8) (X 9) (X 10) (X 11) (X 12) (X 13) (fun hM => nz_runV F gX8_widest_X8_isThere rfl hd_X8_isThere rfl hM dX8_widest_6 [0, 1, 2, 3, 4, 5, 6, 7, 8, 9, 10, 11, 12, 13] rfl rfl 0 rfl rfl rfl (Nat.le_of_ble_eq_true rfl) rfl) h ([((a 0), .inr (8, [.int 0, .int (X 0 1), .ref (a 1), .ref (a 2), .ref (a 3), .ref (a 4), .ref (a 5), .ref (a 6), .int (X 0 8), .ref (a 7), .int (X 0 10), .int (X 0 11), .int (X 0 12), .int (X 0 13), .int (X 0 14), .int (X 0 15), .int (X 0 16), .int (X 0 17), .int (X 0 18), .ref (a 8), .ref (a 9), .ref (a 10), .ref (a 11), .ref (a 12), .ref (a 13), .int (X 0 25)])), ((a 1), .inl (nz_cI g, 8, .inl (X 1))), ((a 2), .inl (nz_cI g, 8, .inl (X 2))), ((a 3), .inl (nz_cI g, 320, .inl (X 3))), ((a 4), .inl (nz_cI g, 94, .inl (X 4))), ((a 5), .inl (nz_cI g, 94, .inl (X 5))), ((a 6), .inl (nz_cI g, 168, .inl (X 6))), ((a 7), .inl (nz_cI g, 400, .inl (X 7))), ((a 8), .inl (nz_cI g, 6, .inl (X 8))), ((a 9), .inl (nz_cI g, 49, .inl (X 9))), ((a 10), .inl (nz_cI g, 6, .inl (X 10))), ((a 11), .inl (nz_cZ g, 2, .inl (X 11))), ((a 12), .inl (nz_cI g, 188, .inl (X 12))), ((a 13), .inl (nz_cI g, 16, .inl (X 13)))]) (rfl) (fun q1 h => ?_)
  refine nz_if_ne (tgt := 15) F dX8_widest_9 (by decide) (fun c2 => ?_) (fun c2 => ?_)
  · have h := h.1 c2
    refine nz_aload_n F dX8_widest_15 rfl 0 rfl ?_
    refine k_X8_layMost (a 0) (a 1) (a 2) (a 3) (a 4) (a 5) (a 6) (a 7) (a 8) (a 9) (a 10) (a 11) (a 12) (a 13) 0 (X 0 1) (X 0 8) (X 0 10) (X 0 11) (X 0 12) (X 0 13) (X 0 14) (X 0 15) (X 0 16) (X 0 17) (X 0 18) (X 0 25) (X 1) (X 2) (X 3) (X 4) (X 5) (X 6) (X 7) (X 8) (X 9) (X 10) (X 11) (X 12) (X 13) (fun hM => nz_runV F gX8_widest_X8_layMost rfl hd_X8_layMost rfl hM dX8_widest_16 [0, 1, 2, 3, 4, 5, 6, 7, 8, 9, 10, 11, 12, 13] rfl rfl 0 rfl rfl rfl (Nat.le_of_ble_eq_true rfl) rfl) h (fun m4 => [((a 0), .inr (8, [.int 0, .int (X 0 1), .ref (a 1), .ref (a 2), .ref (a 3), .ref (a 4), .ref (a 5), .ref (a 6), .int (X 0 8), .ref (a 7), .int (X 0 10), .int (X 0 11), .int (X 0 12), .int (X 0 13), .int (X 0 14), .int (X 0 15), .int (X 0 16), .int (X 0 17), .int (X 0 18), .ref (a 8), .ref (a 9), .ref (a 10), .ref (a 11), .ref (a 12), .ref (a 13), .int (X 0 25)])), ((a 1), .inl (nz_cI g, 8, .inl (X 1))), ((a 2), .inl (nz_cI g, 8, .inl (X 2))), ((a 3), .inl (nz_cI g, 320, .inl (X 3))), ((a 4), .inl (nz_cI g, 94, .inl (X 4))), ((a 5), .inl (nz_cI g, 94, .inl (X 5))), ((a 6), .inl (nz_cI g, 168, .inl (X 6))), ((a 7), .inl (nz_cI g, 400, .inl (X 7))), ((a 8), .inl (nz_cI g, 6, .inl (X 8))), ((a 9), .inl (nz_cI g, 49, .inl m4)), ((a 10), .inl (nz_cI g, 6, .inl (X 10))), ((a 11), .inl (nz_cZ g, 2, .inl (X 11))), ((a 12), .inl (nz_cI g, 188, .inl (X 12))), ((a 13), .inl (nz_cI g, 16, .inl (X 13)))]) (fun _ => rfl) (fun q3 m4 h => ?_)
    refine nz_if_ne (tgt := 25) F dX8_widest_19 (by decide) (fun c5 => ?_) (fun c5 => ?_)
    · have h := h.1 c5
      refine nz_ldc (v := (-1000000 : Int32)) F wd_X8_widest_c86 dX8_widest_25 ?_
      refine nz_istore_n (lv' := [(1, .int (-1000000 : Int32)), (0, .ref (a 0))]) F dX8_widest_27 rfl (by decide) rfl ?_
      refine nz_iconst (v := (-1 : Int32)) F dX8_widest_28 (by decide) ?_
      refine nz_istore_n (lv' := [(2, .int (-1 : Int32)), (1, .int (-1000000 : Int32)), (0, .ref (a 0))]) F dX8_widest_29 rfl (by decide) rfl ?_
      refine nz_iconst (v := 0) F dX8_widest_30 (by decide) ?_
      refine nz_istore_n (lv' := [(3, .int 0), (2, .int (-1 : Int32)), (1, .int (-1000000 : Int32)), (0, .ref (a 0))]) F dX8_widest_31 rfl (by decide) rfl ?_
      refine nz_ls (lv' := [(0, .ref (a 0)), (1, .int (-1000000 : Int32)), (2, .int (-1 : Int32)), (3, .int 0)]) [3, 2, 1, 0] rfl ?_
      obtain ⟨n1, h⟩ := h
      exact t_X8_widest_32 F a X 0 m4 hQ n1 (-1000000 : Int32) (-1 : Int32) 0 h
    · have h := h.2 c5
      refine nz_ldc (v := (-1000000 : Int32)) F wd_X8_widest_c86 dX8_widest_22 ?_
      exact nz_iret F hQ (va_up (va_up X 0 (upd (X 0) 0 0)) 9 m4) h rfl dX8_widest_24
  · have h := h.2 c2
    refine nz_ldc (v := (-1000002 : Int32)) F wd_X8_widest_c196 dX8_widest_12 ?_
    exact nz_iret F hQ (va_up X 0 (upd (X 0) 0 0)) h rfl dX8_widest_14
theorem k_X8_widest {y : nz_Y} {g : nz_G} {k n : Nat} {ws : va_W} {pc : Nat} {ls : List (Nat × Value)} {st rest : List Value} {av : Array Value} {isC : List Nat} {K : Int32 → (Nat → Nat → Int32) → Prop} (a : Nat → Nat) (X : Nat → Nat → Int32) (run : nz_M (yz_l y) yX8_widest wsX8_widest rm_X8_widest g [.ref (a 0)] (nz_wM g a X) (nz_Qi g (nz_wM g a X) (fun r (u : Nat → Nat → Int32) => K r u) (fun u => nz_wM g a u)) → nz_C y g k n ws pc ls st rest (nz_wM g a X) (nz_Qi g (nz_wM g a X) (fun r (u : Nat → Nat → Int32) => K r u) (fun u => nz_wM g a u)) av isC) (h : wp_X8_widest X K) (ws' : (Nat → Nat → Int32) → va_W) (hm : ∀ (m0 : (Nat → Nat → Int32)), nz_mrg ws isC (nz_wM g a m0) = ws' m0) (kk : ∀ (r : Int32) (m0 : (Nat → Nat → Int32)), K r m0 → nz_V y g k n (ws' m0) (pc + 3) ls (.int r :: rest)) : nz_V y g k n ws pc ls st :=
  nz_ci (ws' := fun u => ws' u) (run (c_X8_widest (yz_l y) g a X K h)) (fun _ => rfl) (fun u => hm u) (fun r u h => kk r u h)
theorem dX8_rest_0 : decode cX8_rest 0 = .ok (.aload_n 0, 1) := by decide +kernel
theorem dX8_rest_1 : decode cX8_rest 1 = .ok (.iconst 0, 1) := by decide +kernel
theorem dX8_rest_2 : decode cX8_rest 2 = .ok (.putfield 50, 3) := by decide +kernel
theorem dX8_rest_5 : decode cX8_rest 5 = .ok (.aload_n 0, 1) := by decide +kernel
theorem dX8_rest_6 : decode cX8_rest 6 = .ok (.invokevirtual 192, 3) := by decide +kernel
theorem dX8_rest_9 : decode cX8_rest 9 = .ok (.ifCond .ne 6, 3) := by decide +kernel
theorem dX8_rest_12 : decode cX8_rest 12 = .ok (.ldc 196, 2) := by decide +kernel
theorem dX8_rest_14 : decode cX8_rest 14 = .ok (.ireturn, 1) := by decide +kernel
theorem dX8_rest_15 : decode cX8_rest 15 = .ok (.aload_n 0, 1) := by decide +kernel
theorem dX8_rest_16 : decode cX8_rest 16 = .ok (.iconst 1, 1) := by decide +kernel
theorem dX8_rest_17 : decode cX8_rest 17 = .ok (.invokevirtual 200, 3) := by decide +kernel
theorem dX8_rest_20 : decode cX8_rest 20 = .ok (.iconst 0, 1) := by decide +kernel
theorem dX8_rest_21 : decode cX8_rest 21 = .ok (.istore_n 1, 1) := by decide +kernel
theorem dX8_rest_22 : decode cX8_rest 22 = .ok (.iconst 0, 1) := by decide +kernel
theorem dX8_rest_23 : decode cX8_rest 23 = .ok (.istore_n 2, 1) := by decide +kernel
theorem dX8_rest_24 : decode cX8_rest 24 = .ok (.iload_n 2, 1) := by decide +kernel
theorem dX8_rest_25 : decode cX8_rest 25 = .ok (.bipush 61, 2) := by decide +kernel
theorem dX8_rest_27 : decode cX8_rest 27 = .ok (.if_icmp .gt 42, 3) := by decide +kernel
theorem dX8_rest_30 : decode cX8_rest 30 = .ok (.aload_n 0, 1) := by decide +kernel
theorem dX8_rest_31 : decode cX8_rest 31 = .ok (.aload_n 0, 1) := by decide +kernel
theorem dX8_rest_32 : decode cX8_rest 32 = .ok (.getfield 19, 3) := by decide +kernel
theorem dX8_rest_35 : decode cX8_rest 35 = .ok (.bipush 6, 2) := by decide +kernel
theorem dX8_rest_37 : decode cX8_rest 37 = .ok (.iaload, 1) := by decide +kernel
theorem dX8_rest_38 : decode cX8_rest 38 = .ok (.iload_n 2, 1) := by decide +kernel
theorem dX8_rest_39 : decode cX8_rest 39 = .ok (.iadd, 1) := by decide +kernel
theorem dX8_rest_40 : decode cX8_rest 40 = .ok (.invokevirtual 234, 3) := by decide +kernel
theorem dX8_rest_43 : decode cX8_rest 43 = .ok (.ifCond .eq 9, 3) := by decide +kernel
theorem dX8_rest_46 : decode cX8_rest 46 = .ok (.iload_n 1, 1) := by decide +kernel
theorem dX8_rest_47 : decode cX8_rest 47 = .ok (.iconst 1, 1) := by decide +kernel
theorem dX8_rest_48 : decode cX8_rest 48 = .ok (.iadd, 1) := by decide +kernel
theorem dX8_rest_49 : decode cX8_rest 49 = .ok (.goto 4, 3) := by decide +kernel
theorem dX8_rest_52 : decode cX8_rest 52 = .ok (.iconst 0, 1) := by decide +kernel
theorem dX8_rest_53 : decode cX8_rest 53 = .ok (.istore_n 1, 1) := by decide +kernel
theorem dX8_rest_54 : decode cX8_rest 54 = .ok (.iload_n 1, 1) := by decide +kernel
theorem dX8_rest_55 : decode cX8_rest 55 = .ok (.iconst 2, 1) := by decide +kernel
theorem dX8_rest_56 : decode cX8_rest 56 = .ok (.if_icmp .ne 7, 3) := by decide +kernel
theorem dX8_rest_59 : decode cX8_rest 59 = .ok (.iload_n 2, 1) := by decide +kernel
theorem dX8_rest_60 : decode cX8_rest 60 = .ok (.iconst 1, 1) := by decide +kernel
theorem dX8_rest_61 : decode cX8_rest 61 = .ok (.isub, 1) := by decide +kernel
theorem dX8_rest_62 : decode cX8_rest 62 = .ok (.ireturn, 1) := by decide +kernel
theorem dX8_rest_63 : decode cX8_rest 63 = .ok (.iinc 2 1, 3) := by decide +kernel
theorem dX8_rest_66 : decode cX8_rest 66 = .ok (.goto (-42), 3) := by decide +kernel
theorem dX8_rest_69 : decode cX8_rest 69 = .ok (.ldc 86, 2) := by decide +kernel
theorem dX8_rest_71 : decode cX8_rest 71 = .ok (.ireturn, 1) := by decide +kernel
set_option maxRecDepth 20000 in
theorem ggX8_rest_X8_isThere : GoodIn wsX8_rest wsX8_isThere := goodIn_r _ [9, 3, 40, 41, 42, 43, 44, 45, 46, 47, 48, 49, 50, 51, 52, 53, 54, 55, 56, 57, 58, 59, 60, 61, 62, 63, 64, 65] rfl (by decide +kernel)
set_option maxRecDepth 20000 in
theorem gX8_rest_X8_isThere : GoodIn wsX8_rest (wsV RX8 192 RX8 yX8_isThere wsX8_isThere) := goodIn_app (goodIn_r _ [5, 6, 7, 8] rfl (by decide +kernel)) ggX8_rest_X8_isThere
set_option maxRecDepth 20000 in
theorem ggX8_rest_X8_layNow : GoodIn wsX8_rest wsX8_layNow := goodIn_r _ [13, 3, 14, 15, 16, 17, 8, 18, 40, 41, 42, 43, 44, 45, 46, 47, 48, 49, 50, 51, 52, 53, 54, 55, 56, 57, 58, 59, 60, 61, 62, 63, 64, 65] rfl (by decide +kernel)
set_option maxRecDepth 20000 in
theorem gX8_rest_X8_layNow : GoodIn wsX8_rest (wsV RX8 200 RX8 yX8_layNow wsX8_layNow) := goodIn_app (goodIn_r _ [10, 11, 12, 8] rfl (by decide +kernel)) ggX8_rest_X8_layNow
set_option maxRecDepth 20000 in
theorem ggX8_rest_X8_rests : GoodIn wsX8_rest wsX8_rests := goodIn_r _ [22, 23, 14, 3, 24, 25, 26, 8, 27, 28, 29, 30, 31, 32, 33, 34, 35, 15, 16, 17, 18, 36, 37, 38, 39, 40, 41, 42, 43, 44, 45, 46, 47, 48, 49, 50, 51, 52, 53, 54, 55, 56, 57, 58, 59, 60, 61, 62, 63, 64, 65] rfl (by decide +kernel)
set_option maxRecDepth 20000 in
theorem gX8_rest_X8_rests : GoodIn wsX8_rest (wsV RX8 234 RX8 yX8_rests wsX8_rests) := goodIn_app (goodIn_r _ [19, 20, 21, 8] rfl (by decide +kernel)) ggX8_rest_X8_rests
theorem hd_X8_rests : yX8_rests.cls = RX8 ∧ yX8_rests.cls ≠ "java/lang/invoke/MethodHandle" ∧ yX8_rests.cls ≠ "java/lang/invoke/VarHandle" ∧ (parseMethodDescriptor yX8_rests.desc).map (fun d => d.parameters.length) = some 1 := by decide +kernel
/-! X8_rest -/
abbrev rm_X8_rest : Room := { frames := 4, cells := 0, slots := 0, locals := 97 }
theorem iw_X8_rest_8 : ∀ w ∈ wsX80, w ∈ wsX8_rest := fun _ h => List.mem_cons_of_mem _ (List.mem_append_right _ h)
theorem fl_X8_rest_50 : Cond.fieldLink RX8 50 "NightStonesModel" "thrown" "I" ∈ wsX8_rest := List.mem_of_getElem? (i := 1) rfl
theorem wd_X8_rest_c86 : Cond.constant RX8 86 (-1000000) ∈ wsX8_rest := List.mem_of_getElem? (i := 4) rfl
theorem fl_X8_rest_19 : Cond.fieldLink RX8 19 "NightStonesModel" "road" "[I" ∈ wsX8_rest := List.mem_of_getElem? (i := 3) rfl
theorem wd_X8_rest_c196 : Cond.constant RX8 196 (-1000002) ∈ wsX8_rest := List.mem_of_getElem? (i := 2) rfl
def S_X8_rest_24 (X : Nat → Nat → Int32) (c0_0 : Int32) (K : Int32 → (Nat → Nat → Int32) → Prop) (R24 : Int32 → Int32 → (Nat → Int32) → (Nat → Int32) → Prop) (x1 : Int32) (x2 : Int32) (c8_c : Nat → Int32) (c10_c : Nat → Int32) : Prop := ((61 < x2 → K (-1000000 : Int32) (va_up (va_up (va_up X 0 (upd (X 0) 0 c0_0)) 8 c8_c) 10 c10_c)) ∧ (¬ (61 < x2) → wp_X8_rests (X 4) c8_c c10_c (((X 4) 6) + x2) (fun q5 m6 m7 => ((q5 = 0 → R24 0 (x2 + 1) m6 m7) ∧ (¬ (q5 = 0) → ((¬ (x1 + 1) = 2 → R24 (x1 + 1) (x2 + 1) m6 m7) ∧ ((x1 + 1) = 2 → K (x2 - 1) (va_up (va_up (va_up X 0 (upd (X 0) 0 c0_0)) 8 m6) 10 m7))))))))
set_option maxHeartbeats 4000000 in
set_option maxRecDepth 100000 in
theorem t_X8_rest_24 {y : nz_Y} {g : nz_G} (F : nz_F y g cX8_rest 3 wsX8_rest RX8 (some .int) rm_X8_rest) {wc0 : va_W} {sz : Nat} {K : Int32 → (Nat → Nat → Int32) → Prop} (a : Nat → Nat) (X : Nat → Nat → Int32) (c0_0 : Int32) (hQ : yz_A y = va_A wc0 sz ∧ yz_Q y = MQ (yz_b y) ((nz_Qi g wc0 (fun r (u : Nat → Nat → Int32) => K r u) (fun u => nz_wM g a u)) sz) (yz_a y) (yz_s y) 0 0 (va_A wc0 sz)) : ∀ (n1 : Nat) (x1 : Int32) (x2 : Int32) (c8_c : Nat → Int32) (c10_c : Nat → Int32), nz_it (fun _ _ _ _ => False) (S_X8_rest_24 X c0_0 K) n1 x1 x2 c8_c c10_c → nz_V y g 0 0 [((a 0), .inr (8, [.int c0_0, .int (X 0 1), .ref (a 1), .ref (a 2), .ref (a 3), .ref (a 4), .ref (a 5), .ref (a 6), .int (X 0 8), .ref (a 7), .int (X 0 10), .int (X 0 11), .int (X 0 12), .int (X 0 13), .int (X 0 14), .int (X 0 15), .int (X 0 16), .int (X 0 17), .int (X 0 18), .ref (a 8), .ref (a 9), .ref (a 10), .ref (a 11), .ref (a 12), .ref (a 13), .int (X 0 25)])), ((a 1), .inl (nz_cI g, 8, .inl (X 1))), ((a 2), .inl (nz_cI g, 8, .inl (X 2))), ((a 3), .inl (nz_cI g, 320, .inl (X 3))), ((a 4), .inl (nz_cI g, 94, .inl (X 4))), ((a 5), .inl (nz_cI g, 94, .inl (X 5))), ((a 6), .inl (nz_cI g, 168, .inl (X 6))), ((a 7), .inl (nz_cI g, 400, .inl (X 7))), ((a 8), .inl (nz_cI g, 6, .inl c8_c)), ((a 9), .inl (nz_cI g, 49, .inl (X 9))), ((a 10), .inl (nz_cI g, 6, .inl c10_c)), ((a 11), .inl (nz_cZ g, 2, .inl (X 11))), ((a 12), .inl (nz_cI g, 188, .inl (X 12))), ((a 13), .inl (nz_cI g, 16, .inl (X 13)))] 24 [(0, .ref (a 0)), (1, .int x1), (2, .int x2)] [] := by
  intro n1
  induction n1 with
  | zero =>
    intro x1 x2 c8_c c10_c h
    exact h.elim
  | succ n1 hR24 =>
    intro x1 x2 c8_c c10_c h
    have h : S_X8_rest_24 X c0_0 K (nz_it (fun _ _ _ _ => False) (S_X8_rest_24 X c0_0 K) n1) x1 x2 c8_c c10_c := h
    unfold S_X8_rest_24 at h
    refine nz_iload_n F dX8_rest_24 rfl 2 rfl ?_
    refine nz_bipush (v := 61) F dX8_rest_25 (by decide) ?_
    refine nz_icmp_gt (tgt := 69) F dX8_rest_27 (by decide) (fun c4 => ?_) (fun c4 => ?_)
    · have h := h.1 c4
      refine nz_ldc (v := (-1000000 : Int32)) F wd_X8_rest_c86 dX8_rest_69 ?_
      exact nz_iret F hQ (va_up (va_up (va_up X 0 (upd (X 0) 0 c0_0)) 8 c8_c) 10 c10_c) h rfl dX8_rest_71
    · have h := h.2 c4
      refine nz_aload_n F dX8_rest_30 rfl 0 rfl ?_
      refine nz_aload_n F dX8_rest_31 rfl 0 rfl ?_
      refine nz_get F iw_X8_rest_8 0 rfl rfl 5 (by decide) rfl fl_X8_rest_19 rfl dX8_rest_32 ?_
      refine nz_bipush (v := 6) F dX8_rest_35 (by decide) ?_
      refine nz_iald F 4 rfl (nz_inC rfl) dX8_rest_37 ?_
      refine nz_vi (z := ((X 4) 6)) rfl ?_
      refine nz_iload_n F dX8_rest_38 rfl 2 rfl ?_
      refine nz_iadd F dX8_rest_39 ?_
      refine k_X8_rests (a 0) (a 1) (a 2) (a 3) (a 4) (a 5) (a 6) (a 7) (a 8) (a 9) (a 10) (a 11) (a 12) (a 13) c0_0 (X 0 1) (X 0 8) (X 0 10) (X 0 11) (X 0 12) (X 0 13) (X 0 14) (X 0 15) (X 0 16) (X 0 17) (X 0 18) (X 0 25) (X 1) (X 2) (X 3) (X 4) (X 5) (X 6) (X 7) c8_c (X 9) c10_c (X 11) (X 12) (X 13) (((X 4) 6) + x2) (fun hM => nz_runV F gX8_rest_X8_rests rfl hd_X8_rests rfl hM dX8_rest_40 [0, 1, 2, 3, 4, 5, 6, 7, 8, 9, 10, 11, 12, 13] rfl rfl 0 rfl rfl rfl (Nat.le_of_ble_eq_true rfl) rfl) h (fun m6 m7 => [((a 0), .inr (8, [.int c0_0, .int (X 0 1), .ref (a 1), .ref (a 2), .ref (a 3), .ref (a 4), .ref (a 5), .ref (a 6), .int (X 0 8), .ref (a 7), .int (X 0 10), .int (X 0 11), .int (X 0 12), .int (X 0 13), .int (X 0 14), .int (X 0 15), .int (X 0 16), .int (X 0 17), .int (X 0 18), .ref (a 8), .ref (a 9), .ref (a 10), .ref (a 11), .ref (a 12), .ref (a 13), .int (X 0 25)])), ((a 1), .inl (nz_cI g, 8, .inl (X 1))), ((a 2), .inl (nz_cI g, 8, .inl (X 2))), ((a 3), .inl (nz_cI g, 320, .inl (X 3))), ((a 4), .inl (nz_cI g, 94, .inl (X 4))), ((a 5), .inl (nz_cI g, 94, .inl (X 5))), ((a 6), .inl (nz_cI g, 168, .inl (X 6))), ((a 7), .inl (nz_cI g, 400, .inl (X 7))), ((a 8), .inl (nz_cI g, 6, .inl m6)), ((a 9), .inl (nz_cI g, 49, .inl (X 9))), ((a 10), .inl (nz_cI g, 6, .inl m7)), ((a 11), .inl (nz_cZ g, 2, .inl (X 11))), ((a 12), .inl (nz_cI g, 188, .inl (X 12))), ((a 13), .inl (nz_cI g, 16, .inl (X 13)))]) (fun _ _ => rfl) (fun q5 m6 m7 h => ?_)
      refine nz_if_eq (tgt := 52) F dX8_rest_43 (by decide) (fun c8 => ?_) (fun c8 => ?_)
      · have h := h.1 c8
        refine nz_iconst (v := 0) F dX8_rest_52 (by decide) ?_
        refine nz_istore_n (lv' := [(1, .int 0), (0, .ref (a 0)), (2, .int x2)]) F dX8_rest_53 rfl (by decide) rfl ?_
        refine nz_iload_n F dX8_rest_54 rfl 0 rfl ?_
        refine nz_iconst (v := 2) F dX8_rest_55 (by decide) ?_
        refine nz_icmp_ne (tgt := 63) F dX8_rest_56 (by decide) (fun _ => ?_) (fun c9 => absurd c9 (by decide))
        refine nz_iinc (v := (x2 + 1)) (j := 2) (lv' := [(2, .int (x2 + 1)), (1, .int 0), (0, .ref (a 0))]) F dX8_rest_63 rfl rfl (by decide) rfl ?_
        refine nz_goto (tgt := 24) F dX8_rest_66 (by decide) ?_
        refine nz_ls (lv' := [(0, .ref (a 0)), (1, .int 0), (2, .int (x2 + 1))]) [2, 1, 0] rfl ?_
        exact hR24 0 (x2 + 1) m6 m7 h
      · have h := h.2 c8
        refine nz_iload_n F dX8_rest_46 rfl 1 rfl ?_
        refine nz_iconst (v := 1) F dX8_rest_47 (by decide) ?_
        refine nz_iadd F dX8_rest_48 ?_
        refine nz_goto (tgt := 53) F dX8_rest_49 (by decide) ?_
        refine nz_istore_n (lv' := [(1, .int (x1 + 1)), (0, .ref (a 0)), (2, .int x2)]) F dX8_rest_53 rfl (by decide) rfl ?_
        refine nz_iload_n F dX8_rest_54 rfl 0 rfl ?_
        refine nz_iconst (v := 2) F dX8_rest_55 (by decide) ?_
        refine nz_icmp_ne (tgt := 63) F dX8_rest_56 (by decide) (fun c10 => ?_) (fun c10 => ?_)
        · have h := h.1 c10
          refine nz_iinc (v := (x2 + 1)) (j := 2) (lv' := [(2, .int (x2 + 1)), (1, .int (x1 + 1)), (0, .ref (a 0))]) F dX8_rest_63 rfl rfl (by decide) rfl ?_
          refine nz_goto (tgt := 24) F dX8_rest_66 (by decide) ?_
          refine nz_ls (lv' := [(0, .ref (a 0)), (1, .int (x1 + 1)), (2, .int (x2 + 1))]) [2, 1, 0] rfl ?_
          exact hR24 (x1 + 1) (x2 + 1) m6 m7 h
        · have h := h.2 c10
          refine nz_iload_n F dX8_rest_59 rfl 2 rfl ?_
          refine nz_iconst (v := 1) F dX8_rest_60 (by decide) ?_
          refine nz_isub F dX8_rest_61 ?_
          exact nz_iret F hQ (va_up (va_up (va_up X 0 (upd (X 0) 0 c0_0)) 8 m6) 10 m7) h rfl dX8_rest_62
def wp_X8_rest (X : Nat → Nat → Int32) (K : Int32 → (Nat → Nat → Int32) → Prop) : Prop := wp_X8_isThere (X 4) (fun q1 => ((¬ q1 = 0 → wp_X8_layNow (X 4) (X 8) 1 (fun m3 => (∃ n, nz_it (fun _ _ _ _ => False) (S_X8_rest_24 X 0 K) n 0 0 m3 (X 10)))) ∧ (q1 = 0 → K (-1000002 : Int32) (va_up X 0 (upd (X 0) 0 0)))))
set_option maxHeartbeats 4000000 in
set_option maxRecDepth 100000 in
theorem c_X8_rest (l : Launch) (g : nz_G) (a : Nat → Nat) (X : Nat → Nat → Int32) (K : Int32 → (Nat → Nat → Int32) → Prop) (h : wp_X8_rest X K) : nz_M l yX8_rest wsX8_rest rm_X8_rest g [.ref (a 0)] (nz_wM g a X) (nz_Qi g (nz_wM g a X) (fun r (u : Nat → Nat → Int32) => K r u) (fun u => nz_wM g a u)) := by
  refine nz_M.of (bytes := cX8_rest) (nL := 3) (ret := (some .int)) (own := RX8) (by decide) rfl rfl ⟨rfl, rfl⟩ rfl ?_
  intro y F hl hQ
  obtain ⟨sz, hQ⟩ := hQ
  refine nz_ent (lv' := [(0, .ref (a 0))]) rfl ?_
  unfold wp_X8_rest at h
  refine nz_aload_n F dX8_rest_0 rfl 0 rfl ?_
  refine nz_iconst (v := 0) F dX8_rest_1 (by decide) ?_
  refine nz_put (ws' := [((a 0), .inr (8, [.int 0, .int (X 0 1), .ref (a 1), .ref (a 2), .ref (a 3), .ref (a 4), .ref (a 5), .ref (a 6), .int (X 0 8), .ref (a 7), .int (X 0 10), .int (X 0 11), .int (X 0 12), .int (X 0 13), .int (X 0 14), .int (X 0 15), .int (X 0 16), .int (X 0 17), .int (X 0 18), .ref (a 8), .ref (a 9), .ref (a 10), .ref (a 11), .ref (a 12), .ref (a 13), .int (X 0 25)])), ((a 1), .inl (nz_cI g, 8, .inl (X 1))), ((a 2), .inl (nz_cI g, 8, .inl (X 2))), ((a 3), .inl (nz_cI g, 320, .inl (X 3))), ((a 4), .inl (nz_cI g, 94, .inl (X 4))), ((a 5), .inl (nz_cI g, 94, .inl (X 5))), ((a 6), .inl (nz_cI g, 168, .inl (X 6))), ((a 7), .inl (nz_cI g, 400, .inl (X 7))), ((a 8), .inl (nz_cI g, 6, .inl (X 8))), ((a 9), .inl (nz_cI g, 49, .inl (X 9))), ((a 10), .inl (nz_cI g, 6, .inl (X 10))), ((a 11), .inl (nz_cZ g, 2, .inl (X 11))), ((a 12), .inl (nz_cI g, 188, .inl (X 12))), ((a 13), .inl (nz_cI g, 16, .inl (X 13)))]) F iw_X8_rest_8 tyX8 tyX8_ok nmX8 0 rfl rfl 0 (by decide) rfl fl_X8_rest_50 rfl rfl (Nat.le_of_ble_eq_true rfl) dX8_rest_2 rfl ?_
  refine nz_aload_n F dX8_rest_5 rfl 0 rfl ?_
  refine k_X8_isThere (a 0) (a 1) (a 2) (a 3) (a 4) (a 5) (a 6) (a 7) (a 8) (a 9) (a 10) (a 11) (a 12) (a 13) 0 (X 0 1) (X 0 8) (X 0 10) (X 0 11) (X 0 12) (X 0 13) (X 0 14) (X 0 15) (X 0 16) (X 0 17) (X 0 18) (X 0 25) (X 1) (X 2) (X 3) (X 4) (X 5) (X 6) (X 7) (X 8) (X 9) (X 10) (X 11) (X 12) (X 13) (fun hM => nz_runV F gX8_rest_X8_isThere rfl hd_X8_isThere rfl hM dX8_rest_6 [0, 1, 2, 3, 4, 5, 6, 7, 8, 9, 10, 11, 12, 13] rfl rfl 0 rfl rfl rfl (Nat.le_of_ble_eq_true rfl) rfl) h ([((a 0), .inr (8, [.int 0, .int (X 0 1), .ref (a 1), .ref (a 2), .ref (a 3), .ref (a 4), .ref (a 5), .ref (a 6), .int (X 0 8), .ref (a 7), .int (X 0 10), .int (X 0 11), .int (X 0 12), .int (X 0 13), .int (X 0 14), .int (X 0 15), .int (X 0 16), .int (X 0 17), .int (X 0 18), .ref (a 8), .ref (a 9), .ref (a 10), .ref (a 11), .ref (a 12), .ref (a 13), .int (X 0 25)])), ((a 1), .inl (nz_cI g, 8, .inl (X 1))), ((a 2), .inl (nz_cI g, 8, .inl (X 2))), ((a 3), .inl (nz_cI g, 320, .inl (X 3))), ((a 4), .inl (nz_cI g, 94, .inl (X 4))), ((a 5), .inl (nz_cI g, 94, .inl (X 5))), ((a 6), .inl (nz_cI g, 168, .inl (X 6))), ((a 7), .inl (nz_cI g, 400, .inl (X 7))), ((a 8), .inl (nz_cI g, 6, .inl (X 8))), ((a 9), .inl (nz_cI g, 49, .inl (X 9))), ((a 10), .inl (nz_cI g, 6, .inl (X 10))), ((a 11), .inl (nz_cZ g, 2, .inl (X 11))), ((a 12), .inl (nz_cI g, 188, .inl (X 12))), ((a 13), .inl (nz_cI g, 16, .inl (X 13)))]) (rfl) (fun q1 h => ?_)
  refine nz_if_ne (tgt := 15) F dX8_rest_9 (by decide) (fun c2 => ?_) (fun c2 => ?_)
  · have h := h.1 c2
    refine nz_aload_n F dX8_rest_15 rfl 0 rfl ?_
    refine nz_iconst (v := 1) F dX8_rest_16 (by decide) ?_
    refine k_X8_layNow (a 0) (a 1) (a 2) (a 3) (a 4) (a 5) (a 6) (a 7) (a 8) (a 9) (a 10) (a 11) (a 12) (a 13) 0 (X 0 1) (X 0 8) (X 0 10) (X 0 11) (X 0 12) (X 0 13) (X 0 14) (X 0 15) (X 0 16) (X 0 17) (X 0 18) (X 0 25) (X 1) (X 2) (X 3) (X 4) (X 5) (X 6) (X 7) (X 8) (X 9) (X 10) (X 11) (X 12) (X 13) 1 (fun hM => nz_runV F gX8_rest_X8_layNow rfl hd_X8_layNow rfl hM dX8_rest_17 [0, 1, 2, 3, 4, 5, 6, 7, 8, 9, 10, 11, 12, 13] rfl rfl 0 rfl rfl rfl (Nat.le_of_ble_eq_true rfl) rfl) h (fun m3 => [((a 0), .inr (8, [.int 0, .int (X 0 1), .ref (a 1), .ref (a 2), .ref (a 3), .ref (a 4), .ref (a 5), .ref (a 6), .int (X 0 8), .ref (a 7), .int (X 0 10), .int (X 0 11), .int (X 0 12), .int (X 0 13), .int (X 0 14), .int (X 0 15), .int (X 0 16), .int (X 0 17), .int (X 0 18), .ref (a 8), .ref (a 9), .ref (a 10), .ref (a 11), .ref (a 12), .ref (a 13), .int (X 0 25)])), ((a 1), .inl (nz_cI g, 8, .inl (X 1))), ((a 2), .inl (nz_cI g, 8, .inl (X 2))), ((a 3), .inl (nz_cI g, 320, .inl (X 3))), ((a 4), .inl (nz_cI g, 94, .inl (X 4))), ((a 5), .inl (nz_cI g, 94, .inl (X 5))), ((a 6), .inl (nz_cI g, 168, .inl (X 6))), ((a 7), .inl (nz_cI g, 400, .inl (X 7))), ((a 8), .inl (nz_cI g, 6, .inl m3)), ((a 9), .inl (nz_cI g, 49, .inl (X 9))), ((a 10), .inl (nz_cI g, 6, .inl (X 10))), ((a 11), .inl (nz_cZ g, 2, .inl (X 11))), ((a 12), .inl (nz_cI g, 188, .inl (X 12))), ((a 13), .inl (nz_cI g, 16, .inl (X 13)))]) (fun _ => rfl) (fun m3 h => ?_)
    refine nz_iconst (v := 0) F dX8_rest_20 (by decide) ?_
    refine nz_istore_n (lv' := [(1, .int 0), (0, .ref (a 0))]) F dX8_rest_21 rfl (by decide) rfl ?_
    refine nz_iconst (v := 0) F dX8_rest_22 (by decide) ?_
    refine nz_istore_n (lv' := [(2, .int 0), (1, .int 0), (0, .ref (a 0))]) F dX8_rest_23 rfl (by decide) rfl ?_
    refine nz_ls (lv' := [(0, .ref (a 0)), (1, .int 0), (2, .int 0)]) [2, 1, 0] rfl ?_
    obtain ⟨n1, h⟩ := h
    exact t_X8_rest_24 F a X 0 hQ n1 0 0 m3 (X 10) h
  · have h := h.2 c2
    refine nz_ldc (v := (-1000002 : Int32)) F wd_X8_rest_c196 dX8_rest_12 ?_
    exact nz_iret F hQ (va_up X 0 (upd (X 0) 0 0)) h rfl dX8_rest_14
theorem k_X8_rest {y : nz_Y} {g : nz_G} {k n : Nat} {ws : va_W} {pc : Nat} {ls : List (Nat × Value)} {st rest : List Value} {av : Array Value} {isC : List Nat} {K : Int32 → (Nat → Nat → Int32) → Prop} (a : Nat → Nat) (X : Nat → Nat → Int32) (run : nz_M (yz_l y) yX8_rest wsX8_rest rm_X8_rest g [.ref (a 0)] (nz_wM g a X) (nz_Qi g (nz_wM g a X) (fun r (u : Nat → Nat → Int32) => K r u) (fun u => nz_wM g a u)) → nz_C y g k n ws pc ls st rest (nz_wM g a X) (nz_Qi g (nz_wM g a X) (fun r (u : Nat → Nat → Int32) => K r u) (fun u => nz_wM g a u)) av isC) (h : wp_X8_rest X K) (ws' : (Nat → Nat → Int32) → va_W) (hm : ∀ (m0 : (Nat → Nat → Int32)), nz_mrg ws isC (nz_wM g a m0) = ws' m0) (kk : ∀ (r : Int32) (m0 : (Nat → Nat → Int32)), K r m0 → nz_V y g k n (ws' m0) (pc + 3) ls (.int r :: rest)) : nz_V y g k n ws pc ls st :=
  nz_ci (ws' := fun u => ws' u) (run (c_X8_rest (yz_l y) g a X K h)) (fun _ => rfl) (fun u => hm u) (fun r u h => kk r u h)
theorem dX8_moved_0 : decode cX8_moved 0 = .ok (.aload_n 0, 1) := by decide +kernel
theorem dX8_moved_1 : decode cX8_moved 1 = .ok (.iconst 0, 1) := by decide +kernel
theorem dX8_moved_2 : decode cX8_moved 2 = .ok (.putfield 50, 3) := by decide +kernel
theorem dX8_moved_5 : decode cX8_moved 5 = .ok (.aload_n 0, 1) := by decide +kernel
theorem dX8_moved_6 : decode cX8_moved 6 = .ok (.invokevirtual 192, 3) := by decide +kernel
theorem dX8_moved_9 : decode cX8_moved 9 = .ok (.ifCond .ne 6, 3) := by decide +kernel
theorem dX8_moved_12 : decode cX8_moved 12 = .ok (.ldc 196, 2) := by decide +kernel
theorem dX8_moved_14 : decode cX8_moved 14 = .ok (.ireturn, 1) := by decide +kernel
theorem dX8_moved_15 : decode cX8_moved 15 = .ok (.iload_n 1, 1) := by decide +kernel
theorem dX8_moved_16 : decode cX8_moved 16 = .ok (.i2l, 1) := by decide +kernel
theorem dX8_moved_17 : decode cX8_moved 17 = .ok (.lconst 0, 1) := by decide +kernel
theorem dX8_moved_18 : decode cX8_moved 18 = .ok (.lconst 1, 1) := by decide +kernel
theorem dX8_moved_19 : decode cX8_moved 19 = .ok (.invokestatic 60, 3) := by decide +kernel
theorem dX8_moved_22 : decode cX8_moved 22 = .ok (.ifCond .ne 6, 3) := by decide +kernel
theorem dX8_moved_25 : decode cX8_moved 25 = .ok (.ldc 70, 2) := by decide +kernel
theorem dX8_moved_27 : decode cX8_moved 27 = .ok (.ireturn, 1) := by decide +kernel
theorem dX8_moved_28 : decode cX8_moved 28 = .ok (.aload_n 0, 1) := by decide +kernel
theorem dX8_moved_29 : decode cX8_moved 29 = .ok (.getfield 19, 3) := by decide +kernel
theorem dX8_moved_32 : decode cX8_moved 32 = .ok (.iconst 4, 1) := by decide +kernel
theorem dX8_moved_33 : decode cX8_moved 33 = .ok (.iaload, 1) := by decide +kernel
theorem dX8_moved_34 : decode cX8_moved 34 = .ok (.istore_n 2, 1) := by decide +kernel
theorem dX8_moved_35 : decode cX8_moved 35 = .ok (.iload_n 2, 1) := by decide +kernel
theorem dX8_moved_36 : decode cX8_moved 36 = .ok (.istore_n 3, 1) := by decide +kernel
theorem dX8_moved_37 : decode cX8_moved 37 = .ok (.iconst 1, 1) := by decide +kernel
theorem dX8_moved_38 : decode cX8_moved 38 = .ok (.iload_n 2, 1) := by decide +kernel
theorem dX8_moved_39 : decode cX8_moved 39 = .ok (.ishl, 1) := by decide +kernel
theorem dX8_moved_40 : decode cX8_moved 40 = .ok (.iconst 1, 1) := by decide +kernel
theorem dX8_moved_41 : decode cX8_moved 41 = .ok (.isub, 1) := by decide +kernel
theorem dX8_moved_42 : decode cX8_moved 42 = .ok (.istore 4, 2) := by decide +kernel
theorem dX8_moved_44 : decode cX8_moved 44 = .ok (.iconst 0, 1) := by decide +kernel
theorem dX8_moved_45 : decode cX8_moved 45 = .ok (.istore 5, 2) := by decide +kernel
theorem dX8_moved_47 : decode cX8_moved 47 = .ok (.iload 5, 2) := by decide +kernel
theorem dX8_moved_49 : decode cX8_moved 49 = .ok (.iload_n 2, 1) := by decide +kernel
theorem dX8_moved_50 : decode cX8_moved 50 = .ok (.if_icmp .ge 155, 3) := by decide +kernel
theorem dX8_moved_53 : decode cX8_moved 53 = .ok (.iconst 0, 1) := by decide +kernel
theorem dX8_moved_54 : decode cX8_moved 54 = .ok (.istore 6, 2) := by decide +kernel
theorem dX8_moved_56 : decode cX8_moved 56 = .ok (.iconst 0, 1) := by decide +kernel
theorem dX8_moved_57 : decode cX8_moved 57 = .ok (.istore 7, 2) := by decide +kernel
theorem dX8_moved_59 : decode cX8_moved 59 = .ok (.iconst 0, 1) := by decide +kernel
theorem dX8_moved_60 : decode cX8_moved 60 = .ok (.istore 8, 2) := by decide +kernel
theorem dX8_moved_62 : decode cX8_moved 62 = .ok (.iload 8, 2) := by decide +kernel
theorem dX8_moved_64 : decode cX8_moved 64 = .ok (.iload_n 2, 1) := by decide +kernel
theorem dX8_moved_65 : decode cX8_moved 65 = .ok (.if_icmp .ge 82, 3) := by decide +kernel
theorem dX8_moved_68 : decode cX8_moved 68 = .ok (.aload_n 0, 1) := by decide +kernel
theorem dX8_moved_69 : decode cX8_moved 69 = .ok (.iload 8, 2) := by decide +kernel
theorem dX8_moved_71 : decode cX8_moved 71 = .ok (.iconst 1, 1) := by decide +kernel
theorem dX8_moved_72 : decode cX8_moved 72 = .ok (.invokevirtual 180, 3) := by decide +kernel
theorem dX8_moved_75 : decode cX8_moved 75 = .ok (.aload_n 0, 1) := by decide +kernel
theorem dX8_moved_76 : decode cX8_moved 76 = .ok (.iload 8, 2) := by decide +kernel
theorem dX8_moved_78 : decode cX8_moved 78 = .ok (.iconst 0, 1) := by decide +kernel
theorem dX8_moved_79 : decode cX8_moved 79 = .ok (.invokevirtual 180, 3) := by decide +kernel
theorem dX8_moved_82 : decode cX8_moved 82 = .ok (.isub, 1) := by decide +kernel
theorem dX8_moved_83 : decode cX8_moved 83 = .ok (.aload_n 0, 1) := by decide +kernel
theorem dX8_moved_84 : decode cX8_moved 84 = .ok (.iload 5, 2) := by decide +kernel
theorem dX8_moved_86 : decode cX8_moved 86 = .ok (.iconst 1, 1) := by decide +kernel
theorem dX8_moved_87 : decode cX8_moved 87 = .ok (.invokevirtual 180, 3) := by decide +kernel
theorem dX8_moved_90 : decode cX8_moved 90 = .ok (.aload_n 0, 1) := by decide +kernel
theorem dX8_moved_91 : decode cX8_moved 91 = .ok (.iload 5, 2) := by decide +kernel
theorem dX8_moved_93 : decode cX8_moved 93 = .ok (.iconst 0, 1) := by decide +kernel
theorem dX8_moved_94 : decode cX8_moved 94 = .ok (.invokevirtual 180, 3) := by decide +kernel
theorem dX8_moved_97 : decode cX8_moved 97 = .ok (.isub, 1) := by decide +kernel
theorem dX8_moved_98 : decode cX8_moved 98 = .ok (.if_icmp .eq 7, 3) := by decide +kernel
theorem dX8_moved_101 : decode cX8_moved 101 = .ok (.iconst 1, 1) := by decide +kernel
theorem dX8_moved_102 : decode cX8_moved 102 = .ok (.goto 4, 3) := by decide +kernel
theorem dX8_moved_105 : decode cX8_moved 105 = .ok (.iconst 0, 1) := by decide +kernel
theorem dX8_moved_106 : decode cX8_moved 106 = .ok (.istore 9, 2) := by decide +kernel
theorem dX8_moved_108 : decode cX8_moved 108 = .ok (.iload 6, 2) := by decide +kernel
theorem dX8_moved_110 : decode cX8_moved 110 = .ok (.iload 9, 2) := by decide +kernel
theorem dX8_moved_112 : decode cX8_moved 112 = .ok (.ifCond .eq 10, 3) := by decide +kernel
theorem dX8_moved_115 : decode cX8_moved 115 = .ok (.iconst 1, 1) := by decide +kernel
theorem dX8_moved_116 : decode cX8_moved 116 = .ok (.iload 8, 2) := by decide +kernel
theorem dX8_moved_118 : decode cX8_moved 118 = .ok (.ishl, 1) := by decide +kernel
theorem dX8_moved_119 : decode cX8_moved 119 = .ok (.goto 4, 3) := by decide +kernel
theorem dX8_moved_122 : decode cX8_moved 122 = .ok (.iconst 0, 1) := by decide +kernel
theorem dX8_moved_123 : decode cX8_moved 123 = .ok (.ior, 1) := by decide +kernel
theorem dX8_moved_124 : decode cX8_moved 124 = .ok (.istore 6, 2) := by decide +kernel
theorem dX8_moved_126 : decode cX8_moved 126 = .ok (.iload 7, 2) := by decide +kernel
theorem dX8_moved_128 : decode cX8_moved 128 = .ok (.iload 9, 2) := by decide +kernel
theorem dX8_moved_130 : decode cX8_moved 130 = .ok (.ifCond .eq 7, 3) := by decide +kernel
theorem dX8_moved_133 : decode cX8_moved 133 = .ok (.iconst 1, 1) := by decide +kernel
theorem dX8_moved_134 : decode cX8_moved 134 = .ok (.goto 4, 3) := by decide +kernel
theorem dX8_moved_137 : decode cX8_moved 137 = .ok (.iconst 0, 1) := by decide +kernel
theorem dX8_moved_138 : decode cX8_moved 138 = .ok (.iadd, 1) := by decide +kernel
theorem dX8_moved_139 : decode cX8_moved 139 = .ok (.istore 7, 2) := by decide +kernel
theorem dX8_moved_141 : decode cX8_moved 141 = .ok (.iinc 8 1, 3) := by decide +kernel
theorem dX8_moved_144 : decode cX8_moved 144 = .ok (.goto (-82), 3) := by decide +kernel
theorem dX8_moved_147 : decode cX8_moved 147 = .ok (.iload 7, 2) := by decide +kernel
theorem dX8_moved_149 : decode cX8_moved 149 = .ok (.iload_n 3, 1) := by decide +kernel
theorem dX8_moved_150 : decode cX8_moved 150 = .ok (.if_icmp .lt 16, 3) := by decide +kernel
theorem dX8_moved_153 : decode cX8_moved 153 = .ok (.iload 7, 2) := by decide +kernel
theorem dX8_moved_155 : decode cX8_moved 155 = .ok (.iload_n 3, 1) := by decide +kernel
theorem dX8_moved_156 : decode cX8_moved 156 = .ok (.if_icmp .ne 14, 3) := by decide +kernel
theorem dX8_moved_159 : decode cX8_moved 159 = .ok (.iload 6, 2) := by decide +kernel
theorem dX8_moved_161 : decode cX8_moved 161 = .ok (.iload 4, 2) := by decide +kernel
theorem dX8_moved_163 : decode cX8_moved 163 = .ok (.if_icmp .ge 7, 3) := by decide +kernel
theorem dX8_moved_166 : decode cX8_moved 166 = .ok (.iconst 1, 1) := by decide +kernel
theorem dX8_moved_167 : decode cX8_moved 167 = .ok (.goto 4, 3) := by decide +kernel
theorem dX8_moved_170 : decode cX8_moved 170 = .ok (.iconst 0, 1) := by decide +kernel
theorem dX8_moved_171 : decode cX8_moved 171 = .ok (.istore 8, 2) := by decide +kernel
theorem dX8_moved_173 : decode cX8_moved 173 = .ok (.iload 8, 2) := by decide +kernel
theorem dX8_moved_175 : decode cX8_moved 175 = .ok (.ifCond .eq 8, 3) := by decide +kernel
theorem dX8_moved_178 : decode cX8_moved 178 = .ok (.iload 7, 2) := by decide +kernel
theorem dX8_moved_180 : decode cX8_moved 180 = .ok (.goto 4, 3) := by decide +kernel
theorem dX8_moved_183 : decode cX8_moved 183 = .ok (.iload_n 3, 1) := by decide +kernel
theorem dX8_moved_184 : decode cX8_moved 184 = .ok (.istore_n 3, 1) := by decide +kernel
theorem dX8_moved_185 : decode cX8_moved 185 = .ok (.iload 8, 2) := by decide +kernel
theorem dX8_moved_187 : decode cX8_moved 187 = .ok (.ifCond .eq 8, 3) := by decide +kernel
theorem dX8_moved_190 : decode cX8_moved 190 = .ok (.iload 6, 2) := by decide +kernel
theorem dX8_moved_192 : decode cX8_moved 192 = .ok (.goto 5, 3) := by decide +kernel
theorem dX8_moved_195 : decode cX8_moved 195 = .ok (.iload 4, 2) := by decide +kernel
theorem dX8_moved_197 : decode cX8_moved 197 = .ok (.istore 4, 2) := by decide +kernel
theorem dX8_moved_199 : decode cX8_moved 199 = .ok (.iinc 5 1, 3) := by decide +kernel
theorem dX8_moved_202 : decode cX8_moved 202 = .ok (.goto (-155), 3) := by decide +kernel
theorem dX8_moved_205 : decode cX8_moved 205 = .ok (.iload_n 1, 1) := by decide +kernel
theorem dX8_moved_206 : decode cX8_moved 206 = .ok (.ifCond .ne 7, 3) := by decide +kernel
theorem dX8_moved_209 : decode cX8_moved 209 = .ok (.iload_n 3, 1) := by decide +kernel
theorem dX8_moved_210 : decode cX8_moved 210 = .ok (.goto 5, 3) := by decide +kernel
theorem dX8_moved_213 : decode cX8_moved 213 = .ok (.iload 4, 2) := by decide +kernel
theorem dX8_moved_215 : decode cX8_moved 215 = .ok (.ireturn, 1) := by decide +kernel
set_option maxRecDepth 20000 in
theorem ggX8_moved_X8_in : GoodIn wsX8_moved wsX8_in := goodIn_r _ [12] rfl (by decide +kernel)
set_option maxRecDepth 20000 in
theorem gX8_moved_X8_in : GoodIn wsX8_moved (va_wsS RX8 60 yX8_in wsX8_in) := goodIn_app (goodIn_r _ [10, 11, 8] rfl (by decide +kernel)) ggX8_moved_X8_in
set_option maxRecDepth 20000 in
theorem ggX8_moved_X8_isThere : GoodIn wsX8_moved wsX8_isThere := goodIn_r _ [9, 4, 17, 18, 19, 20, 21, 22, 23, 24, 25, 26, 27, 28, 29, 30, 31, 32, 33, 34, 35, 36, 37, 38, 39, 40, 41, 42] rfl (by decide +kernel)
set_option maxRecDepth 20000 in
theorem gX8_moved_X8_isThere : GoodIn wsX8_moved (wsV RX8 192 RX8 yX8_isThere wsX8_isThere) := goodIn_app (goodIn_r _ [5, 6, 7, 8] rfl (by decide +kernel)) ggX8_moved_X8_isThere
set_option maxRecDepth 20000 in
theorem ggX8_moved_X8_stoneOf : GoodIn wsX8_moved wsX8_stoneOf := goodIn_r _ [16, 4, 17, 18, 19, 20, 21, 22, 23, 24, 25, 26, 27, 28, 29, 30, 31, 32, 33, 34, 35, 36, 37, 38, 39, 40, 41, 42] rfl (by decide +kernel)
set_option maxRecDepth 20000 in
theorem gX8_moved_X8_stoneOf : GoodIn wsX8_moved (wsV RX8 180 RX8 yX8_stoneOf wsX8_stoneOf) := goodIn_app (goodIn_r _ [13, 14, 15, 8] rfl (by decide +kernel)) ggX8_moved_X8_stoneOf
/-! X8_moved -/
abbrev rm_X8_moved : Room := { frames := 1, cells := 0, slots := 0, locals := 25 }
theorem iw_X8_moved_8 : ∀ w ∈ wsX80, w ∈ wsX8_moved := fun _ h => List.mem_cons_of_mem _ (List.mem_append_right _ h)
theorem fl_X8_moved_50 : Cond.fieldLink RX8 50 "NightStonesModel" "thrown" "I" ∈ wsX8_moved := List.mem_of_getElem? (i := 1) rfl
theorem fl_X8_moved_19 : Cond.fieldLink RX8 19 "NightStonesModel" "road" "[I" ∈ wsX8_moved := List.mem_of_getElem? (i := 4) rfl
theorem wd_X8_moved_c70 : Cond.constant RX8 70 (-1000001) ∈ wsX8_moved := List.mem_of_getElem? (i := 3) rfl
theorem wd_X8_moved_c196 : Cond.constant RX8 196 (-1000002) ∈ wsX8_moved := List.mem_of_getElem? (i := 2) rfl
def S_X8_moved_171 (x3 : Int32) (x4 : Int32) (x5 : Int32) (x6 : Int32) (x7 : Int32) (s0 : Int32) (R47 : Int32 → Int32 → Int32 → Prop) (K : Int32 → (Nat → Nat → Int32) → Prop) : Prop := ((s0 = 0 → ((s0 = 0 → R47 x3 x4 (x5 + 1)) ∧ (¬ (s0 = 0) → R47 x3 x6 (x5 + 1)))) ∧ (¬ (s0 = 0) → ((s0 = 0 → R47 x7 x4 (x5 + 1)) ∧ (¬ (s0 = 0) → R47 x7 x6 (x5 + 1)))))
set_option maxHeartbeats 4000000 in
set_option maxRecDepth 100000 in
theorem t_X8_moved_171 {y : nz_Y} {g : nz_G} (F : nz_F y g cX8_moved 10 wsX8_moved RX8 (some .int) rm_X8_moved) {wc0 : va_W} {sz : Nat} {K : Int32 → (Nat → Nat → Int32) → Prop} {R47 : Int32 → Int32 → Int32 → Prop} (a : Nat → Nat) (X : Nat → Nat → Int32) (v1 : Int32) (x2 : Int32) (x3 : Int32) (x4 : Int32) (x5 : Int32) (x6 : Int32) (x7 : Int32) (s0 : Int32) (c0_0 : Int32) (hQ : yz_A y = va_A wc0 sz ∧ yz_Q y = MQ (yz_b y) ((nz_Qi g wc0 (fun r (u : Nat → Nat → Int32) => K r u) (fun u => nz_wM g a u)) sz) (yz_a y) (yz_s y) 0 0 (va_A wc0 sz)) (hR47 : ∀ (x3 : Int32) (x4 : Int32) (x5 : Int32), R47 x3 x4 x5 → nz_V y g 0 0 [((a 0), .inr (8, [.int c0_0, .int (X 0 1), .ref (a 1), .ref (a 2), .ref (a 3), .ref (a 4), .ref (a 5), .ref (a 6), .int (X 0 8), .ref (a 7), .int (X 0 10), .int (X 0 11), .int (X 0 12), .int (X 0 13), .int (X 0 14), .int (X 0 15), .int (X 0 16), .int (X 0 17), .int (X 0 18), .ref (a 8), .ref (a 9), .ref (a 10), .ref (a 11), .ref (a 12), .ref (a 13), .int (X 0 25)])), ((a 1), .inl (nz_cI g, 8, .inl (X 1))), ((a 2), .inl (nz_cI g, 8, .inl (X 2))), ((a 3), .inl (nz_cI g, 320, .inl (X 3))), ((a 4), .inl (nz_cI g, 94, .inl (X 4))), ((a 5), .inl (nz_cI g, 94, .inl (X 5))), ((a 6), .inl (nz_cI g, 168, .inl (X 6))), ((a 7), .inl (nz_cI g, 400, .inl (X 7))), ((a 8), .inl (nz_cI g, 6, .inl (X 8))), ((a 9), .inl (nz_cI g, 49, .inl (X 9))), ((a 10), .inl (nz_cI g, 6, .inl (X 10))), ((a 11), .inl (nz_cZ g, 2, .inl (X 11))), ((a 12), .inl (nz_cI g, 188, .inl (X 12))), ((a 13), .inl (nz_cI g, 16, .inl (X 13)))] 47 [(0, .ref (a 0)), (1, .int v1), (2, .int x2), (3, .int x3), (4, .int x4), (5, .int x5)] []) : S_X8_moved_171 x3 x4 x5 x6 x7 s0 R47 K → nz_V y g 0 0 [((a 0), .inr (8, [.int c0_0, .int (X 0 1), .ref (a 1), .ref (a 2), .ref (a 3), .ref (a 4), .ref (a 5), .ref (a 6), .int (X 0 8), .ref (a 7), .int (X 0 10), .int (X 0 11), .int (X 0 12), .int (X 0 13), .int (X 0 14), .int (X 0 15), .int (X 0 16), .int (X 0 17), .int (X 0 18), .ref (a 8), .ref (a 9), .ref (a 10), .ref (a 11), .ref (a 12), .ref (a 13), .int (X 0 25)])), ((a 1), .inl (nz_cI g, 8, .inl (X 1))), ((a 2), .inl (nz_cI g, 8, .inl (X 2))), ((a 3), .inl (nz_cI g, 320, .inl (X 3))), ((a 4), .inl (nz_cI g, 94, .inl (X 4))), ((a 5), .inl (nz_cI g, 94, .inl (X 5))), ((a 6), .inl (nz_cI g, 168, .inl (X 6))), ((a 7), .inl (nz_cI g, 400, .inl (X 7))), ((a 8), .inl (nz_cI g, 6, .inl (X 8))), ((a 9), .inl (nz_cI g, 49, .inl (X 9))), ((a 10), .inl (nz_cI g, 6, .inl (X 10))), ((a 11), .inl (nz_cZ g, 2, .inl (X 11))), ((a 12), .inl (nz_cI g, 188, .inl (X 12))), ((a 13), .inl (nz_cI g, 16, .inl (X 13)))] 171 [(0, .ref (a 0)), (1, .int v1), (2, .int x2), (3, .int x3), (4, .int x4), (5, .int x5), (6, .int x6), (7, .int x7)] [.int s0] := by
  intro h
  unfold S_X8_moved_171 at h
  refine nz_istore (lv' := [(8, .int s0), (0, .ref (a 0)), (1, .int v1), (2, .int x2), (3, .int x3), (4, .int x4), (5, .int x5), (6, .int x6), (7, .int x7)]) F dX8_moved_171 (by decide) rfl ?_
  refine nz_iload F dX8_moved_173 0 rfl ?_
  refine nz_if_eq (tgt := 183) F dX8_moved_175 (by decide) (fun c9 => ?_) (fun c9 => ?_)
  · have h := h.1 c9
    refine nz_iload_n F dX8_moved_183 rfl 4 rfl ?_
    refine nz_istore_n (lv' := [(3, .int x3), (8, .int s0), (0, .ref (a 0)), (1, .int v1), (2, .int x2), (4, .int x4), (5, .int x5), (6, .int x6), (7, .int x7)]) F dX8_moved_184 rfl (by decide) rfl ?_
    refine nz_iload F dX8_moved_185 1 rfl ?_
    refine nz_if_eq (tgt := 195) F dX8_moved_187 (by decide) (fun c10 => ?_) (fun c10 => ?_)
    · have h := h.1 c10
      refine nz_iload F dX8_moved_195 5 rfl ?_
      refine nz_istore (lv' := [(4, .int x4), (3, .int x3), (8, .int s0), (0, .ref (a 0)), (1, .int v1), (2, .int x2), (5, .int x5), (6, .int x6), (7, .int x7)]) F dX8_moved_197 (by decide) rfl ?_
      refine nz_iinc (v := (x5 + 1)) (j := 6) (lv' := [(5, .int (x5 + 1)), (4, .int x4), (3, .int x3), (8, .int s0), (0, .ref (a 0)), (1, .int v1), (2, .int x2), (6, .int x6), (7, .int x7)]) F dX8_moved_199 rfl rfl (by decide) rfl ?_
      refine nz_goto (tgt := 47) F dX8_moved_202 (by decide) ?_
      refine nz_ls (lv' := [(0, .ref (a 0)), (1, .int v1), (2, .int x2), (3, .int x3), (4, .int x4), (5, .int (x5 + 1))]) [4, 5, 6, 2, 1, 0] rfl ?_
      exact hR47 x3 x4 (x5 + 1) h
    · have h := h.2 c10
      refine nz_iload F dX8_moved_190 7 rfl ?_
      refine nz_goto (tgt := 197) F dX8_moved_192 (by decide) ?_
      refine nz_istore (lv' := [(4, .int x6), (3, .int x3), (8, .int s0), (0, .ref (a 0)), (1, .int v1), (2, .int x2), (5, .int x5), (6, .int x6), (7, .int x7)]) F dX8_moved_197 (by decide) rfl ?_
      refine nz_iinc (v := (x5 + 1)) (j := 6) (lv' := [(5, .int (x5 + 1)), (4, .int x6), (3, .int x3), (8, .int s0), (0, .ref (a 0)), (1, .int v1), (2, .int x2), (6, .int x6), (7, .int x7)]) F dX8_moved_199 rfl rfl (by decide) rfl ?_
      refine nz_goto (tgt := 47) F dX8_moved_202 (by decide) ?_
      refine nz_ls (lv' := [(0, .ref (a 0)), (1, .int v1), (2, .int x2), (3, .int x3), (4, .int x6), (5, .int (x5 + 1))]) [4, 5, 6, 2, 1, 0] rfl ?_
      exact hR47 x3 x6 (x5 + 1) h
  · have h := h.2 c9
    refine nz_iload F dX8_moved_178 8 rfl ?_
    refine nz_goto (tgt := 184) F dX8_moved_180 (by decide) ?_
    refine nz_istore_n (lv' := [(3, .int x7), (8, .int s0), (0, .ref (a 0)), (1, .int v1), (2, .int x2), (4, .int x4), (5, .int x5), (6, .int x6), (7, .int x7)]) F dX8_moved_184 rfl (by decide) rfl ?_
    refine nz_iload F dX8_moved_185 1 rfl ?_
    refine nz_if_eq (tgt := 195) F dX8_moved_187 (by decide) (fun c11 => ?_) (fun c11 => ?_)
    · have h := h.1 c11
      refine nz_iload F dX8_moved_195 5 rfl ?_
      refine nz_istore (lv' := [(4, .int x4), (3, .int x7), (8, .int s0), (0, .ref (a 0)), (1, .int v1), (2, .int x2), (5, .int x5), (6, .int x6), (7, .int x7)]) F dX8_moved_197 (by decide) rfl ?_
      refine nz_iinc (v := (x5 + 1)) (j := 6) (lv' := [(5, .int (x5 + 1)), (4, .int x4), (3, .int x7), (8, .int s0), (0, .ref (a 0)), (1, .int v1), (2, .int x2), (6, .int x6), (7, .int x7)]) F dX8_moved_199 rfl rfl (by decide) rfl ?_
      refine nz_goto (tgt := 47) F dX8_moved_202 (by decide) ?_
      refine nz_ls (lv' := [(0, .ref (a 0)), (1, .int v1), (2, .int x2), (3, .int x7), (4, .int x4), (5, .int (x5 + 1))]) [4, 5, 6, 2, 1, 0] rfl ?_
      exact hR47 x7 x4 (x5 + 1) h
    · have h := h.2 c11
      refine nz_iload F dX8_moved_190 7 rfl ?_
      refine nz_goto (tgt := 197) F dX8_moved_192 (by decide) ?_
      refine nz_istore (lv' := [(4, .int x6), (3, .int x7), (8, .int s0), (0, .ref (a 0)), (1, .int v1), (2, .int x2), (5, .int x5), (6, .int x6), (7, .int x7)]) F dX8_moved_197 (by decide) rfl ?_
      refine nz_iinc (v := (x5 + 1)) (j := 6) (lv' := [(5, .int (x5 + 1)), (4, .int x6), (3, .int x7), (8, .int s0), (0, .ref (a 0)), (1, .int v1), (2, .int x2), (6, .int x6), (7, .int x7)]) F dX8_moved_199 rfl rfl (by decide) rfl ?_
      refine nz_goto (tgt := 47) F dX8_moved_202 (by decide) ?_
      refine nz_ls (lv' := [(0, .ref (a 0)), (1, .int v1), (2, .int x2), (3, .int x7), (4, .int x6), (5, .int (x5 + 1))]) [4, 5, 6, 2, 1, 0] rfl ?_
      exact hR47 x7 x6 (x5 + 1) h
def S_X8_moved_123 (x7 : Int32) (x8 : Int32) (x9 : Int32) (s0 : Int32) (s1 : Int32) (R62 : Int32 → Int32 → Int32 → Prop) (K : Int32 → (Nat → Nat → Int32) → Prop) : Prop := ((x9 = 0 → R62 (s1 ||| s0) (x7 + 0) (x8 + 1)) ∧ (¬ (x9 = 0) → R62 (s1 ||| s0) (x7 + 1) (x8 + 1)))
set_option maxHeartbeats 4000000 in
set_option maxRecDepth 100000 in
theorem t_X8_moved_123 {y : nz_Y} {g : nz_G} (F : nz_F y g cX8_moved 10 wsX8_moved RX8 (some .int) rm_X8_moved) {wc0 : va_W} {sz : Nat} {K : Int32 → (Nat → Nat → Int32) → Prop} {R62 : Int32 → Int32 → Int32 → Prop} (a : Nat → Nat) (X : Nat → Nat → Int32) (v1 : Int32) (x2 : Int32) (x3 : Int32) (x4 : Int32) (x5 : Int32) (x7 : Int32) (x8 : Int32) (x9 : Int32) (s0 : Int32) (s1 : Int32) (c0_0 : Int32) (hQ : yz_A y = va_A wc0 sz ∧ yz_Q y = MQ (yz_b y) ((nz_Qi g wc0 (fun r (u : Nat → Nat → Int32) => K r u) (fun u => nz_wM g a u)) sz) (yz_a y) (yz_s y) 0 0 (va_A wc0 sz)) (hR62 : ∀ (x6 : Int32) (x7 : Int32) (x8 : Int32), R62 x6 x7 x8 → nz_V y g 0 0 [((a 0), .inr (8, [.int c0_0, .int (X 0 1), .ref (a 1), .ref (a 2), .ref (a 3), .ref (a 4), .ref (a 5), .ref (a 6), .int (X 0 8), .ref (a 7), .int (X 0 10), .int (X 0 11), .int (X 0 12), .int (X 0 13), .int (X 0 14), .int (X 0 15), .int (X 0 16), .int (X 0 17), .int (X 0 18), .ref (a 8), .ref (a 9), .ref (a 10), .ref (a 11), .ref (a 12), .ref (a 13), .int (X 0 25)])), ((a 1), .inl (nz_cI g, 8, .inl (X 1))), ((a 2), .inl (nz_cI g, 8, .inl (X 2))), ((a 3), .inl (nz_cI g, 320, .inl (X 3))), ((a 4), .inl (nz_cI g, 94, .inl (X 4))), ((a 5), .inl (nz_cI g, 94, .inl (X 5))), ((a 6), .inl (nz_cI g, 168, .inl (X 6))), ((a 7), .inl (nz_cI g, 400, .inl (X 7))), ((a 8), .inl (nz_cI g, 6, .inl (X 8))), ((a 9), .inl (nz_cI g, 49, .inl (X 9))), ((a 10), .inl (nz_cI g, 6, .inl (X 10))), ((a 11), .inl (nz_cZ g, 2, .inl (X 11))), ((a 12), .inl (nz_cI g, 188, .inl (X 12))), ((a 13), .inl (nz_cI g, 16, .inl (X 13)))] 62 [(0, .ref (a 0)), (1, .int v1), (2, .int x2), (3, .int x3), (4, .int x4), (5, .int x5), (6, .int x6), (7, .int x7), (8, .int x8)] []) : S_X8_moved_123 x7 x8 x9 s0 s1 R62 K → nz_V y g 0 0 [((a 0), .inr (8, [.int c0_0, .int (X 0 1), .ref (a 1), .ref (a 2), .ref (a 3), .ref (a 4), .ref (a 5), .ref (a 6), .int (X 0 8), .ref (a 7), .int (X 0 10), .int (X 0 11), .int (X 0 12), .int (X 0 13), .int (X 0 14), .int (X 0 15), .int (X 0 16), .int (X 0 17), .int (X 0 18), .ref (a 8), .ref (a 9), .ref (a 10), .ref (a 11), .ref (a 12), .ref (a 13), .int (X 0 25)])), ((a 1), .inl (nz_cI g, 8, .inl (X 1))), ((a 2), .inl (nz_cI g, 8, .inl (X 2))), ((a 3), .inl (nz_cI g, 320, .inl (X 3))), ((a 4), .inl (nz_cI g, 94, .inl (X 4))), ((a 5), .inl (nz_cI g, 94, .inl (X 5))), ((a 6), .inl (nz_cI g, 168, .inl (X 6))), ((a 7), .inl (nz_cI g, 400, .inl (X 7))), ((a 8), .inl (nz_cI g, 6, .inl (X 8))), ((a 9), .inl (nz_cI g, 49, .inl (X 9))), ((a 10), .inl (nz_cI g, 6, .inl (X 10))), ((a 11), .inl (nz_cZ g, 2, .inl (X 11))), ((a 12), .inl (nz_cI g, 188, .inl (X 12))), ((a 13), .inl (nz_cI g, 16, .inl (X 13)))] 123 [(0, .ref (a 0)), (1, .int v1), (2, .int x2), (3, .int x3), (4, .int x4), (5, .int x5), (7, .int x7), (8, .int x8), (9, .int x9)] [.int s0, .int s1] := by
  intro h
  unfold S_X8_moved_123 at h
  refine nz_ior F dX8_moved_123 ?_
  refine nz_istore (lv' := [(6, .int (s1 ||| s0)), (0, .ref (a 0)), (1, .int v1), (2, .int x2), (3, .int x3), (4, .int x4), (5, .int x5), (7, .int x7), (8, .int x8), (9, .int x9)]) F dX8_moved_124 (by decide) rfl ?_
  refine nz_iload F dX8_moved_126 7 rfl ?_
  refine nz_iload F dX8_moved_128 9 rfl ?_
  refine nz_if_eq (tgt := 137) F dX8_moved_130 (by decide) (fun c20 => ?_) (fun c20 => ?_)
  · have h := h.1 c20
    refine nz_iconst (v := 0) F dX8_moved_137 (by decide) ?_
    refine nz_iadd F dX8_moved_138 ?_
    refine nz_istore (lv' := [(7, .int (x7 + 0)), (6, .int (s1 ||| s0)), (0, .ref (a 0)), (1, .int v1), (2, .int x2), (3, .int x3), (4, .int x4), (5, .int x5), (8, .int x8), (9, .int x9)]) F dX8_moved_139 (by decide) rfl ?_
    refine nz_iinc (v := (x8 + 1)) (j := 8) (lv' := [(8, .int (x8 + 1)), (7, .int (x7 + 0)), (6, .int (s1 ||| s0)), (0, .ref (a 0)), (1, .int v1), (2, .int x2), (3, .int x3), (4, .int x4), (5, .int x5), (9, .int x9)]) F dX8_moved_141 rfl rfl (by decide) rfl ?_
    refine nz_goto (tgt := 62) F dX8_moved_144 (by decide) ?_
    refine nz_ls (lv' := [(0, .ref (a 0)), (1, .int v1), (2, .int x2), (3, .int x3), (4, .int x4), (5, .int x5), (6, .int (s1 ||| s0)), (7, .int (x7 + 0)), (8, .int (x8 + 1))]) [3, 4, 5, 6, 7, 8, 2, 1, 0] rfl ?_
    exact hR62 (s1 ||| s0) (x7 + 0) (x8 + 1) h
  · have h := h.2 c20
    refine nz_iconst (v := 1) F dX8_moved_133 (by decide) ?_
    refine nz_goto (tgt := 138) F dX8_moved_134 (by decide) ?_
    refine nz_iadd F dX8_moved_138 ?_
    refine nz_istore (lv' := [(7, .int (x7 + 1)), (6, .int (s1 ||| s0)), (0, .ref (a 0)), (1, .int v1), (2, .int x2), (3, .int x3), (4, .int x4), (5, .int x5), (8, .int x8), (9, .int x9)]) F dX8_moved_139 (by decide) rfl ?_
    refine nz_iinc (v := (x8 + 1)) (j := 8) (lv' := [(8, .int (x8 + 1)), (7, .int (x7 + 1)), (6, .int (s1 ||| s0)), (0, .ref (a 0)), (1, .int v1), (2, .int x2), (3, .int x3), (4, .int x4), (5, .int x5), (9, .int x9)]) F dX8_moved_141 rfl rfl (by decide) rfl ?_
    refine nz_goto (tgt := 62) F dX8_moved_144 (by decide) ?_
    refine nz_ls (lv' := [(0, .ref (a 0)), (1, .int v1), (2, .int x2), (3, .int x3), (4, .int x4), (5, .int x5), (6, .int (s1 ||| s0)), (7, .int (x7 + 1)), (8, .int (x8 + 1))]) [3, 4, 5, 6, 7, 8, 2, 1, 0] rfl ?_
    exact hR62 (s1 ||| s0) (x7 + 1) (x8 + 1) h
def S_X8_moved_62 (X : Nat → Nat → Int32) (x2 : Int32) (x3 : Int32) (x4 : Int32) (x5 : Int32) (R47 : Int32 → Int32 → Int32 → Prop) (K : Int32 → (Nat → Nat → Int32) → Prop) (R62 : Int32 → Int32 → Int32 → Prop) (x6 : Int32) (x7 : Int32) (x8 : Int32) : Prop := ((x2 ≤ x8 → ((x7 < x3 → S_X8_moved_171 x3 x4 x5 x6 x7 1 R47 K) ∧ (¬ (x7 < x3) → ((¬ x7 = x3 → S_X8_moved_171 x3 x4 x5 x6 x7 0 R47 K) ∧ (x7 = x3 → ((x4 ≤ x6 → S_X8_moved_171 x3 x4 x5 x6 x7 0 R47 K) ∧ (¬ (x4 ≤ x6) → S_X8_moved_171 x3 x4 x5 x6 x7 1 R47 K))))))) ∧ (¬ (x2 ≤ x8) → wp_X8_stoneOf (X 4) x8 1 (fun q14 => wp_X8_stoneOf (X 4) x8 0 (fun q15 => wp_X8_stoneOf (X 4) x5 1 (fun q16 => wp_X8_stoneOf (X 4) x5 0 (fun q17 => (((q14 - q15) = (q16 - q17) → S_X8_moved_123 x7 x8 0 0 x6 R62 K) ∧ (¬ ((q14 - q15) = (q16 - q17)) → S_X8_moved_123 x7 x8 1 (1 <<< (x8 &&& 31)) x6 R62 K))))))))
set_option maxHeartbeats 4000000 in
set_option maxRecDepth 100000 in
theorem t_X8_moved_62 {y : nz_Y} {g : nz_G} (F : nz_F y g cX8_moved 10 wsX8_moved RX8 (some .int) rm_X8_moved) {wc0 : va_W} {sz : Nat} {K : Int32 → (Nat → Nat → Int32) → Prop} {R47 : Int32 → Int32 → Int32 → Prop} (a : Nat → Nat) (X : Nat → Nat → Int32) (v1 : Int32) (x2 : Int32) (x3 : Int32) (x4 : Int32) (x5 : Int32) (c0_0 : Int32) (hQ : yz_A y = va_A wc0 sz ∧ yz_Q y = MQ (yz_b y) ((nz_Qi g wc0 (fun r (u : Nat → Nat → Int32) => K r u) (fun u => nz_wM g a u)) sz) (yz_a y) (yz_s y) 0 0 (va_A wc0 sz)) (hR47 : ∀ (x3 : Int32) (x4 : Int32) (x5 : Int32), R47 x3 x4 x5 → nz_V y g 0 0 [((a 0), .inr (8, [.int c0_0, .int (X 0 1), .ref (a 1), .ref (a 2), .ref (a 3), .ref (a 4), .ref (a 5), .ref (a 6), .int (X 0 8), .ref (a 7), .int (X 0 10), .int (X 0 11), .int (X 0 12), .int (X 0 13), .int (X 0 14), .int (X 0 15), .int (X 0 16), .int (X 0 17), .int (X 0 18), .ref (a 8), .ref (a 9), .ref (a 10), .ref (a 11), .ref (a 12), .ref (a 13), .int (X 0 25)])), ((a 1), .inl (nz_cI g, 8, .inl (X 1))), ((a 2), .inl (nz_cI g, 8, .inl (X 2))), ((a 3), .inl (nz_cI g, 320, .inl (X 3))), ((a 4), .inl (nz_cI g, 94, .inl (X 4))), ((a 5), .inl (nz_cI g, 94, .inl (X 5))), ((a 6), .inl (nz_cI g, 168, .inl (X 6))), ((a 7), .inl (nz_cI g, 400, .inl (X 7))), ((a 8), .inl (nz_cI g, 6, .inl (X 8))), ((a 9), .inl (nz_cI g, 49, .inl (X 9))), ((a 10), .inl (nz_cI g, 6, .inl (X 10))), ((a 11), .inl (nz_cZ g, 2, .inl (X 11))), ((a 12), .inl (nz_cI g, 188, .inl (X 12))), ((a 13), .inl (nz_cI g, 16, .inl (X 13)))] 47 [(0, .ref (a 0)), (1, .int v1), (2, .int x2), (3, .int x3), (4, .int x4), (5, .int x5)] []) : ∀ (n1 : Nat) (x6 : Int32) (x7 : Int32) (x8 : Int32), nz_it (fun _ _ _ => False) (S_X8_moved_62 X x2 x3 x4 x5 R47 K) n1 x6 x7 x8 → nz_V y g 0 0 [((a 0), .inr (8, [.int c0_0, .int (X 0 1), .ref (a 1), .ref (a 2), .ref (a 3), .ref (a 4), .ref (a 5), .ref (a 6), .int (X 0 8), .ref (a 7), .int (X 0 10), .int (X 0 11), .int (X 0 12), .int (X 0 13), .int (X 0 14), .int (X 0 15), .int (X 0 16), .int (X 0 17), .int (X 0 18), .ref (a 8), .ref (a 9), .ref (a 10), .ref (a 11), .ref (a 12), .ref (a 13), .int (X 0 25)])), ((a 1), .inl (nz_cI g, 8, .inl (X 1))), ((a 2), .inl (nz_cI g, 8, .inl (X 2))), ((a 3), .inl (nz_cI g, 320, .inl (X 3))), ((a 4), .inl (nz_cI g, 94, .inl (X 4))), ((a 5), .inl (nz_cI g, 94, .inl (X 5))), ((a 6), .inl (nz_cI g, 168, .inl (X 6))), ((a 7), .inl (nz_cI g, 400, .inl (X 7))), ((a 8), .inl (nz_cI g, 6, .inl (X 8))), ((a 9), .inl (nz_cI g, 49, .inl (X 9))), ((a 10), .inl (nz_cI g, 6, .inl (X 10))), ((a 11), .inl (nz_cZ g, 2, .inl (X 11))), ((a 12), .inl (nz_cI g, 188, .inl (X 12))), ((a 13), .inl (nz_cI g, 16, .inl (X 13)))] 62 [(0, .ref (a 0)), (1, .int v1), (2, .int x2), (3, .int x3), (4, .int x4), (5, .int x5), (6, .int x6), (7, .int x7), (8, .int x8)] [] := by
  intro n1
  induction n1 with
  | zero =>
    intro x6 x7 x8 h
    exact h.elim
  | succ n1 hR62 =>
    intro x6 x7 x8 h
    have h : S_X8_moved_62 X x2 x3 x4 x5 R47 K (nz_it (fun _ _ _ => False) (S_X8_moved_62 X x2 x3 x4 x5 R47 K) n1) x6 x7 x8 := h
    unfold S_X8_moved_62 at h
    refine nz_iload F dX8_moved_62 8 rfl ?_
    refine nz_iload_n F dX8_moved_64 rfl 2 rfl ?_
    refine nz_icmp_ge (tgt := 147) F dX8_moved_65 (by decide) (fun c7 => ?_) (fun c7 => ?_)
    · have h := h.1 c7
      refine nz_iload F dX8_moved_147 7 rfl ?_
      refine nz_iload_n F dX8_moved_149 rfl 3 rfl ?_
      refine nz_icmp_lt (tgt := 166) F dX8_moved_150 (by decide) (fun c8 => ?_) (fun c8 => ?_)
      · have h := h.1 c8
        refine nz_iconst (v := 1) F dX8_moved_166 (by decide) ?_
        refine nz_goto (tgt := 171) F dX8_moved_167 (by decide) ?_
        refine nz_ls (lv' := [(0, .ref (a 0)), (1, .int v1), (2, .int x2), (3, .int x3), (4, .int x4), (5, .int x5), (6, .int x6), (7, .int x7)]) [0, 1, 2, 3, 4, 5, 6, 7] rfl ?_
        exact t_X8_moved_171 F a X v1 x2 x3 x4 x5 x6 x7 1 c0_0 hQ hR47 h
      · have h := h.2 c8
        refine nz_iload F dX8_moved_153 7 rfl ?_
        refine nz_iload_n F dX8_moved_155 rfl 3 rfl ?_
        refine nz_icmp_ne (tgt := 170) F dX8_moved_156 (by decide) (fun c12 => ?_) (fun c12 => ?_)
        · have h := h.1 c12
          refine nz_iconst (v := 0) F dX8_moved_170 (by decide) ?_
          refine nz_ls (lv' := [(0, .ref (a 0)), (1, .int v1), (2, .int x2), (3, .int x3), (4, .int x4), (5, .int x5), (6, .int x6), (7, .int x7)]) [0, 1, 2, 3, 4, 5, 6, 7] rfl ?_
          exact t_X8_moved_171 F a X v1 x2 x3 x4 x5 x6 x7 0 c0_0 hQ hR47 h
        · have h := h.2 c12
          refine nz_iload F dX8_moved_159 6 rfl ?_
          refine nz_iload F dX8_moved_161 4 rfl ?_
          refine nz_icmp_ge (tgt := 170) F dX8_moved_163 (by decide) (fun c13 => ?_) (fun c13 => ?_)
          · have h := h.1 c13
            refine nz_iconst (v := 0) F dX8_moved_170 (by decide) ?_
            refine nz_ls (lv' := [(0, .ref (a 0)), (1, .int v1), (2, .int x2), (3, .int x3), (4, .int x4), (5, .int x5), (6, .int x6), (7, .int x7)]) [0, 1, 2, 3, 4, 5, 6, 7] rfl ?_
            exact t_X8_moved_171 F a X v1 x2 x3 x4 x5 x6 x7 0 c0_0 hQ hR47 h
          · have h := h.2 c13
            refine nz_iconst (v := 1) F dX8_moved_166 (by decide) ?_
            refine nz_goto (tgt := 171) F dX8_moved_167 (by decide) ?_
            refine nz_ls (lv' := [(0, .ref (a 0)), (1, .int v1), (2, .int x2), (3, .int x3), (4, .int x4), (5, .int x5), (6, .int x6), (7, .int x7)]) [0, 1, 2, 3, 4, 5, 6, 7] rfl ?_
            exact t_X8_moved_171 F a X v1 x2 x3 x4 x5 x6 x7 1 c0_0 hQ hR47 h
    · have h := h.2 c7
      refine nz_aload_n F dX8_moved_68 rfl 0 rfl ?_
      refine nz_iload F dX8_moved_69 8 rfl ?_
      refine nz_iconst (v := 1) F dX8_moved_71 (by decide) ?_
      refine k_X8_stoneOf (a 0) (a 1) (a 2) (a 3) (a 4) (a 5) (a 6) (a 7) (a 8) (a 9) (a 10) (a 11) (a 12) (a 13) c0_0 (X 0 1) (X 0 8) (X 0 10) (X 0 11) (X 0 12) (X 0 13) (X 0 14) (X 0 15) (X 0 16) (X 0 17) (X 0 18) (X 0 25) (X 1) (X 2) (X 3) (X 4) (X 5) (X 6) (X 7) (X 8) (X 9) (X 10) (X 11) (X 12) (X 13) x8 1 (fun hM => nz_runV F gX8_moved_X8_stoneOf rfl hd_X8_stoneOf rfl hM dX8_moved_72 [0, 1, 2, 3, 4, 5, 6, 7, 8, 9, 10, 11, 12, 13] rfl rfl 0 rfl rfl rfl (Nat.le_of_ble_eq_true rfl) rfl) h ([((a 0), .inr (8, [.int c0_0, .int (X 0 1), .ref (a 1), .ref (a 2), .ref (a 3), .ref (a 4), .ref (a 5), .ref (a 6), .int (X 0 8), .ref (a 7), .int (X 0 10), .int (X 0 11), .int (X 0 12), .int (X 0 13), .int (X 0 14), .int (X 0 15), .int (X 0 16), .int (X 0 17), .int (X 0 18), .ref (a 8), .ref (a 9), .ref (a 10), .ref (a 11), .ref (a 12), .ref (a 13), .int (X 0 25)])), ((a 1), .inl (nz_cI g, 8, .inl (X 1))), ((a 2), .inl (nz_cI g, 8, .inl (X 2))), ((a 3), .inl (nz_cI g, 320, .inl (X 3))), ((a 4), .inl (nz_cI g, 94, .inl (X 4))), ((a 5), .inl (nz_cI g, 94, .inl (X 5))), ((a 6), .inl (nz_cI g, 168, .inl (X 6))), ((a 7), .inl (nz_cI g, 400, .inl (X 7))), ((a 8), .inl (nz_cI g, 6, .inl (X 8))), ((a 9), .inl (nz_cI g, 49, .inl (X 9))), ((a 10), .inl (nz_cI g, 6, .inl (X 10))), ((a 11), .inl (nz_cZ g, 2, .inl (X 11))), ((a 12), .inl (nz_cI g, 188, .inl (X 12))), ((a 13), .inl (nz_cI g, 16, .inl (X 13)))]) (rfl) (fun q14 h => ?_)
      refine nz_aload_n F dX8_moved_75 rfl 0 rfl ?_
      refine nz_iload F dX8_moved_76 8 rfl ?_
      refine nz_iconst (v := 0) F dX8_moved_78 (by decide) ?_
      refine k_X8_stoneOf (a 0) (a 1) (a 2) (a 3) (a 4) (a 5) (a 6) (a 7) (a 8) (a 9) (a 10) (a 11) (a 12) (a 13) c0_0 (X 0 1) (X 0 8) (X 0 10) (X 0 11) (X 0 12) (X 0 13) (X 0 14) (X 0 15) (X 0 16) (X 0 17) (X 0 18) (X 0 25) (X 1) (X 2) (X 3) (X 4) (X 5) (X 6) (X 7) (X 8) (X 9) (X 10) (X 11) (X 12) (X 13) x8 0 (fun hM => nz_runV F gX8_moved_X8_stoneOf rfl hd_X8_stoneOf rfl hM dX8_moved_79 [0, 1, 2, 3, 4, 5, 6, 7, 8, 9, 10, 11, 12, 13] rfl rfl 0 rfl rfl rfl (Nat.le_of_ble_eq_true rfl) rfl) h ([((a 0), .inr (8, [.int c0_0, .int (X 0 1), .ref (a 1), .ref (a 2), .ref (a 3), .ref (a 4), .ref (a 5), .ref (a 6), .int (X 0 8), .ref (a 7), .int (X 0 10), .int (X 0 11), .int (X 0 12), .int (X 0 13), .int (X 0 14), .int (X 0 15), .int (X 0 16), .int (X 0 17), .int (X 0 18), .ref (a 8), .ref (a 9), .ref (a 10), .ref (a 11), .ref (a 12), .ref (a 13), .int (X 0 25)])), ((a 1), .inl (nz_cI g, 8, .inl (X 1))), ((a 2), .inl (nz_cI g, 8, .inl (X 2))), ((a 3), .inl (nz_cI g, 320, .inl (X 3))), ((a 4), .inl (nz_cI g, 94, .inl (X 4))), ((a 5), .inl (nz_cI g, 94, .inl (X 5))), ((a 6), .inl (nz_cI g, 168, .inl (X 6))), ((a 7), .inl (nz_cI g, 400, .inl (X 7))), ((a 8), .inl (nz_cI g, 6, .inl (X 8))), ((a 9), .inl (nz_cI g, 49, .inl (X 9))), ((a 10), .inl (nz_cI g, 6, .inl (X 10))), ((a 11), .inl (nz_cZ g, 2, .inl (X 11))), ((a 12), .inl (nz_cI g, 188, .inl (X 12))), ((a 13), .inl (nz_cI g, 16, .inl (X 13)))]) (rfl) (fun q15 h => ?_)
      refine nz_isub F dX8_moved_82 ?_
      refine nz_aload_n F dX8_moved_83 rfl 0 rfl ?_
      refine nz_iload F dX8_moved_84 5 rfl ?_
      refine nz_iconst (v := 1) F dX8_moved_86 (by decide) ?_
      refine k_X8_stoneOf (a 0) (a 1) (a 2) (a 3) (a 4) (a 5) (a 6) (a 7) (a 8) (a 9) (a 10) (a 11) (a 12) (a 13) c0_0 (X 0 1) (X 0 8) (X 0 10) (X 0 11) (X 0 12) (X 0 13) (X 0 14) (X 0 15) (X 0 16) (X 0 17) (X 0 18) (X 0 25) (X 1) (X 2) (X 3) (X 4) (X 5) (X 6) (X 7) (X 8) (X 9) (X 10) (X 11) (X 12) (X 13) x5 1 (fun hM => nz_runV F gX8_moved_X8_stoneOf rfl hd_X8_stoneOf rfl hM dX8_moved_87 [0, 1, 2, 3, 4, 5, 6, 7, 8, 9, 10, 11, 12, 13] rfl rfl 0 rfl rfl rfl (Nat.le_of_ble_eq_true rfl) rfl) h ([((a 0), .inr (8, [.int c0_0, .int (X 0 1), .ref (a 1), .ref (a 2), .ref (a 3), .ref (a 4), .ref (a 5), .ref (a 6), .int (X 0 8), .ref (a 7), .int (X 0 10), .int (X 0 11), .int (X 0 12), .int (X 0 13), .int (X 0 14), .int (X 0 15), .int (X 0 16), .int (X 0 17), .int (X 0 18), .ref (a 8), .ref (a 9), .ref (a 10), .ref (a 11), .ref (a 12), .ref (a 13), .int (X 0 25)])), ((a 1), .inl (nz_cI g, 8, .inl (X 1))), ((a 2), .inl (nz_cI g, 8, .inl (X 2))), ((a 3), .inl (nz_cI g, 320, .inl (X 3))), ((a 4), .inl (nz_cI g, 94, .inl (X 4))), ((a 5), .inl (nz_cI g, 94, .inl (X 5))), ((a 6), .inl (nz_cI g, 168, .inl (X 6))), ((a 7), .inl (nz_cI g, 400, .inl (X 7))), ((a 8), .inl (nz_cI g, 6, .inl (X 8))), ((a 9), .inl (nz_cI g, 49, .inl (X 9))), ((a 10), .inl (nz_cI g, 6, .inl (X 10))), ((a 11), .inl (nz_cZ g, 2, .inl (X 11))), ((a 12), .inl (nz_cI g, 188, .inl (X 12))), ((a 13), .inl (nz_cI g, 16, .inl (X 13)))]) (rfl) (fun q16 h => ?_)
      refine nz_aload_n F dX8_moved_90 rfl 0 rfl ?_
      refine nz_iload F dX8_moved_91 5 rfl ?_
      refine nz_iconst (v := 0) F dX8_moved_93 (by decide) ?_
      refine k_X8_stoneOf (a 0) (a 1) (a 2) (a 3) (a 4) (a 5) (a 6) (a 7) (a 8) (a 9) (a 10) (a 11) (a 12) (a 13) c0_0 (X 0 1) (X 0 8) (X 0 10) (X 0 11) (X 0 12) (X 0 13) (X 0 14) (X 0 15) (X 0 16) (X 0 17) (X 0 18) (X 0 25) (X 1) (X 2) (X 3) (X 4) (X 5) (X 6) (X 7) (X 8) (X 9) (X 10) (X 11) (X 12) (X 13) x5 0 (fun hM => nz_runV F gX8_moved_X8_stoneOf rfl hd_X8_stoneOf rfl hM dX8_moved_94 [0, 1, 2, 3, 4, 5, 6, 7, 8, 9, 10, 11, 12, 13] rfl rfl 0 rfl rfl rfl (Nat.le_of_ble_eq_true rfl) rfl) h ([((a 0), .inr (8, [.int c0_0, .int (X 0 1), .ref (a 1), .ref (a 2), .ref (a 3), .ref (a 4), .ref (a 5), .ref (a 6), .int (X 0 8), .ref (a 7), .int (X 0 10), .int (X 0 11), .int (X 0 12), .int (X 0 13), .int (X 0 14), .int (X 0 15), .int (X 0 16), .int (X 0 17), .int (X 0 18), .ref (a 8), .ref (a 9), .ref (a 10), .ref (a 11), .ref (a 12), .ref (a 13), .int (X 0 25)])), ((a 1), .inl (nz_cI g, 8, .inl (X 1))), ((a 2), .inl (nz_cI g, 8, .inl (X 2))), ((a 3), .inl (nz_cI g, 320, .inl (X 3))), ((a 4), .inl (nz_cI g, 94, .inl (X 4))), ((a 5), .inl (nz_cI g, 94, .inl (X 5))), ((a 6), .inl (nz_cI g, 168, .inl (X 6))), ((a 7), .inl (nz_cI g, 400, .inl (X 7))), ((a 8), .inl (nz_cI g, 6, .inl (X 8))), ((a 9), .inl (nz_cI g, 49, .inl (X 9))), ((a 10), .inl (nz_cI g, 6, .inl (X 10))), ((a 11), .inl (nz_cZ g, 2, .inl (X 11))), ((a 12), .inl (nz_cI g, 188, .inl (X 12))), ((a 13), .inl (nz_cI g, 16, .inl (X 13)))]) (rfl) (fun q17 h => ?_)
      refine nz_isub F dX8_moved_97 ?_
      refine nz_icmp_eq (tgt := 105) F dX8_moved_98 (by decide) (fun c18 => ?_) (fun c18 => ?_)
      · have h := h.1 c18
        refine nz_iconst (v := 0) F dX8_moved_105 (by decide) ?_
        refine nz_istore (lv' := [(9, .int 0), (0, .ref (a 0)), (1, .int v1), (2, .int x2), (3, .int x3), (4, .int x4), (5, .int x5), (6, .int x6), (7, .int x7), (8, .int x8)]) F dX8_moved_106 (by decide) rfl ?_
        refine nz_iload F dX8_moved_108 7 rfl ?_
        refine nz_iload F dX8_moved_110 0 rfl ?_
        refine nz_if_eq (tgt := 122) F dX8_moved_112 (by decide) (fun _ => ?_) (fun c19 => absurd c19 (by decide))
        refine nz_iconst (v := 0) F dX8_moved_122 (by decide) ?_
        refine nz_ls (lv' := [(0, .ref (a 0)), (1, .int v1), (2, .int x2), (3, .int x3), (4, .int x4), (5, .int x5), (7, .int x7), (8, .int x8), (9, .int 0)]) [1, 2, 3, 4, 5, 6, 8, 9, 0] rfl ?_
        exact t_X8_moved_123 F a X v1 x2 x3 x4 x5 x7 x8 0 0 x6 c0_0 hQ hR62 h
      · have h := h.2 c18
        refine nz_iconst (v := 1) F dX8_moved_101 (by decide) ?_
        refine nz_goto (tgt := 106) F dX8_moved_102 (by decide) ?_
        refine nz_istore (lv' := [(9, .int 1), (0, .ref (a 0)), (1, .int v1), (2, .int x2), (3, .int x3), (4, .int x4), (5, .int x5), (6, .int x6), (7, .int x7), (8, .int x8)]) F dX8_moved_106 (by decide) rfl ?_
        refine nz_iload F dX8_moved_108 7 rfl ?_
        refine nz_iload F dX8_moved_110 0 rfl ?_
        refine nz_if_eq (tgt := 122) F dX8_moved_112 (by decide) (fun c21 => absurd c21 (by decide)) (fun _ => ?_)
        refine nz_iconst (v := 1) F dX8_moved_115 (by decide) ?_
        refine nz_iload F dX8_moved_116 9 rfl ?_
        refine nz_ishl F dX8_moved_118 ?_
        refine nz_goto (tgt := 123) F dX8_moved_119 (by decide) ?_
        refine nz_ls (lv' := [(0, .ref (a 0)), (1, .int v1), (2, .int x2), (3, .int x3), (4, .int x4), (5, .int x5), (7, .int x7), (8, .int x8), (9, .int 1)]) [1, 2, 3, 4, 5, 6, 8, 9, 0] rfl ?_
        exact t_X8_moved_123 F a X v1 x2 x3 x4 x5 x7 x8 1 (1 <<< (x8 &&& 31)) x6 c0_0 hQ hR62 h
def S_X8_moved_47 (X : Nat → Nat → Int32) (v1 : Int32) (x2 : Int32) (c0_0 : Int32) (K : Int32 → (Nat → Nat → Int32) → Prop) (R47 : Int32 → Int32 → Int32 → Prop) (x3 : Int32) (x4 : Int32) (x5 : Int32) : Prop := ((x2 ≤ x5 → ((¬ v1 = 0 → K x4 (va_up X 0 (upd (X 0) 0 c0_0))) ∧ (v1 = 0 → K x3 (va_up X 0 (upd (X 0) 0 c0_0))))) ∧ (¬ (x2 ≤ x5) → (∃ n, nz_it (fun _ _ _ => False) (S_X8_moved_62 X x2 x3 x4 x5 R47 K) n 0 0 0)))
set_option maxHeartbeats 4000000 in
set_option maxRecDepth 100000 in
theorem t_X8_moved_47 {y : nz_Y} {g : nz_G} (F : nz_F y g cX8_moved 10 wsX8_moved RX8 (some .int) rm_X8_moved) {wc0 : va_W} {sz : Nat} {K : Int32 → (Nat → Nat → Int32) → Prop} (a : Nat → Nat) (X : Nat → Nat → Int32) (v1 : Int32) (x2 : Int32) (c0_0 : Int32) (hQ : yz_A y = va_A wc0 sz ∧ yz_Q y = MQ (yz_b y) ((nz_Qi g wc0 (fun r (u : Nat → Nat → Int32) => K r u) (fun u => nz_wM g a u)) sz) (yz_a y) (yz_s y) 0 0 (va_A wc0 sz)) : ∀ (n1 : Nat) (x3 : Int32) (x4 : Int32) (x5 : Int32), nz_it (fun _ _ _ => False) (S_X8_moved_47 X v1 x2 c0_0 K) n1 x3 x4 x5 → nz_V y g 0 0 [((a 0), .inr (8, [.int c0_0, .int (X 0 1), .ref (a 1), .ref (a 2), .ref (a 3), .ref (a 4), .ref (a 5), .ref (a 6), .int (X 0 8), .ref (a 7), .int (X 0 10), .int (X 0 11), .int (X 0 12), .int (X 0 13), .int (X 0 14), .int (X 0 15), .int (X 0 16), .int (X 0 17), .int (X 0 18), .ref (a 8), .ref (a 9), .ref (a 10), .ref (a 11), .ref (a 12), .ref (a 13), .int (X 0 25)])), ((a 1), .inl (nz_cI g, 8, .inl (X 1))), ((a 2), .inl (nz_cI g, 8, .inl (X 2))), ((a 3), .inl (nz_cI g, 320, .inl (X 3))), ((a 4), .inl (nz_cI g, 94, .inl (X 4))), ((a 5), .inl (nz_cI g, 94, .inl (X 5))), ((a 6), .inl (nz_cI g, 168, .inl (X 6))), ((a 7), .inl (nz_cI g, 400, .inl (X 7))), ((a 8), .inl (nz_cI g, 6, .inl (X 8))), ((a 9), .inl (nz_cI g, 49, .inl (X 9))), ((a 10), .inl (nz_cI g, 6, .inl (X 10))), ((a 11), .inl (nz_cZ g, 2, .inl (X 11))), ((a 12), .inl (nz_cI g, 188, .inl (X 12))), ((a 13), .inl (nz_cI g, 16, .inl (X 13)))] 47 [(0, .ref (a 0)), (1, .int v1), (2, .int x2), (3, .int x3), (4, .int x4), (5, .int x5)] [] := by
  intro n1
  induction n1 with
  | zero =>
    intro x3 x4 x5 h
    exact h.elim
  | succ n1 hR47 =>
    intro x3 x4 x5 h
    have h : S_X8_moved_47 X v1 x2 c0_0 K (nz_it (fun _ _ _ => False) (S_X8_moved_47 X v1 x2 c0_0 K) n1) x3 x4 x5 := h
    unfold S_X8_moved_47 at h
    refine nz_iload F dX8_moved_47 5 rfl ?_
    refine nz_iload_n F dX8_moved_49 rfl 2 rfl ?_
    refine nz_icmp_ge (tgt := 205) F dX8_moved_50 (by decide) (fun c5 => ?_) (fun c5 => ?_)
    · have h := h.1 c5
      refine nz_iload_n F dX8_moved_205 rfl 1 rfl ?_
      refine nz_if_ne (tgt := 213) F dX8_moved_206 (by decide) (fun c6 => ?_) (fun c6 => ?_)
      · have h := h.1 c6
        refine nz_iload F dX8_moved_213 4 rfl ?_
        exact nz_iret F hQ (va_up X 0 (upd (X 0) 0 c0_0)) h rfl dX8_moved_215
      · have h := h.2 c6
        refine nz_iload_n F dX8_moved_209 rfl 3 rfl ?_
        refine nz_goto (tgt := 215) F dX8_moved_210 (by decide) ?_
        exact nz_iret F hQ (va_up X 0 (upd (X 0) 0 c0_0)) h rfl dX8_moved_215
    · have h := h.2 c5
      refine nz_iconst (v := 0) F dX8_moved_53 (by decide) ?_
      refine nz_istore (lv' := [(6, .int 0), (0, .ref (a 0)), (1, .int v1), (2, .int x2), (3, .int x3), (4, .int x4), (5, .int x5)]) F dX8_moved_54 (by decide) rfl ?_
      refine nz_iconst (v := 0) F dX8_moved_56 (by decide) ?_
      refine nz_istore (lv' := [(7, .int 0), (6, .int 0), (0, .ref (a 0)), (1, .int v1), (2, .int x2), (3, .int x3), (4, .int x4), (5, .int x5)]) F dX8_moved_57 (by decide) rfl ?_
      refine nz_iconst (v := 0) F dX8_moved_59 (by decide) ?_
      refine nz_istore (lv' := [(8, .int 0), (7, .int 0), (6, .int 0), (0, .ref (a 0)), (1, .int v1), (2, .int x2), (3, .int x3), (4, .int x4), (5, .int x5)]) F dX8_moved_60 (by decide) rfl ?_
      refine nz_ls (lv' := [(0, .ref (a 0)), (1, .int v1), (2, .int x2), (3, .int x3), (4, .int x4), (5, .int x5), (6, .int 0), (7, .int 0), (8, .int 0)]) [3, 4, 5, 6, 7, 8, 2, 1, 0] rfl ?_
      obtain ⟨n1, h⟩ := h
      exact t_X8_moved_62 F a X v1 x2 x3 x4 x5 c0_0 hQ hR47 n1 0 0 0 h
def wp_X8_moved (X : Nat → Nat → Int32) (v1 : Int32) (K : Int32 → (Nat → Nat → Int32) → Prop) : Prop := wp_X8_isThere (X 4) (fun q1 => ((¬ q1 = 0 → wp_X8_in ((v1 : Int32).toInt64) 0 1 (fun q3 => ((¬ q3 = 0 → (∃ n, nz_it (fun _ _ _ => False) (S_X8_moved_47 X v1 ((X 4) 4) 0 K) n ((X 4) 4) ((1 <<< (((X 4) 4) &&& 31)) - 1) 0)) ∧ (q3 = 0 → K (-1000001 : Int32) (va_up X 0 (upd (X 0) 0 0)))))) ∧ (q1 = 0 → K (-1000002 : Int32) (va_up X 0 (upd (X 0) 0 0)))))
set_option maxHeartbeats 4000000 in
set_option maxRecDepth 100000 in
theorem c_X8_moved (l : Launch) (g : nz_G) (a : Nat → Nat) (X : Nat → Nat → Int32) (v1 : Int32) (K : Int32 → (Nat → Nat → Int32) → Prop) (h : wp_X8_moved X v1 K) : nz_M l yX8_moved wsX8_moved rm_X8_moved g [.ref (a 0), .int v1] (nz_wM g a X) (nz_Qi g (nz_wM g a X) (fun r (u : Nat → Nat → Int32) => K r u) (fun u => nz_wM g a u)) := by
  refine nz_M.of (bytes := cX8_moved) (nL := 10) (ret := (some .int)) (own := RX8) (by decide) rfl rfl ⟨rfl, rfl⟩ rfl ?_
  intro y F hl hQ
  obtain ⟨sz, hQ⟩ := hQ
  refine nz_ent (lv' := [(0, .ref (a 0)), (1, .int v1)]) rfl ?_
  unfold wp_X8_moved at h
  refine nz_aload_n F dX8_moved_0 rfl 0 rfl ?_
  refine nz_iconst (v := 0) F dX8_moved_1 (by decide) ?_
  refine nz_put (ws' := [((a 0), .inr (8, [.int 0, .int (X 0 1), .ref (a 1), .ref (a 2), .ref (a 3), .ref (a 4), .ref (a 5), .ref (a 6), .int (X 0 8), .ref (a 7), .int (X 0 10), .int (X 0 11), .int (X 0 12), .int (X 0 13), .int (X 0 14), .int (X 0 15), .int (X 0 16), .int (X 0 17), .int (X 0 18), .ref (a 8), .ref (a 9), .ref (a 10), .ref (a 11), .ref (a 12), .ref (a 13), .int (X 0 25)])), ((a 1), .inl (nz_cI g, 8, .inl (X 1))), ((a 2), .inl (nz_cI g, 8, .inl (X 2))), ((a 3), .inl (nz_cI g, 320, .inl (X 3))), ((a 4), .inl (nz_cI g, 94, .inl (X 4))), ((a 5), .inl (nz_cI g, 94, .inl (X 5))), ((a 6), .inl (nz_cI g, 168, .inl (X 6))), ((a 7), .inl (nz_cI g, 400, .inl (X 7))), ((a 8), .inl (nz_cI g, 6, .inl (X 8))), ((a 9), .inl (nz_cI g, 49, .inl (X 9))), ((a 10), .inl (nz_cI g, 6, .inl (X 10))), ((a 11), .inl (nz_cZ g, 2, .inl (X 11))), ((a 12), .inl (nz_cI g, 188, .inl (X 12))), ((a 13), .inl (nz_cI g, 16, .inl (X 13)))]) F iw_X8_moved_8 tyX8 tyX8_ok nmX8 0 rfl rfl 0 (by decide) rfl fl_X8_moved_50 rfl rfl (Nat.le_of_ble_eq_true rfl) dX8_moved_2 rfl ?_
  refine nz_aload_n F dX8_moved_5 rfl 0 rfl ?_
  refine k_X8_isThere (a 0) (a 1) (a 2) (a 3) (a 4) (a 5) (a 6) (a 7) (a 8) (a 9) (a 10) (a 11) (a 12) (a 13) 0 (X 0 1) (X 0 8) (X 0 10) (X 0 11) (X 0 12) (X 0 13) (X 0 14) (X 0 15) (X 0 16) (X 0 17) (X 0 18) (X 0 25) (X 1) (X 2) (X 3) (X 4) (X 5) (X 6) (X 7) (X 8) (X 9) (X 10) (X 11) (X 12) (X 13) (fun hM => nz_runV F gX8_moved_X8_isThere rfl hd_X8_isThere rfl hM dX8_moved_6 [0, 1, 2, 3, 4, 5, 6, 7, 8, 9, 10, 11, 12, 13] rfl rfl 0 rfl rfl rfl (Nat.le_of_ble_eq_true rfl) rfl) h ([((a 0), .inr (8, [.int 0, .int (X 0 1), .ref (a 1), .ref (a 2), .ref (a 3), .ref (a 4), .ref (a 5), .ref (a 6), .int (X 0 8), .ref (a 7), .int (X 0 10), .int (X 0 11), .int (X 0 12), .int (X 0 13), .int (X 0 14), .int (X 0 15), .int (X 0 16), .int (X 0 17), .int (X 0 18), .ref (a 8), .ref (a 9), .ref (a 10), .ref (a 11), .ref (a 12), .ref (a 13), .int (X 0 25)])), ((a 1), .inl (nz_cI g, 8, .inl (X 1))), ((a 2), .inl (nz_cI g, 8, .inl (X 2))), ((a 3), .inl (nz_cI g, 320, .inl (X 3))), ((a 4), .inl (nz_cI g, 94, .inl (X 4))), ((a 5), .inl (nz_cI g, 94, .inl (X 5))), ((a 6), .inl (nz_cI g, 168, .inl (X 6))), ((a 7), .inl (nz_cI g, 400, .inl (X 7))), ((a 8), .inl (nz_cI g, 6, .inl (X 8))), ((a 9), .inl (nz_cI g, 49, .inl (X 9))), ((a 10), .inl (nz_cI g, 6, .inl (X 10))), ((a 11), .inl (nz_cZ g, 2, .inl (X 11))), ((a 12), .inl (nz_cI g, 188, .inl (X 12))), ((a 13), .inl (nz_cI g, 16, .inl (X 13)))]) (rfl) (fun q1 h => ?_)
  refine nz_if_ne (tgt := 15) F dX8_moved_9 (by decide) (fun c2 => ?_) (fun c2 => ?_)
  · have h := h.1 c2
    refine nz_iload_n F dX8_moved_15 rfl 1 rfl ?_
    refine nz_i2l (v := ((v1 : Int32).toInt64)) F dX8_moved_16 rfl ?_
    refine nz_lconst (v := 0) F dX8_moved_17 (by decide) ?_
    refine nz_lconst (v := 1) F dX8_moved_18 (by decide) ?_
    refine k_X8_in ((v1 : Int32).toInt64) 0 1 (fun hM => nz_runS F gX8_moved_X8_in rfl hd_X8_in.2 rfl hM dX8_moved_19 [] rfl rfl rfl (Nat.le_of_ble_eq_true rfl) rfl) h ([((a 0), .inr (8, [.int 0, .int (X 0 1), .ref (a 1), .ref (a 2), .ref (a 3), .ref (a 4), .ref (a 5), .ref (a 6), .int (X 0 8), .ref (a 7), .int (X 0 10), .int (X 0 11), .int (X 0 12), .int (X 0 13), .int (X 0 14), .int (X 0 15), .int (X 0 16), .int (X 0 17), .int (X 0 18), .ref (a 8), .ref (a 9), .ref (a 10), .ref (a 11), .ref (a 12), .ref (a 13), .int (X 0 25)])), ((a 1), .inl (nz_cI g, 8, .inl (X 1))), ((a 2), .inl (nz_cI g, 8, .inl (X 2))), ((a 3), .inl (nz_cI g, 320, .inl (X 3))), ((a 4), .inl (nz_cI g, 94, .inl (X 4))), ((a 5), .inl (nz_cI g, 94, .inl (X 5))), ((a 6), .inl (nz_cI g, 168, .inl (X 6))), ((a 7), .inl (nz_cI g, 400, .inl (X 7))), ((a 8), .inl (nz_cI g, 6, .inl (X 8))), ((a 9), .inl (nz_cI g, 49, .inl (X 9))), ((a 10), .inl (nz_cI g, 6, .inl (X 10))), ((a 11), .inl (nz_cZ g, 2, .inl (X 11))), ((a 12), .inl (nz_cI g, 188, .inl (X 12))), ((a 13), .inl (nz_cI g, 16, .inl (X 13)))]) (rfl) (fun q3 h => ?_)
    refine nz_if_ne (tgt := 28) F dX8_moved_22 (by decide) (fun c4 => ?_) (fun c4 => ?_)
    · have h := h.1 c4
      refine nz_aload_n F dX8_moved_28 rfl 0 rfl ?_
      refine nz_get F iw_X8_moved_8 0 rfl rfl 5 (by decide) rfl fl_X8_moved_19 rfl dX8_moved_29 ?_
      refine nz_iconst (v := 4) F dX8_moved_32 (by decide) ?_
      refine nz_iald F 4 rfl (nz_inC rfl) dX8_moved_33 ?_
      refine nz_vi (z := ((X 4) 4)) rfl ?_
      refine nz_istore_n (lv' := [(2, .int ((X 4) 4)), (0, .ref (a 0)), (1, .int v1)]) F dX8_moved_34 rfl (by decide) rfl ?_
      refine nz_iload_n F dX8_moved_35 rfl 0 rfl ?_
      refine nz_istore_n (lv' := [(3, .int ((X 4) 4)), (2, .int ((X 4) 4)), (0, .ref (a 0)), (1, .int v1)]) F dX8_moved_36 rfl (by decide) rfl ?_
      refine nz_iconst (v := 1) F dX8_moved_37 (by decide) ?_
      refine nz_iload_n F dX8_moved_38 rfl 1 rfl ?_
      refine nz_ishl F dX8_moved_39 ?_
      refine nz_iconst (v := 1) F dX8_moved_40 (by decide) ?_
      refine nz_isub F dX8_moved_41 ?_
      refine nz_istore (lv' := [(4, .int ((1 <<< (((X 4) 4) &&& 31)) - 1)), (3, .int ((X 4) 4)), (2, .int ((X 4) 4)), (0, .ref (a 0)), (1, .int v1)]) F dX8_moved_42 (by decide) rfl ?_
      refine nz_iconst (v := 0) F dX8_moved_44 (by decide) ?_
      refine nz_istore (lv' := [(5, .int 0), (4, .int ((1 <<< (((X 4) 4) &&& 31)) - 1)), (3, .int ((X 4) 4)), (2, .int ((X 4) 4)), (0, .ref (a 0)), (1, .int v1)]) F dX8_moved_45 (by decide) rfl ?_
      refine nz_ls (lv' := [(0, .ref (a 0)), (1, .int v1), (2, .int ((X 4) 4)), (3, .int ((X 4) 4)), (4, .int ((1 <<< (((X 4) 4) &&& 31)) - 1)), (5, .int 0)]) [4, 5, 3, 2, 1, 0] rfl ?_
      obtain ⟨n1, h⟩ := h
      exact t_X8_moved_47 F a X v1 ((X 4) 4) 0 hQ n1 ((X 4) 4) ((1 <<< (((X 4) 4) &&& 31)) - 1) 0 h
    · have h := h.2 c4
      refine nz_ldc (v := (-1000001 : Int32)) F wd_X8_moved_c70 dX8_moved_25 ?_
      exact nz_iret F hQ (va_up X 0 (upd (X 0) 0 0)) h rfl dX8_moved_27
  · have h := h.2 c2
    refine nz_ldc (v := (-1000002 : Int32)) F wd_X8_moved_c196 dX8_moved_12 ?_
    exact nz_iret F hQ (va_up X 0 (upd (X 0) 0 0)) h rfl dX8_moved_14
theorem k_X8_moved {y : nz_Y} {g : nz_G} {k n : Nat} {ws : va_W} {pc : Nat} {ls : List (Nat × Value)} {st rest : List Value} {av : Array Value} {isC : List Nat} {K : Int32 → (Nat → Nat → Int32) → Prop} (a : Nat → Nat) (X : Nat → Nat → Int32) (v1 : Int32) (run : nz_M (yz_l y) yX8_moved wsX8_moved rm_X8_moved g [.ref (a 0), .int v1] (nz_wM g a X) (nz_Qi g (nz_wM g a X) (fun r (u : Nat → Nat → Int32) => K r u) (fun u => nz_wM g a u)) → nz_C y g k n ws pc ls st rest (nz_wM g a X) (nz_Qi g (nz_wM g a X) (fun r (u : Nat → Nat → Int32) => K r u) (fun u => nz_wM g a u)) av isC) (h : wp_X8_moved X v1 K) (ws' : (Nat → Nat → Int32) → va_W) (hm : ∀ (m0 : (Nat → Nat → Int32)), nz_mrg ws isC (nz_wM g a m0) = ws' m0) (kk : ∀ (r : Int32) (m0 : (Nat → Nat → Int32)), K r m0 → nz_V y g k n (ws' m0) (pc + 3) ls (.int r :: rest)) : nz_V y g k n ws pc ls st :=
  nz_ci (ws' := fun u => ws' u) (run (c_X8_moved (yz_l y) g a X v1 K h)) (fun _ => rfl) (fun u => hm u) (fun r u h => kk r u h)
