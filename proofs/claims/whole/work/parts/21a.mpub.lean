abbrev nz_wM (g : nz_G) (a : Nat → Nat) (X : Nat → Nat → Int32) : va_W := [((a 0), .inr (8, [.int (X 0 0), .int (X 0 1), .ref (a 1), .ref (a 2), .ref (a 3), .ref (a 4), .ref (a 5), .ref (a 6), .int (X 0 8), .ref (a 7), .int (X 0 10), .int (X 0 11), .int (X 0 12), .int (X 0 13), .int (X 0 14), .int (X 0 15), .int (X 0 16), .int (X 0 17), .int (X 0 18), .ref (a 8), .ref (a 9), .ref (a 10), .ref (a 11), .ref (a 12), .ref (a 13), .int (X 0 25)])), ((a 1), .inl (nz_cI g, 8, .inl (X 1))), ((a 2), .inl (nz_cI g, 8, .inl (X 2))), ((a 3), .inl (nz_cI g, 320, .inl (X 3))), ((a 4), .inl (nz_cI g, 94, .inl (X 4))), ((a 5), .inl (nz_cI g, 94, .inl (X 5))), ((a 6), .inl (nz_cI g, 168, .inl (X 6))), ((a 7), .inl (nz_cI g, 400, .inl (X 7))), ((a 8), .inl (nz_cI g, 6, .inl (X 8))), ((a 9), .inl (nz_cI g, 49, .inl (X 9))), ((a 10), .inl (nz_cI g, 6, .inl (X 10))), ((a 11), .inl (nz_cZ g, 2, .inl (X 11))), ((a 12), .inl (nz_cI g, 188, .inl (X 12))), ((a 13), .inl (nz_cI g, 16, .inl (X 13)))]
theorem dX8_row_0 : decode cX8_row 0 = .ok (.aload_n 0, 1) := by decide +kernel
theorem dX8_row_1 : decode cX8_row 1 = .ok (.iconst 0, 1) := by decide +kernel
theorem dX8_row_2 : decode cX8_row 2 = .ok (.putfield 50, 3) := by decide +kernel
theorem dX8_row_5 : decode cX8_row 5 = .ok (.iload_n 1, 1) := by decide +kernel
theorem dX8_row_6 : decode cX8_row 6 = .ok (.invokestatic 64, 3) := by decide +kernel
theorem dX8_row_9 : decode cX8_row 9 = .ok (.ifCond .eq 21, 3) := by decide +kernel
theorem dX8_row_12 : decode cX8_row 12 = .ok (.iload_n 2, 1) := by decide +kernel
theorem dX8_row_13 : decode cX8_row 13 = .ok (.i2l, 1) := by decide +kernel
theorem dX8_row_14 : decode cX8_row 14 = .ok (.lconst 0, 1) := by decide +kernel
theorem dX8_row_15 : decode cX8_row 15 = .ok (.ldc2_w 68, 3) := by decide +kernel
theorem dX8_row_18 : decode cX8_row 18 = .ok (.invokestatic 60, 3) := by decide +kernel
theorem dX8_row_21 : decode cX8_row 21 = .ok (.ifCond .eq 9, 3) := by decide +kernel
theorem dX8_row_24 : decode cX8_row 24 = .ok (.iload_n 3, 1) := by decide +kernel
theorem dX8_row_25 : decode cX8_row 25 = .ok (.bipush 40, 2) := by decide +kernel
theorem dX8_row_27 : decode cX8_row 27 = .ok (.if_icmp .le 6, 3) := by decide +kernel
theorem dX8_row_30 : decode cX8_row 30 = .ok (.ldc 70, 2) := by decide +kernel
theorem dX8_row_32 : decode cX8_row 32 = .ok (.ireturn, 1) := by decide +kernel
theorem dX8_row_33 : decode cX8_row 33 = .ok (.aload_n 0, 1) := by decide +kernel
theorem dX8_row_34 : decode cX8_row 34 = .ok (.iconst 0, 1) := by decide +kernel
theorem dX8_row_35 : decode cX8_row 35 = .ok (.putfield 54, 3) := by decide +kernel
theorem dX8_row_38 : decode cX8_row 38 = .ok (.iload_n 3, 1) := by decide +kernel
theorem dX8_row_39 : decode cX8_row 39 = .ok (.ifCond .ge 9, 3) := by decide +kernel
theorem dX8_row_42 : decode cX8_row 42 = .ok (.aload_n 0, 1) := by decide +kernel
theorem dX8_row_43 : decode cX8_row 43 = .ok (.iconst 4, 1) := by decide +kernel
theorem dX8_row_44 : decode cX8_row 44 = .ok (.invokevirtual 71, 3) := by decide +kernel
theorem dX8_row_47 : decode cX8_row 47 = .ok (.ireturn, 1) := by decide +kernel
theorem dX8_row_48 : decode cX8_row 48 = .ok (.aload_n 0, 1) := by decide +kernel
theorem dX8_row_49 : decode cX8_row 49 = .ok (.getfield 7, 3) := by decide +kernel
theorem dX8_row_52 : decode cX8_row 52 = .ok (.iload_n 1, 1) := by decide +kernel
theorem dX8_row_53 : decode cX8_row 53 = .ok (.iload_n 2, 1) := by decide +kernel
theorem dX8_row_54 : decode cX8_row 54 = .ok (.iastore, 1) := by decide +kernel
theorem dX8_row_55 : decode cX8_row 55 = .ok (.aload_n 0, 1) := by decide +kernel
theorem dX8_row_56 : decode cX8_row 56 = .ok (.getfield 13, 3) := by decide +kernel
theorem dX8_row_59 : decode cX8_row 59 = .ok (.iload_n 1, 1) := by decide +kernel
theorem dX8_row_60 : decode cX8_row 60 = .ok (.iload_n 3, 1) := by decide +kernel
theorem dX8_row_61 : decode cX8_row 61 = .ok (.iastore, 1) := by decide +kernel
theorem dX8_row_62 : decode cX8_row 62 = .ok (.iconst 0, 1) := by decide +kernel
theorem dX8_row_63 : decode cX8_row 63 = .ok (.istore 4, 2) := by decide +kernel
theorem dX8_row_65 : decode cX8_row 65 = .ok (.iload 4, 2) := by decide +kernel
theorem dX8_row_67 : decode cX8_row 67 = .ok (.bipush 40, 2) := by decide +kernel
theorem dX8_row_69 : decode cX8_row 69 = .ok (.if_icmp .ge 22, 3) := by decide +kernel
theorem dX8_row_72 : decode cX8_row 72 = .ok (.aload_n 0, 1) := by decide +kernel
theorem dX8_row_73 : decode cX8_row 73 = .ok (.getfield 16, 3) := by decide +kernel
theorem dX8_row_76 : decode cX8_row 76 = .ok (.bipush 40, 2) := by decide +kernel
theorem dX8_row_78 : decode cX8_row 78 = .ok (.iload_n 1, 1) := by decide +kernel
theorem dX8_row_79 : decode cX8_row 79 = .ok (.imul, 1) := by decide +kernel
theorem dX8_row_80 : decode cX8_row 80 = .ok (.iload 4, 2) := by decide +kernel
theorem dX8_row_82 : decode cX8_row 82 = .ok (.iadd, 1) := by decide +kernel
theorem dX8_row_83 : decode cX8_row 83 = .ok (.iconst 0, 1) := by decide +kernel
theorem dX8_row_84 : decode cX8_row 84 = .ok (.iastore, 1) := by decide +kernel
theorem dX8_row_85 : decode cX8_row 85 = .ok (.iinc 4 1, 3) := by decide +kernel
theorem dX8_row_88 : decode cX8_row 88 = .ok (.goto (-23), 3) := by decide +kernel
theorem dX8_row_91 : decode cX8_row 91 = .ok (.iload_n 3, 1) := by decide +kernel
theorem dX8_row_92 : decode cX8_row 92 = .ok (.ireturn, 1) := by decide +kernel
set_option maxRecDepth 20000 in
theorem ggX8_row_X8_finding : GoodIn wsX8_row wsX8_finding := goodIn_r _ [19, 4, 20, 21, 22, 23, 24, 25, 26, 27, 28, 29, 30, 31, 32, 33, 34, 35, 36, 37, 38, 39, 40, 41, 42, 43, 44, 45, 46] rfl (by decide +kernel)
set_option maxRecDepth 20000 in
theorem gX8_row_X8_finding : GoodIn wsX8_row (wsV RX8 71 RX8 yX8_finding wsX8_finding) := goodIn_app (goodIn_r _ [16, 17, 18, 10] rfl (by decide +kernel)) ggX8_row_X8_finding
set_option maxRecDepth 20000 in
theorem ggX8_row_X8_in : GoodIn wsX8_row wsX8_in := goodIn_r _ [15] rfl (by decide +kernel)
set_option maxRecDepth 20000 in
theorem gX8_row_X8_in : GoodIn wsX8_row (va_wsS RX8 60 yX8_in wsX8_in) := goodIn_app (goodIn_r _ [13, 14, 10] rfl (by decide +kernel)) ggX8_row_X8_in
set_option maxRecDepth 20000 in
theorem ggX8_row_X8_isRow : GoodIn wsX8_row wsX8_isRow := goodIn_r _ [11, 12, 13, 14, 10, 15] rfl (by decide +kernel)
set_option maxRecDepth 20000 in
theorem gX8_row_X8_isRow : GoodIn wsX8_row (va_wsS RX8 64 yX8_isRow wsX8_isRow) := goodIn_app (goodIn_r _ [8, 9, 10] rfl (by decide +kernel)) ggX8_row_X8_isRow
theorem hd_X8_finding : yX8_finding.cls = RX8 ∧ yX8_finding.cls ≠ "java/lang/invoke/MethodHandle" ∧ yX8_finding.cls ≠ "java/lang/invoke/VarHandle" ∧ (parseMethodDescriptor yX8_finding.desc).map (fun d => d.parameters.length) = some 1 := by decide +kernel
theorem hd_X8_isRow : yX8_isRow.cls = RX8 ∧ yX8_isRow.cls ≠ "java/lang/invoke/MethodHandle" ∧ yX8_isRow.cls ≠ "java/lang/invoke/VarHandle" ∧ (parseMethodDescriptor yX8_isRow.desc).map (fun d => d.parameters.length) = some 1 := by decide +kernel
/-! X8_row -/
abbrev rm_X8_row : Room := { frames := 2, cells := 0, slots := 0, locals := 45 }
theorem iw_X8_row_8 : ∀ w ∈ wsX80, w ∈ wsX8_row := fun _ h => List.mem_cons_of_mem _ (List.mem_append_right _ h)
theorem fl_X8_row_50 : Cond.fieldLink RX8 50 "NightStonesModel" "thrown" "I" ∈ wsX8_row := List.mem_of_getElem? (i := 1) rfl
theorem wd_X8_row_c70 : Cond.constant RX8 70 (-1000001) ∈ wsX8_row := List.mem_of_getElem? (i := 3) rfl
theorem wd_X8_row_c68 : Cond.constantLong RX8 68 (2) ∈ wsX8_row := List.mem_of_getElem? (i := 2) rfl
theorem fl_X8_row_54 : Cond.fieldLink RX8 54 "NightStonesModel" "status" "I" ∈ wsX8_row := List.mem_of_getElem? (i := 4) rfl
theorem fl_X8_row_7 : Cond.fieldLink RX8 7 "NightStonesModel" "lane" "[I" ∈ wsX8_row := List.mem_of_getElem? (i := 5) rfl
theorem fl_X8_row_13 : Cond.fieldLink RX8 13 "NightStonesModel" "many" "[I" ∈ wsX8_row := List.mem_of_getElem? (i := 6) rfl
theorem fl_X8_row_16 : Cond.fieldLink RX8 16 "NightStonesModel" "item" "[I" ∈ wsX8_row := List.mem_of_getElem? (i := 7) rfl
def S_X8_row_65 (X : Nat → Nat → Int32) (v1 : Int32) (v3 : Int32) (c0_0 : Int32) (c0_1 : Int32) (c1_c : Nat → Int32) (c2_c : Nat → Int32) (K : Int32 → (Nat → Nat → Int32) → Prop) (R65 : Int32 → (Nat → Int32) → Prop) (x4 : Int32) (c3_c : Nat → Int32) : Prop := ((40 ≤ x4 → K v3 (va_up (va_up (va_up (va_up X 0 (upd (upd (X 0) 0 c0_0) 1 c0_1)) 1 c1_c) 2 c2_c) 3 c3_c)) ∧ (¬ (40 ≤ x4) → (vp_in ((40 * v1) + x4) 320 ∧ R65 (x4 + 1) (upd c3_c ((40 * v1) + x4).toNatClampNeg 0))))
set_option maxHeartbeats 4000000 in
set_option maxRecDepth 100000 in
theorem t_X8_row_65 {y : nz_Y} {g : nz_G} (F : nz_F y g cX8_row 5 wsX8_row RX8 (some .int) rm_X8_row) {wc0 : va_W} {sz : Nat} {K : Int32 → (Nat → Nat → Int32) → Prop} (a : Nat → Nat) (X : Nat → Nat → Int32) (v1 : Int32) (v2 : Int32) (v3 : Int32) (c0_0 : Int32) (c0_1 : Int32) (c1_c : Nat → Int32) (c2_c : Nat → Int32) (hQ : yz_A y = va_A wc0 sz ∧ yz_Q y = MQ (yz_b y) ((nz_Qi g wc0 (fun r (u : Nat → Nat → Int32) => K r u) (fun u => nz_wM g a u)) sz) (yz_a y) (yz_s y) 0 0 (va_A wc0 sz)) : ∀ (n1 : Nat) (x4 : Int32) (c3_c : Nat → Int32), nz_it (fun _ _ => False) (S_X8_row_65 X v1 v3 c0_0 c0_1 c1_c c2_c K) n1 x4 c3_c → nz_V y g 0 0 [((a 0), .inr (8, [.int c0_0, .int c0_1, .ref (a 1), .ref (a 2), .ref (a 3), .ref (a 4), .ref (a 5), .ref (a 6), .int (X 0 8), .ref (a 7), .int (X 0 10), .int (X 0 11), .int (X 0 12), .int (X 0 13), .int (X 0 14), .int (X 0 15), .int (X 0 16), .int (X 0 17), .int (X 0 18), .ref (a 8), .ref (a 9), .ref (a 10), .ref (a 11), .ref (a 12), .ref (a 13), .int (X 0 25)])), ((a 1), .inl (nz_cI g, 8, .inl c1_c)), ((a 2), .inl (nz_cI g, 8, .inl c2_c)), ((a 3), .inl (nz_cI g, 320, .inl c3_c)), ((a 4), .inl (nz_cI g, 94, .inl (X 4))), ((a 5), .inl (nz_cI g, 94, .inl (X 5))), ((a 6), .inl (nz_cI g, 168, .inl (X 6))), ((a 7), .inl (nz_cI g, 400, .inl (X 7))), ((a 8), .inl (nz_cI g, 6, .inl (X 8))), ((a 9), .inl (nz_cI g, 49, .inl (X 9))), ((a 10), .inl (nz_cI g, 6, .inl (X 10))), ((a 11), .inl (nz_cZ g, 2, .inl (X 11))), ((a 12), .inl (nz_cI g, 188, .inl (X 12))), ((a 13), .inl (nz_cI g, 16, .inl (X 13)))] 65 [(0, .ref (a 0)), (1, .int v1), (3, .int v3), (4, .int x4)] [] := by
  intro n1
  induction n1 with
  | zero =>
    intro x4 c3_c h
    exact h.elim
  | succ n1 hR65 =>
    intro x4 c3_c h
    have h : S_X8_row_65 X v1 v3 c0_0 c0_1 c1_c c2_c K (nz_it (fun _ _ => False) (S_X8_row_65 X v1 v3 c0_0 c0_1 c1_c c2_c K) n1) x4 c3_c := h
    unfold S_X8_row_65 at h
    refine nz_iload F dX8_row_65 3 rfl ?_
    refine nz_bipush (v := 40) F dX8_row_67 (by decide) ?_
    refine nz_icmp_ge (tgt := 91) F dX8_row_69 (by decide) (fun c9 => ?_) (fun c9 => ?_)
    · have h := h.1 c9
      refine nz_iload_n F dX8_row_91 rfl 2 rfl ?_
      exact nz_iret F hQ (va_up (va_up (va_up (va_up X 0 (upd (upd (X 0) 0 c0_0) 1 c0_1)) 1 c1_c) 2 c2_c) 3 c3_c) h rfl dX8_row_92
    · have h := h.2 c9
      refine nz_aload_n F dX8_row_72 rfl 0 rfl ?_
      refine nz_get F iw_X8_row_8 0 rfl rfl 4 (by decide) rfl fl_X8_row_16 rfl dX8_row_73 ?_
      refine nz_bipush (v := 40) F dX8_row_76 (by decide) ?_
      refine nz_iload_n F dX8_row_78 rfl 1 rfl ?_
      refine nz_imul F dX8_row_79 ?_
      refine nz_iload F dX8_row_80 3 rfl ?_
      refine nz_iadd F dX8_row_82 ?_
      refine nz_iconst (v := 0) F dX8_row_83 (by decide) ?_
      obtain ⟨i10, h⟩ := h
      refine nz_iast (ws' := [((a 0), .inr (8, [.int c0_0, .int c0_1, .ref (a 1), .ref (a 2), .ref (a 3), .ref (a 4), .ref (a 5), .ref (a 6), .int (X 0 8), .ref (a 7), .int (X 0 10), .int (X 0 11), .int (X 0 12), .int (X 0 13), .int (X 0 14), .int (X 0 15), .int (X 0 16), .int (X 0 17), .int (X 0 18), .ref (a 8), .ref (a 9), .ref (a 10), .ref (a 11), .ref (a 12), .ref (a 13), .int (X 0 25)])), ((a 1), .inl (nz_cI g, 8, .inl c1_c)), ((a 2), .inl (nz_cI g, 8, .inl c2_c)), ((a 3), .inl (nz_cI g, 320, .inl (upd c3_c ((40 * v1) + x4).toNatClampNeg 0))), ((a 4), .inl (nz_cI g, 94, .inl (X 4))), ((a 5), .inl (nz_cI g, 94, .inl (X 5))), ((a 6), .inl (nz_cI g, 168, .inl (X 6))), ((a 7), .inl (nz_cI g, 400, .inl (X 7))), ((a 8), .inl (nz_cI g, 6, .inl (X 8))), ((a 9), .inl (nz_cI g, 49, .inl (X 9))), ((a 10), .inl (nz_cI g, 6, .inl (X 10))), ((a 11), .inl (nz_cZ g, 2, .inl (X 11))), ((a 12), .inl (nz_cI g, 188, .inl (X 12))), ((a 13), .inl (nz_cI g, 16, .inl (X 13)))]) F 3 rfl i10 dX8_row_84 rfl ?_
      refine nz_iinc (v := (x4 + 1)) (j := 3) (lv' := [(4, .int (x4 + 1)), (0, .ref (a 0)), (1, .int v1), (3, .int v3)]) F dX8_row_85 rfl rfl (by decide) rfl ?_
      refine nz_goto (tgt := 65) F dX8_row_88 (by decide) ?_
      refine nz_ls (lv' := [(0, .ref (a 0)), (1, .int v1), (3, .int v3), (4, .int (x4 + 1))]) [1, 2, 3, 0] rfl ?_
      exact hR65 (x4 + 1) (upd c3_c ((40 * v1) + x4).toNatClampNeg 0) h
def wp_X8_row (X : Nat → Nat → Int32) (v1 : Int32) (v2 : Int32) (v3 : Int32) (K : Int32 → (Nat → Nat → Int32) → Prop) : Prop := wp_X8_isRow v1 (fun q1 => ((q1 = 0 → K (-1000001 : Int32) (va_up X 0 (upd (X 0) 0 0))) ∧ (¬ (q1 = 0) → wp_X8_in ((v2 : Int32).toInt64) 0 2 (fun q3 => ((q3 = 0 → K (-1000001 : Int32) (va_up X 0 (upd (X 0) 0 0))) ∧ (¬ (q3 = 0) → ((v3 ≤ 40 → ((0 ≤ v3 → (vp_in v1 8 ∧ (vp_in v1 8 ∧ (∃ n, nz_it (fun _ _ => False) (S_X8_row_65 X v1 v3 0 0 (upd (X 1) v1.toNatClampNeg v2) (upd (X 2) v1.toNatClampNeg v3) K) n 0 (X 3))))) ∧ (¬ (0 ≤ v3) → wp_X8_finding 4 (fun q11 m12 => K q11 (va_up X 0 (upd (upd (X 0) 0 0) 1 m12)))))) ∧ (¬ (v3 ≤ 40) → K (-1000001 : Int32) (va_up X 0 (upd (X 0) 0 0))))))))))
set_option maxHeartbeats 4000000 in
set_option maxRecDepth 100000 in
theorem c_X8_row (l : Launch) (g : nz_G) (a : Nat → Nat) (X : Nat → Nat → Int32) (v1 : Int32) (v2 : Int32) (v3 : Int32) (K : Int32 → (Nat → Nat → Int32) → Prop) (h : wp_X8_row X v1 v2 v3 K) : nz_M l yX8_row wsX8_row rm_X8_row g [.ref (a 0), .int v1, .int v2, .int v3] (nz_wM g a X) (nz_Qi g (nz_wM g a X) (fun r (u : Nat → Nat → Int32) => K r u) (fun u => nz_wM g a u)) := by
  refine nz_M.of (bytes := cX8_row) (nL := 5) (ret := (some .int)) (own := RX8) (by decide) rfl rfl ⟨rfl, rfl⟩ rfl ?_
  intro y F hl hQ
  obtain ⟨sz, hQ⟩ := hQ
  refine nz_ent (lv' := [(0, .ref (a 0)), (1, .int v1), (2, .int v2), (3, .int v3)]) rfl ?_
  unfold wp_X8_row at h
  refine nz_aload_n F dX8_row_0 rfl 0 rfl ?_
  refine nz_iconst (v := 0) F dX8_row_1 (by decide) ?_
  refine nz_put (ws' := [((a 0), .inr (8, [.int 0, .int (X 0 1), .ref (a 1), .ref (a 2), .ref (a 3), .ref (a 4), .ref (a 5), .ref (a 6), .int (X 0 8), .ref (a 7), .int (X 0 10), .int (X 0 11), .int (X 0 12), .int (X 0 13), .int (X 0 14), .int (X 0 15), .int (X 0 16), .int (X 0 17), .int (X 0 18), .ref (a 8), .ref (a 9), .ref (a 10), .ref (a 11), .ref (a 12), .ref (a 13), .int (X 0 25)])), ((a 1), .inl (nz_cI g, 8, .inl (X 1))), ((a 2), .inl (nz_cI g, 8, .inl (X 2))), ((a 3), .inl (nz_cI g, 320, .inl (X 3))), ((a 4), .inl (nz_cI g, 94, .inl (X 4))), ((a 5), .inl (nz_cI g, 94, .inl (X 5))), ((a 6), .inl (nz_cI g, 168, .inl (X 6))), ((a 7), .inl (nz_cI g, 400, .inl (X 7))), ((a 8), .inl (nz_cI g, 6, .inl (X 8))), ((a 9), .inl (nz_cI g, 49, .inl (X 9))), ((a 10), .inl (nz_cI g, 6, .inl (X 10))), ((a 11), .inl (nz_cZ g, 2, .inl (X 11))), ((a 12), .inl (nz_cI g, 188, .inl (X 12))), ((a 13), .inl (nz_cI g, 16, .inl (X 13)))]) F iw_X8_row_8 tyX8 tyX8_ok nmX8 0 rfl rfl 0 (by decide) rfl fl_X8_row_50 rfl rfl (Nat.le_of_ble_eq_true rfl) dX8_row_2 rfl ?_
  refine nz_iload_n F dX8_row_5 rfl 1 rfl ?_
  refine k_X8_isRow v1 (fun hM => nz_runS F gX8_row_X8_isRow rfl hd_X8_isRow.2 rfl hM dX8_row_6 [] rfl rfl rfl (Nat.le_of_ble_eq_true rfl) rfl) h ([((a 0), .inr (8, [.int 0, .int (X 0 1), .ref (a 1), .ref (a 2), .ref (a 3), .ref (a 4), .ref (a 5), .ref (a 6), .int (X 0 8), .ref (a 7), .int (X 0 10), .int (X 0 11), .int (X 0 12), .int (X 0 13), .int (X 0 14), .int (X 0 15), .int (X 0 16), .int (X 0 17), .int (X 0 18), .ref (a 8), .ref (a 9), .ref (a 10), .ref (a 11), .ref (a 12), .ref (a 13), .int (X 0 25)])), ((a 1), .inl (nz_cI g, 8, .inl (X 1))), ((a 2), .inl (nz_cI g, 8, .inl (X 2))), ((a 3), .inl (nz_cI g, 320, .inl (X 3))), ((a 4), .inl (nz_cI g, 94, .inl (X 4))), ((a 5), .inl (nz_cI g, 94, .inl (X 5))), ((a 6), .inl (nz_cI g, 168, .inl (X 6))), ((a 7), .inl (nz_cI g, 400, .inl (X 7))), ((a 8), .inl (nz_cI g, 6, .inl (X 8))), ((a 9), .inl (nz_cI g, 49, .inl (X 9))), ((a 10), .inl (nz_cI g, 6, .inl (X 10))), ((a 11), .inl (nz_cZ g, 2, .inl (X 11))), ((a 12), .inl (nz_cI g, 188, .inl (X 12))), ((a 13), .inl (nz_cI g, 16, .inl (X 13)))]) (rfl) (fun q1 h => ?_)
  refine nz_if_eq (tgt := 30) F dX8_row_9 (by decide) (fun c2 => ?_) (fun c2 => ?_)
  · have h := h.1 c2
    refine nz_ldc (v := (-1000001 : Int32)) F wd_X8_row_c70 dX8_row_30 ?_
    exact nz_iret F hQ (va_up X 0 (upd (X 0) 0 0)) h rfl dX8_row_32
  · have h := h.2 c2
    refine nz_iload_n F dX8_row_12 rfl 2 rfl ?_
    refine nz_i2l (v := ((v2 : Int32).toInt64)) F dX8_row_13 rfl ?_
    refine nz_lconst (v := 0) F dX8_row_14 (by decide) ?_
    refine nz_ldc2 (v := 2) F wd_X8_row_c68 dX8_row_15 ?_
    refine k_X8_in ((v2 : Int32).toInt64) 0 2 (fun hM => nz_runS F gX8_row_X8_in rfl hd_X8_in.2 rfl hM dX8_row_18 [] rfl rfl rfl (Nat.le_of_ble_eq_true rfl) rfl) h ([((a 0), .inr (8, [.int 0, .int (X 0 1), .ref (a 1), .ref (a 2), .ref (a 3), .ref (a 4), .ref (a 5), .ref (a 6), .int (X 0 8), .ref (a 7), .int (X 0 10), .int (X 0 11), .int (X 0 12), .int (X 0 13), .int (X 0 14), .int (X 0 15), .int (X 0 16), .int (X 0 17), .int (X 0 18), .ref (a 8), .ref (a 9), .ref (a 10), .ref (a 11), .ref (a 12), .ref (a 13), .int (X 0 25)])), ((a 1), .inl (nz_cI g, 8, .inl (X 1))), ((a 2), .inl (nz_cI g, 8, .inl (X 2))), ((a 3), .inl (nz_cI g, 320, .inl (X 3))), ((a 4), .inl (nz_cI g, 94, .inl (X 4))), ((a 5), .inl (nz_cI g, 94, .inl (X 5))), ((a 6), .inl (nz_cI g, 168, .inl (X 6))), ((a 7), .inl (nz_cI g, 400, .inl (X 7))), ((a 8), .inl (nz_cI g, 6, .inl (X 8))), ((a 9), .inl (nz_cI g, 49, .inl (X 9))), ((a 10), .inl (nz_cI g, 6, .inl (X 10))), ((a 11), .inl (nz_cZ g, 2, .inl (X 11))), ((a 12), .inl (nz_cI g, 188, .inl (X 12))), ((a 13), .inl (nz_cI g, 16, .inl (X 13)))]) (rfl) (fun q3 h => ?_)
    refine nz_if_eq (tgt := 30) F dX8_row_21 (by decide) (fun c4 => ?_) (fun c4 => ?_)
    · have h := h.1 c4
      refine nz_ldc (v := (-1000001 : Int32)) F wd_X8_row_c70 dX8_row_30 ?_
      exact nz_iret F hQ (va_up X 0 (upd (X 0) 0 0)) h rfl dX8_row_32
    · have h := h.2 c4
      refine nz_iload_n F dX8_row_24 rfl 3 rfl ?_
      refine nz_bipush (v := 40) F dX8_row_25 (by decide) ?_
      refine nz_icmp_le (tgt := 33) F dX8_row_27 (by decide) (fun c5 => ?_) (fun c5 => ?_)
      · have h := h.1 c5
        refine nz_aload_n F dX8_row_33 rfl 0 rfl ?_
        refine nz_iconst (v := 0) F dX8_row_34 (by decide) ?_
        refine nz_put (ws' := [((a 0), .inr (8, [.int 0, .int 0, .ref (a 1), .ref (a 2), .ref (a 3), .ref (a 4), .ref (a 5), .ref (a 6), .int (X 0 8), .ref (a 7), .int (X 0 10), .int (X 0 11), .int (X 0 12), .int (X 0 13), .int (X 0 14), .int (X 0 15), .int (X 0 16), .int (X 0 17), .int (X 0 18), .ref (a 8), .ref (a 9), .ref (a 10), .ref (a 11), .ref (a 12), .ref (a 13), .int (X 0 25)])), ((a 1), .inl (nz_cI g, 8, .inl (X 1))), ((a 2), .inl (nz_cI g, 8, .inl (X 2))), ((a 3), .inl (nz_cI g, 320, .inl (X 3))), ((a 4), .inl (nz_cI g, 94, .inl (X 4))), ((a 5), .inl (nz_cI g, 94, .inl (X 5))), ((a 6), .inl (nz_cI g, 168, .inl (X 6))), ((a 7), .inl (nz_cI g, 400, .inl (X 7))), ((a 8), .inl (nz_cI g, 6, .inl (X 8))), ((a 9), .inl (nz_cI g, 49, .inl (X 9))), ((a 10), .inl (nz_cI g, 6, .inl (X 10))), ((a 11), .inl (nz_cZ g, 2, .inl (X 11))), ((a 12), .inl (nz_cI g, 188, .inl (X 12))), ((a 13), .inl (nz_cI g, 16, .inl (X 13)))]) F iw_X8_row_8 tyX8 tyX8_ok nmX8 0 rfl rfl 1 (by decide) rfl fl_X8_row_54 rfl rfl (Nat.le_of_ble_eq_true rfl) dX8_row_35 rfl ?_
        refine nz_iload_n F dX8_row_38 rfl 3 rfl ?_
        refine nz_if_ge (tgt := 48) F dX8_row_39 (by decide) (fun c6 => ?_) (fun c6 => ?_)
        · have h := h.1 c6
          refine nz_aload_n F dX8_row_48 rfl 0 rfl ?_
          refine nz_get F iw_X8_row_8 0 rfl rfl 2 (by decide) rfl fl_X8_row_7 rfl dX8_row_49 ?_
          refine nz_iload_n F dX8_row_52 rfl 1 rfl ?_
          refine nz_iload_n F dX8_row_53 rfl 2 rfl ?_
          obtain ⟨i7, h⟩ := h
          refine nz_iast (ws' := [((a 0), .inr (8, [.int 0, .int 0, .ref (a 1), .ref (a 2), .ref (a 3), .ref (a 4), .ref (a 5), .ref (a 6), .int (X 0 8), .ref (a 7), .int (X 0 10), .int (X 0 11), .int (X 0 12), .int (X 0 13), .int (X 0 14), .int (X 0 15), .int (X 0 16), .int (X 0 17), .int (X 0 18), .ref (a 8), .ref (a 9), .ref (a 10), .ref (a 11), .ref (a 12), .ref (a 13), .int (X 0 25)])), ((a 1), .inl (nz_cI g, 8, .inl (upd (X 1) v1.toNatClampNeg v2))), ((a 2), .inl (nz_cI g, 8, .inl (X 2))), ((a 3), .inl (nz_cI g, 320, .inl (X 3))), ((a 4), .inl (nz_cI g, 94, .inl (X 4))), ((a 5), .inl (nz_cI g, 94, .inl (X 5))), ((a 6), .inl (nz_cI g, 168, .inl (X 6))), ((a 7), .inl (nz_cI g, 400, .inl (X 7))), ((a 8), .inl (nz_cI g, 6, .inl (X 8))), ((a 9), .inl (nz_cI g, 49, .inl (X 9))), ((a 10), .inl (nz_cI g, 6, .inl (X 10))), ((a 11), .inl (nz_cZ g, 2, .inl (X 11))), ((a 12), .inl (nz_cI g, 188, .inl (X 12))), ((a 13), .inl (nz_cI g, 16, .inl (X 13)))]) F 1 rfl i7 dX8_row_54 rfl ?_
          refine nz_aload_n F dX8_row_55 rfl 0 rfl ?_
          refine nz_get F iw_X8_row_8 0 rfl rfl 3 (by decide) rfl fl_X8_row_13 rfl dX8_row_56 ?_
          refine nz_iload_n F dX8_row_59 rfl 1 rfl ?_
          refine nz_iload_n F dX8_row_60 rfl 3 rfl ?_
          obtain ⟨i8, h⟩ := h
          refine nz_iast (ws' := [((a 0), .inr (8, [.int 0, .int 0, .ref (a 1), .ref (a 2), .ref (a 3), .ref (a 4), .ref (a 5), .ref (a 6), .int (X 0 8), .ref (a 7), .int (X 0 10), .int (X 0 11), .int (X 0 12), .int (X 0 13), .int (X 0 14), .int (X 0 15), .int (X 0 16), .int (X 0 17), .int (X 0 18), .ref (a 8), .ref (a 9), .ref (a 10), .ref (a 11), .ref (a 12), .ref (a 13), .int (X 0 25)])), ((a 1), .inl (nz_cI g, 8, .inl (upd (X 1) v1.toNatClampNeg v2))), ((a 2), .inl (nz_cI g, 8, .inl (upd (X 2) v1.toNatClampNeg v3))), ((a 3), .inl (nz_cI g, 320, .inl (X 3))), ((a 4), .inl (nz_cI g, 94, .inl (X 4))), ((a 5), .inl (nz_cI g, 94, .inl (X 5))), ((a 6), .inl (nz_cI g, 168, .inl (X 6))), ((a 7), .inl (nz_cI g, 400, .inl (X 7))), ((a 8), .inl (nz_cI g, 6, .inl (X 8))), ((a 9), .inl (nz_cI g, 49, .inl (X 9))), ((a 10), .inl (nz_cI g, 6, .inl (X 10))), ((a 11), .inl (nz_cZ g, 2, .inl (X 11))), ((a 12), .inl (nz_cI g, 188, .inl (X 12))), ((a 13), .inl (nz_cI g, 16, .inl (X 13)))]) F 2 rfl i8 dX8_row_61 rfl ?_
          refine nz_iconst (v := 0) F dX8_row_62 (by decide) ?_
          refine nz_istore (lv' := [(4, .int 0), (0, .ref (a 0)), (1, .int v1), (2, .int v2), (3, .int v3)]) F dX8_row_63 (by decide) rfl ?_
          refine nz_ls (lv' := [(0, .ref (a 0)), (1, .int v1), (3, .int v3), (4, .int 0)]) [1, 2, 4, 0] rfl ?_
          obtain ⟨n1, h⟩ := h
          exact t_X8_row_65 F a X v1 v2 v3 0 0 (upd (X 1) v1.toNatClampNeg v2) (upd (X 2) v1.toNatClampNeg v3) hQ n1 0 (X 3) h
        · have h := h.2 c6
          refine nz_aload_n F dX8_row_42 rfl 0 rfl ?_
          refine nz_iconst (v := 4) F dX8_row_43 (by decide) ?_
          refine k_X8_finding (a 0) (a 1) (a 2) (a 3) (a 4) (a 5) (a 6) (a 7) (a 8) (a 9) (a 10) (a 11) (a 12) (a 13) 0 0 (X 0 8) (X 0 10) (X 0 11) (X 0 12) (X 0 13) (X 0 14) (X 0 15) (X 0 16) (X 0 17) (X 0 18) (X 0 25) (X 1) (X 2) (X 3) (X 4) (X 5) (X 6) (X 7) (X 8) (X 9) (X 10) (X 11) (X 12) (X 13) 4 (fun hM => nz_runV F gX8_row_X8_finding rfl hd_X8_finding rfl hM dX8_row_44 [0, 1, 2, 3, 4, 5, 6, 7, 8, 9, 10, 11, 12, 13] rfl rfl 0 rfl rfl rfl (Nat.le_of_ble_eq_true rfl) rfl) h (fun m12 => [((a 0), .inr (8, [.int 0, .int m12, .ref (a 1), .ref (a 2), .ref (a 3), .ref (a 4), .ref (a 5), .ref (a 6), .int (X 0 8), .ref (a 7), .int (X 0 10), .int (X 0 11), .int (X 0 12), .int (X 0 13), .int (X 0 14), .int (X 0 15), .int (X 0 16), .int (X 0 17), .int (X 0 18), .ref (a 8), .ref (a 9), .ref (a 10), .ref (a 11), .ref (a 12), .ref (a 13), .int (X 0 25)])), ((a 1), .inl (nz_cI g, 8, .inl (X 1))), ((a 2), .inl (nz_cI g, 8, .inl (X 2))), ((a 3), .inl (nz_cI g, 320, .inl (X 3))), ((a 4), .inl (nz_cI g, 94, .inl (X 4))), ((a 5), .inl (nz_cI g, 94, .inl (X 5))), ((a 6), .inl (nz_cI g, 168, .inl (X 6))), ((a 7), .inl (nz_cI g, 400, .inl (X 7))), ((a 8), .inl (nz_cI g, 6, .inl (X 8))), ((a 9), .inl (nz_cI g, 49, .inl (X 9))), ((a 10), .inl (nz_cI g, 6, .inl (X 10))), ((a 11), .inl (nz_cZ g, 2, .inl (X 11))), ((a 12), .inl (nz_cI g, 188, .inl (X 12))), ((a 13), .inl (nz_cI g, 16, .inl (X 13)))]) (fun _ => rfl) (fun q11 m12 h => ?_)
          exact nz_iret F hQ (va_up X 0 (upd (upd (X 0) 0 0) 1 m12)) h rfl dX8_row_47
      · have h := h.2 c5
        refine nz_ldc (v := (-1000001 : Int32)) F wd_X8_row_c70 dX8_row_30 ?_
        exact nz_iret F hQ (va_up X 0 (upd (X 0) 0 0)) h rfl dX8_row_32
theorem k_X8_row {y : nz_Y} {g : nz_G} {k n : Nat} {ws : va_W} {pc : Nat} {ls : List (Nat × Value)} {st rest : List Value} {av : Array Value} {isC : List Nat} {K : Int32 → (Nat → Nat → Int32) → Prop} (a : Nat → Nat) (X : Nat → Nat → Int32) (v1 : Int32) (v2 : Int32) (v3 : Int32) (run : nz_M (yz_l y) yX8_row wsX8_row rm_X8_row g [.ref (a 0), .int v1, .int v2, .int v3] (nz_wM g a X) (nz_Qi g (nz_wM g a X) (fun r (u : Nat → Nat → Int32) => K r u) (fun u => nz_wM g a u)) → nz_C y g k n ws pc ls st rest (nz_wM g a X) (nz_Qi g (nz_wM g a X) (fun r (u : Nat → Nat → Int32) => K r u) (fun u => nz_wM g a u)) av isC) (h : wp_X8_row X v1 v2 v3 K) (ws' : (Nat → Nat → Int32) → va_W) (hm : ∀ (m0 : (Nat → Nat → Int32)), nz_mrg ws isC (nz_wM g a m0) = ws' m0) (kk : ∀ (r : Int32) (m0 : (Nat → Nat → Int32)), K r m0 → nz_V y g k n (ws' m0) (pc + 3) ls (.int r :: rest)) : nz_V y g k n ws pc ls st :=
  nz_ci (ws' := fun u => ws' u) (run (c_X8_row (yz_l y) g a X v1 v2 v3 K h)) (fun _ => rfl) (fun u => hm u) (fun r u h => kk r u h)
theorem dX8_set_0 : decode cX8_set 0 = .ok (.aload_n 0, 1) := by decide +kernel
theorem dX8_set_1 : decode cX8_set 1 = .ok (.iconst 0, 1) := by decide +kernel
theorem dX8_set_2 : decode cX8_set 2 = .ok (.putfield 50, 3) := by decide +kernel
theorem dX8_set_5 : decode cX8_set 5 = .ok (.iload_n 1, 1) := by decide +kernel
theorem dX8_set_6 : decode cX8_set 6 = .ok (.invokestatic 64, 3) := by decide +kernel
theorem dX8_set_9 : decode cX8_set 9 = .ok (.ifCond .ne 6, 3) := by decide +kernel
theorem dX8_set_12 : decode cX8_set 12 = .ok (.ldc 70, 2) := by decide +kernel
theorem dX8_set_14 : decode cX8_set 14 = .ok (.ireturn, 1) := by decide +kernel
theorem dX8_set_15 : decode cX8_set 15 = .ok (.aload_n 0, 1) := by decide +kernel
theorem dX8_set_16 : decode cX8_set 16 = .ok (.iconst 0, 1) := by decide +kernel
theorem dX8_set_17 : decode cX8_set 17 = .ok (.putfield 54, 3) := by decide +kernel
theorem dX8_set_20 : decode cX8_set 20 = .ok (.aload_n 0, 1) := by decide +kernel
theorem dX8_set_21 : decode cX8_set 21 = .ok (.getfield 7, 3) := by decide +kernel
theorem dX8_set_24 : decode cX8_set 24 = .ok (.iload_n 1, 1) := by decide +kernel
theorem dX8_set_25 : decode cX8_set 25 = .ok (.iaload, 1) := by decide +kernel
theorem dX8_set_26 : decode cX8_set 26 = .ok (.ifCond .ge 9, 3) := by decide +kernel
theorem dX8_set_29 : decode cX8_set 29 = .ok (.aload_n 0, 1) := by decide +kernel
theorem dX8_set_30 : decode cX8_set 30 = .ok (.iconst 1, 1) := by decide +kernel
theorem dX8_set_31 : decode cX8_set 31 = .ok (.invokevirtual 71, 3) := by decide +kernel
theorem dX8_set_34 : decode cX8_set 34 = .ok (.ireturn, 1) := by decide +kernel
theorem dX8_set_35 : decode cX8_set 35 = .ok (.iload_n 2, 1) := by decide +kernel
theorem dX8_set_36 : decode cX8_set 36 = .ok (.i2l, 1) := by decide +kernel
theorem dX8_set_37 : decode cX8_set 37 = .ok (.lconst 0, 1) := by decide +kernel
theorem dX8_set_38 : decode cX8_set 38 = .ok (.aload_n 0, 1) := by decide +kernel
theorem dX8_set_39 : decode cX8_set 39 = .ok (.getfield 13, 3) := by decide +kernel
theorem dX8_set_42 : decode cX8_set 42 = .ok (.iload_n 1, 1) := by decide +kernel
theorem dX8_set_43 : decode cX8_set 43 = .ok (.iaload, 1) := by decide +kernel
theorem dX8_set_44 : decode cX8_set 44 = .ok (.iconst 1, 1) := by decide +kernel
theorem dX8_set_45 : decode cX8_set 45 = .ok (.isub, 1) := by decide +kernel
theorem dX8_set_46 : decode cX8_set 46 = .ok (.i2l, 1) := by decide +kernel
theorem dX8_set_47 : decode cX8_set 47 = .ok (.invokestatic 60, 3) := by decide +kernel
theorem dX8_set_50 : decode cX8_set 50 = .ok (.ifCond .ne 9, 3) := by decide +kernel
theorem dX8_set_53 : decode cX8_set 53 = .ok (.aload_n 0, 1) := by decide +kernel
theorem dX8_set_54 : decode cX8_set 54 = .ok (.iconst 2, 1) := by decide +kernel
theorem dX8_set_55 : decode cX8_set 55 = .ok (.invokevirtual 71, 3) := by decide +kernel
theorem dX8_set_58 : decode cX8_set 58 = .ok (.ireturn, 1) := by decide +kernel
theorem dX8_set_59 : decode cX8_set 59 = .ok (.aload_n 0, 1) := by decide +kernel
theorem dX8_set_60 : decode cX8_set 60 = .ok (.getfield 16, 3) := by decide +kernel
theorem dX8_set_63 : decode cX8_set 63 = .ok (.bipush 40, 2) := by decide +kernel
theorem dX8_set_65 : decode cX8_set 65 = .ok (.iload_n 1, 1) := by decide +kernel
theorem dX8_set_66 : decode cX8_set 66 = .ok (.imul, 1) := by decide +kernel
theorem dX8_set_67 : decode cX8_set 67 = .ok (.iload_n 2, 1) := by decide +kernel
theorem dX8_set_68 : decode cX8_set 68 = .ok (.iadd, 1) := by decide +kernel
theorem dX8_set_69 : decode cX8_set 69 = .ok (.aload_n 0, 1) := by decide +kernel
theorem dX8_set_70 : decode cX8_set 70 = .ok (.getfield 7, 3) := by decide +kernel
theorem dX8_set_73 : decode cX8_set 73 = .ok (.iload_n 1, 1) := by decide +kernel
theorem dX8_set_74 : decode cX8_set 74 = .ok (.iaload, 1) := by decide +kernel
theorem dX8_set_75 : decode cX8_set 75 = .ok (.ifCond .ne 8, 3) := by decide +kernel
theorem dX8_set_78 : decode cX8_set 78 = .ok (.iload_n 3, 1) := by decide +kernel
theorem dX8_set_79 : decode cX8_set 79 = .ok (.i2b, 1) := by decide +kernel
theorem dX8_set_80 : decode cX8_set 80 = .ok (.goto 19, 3) := by decide +kernel
theorem dX8_set_83 : decode cX8_set 83 = .ok (.aload_n 0, 1) := by decide +kernel
theorem dX8_set_84 : decode cX8_set 84 = .ok (.getfield 7, 3) := by decide +kernel
theorem dX8_set_87 : decode cX8_set 87 = .ok (.iload_n 1, 1) := by decide +kernel
theorem dX8_set_88 : decode cX8_set 88 = .ok (.iaload, 1) := by decide +kernel
theorem dX8_set_89 : decode cX8_set 89 = .ok (.iconst 1, 1) := by decide +kernel
theorem dX8_set_90 : decode cX8_set 90 = .ok (.if_icmp .ne 8, 3) := by decide +kernel
theorem dX8_set_93 : decode cX8_set 93 = .ok (.iload_n 3, 1) := by decide +kernel
theorem dX8_set_94 : decode cX8_set 94 = .ok (.i2s, 1) := by decide +kernel
theorem dX8_set_95 : decode cX8_set 95 = .ok (.goto 4, 3) := by decide +kernel
theorem dX8_set_98 : decode cX8_set 98 = .ok (.iload_n 3, 1) := by decide +kernel
theorem dX8_set_99 : decode cX8_set 99 = .ok (.iastore, 1) := by decide +kernel
theorem dX8_set_100 : decode cX8_set 100 = .ok (.aload_n 0, 1) := by decide +kernel
theorem dX8_set_101 : decode cX8_set 101 = .ok (.getfield 16, 3) := by decide +kernel
theorem dX8_set_104 : decode cX8_set 104 = .ok (.bipush 40, 2) := by decide +kernel
theorem dX8_set_106 : decode cX8_set 106 = .ok (.iload_n 1, 1) := by decide +kernel
theorem dX8_set_107 : decode cX8_set 107 = .ok (.imul, 1) := by decide +kernel
theorem dX8_set_108 : decode cX8_set 108 = .ok (.iload_n 2, 1) := by decide +kernel
theorem dX8_set_109 : decode cX8_set 109 = .ok (.iadd, 1) := by decide +kernel
theorem dX8_set_110 : decode cX8_set 110 = .ok (.iaload, 1) := by decide +kernel
theorem dX8_set_111 : decode cX8_set 111 = .ok (.ireturn, 1) := by decide +kernel
set_option maxRecDepth 20000 in
theorem ggX8_set_X8_finding : GoodIn wsX8_set wsX8_finding := goodIn_r _ [18, 3, 19, 20, 21, 22, 23, 24, 25, 26, 27, 28, 29, 30, 31, 32, 33, 34, 35, 36, 37, 38, 39, 40, 41, 42, 43, 44, 45] rfl (by decide +kernel)
set_option maxRecDepth 20000 in
theorem gX8_set_X8_finding : GoodIn wsX8_set (wsV RX8 71 RX8 yX8_finding wsX8_finding) := goodIn_app (goodIn_r _ [15, 16, 17, 9] rfl (by decide +kernel)) ggX8_set_X8_finding
set_option maxRecDepth 20000 in
theorem ggX8_set_X8_in : GoodIn wsX8_set wsX8_in := goodIn_r _ [14] rfl (by decide +kernel)
set_option maxRecDepth 20000 in
theorem gX8_set_X8_in : GoodIn wsX8_set (va_wsS RX8 60 yX8_in wsX8_in) := goodIn_app (goodIn_r _ [12, 13, 9] rfl (by decide +kernel)) ggX8_set_X8_in
set_option maxRecDepth 20000 in
theorem ggX8_set_X8_isRow : GoodIn wsX8_set wsX8_isRow := goodIn_r _ [10, 11, 12, 13, 9, 14] rfl (by decide +kernel)
set_option maxRecDepth 20000 in
theorem gX8_set_X8_isRow : GoodIn wsX8_set (va_wsS RX8 64 yX8_isRow wsX8_isRow) := goodIn_app (goodIn_r _ [7, 8, 9] rfl (by decide +kernel)) ggX8_set_X8_isRow
/-! X8_set -/
abbrev rm_X8_set : Room := { frames := 2, cells := 0, slots := 0, locals := 45 }
theorem iw_X8_set_8 : ∀ w ∈ wsX80, w ∈ wsX8_set := fun _ h => List.mem_cons_of_mem _ (List.mem_append_right _ h)
theorem fl_X8_set_50 : Cond.fieldLink RX8 50 "NightStonesModel" "thrown" "I" ∈ wsX8_set := List.mem_of_getElem? (i := 1) rfl
theorem fl_X8_set_54 : Cond.fieldLink RX8 54 "NightStonesModel" "status" "I" ∈ wsX8_set := List.mem_of_getElem? (i := 3) rfl
theorem fl_X8_set_7 : Cond.fieldLink RX8 7 "NightStonesModel" "lane" "[I" ∈ wsX8_set := List.mem_of_getElem? (i := 4) rfl
theorem fl_X8_set_13 : Cond.fieldLink RX8 13 "NightStonesModel" "many" "[I" ∈ wsX8_set := List.mem_of_getElem? (i := 5) rfl
theorem fl_X8_set_16 : Cond.fieldLink RX8 16 "NightStonesModel" "item" "[I" ∈ wsX8_set := List.mem_of_getElem? (i := 6) rfl
theorem wd_X8_set_c70 : Cond.constant RX8 70 (-1000001) ∈ wsX8_set := List.mem_of_getElem? (i := 2) rfl
def S_X8_set_99 (X : Nat → Nat → Int32) (v1 : Int32) (v2 : Int32) (s0 : Int32) (s1 : Int32) (c0_0 : Int32) (c0_1 : Int32) (c3_c : Nat → Int32) (K : Int32 → (Nat → Nat → Int32) → Prop) : Prop := (vp_in s1 320 ∧ (vp_in ((40 * v1) + v2) 320 ∧ K ((upd c3_c s1.toNatClampNeg s0) ((40 * v1) + v2).toNatClampNeg) (va_up (va_up X 0 (upd (upd (X 0) 0 c0_0) 1 c0_1)) 3 (upd c3_c s1.toNatClampNeg s0))))
set_option maxHeartbeats 4000000 in
set_option maxRecDepth 100000 in
theorem t_X8_set_99 {y : nz_Y} {g : nz_G} (F : nz_F y g cX8_set 4 wsX8_set RX8 (some .int) rm_X8_set) {wc0 : va_W} {sz : Nat} {K : Int32 → (Nat → Nat → Int32) → Prop} (a : Nat → Nat) (X : Nat → Nat → Int32) (v1 : Int32) (v2 : Int32) (v3 : Int32) (s0 : Int32) (s1 : Int32) (c0_0 : Int32) (c0_1 : Int32) (c3_c : Nat → Int32) (hQ : yz_A y = va_A wc0 sz ∧ yz_Q y = MQ (yz_b y) ((nz_Qi g wc0 (fun r (u : Nat → Nat → Int32) => K r u) (fun u => nz_wM g a u)) sz) (yz_a y) (yz_s y) 0 0 (va_A wc0 sz)) : S_X8_set_99 X v1 v2 s0 s1 c0_0 c0_1 c3_c K → nz_V y g 0 0 [((a 0), .inr (8, [.int c0_0, .int c0_1, .ref (a 1), .ref (a 2), .ref (a 3), .ref (a 4), .ref (a 5), .ref (a 6), .int (X 0 8), .ref (a 7), .int (X 0 10), .int (X 0 11), .int (X 0 12), .int (X 0 13), .int (X 0 14), .int (X 0 15), .int (X 0 16), .int (X 0 17), .int (X 0 18), .ref (a 8), .ref (a 9), .ref (a 10), .ref (a 11), .ref (a 12), .ref (a 13), .int (X 0 25)])), ((a 1), .inl (nz_cI g, 8, .inl (X 1))), ((a 2), .inl (nz_cI g, 8, .inl (X 2))), ((a 3), .inl (nz_cI g, 320, .inl c3_c)), ((a 4), .inl (nz_cI g, 94, .inl (X 4))), ((a 5), .inl (nz_cI g, 94, .inl (X 5))), ((a 6), .inl (nz_cI g, 168, .inl (X 6))), ((a 7), .inl (nz_cI g, 400, .inl (X 7))), ((a 8), .inl (nz_cI g, 6, .inl (X 8))), ((a 9), .inl (nz_cI g, 49, .inl (X 9))), ((a 10), .inl (nz_cI g, 6, .inl (X 10))), ((a 11), .inl (nz_cZ g, 2, .inl (X 11))), ((a 12), .inl (nz_cI g, 188, .inl (X 12))), ((a 13), .inl (nz_cI g, 16, .inl (X 13)))] 99 [(0, .ref (a 0)), (1, .int v1), (2, .int v2)] [.int s0, .int s1, .ref (a 3)] := by
  intro h
  unfold S_X8_set_99 at h
  obtain ⟨i12, h⟩ := h
  refine nz_iast (ws' := [((a 0), .inr (8, [.int c0_0, .int c0_1, .ref (a 1), .ref (a 2), .ref (a 3), .ref (a 4), .ref (a 5), .ref (a 6), .int (X 0 8), .ref (a 7), .int (X 0 10), .int (X 0 11), .int (X 0 12), .int (X 0 13), .int (X 0 14), .int (X 0 15), .int (X 0 16), .int (X 0 17), .int (X 0 18), .ref (a 8), .ref (a 9), .ref (a 10), .ref (a 11), .ref (a 12), .ref (a 13), .int (X 0 25)])), ((a 1), .inl (nz_cI g, 8, .inl (X 1))), ((a 2), .inl (nz_cI g, 8, .inl (X 2))), ((a 3), .inl (nz_cI g, 320, .inl (upd c3_c s1.toNatClampNeg s0))), ((a 4), .inl (nz_cI g, 94, .inl (X 4))), ((a 5), .inl (nz_cI g, 94, .inl (X 5))), ((a 6), .inl (nz_cI g, 168, .inl (X 6))), ((a 7), .inl (nz_cI g, 400, .inl (X 7))), ((a 8), .inl (nz_cI g, 6, .inl (X 8))), ((a 9), .inl (nz_cI g, 49, .inl (X 9))), ((a 10), .inl (nz_cI g, 6, .inl (X 10))), ((a 11), .inl (nz_cZ g, 2, .inl (X 11))), ((a 12), .inl (nz_cI g, 188, .inl (X 12))), ((a 13), .inl (nz_cI g, 16, .inl (X 13)))]) F 3 rfl i12 dX8_set_99 rfl ?_
  refine nz_aload_n F dX8_set_100 rfl 0 rfl ?_
  refine nz_get F iw_X8_set_8 0 rfl rfl 4 (by decide) rfl fl_X8_set_16 rfl dX8_set_101 ?_
  refine nz_bipush (v := 40) F dX8_set_104 (by decide) ?_
  refine nz_iload_n F dX8_set_106 rfl 1 rfl ?_
  refine nz_imul F dX8_set_107 ?_
  refine nz_iload_n F dX8_set_108 rfl 2 rfl ?_
  refine nz_iadd F dX8_set_109 ?_
  obtain ⟨i13, h⟩ := h
  refine nz_iald F 3 rfl i13 dX8_set_110 ?_
  exact nz_iret F hQ (va_up (va_up X 0 (upd (upd (X 0) 0 c0_0) 1 c0_1)) 3 (upd c3_c s1.toNatClampNeg s0)) h rfl dX8_set_111
def wp_X8_set (X : Nat → Nat → Int32) (v1 : Int32) (v2 : Int32) (v3 : Int32) (K : Int32 → (Nat → Nat → Int32) → Prop) : Prop := wp_X8_isRow v1 (fun q1 => ((¬ q1 = 0 → (vp_in v1 8 ∧ ((0 ≤ ((X 1) v1.toNatClampNeg) → (vp_in v1 8 ∧ wp_X8_in ((v2 : Int32).toInt64) 0 (((((X 2) v1.toNatClampNeg) - 1) : Int32).toInt64) (fun q6 => ((¬ q6 = 0 → (vp_in v1 8 ∧ ((¬ ((X 1) v1.toNatClampNeg) = 0 → (vp_in v1 8 ∧ ((¬ ((X 1) v1.toNatClampNeg) = 1 → S_X8_set_99 X v1 v2 v3 ((40 * v1) + v2) 0 0 (X 3) K) ∧ (((X 1) v1.toNatClampNeg) = 1 → S_X8_set_99 X v1 v2 ((v3 : Int32).toInt16.toInt32) ((40 * v1) + v2) 0 0 (X 3) K)))) ∧ (((X 1) v1.toNatClampNeg) = 0 → S_X8_set_99 X v1 v2 ((v3 : Int32).toInt8.toInt32) ((40 * v1) + v2) 0 0 (X 3) K)))) ∧ (q6 = 0 → wp_X8_finding 2 (fun q14 m15 => K q14 (va_up X 0 (upd (upd (X 0) 0 0) 1 m15)))))))) ∧ (¬ (0 ≤ ((X 1) v1.toNatClampNeg)) → wp_X8_finding 1 (fun q16 m17 => K q16 (va_up X 0 (upd (upd (X 0) 0 0) 1 m17))))))) ∧ (q1 = 0 → K (-1000001 : Int32) (va_up X 0 (upd (X 0) 0 0)))))
set_option maxHeartbeats 4000000 in
set_option maxRecDepth 100000 in
theorem c_X8_set (l : Launch) (g : nz_G) (a : Nat → Nat) (X : Nat → Nat → Int32) (v1 : Int32) (v2 : Int32) (v3 : Int32) (K : Int32 → (Nat → Nat → Int32) → Prop) (h : wp_X8_set X v1 v2 v3 K) : nz_M l yX8_set wsX8_set rm_X8_set g [.ref (a 0), .int v1, .int v2, .int v3] (nz_wM g a X) (nz_Qi g (nz_wM g a X) (fun r (u : Nat → Nat → Int32) => K r u) (fun u => nz_wM g a u)) := by
  refine nz_M.of (bytes := cX8_set) (nL := 4) (ret := (some .int)) (own := RX8) (by decide) rfl rfl ⟨rfl, rfl⟩ rfl ?_
  intro y F hl hQ
  obtain ⟨sz, hQ⟩ := hQ
  refine nz_ent (lv' := [(0, .ref (a 0)), (1, .int v1), (2, .int v2), (3, .int v3)]) rfl ?_
  unfold wp_X8_set at h
  refine nz_aload_n F dX8_set_0 rfl 0 rfl ?_
  refine nz_iconst (v := 0) F dX8_set_1 (by decide) ?_
  refine nz_put (ws' := [((a 0), .inr (8, [.int 0, .int (X 0 1), .ref (a 1), .ref (a 2), .ref (a 3), .ref (a 4), .ref (a 5), .ref (a 6), .int (X 0 8), .ref (a 7), .int (X 0 10), .int (X 0 11), .int (X 0 12), .int (X 0 13), .int (X 0 14), .int (X 0 15), .int (X 0 16), .int (X 0 17), .int (X 0 18), .ref (a 8), .ref (a 9), .ref (a 10), .ref (a 11), .ref (a 12), .ref (a 13), .int (X 0 25)])), ((a 1), .inl (nz_cI g, 8, .inl (X 1))), ((a 2), .inl (nz_cI g, 8, .inl (X 2))), ((a 3), .inl (nz_cI g, 320, .inl (X 3))), ((a 4), .inl (nz_cI g, 94, .inl (X 4))), ((a 5), .inl (nz_cI g, 94, .inl (X 5))), ((a 6), .inl (nz_cI g, 168, .inl (X 6))), ((a 7), .inl (nz_cI g, 400, .inl (X 7))), ((a 8), .inl (nz_cI g, 6, .inl (X 8))), ((a 9), .inl (nz_cI g, 49, .inl (X 9))), ((a 10), .inl (nz_cI g, 6, .inl (X 10))), ((a 11), .inl (nz_cZ g, 2, .inl (X 11))), ((a 12), .inl (nz_cI g, 188, .inl (X 12))), ((a 13), .inl (nz_cI g, 16, .inl (X 13)))]) F iw_X8_set_8 tyX8 tyX8_ok nmX8 0 rfl rfl 0 (by decide) rfl fl_X8_set_50 rfl rfl (Nat.le_of_ble_eq_true rfl) dX8_set_2 rfl ?_
  refine nz_iload_n F dX8_set_5 rfl 1 rfl ?_
  refine k_X8_isRow v1 (fun hM => nz_runS F gX8_set_X8_isRow rfl hd_X8_isRow.2 rfl hM dX8_set_6 [] rfl rfl rfl (Nat.le_of_ble_eq_true rfl) rfl) h ([((a 0), .inr (8, [.int 0, .int (X 0 1), .ref (a 1), .ref (a 2), .ref (a 3), .ref (a 4), .ref (a 5), .ref (a 6), .int (X 0 8), .ref (a 7), .int (X 0 10), .int (X 0 11), .int (X 0 12), .int (X 0 13), .int (X 0 14), .int (X 0 15), .int (X 0 16), .int (X 0 17), .int (X 0 18), .ref (a 8), .ref (a 9), .ref (a 10), .ref (a 11), .ref (a 12), .ref (a 13), .int (X 0 25)])), ((a 1), .inl (nz_cI g, 8, .inl (X 1))), ((a 2), .inl (nz_cI g, 8, .inl (X 2))), ((a 3), .inl (nz_cI g, 320, .inl (X 3))), ((a 4), .inl (nz_cI g, 94, .inl (X 4))), ((a 5), .inl (nz_cI g, 94, .inl (X 5))), ((a 6), .inl (nz_cI g, 168, .inl (X 6))), ((a 7), .inl (nz_cI g, 400, .inl (X 7))), ((a 8), .inl (nz_cI g, 6, .inl (X 8))), ((a 9), .inl (nz_cI g, 49, .inl (X 9))), ((a 10), .inl (nz_cI g, 6, .inl (X 10))), ((a 11), .inl (nz_cZ g, 2, .inl (X 11))), ((a 12), .inl (nz_cI g, 188, .inl (X 12))), ((a 13), .inl (nz_cI g, 16, .inl (X 13)))]) (rfl) (fun q1 h => ?_)
  refine nz_if_ne (tgt := 15) F dX8_set_9 (by decide) (fun c2 => ?_) (fun c2 => ?_)
  · have h := h.1 c2
    refine nz_aload_n F dX8_set_15 rfl 0 rfl ?_
    refine nz_iconst (v := 0) F dX8_set_16 (by decide) ?_
    refine nz_put (ws' := [((a 0), .inr (8, [.int 0, .int 0, .ref (a 1), .ref (a 2), .ref (a 3), .ref (a 4), .ref (a 5), .ref (a 6), .int (X 0 8), .ref (a 7), .int (X 0 10), .int (X 0 11), .int (X 0 12), .int (X 0 13), .int (X 0 14), .int (X 0 15), .int (X 0 16), .int (X 0 17), .int (X 0 18), .ref (a 8), .ref (a 9), .ref (a 10), .ref (a 11), .ref (a 12), .ref (a 13), .int (X 0 25)])), ((a 1), .inl (nz_cI g, 8, .inl (X 1))), ((a 2), .inl (nz_cI g, 8, .inl (X 2))), ((a 3), .inl (nz_cI g, 320, .inl (X 3))), ((a 4), .inl (nz_cI g, 94, .inl (X 4))), ((a 5), .inl (nz_cI g, 94, .inl (X 5))), ((a 6), .inl (nz_cI g, 168, .inl (X 6))), ((a 7), .inl (nz_cI g, 400, .inl (X 7))), ((a 8), .inl (nz_cI g, 6, .inl (X 8))), ((a 9), .inl (nz_cI g, 49, .inl (X 9))), ((a 10), .inl (nz_cI g, 6, .inl (X 10))), ((a 11), .inl (nz_cZ g, 2, .inl (X 11))), ((a 12), .inl (nz_cI g, 188, .inl (X 12))), ((a 13), .inl (nz_cI g, 16, .inl (X 13)))]) F iw_X8_set_8 tyX8 tyX8_ok nmX8 0 rfl rfl 1 (by decide) rfl fl_X8_set_54 rfl rfl (Nat.le_of_ble_eq_true rfl) dX8_set_17 rfl ?_
    refine nz_aload_n F dX8_set_20 rfl 0 rfl ?_
    refine nz_get F iw_X8_set_8 0 rfl rfl 2 (by decide) rfl fl_X8_set_7 rfl dX8_set_21 ?_
    refine nz_iload_n F dX8_set_24 rfl 1 rfl ?_
    obtain ⟨i3, h⟩ := h
    refine nz_iald F 1 rfl i3 dX8_set_25 ?_
    refine nz_if_ge (tgt := 35) F dX8_set_26 (by decide) (fun c4 => ?_) (fun c4 => ?_)
    · have h := h.1 c4
      refine nz_iload_n F dX8_set_35 rfl 2 rfl ?_
      refine nz_i2l (v := ((v2 : Int32).toInt64)) F dX8_set_36 rfl ?_
      refine nz_lconst (v := 0) F dX8_set_37 (by decide) ?_
      refine nz_aload_n F dX8_set_38 rfl 0 rfl ?_
      refine nz_get F iw_X8_set_8 0 rfl rfl 3 (by decide) rfl fl_X8_set_13 rfl dX8_set_39 ?_
      refine nz_iload_n F dX8_set_42 rfl 1 rfl ?_
      obtain ⟨i5, h⟩ := h
      refine nz_iald F 2 rfl i5 dX8_set_43 ?_
      refine nz_iconst (v := 1) F dX8_set_44 (by decide) ?_
      refine nz_isub F dX8_set_45 ?_
      refine nz_i2l (v := (((((X 2) v1.toNatClampNeg) - 1) : Int32).toInt64)) F dX8_set_46 rfl ?_
      refine k_X8_in ((v2 : Int32).toInt64) 0 (((((X 2) v1.toNatClampNeg) - 1) : Int32).toInt64) (fun hM => nz_runS F gX8_set_X8_in rfl hd_X8_in.2 rfl hM dX8_set_47 [] rfl rfl rfl (Nat.le_of_ble_eq_true rfl) rfl) h ([((a 0), .inr (8, [.int 0, .int 0, .ref (a 1), .ref (a 2), .ref (a 3), .ref (a 4), .ref (a 5), .ref (a 6), .int (X 0 8), .ref (a 7), .int (X 0 10), .int (X 0 11), .int (X 0 12), .int (X 0 13), .int (X 0 14), .int (X 0 15), .int (X 0 16), .int (X 0 17), .int (X 0 18), .ref (a 8), .ref (a 9), .ref (a 10), .ref (a 11), .ref (a 12), .ref (a 13), .int (X 0 25)])), ((a 1), .inl (nz_cI g, 8, .inl (X 1))), ((a 2), .inl (nz_cI g, 8, .inl (X 2))), ((a 3), .inl (nz_cI g, 320, .inl (X 3))), ((a 4), .inl (nz_cI g, 94, .inl (X 4))), ((a 5), .inl (nz_cI g, 94, .inl (X 5))), ((a 6), .inl (nz_cI g, 168, .inl (X 6))), ((a 7), .inl (nz_cI g, 400, .inl (X 7))), ((a 8), .inl (nz_cI g, 6, .inl (X 8))), ((a 9), .inl (nz_cI g, 49, .inl (X 9))), ((a 10), .inl (nz_cI g, 6, .inl (X 10))), ((a 11), .inl (nz_cZ g, 2, .inl (X 11))), ((a 12), .inl (nz_cI g, 188, .inl (X 12))), ((a 13), .inl (nz_cI g, 16, .inl (X 13)))]) (rfl) (fun q6 h => ?_)
      refine nz_if_ne (tgt := 59) F dX8_set_50 (by decide) (fun c7 => ?_) (fun c7 => ?_)
      · have h := h.1 c7
        refine nz_aload_n F dX8_set_59 rfl 0 rfl ?_
        refine nz_get F iw_X8_set_8 0 rfl rfl 4 (by decide) rfl fl_X8_set_16 rfl dX8_set_60 ?_
        refine nz_bipush (v := 40) F dX8_set_63 (by decide) ?_
        refine nz_iload_n F dX8_set_65 rfl 1 rfl ?_
        refine nz_imul F dX8_set_66 ?_
        refine nz_iload_n F dX8_set_67 rfl 2 rfl ?_
        refine nz_iadd F dX8_set_68 ?_
        refine nz_aload_n F dX8_set_69 rfl 0 rfl ?_
        refine nz_get F iw_X8_set_8 0 rfl rfl 2 (by decide) rfl fl_X8_set_7 rfl dX8_set_70 ?_
        refine nz_iload_n F dX8_set_73 rfl 1 rfl ?_
        obtain ⟨i8, h⟩ := h
        refine nz_iald F 1 rfl i8 dX8_set_74 ?_
        refine nz_if_ne (tgt := 83) F dX8_set_75 (by decide) (fun c9 => ?_) (fun c9 => ?_)
        · have h := h.1 c9
          refine nz_aload_n F dX8_set_83 rfl 0 rfl ?_
          refine nz_get F iw_X8_set_8 0 rfl rfl 2 (by decide) rfl fl_X8_set_7 rfl dX8_set_84 ?_
          refine nz_iload_n F dX8_set_87 rfl 1 rfl ?_
          obtain ⟨i10, h⟩ := h
          refine nz_iald F 1 rfl i10 dX8_set_88 ?_
          refine nz_iconst (v := 1) F dX8_set_89 (by decide) ?_
          refine nz_icmp_ne (tgt := 98) F dX8_set_90 (by decide) (fun c11 => ?_) (fun c11 => ?_)
          · have h := h.1 c11
            refine nz_iload_n F dX8_set_98 rfl 3 rfl ?_
            refine nz_ls (lv' := [(0, .ref (a 0)), (1, .int v1), (2, .int v2)]) [0, 1, 2] rfl ?_
            exact t_X8_set_99 F a X v1 v2 v3 v3 ((40 * v1) + v2) 0 0 (X 3) hQ h
          · have h := h.2 c11
            refine nz_iload_n F dX8_set_93 rfl 3 rfl ?_
            refine nz_i2s (v := ((v3 : Int32).toInt16.toInt32)) F dX8_set_94 rfl ?_
            refine nz_goto (tgt := 99) F dX8_set_95 (by decide) ?_
            refine nz_ls (lv' := [(0, .ref (a 0)), (1, .int v1), (2, .int v2)]) [0, 1, 2] rfl ?_
            exact t_X8_set_99 F a X v1 v2 v3 ((v3 : Int32).toInt16.toInt32) ((40 * v1) + v2) 0 0 (X 3) hQ h
        · have h := h.2 c9
          refine nz_iload_n F dX8_set_78 rfl 3 rfl ?_
          refine nz_i2b (v := ((v3 : Int32).toInt8.toInt32)) F dX8_set_79 rfl ?_
          refine nz_goto (tgt := 99) F dX8_set_80 (by decide) ?_
          refine nz_ls (lv' := [(0, .ref (a 0)), (1, .int v1), (2, .int v2)]) [0, 1, 2] rfl ?_
          exact t_X8_set_99 F a X v1 v2 v3 ((v3 : Int32).toInt8.toInt32) ((40 * v1) + v2) 0 0 (X 3) hQ h
      · have h := h.2 c7
        refine nz_aload_n F dX8_set_53 rfl 0 rfl ?_
        refine nz_iconst (v := 2) F dX8_set_54 (by decide) ?_
        refine k_X8_finding (a 0) (a 1) (a 2) (a 3) (a 4) (a 5) (a 6) (a 7) (a 8) (a 9) (a 10) (a 11) (a 12) (a 13) 0 0 (X 0 8) (X 0 10) (X 0 11) (X 0 12) (X 0 13) (X 0 14) (X 0 15) (X 0 16) (X 0 17) (X 0 18) (X 0 25) (X 1) (X 2) (X 3) (X 4) (X 5) (X 6) (X 7) (X 8) (X 9) (X 10) (X 11) (X 12) (X 13) 2 (fun hM => nz_runV F gX8_set_X8_finding rfl hd_X8_finding rfl hM dX8_set_55 [0, 1, 2, 3, 4, 5, 6, 7, 8, 9, 10, 11, 12, 13] rfl rfl 0 rfl rfl rfl (Nat.le_of_ble_eq_true rfl) rfl) h (fun m15 => [((a 0), .inr (8, [.int 0, .int m15, .ref (a 1), .ref (a 2), .ref (a 3), .ref (a 4), .ref (a 5), .ref (a 6), .int (X 0 8), .ref (a 7), .int (X 0 10), .int (X 0 11), .int (X 0 12), .int (X 0 13), .int (X 0 14), .int (X 0 15), .int (X 0 16), .int (X 0 17), .int (X 0 18), .ref (a 8), .ref (a 9), .ref (a 10), .ref (a 11), .ref (a 12), .ref (a 13), .int (X 0 25)])), ((a 1), .inl (nz_cI g, 8, .inl (X 1))), ((a 2), .inl (nz_cI g, 8, .inl (X 2))), ((a 3), .inl (nz_cI g, 320, .inl (X 3))), ((a 4), .inl (nz_cI g, 94, .inl (X 4))), ((a 5), .inl (nz_cI g, 94, .inl (X 5))), ((a 6), .inl (nz_cI g, 168, .inl (X 6))), ((a 7), .inl (nz_cI g, 400, .inl (X 7))), ((a 8), .inl (nz_cI g, 6, .inl (X 8))), ((a 9), .inl (nz_cI g, 49, .inl (X 9))), ((a 10), .inl (nz_cI g, 6, .inl (X 10))), ((a 11), .inl (nz_cZ g, 2, .inl (X 11))), ((a 12), .inl (nz_cI g, 188, .inl (X 12))), ((a 13), .inl (nz_cI g, 16, .inl (X 13)))]) (fun _ => rfl) (fun q14 m15 h => ?_)
        exact nz_iret F hQ (va_up X 0 (upd (upd (X 0) 0 0) 1 m15)) h rfl dX8_set_58
    · have h := h.2 c4
      refine nz_aload_n F dX8_set_29 rfl 0 rfl ?_
      refine nz_iconst (v := 1) F dX8_set_30 (by decide) ?_
      refine k_X8_finding (a 0) (a 1) (a 2) (a 3) (a 4) (a 5) (a 6) (a 7) (a 8) (a 9) (a 10) (a 11) (a 12) (a 13) 0 0 (X 0 8) (X 0 10) (X 0 11) (X 0 12) (X 0 13) (X 0 14) (X 0 15) (X 0 16) (X 0 17) (X 0 18) (X 0 25) (X 1) (X 2) (X 3) (X 4) (X 5) (X 6) (X 7) (X 8) (X 9) (X 10) (X 11) (X 12) (X 13) 1 (fun hM => nz_runV F gX8_set_X8_finding rfl hd_X8_finding rfl hM dX8_set_31 [0, 1, 2, 3, 4, 5, 6, 7, 8, 9, 10, 11, 12, 13] rfl rfl 0 rfl rfl rfl (Nat.le_of_ble_eq_true rfl) rfl) h (fun m17 => [((a 0), .inr (8, [.int 0, .int m17, .ref (a 1), .ref (a 2), .ref (a 3), .ref (a 4), .ref (a 5), .ref (a 6), .int (X 0 8), .ref (a 7), .int (X 0 10), .int (X 0 11), .int (X 0 12), .int (X 0 13), .int (X 0 14), .int (X 0 15), .int (X 0 16), .int (X 0 17), .int (X 0 18), .ref (a 8), .ref (a 9), .ref (a 10), .ref (a 11), .ref (a 12), .ref (a 13), .int (X 0 25)])), ((a 1), .inl (nz_cI g, 8, .inl (X 1))), ((a 2), .inl (nz_cI g, 8, .inl (X 2))), ((a 3), .inl (nz_cI g, 320, .inl (X 3))), ((a 4), .inl (nz_cI g, 94, .inl (X 4))), ((a 5), .inl (nz_cI g, 94, .inl (X 5))), ((a 6), .inl (nz_cI g, 168, .inl (X 6))), ((a 7), .inl (nz_cI g, 400, .inl (X 7))), ((a 8), .inl (nz_cI g, 6, .inl (X 8))), ((a 9), .inl (nz_cI g, 49, .inl (X 9))), ((a 10), .inl (nz_cI g, 6, .inl (X 10))), ((a 11), .inl (nz_cZ g, 2, .inl (X 11))), ((a 12), .inl (nz_cI g, 188, .inl (X 12))), ((a 13), .inl (nz_cI g, 16, .inl (X 13)))]) (fun _ => rfl) (fun q16 m17 h => ?_)
      exact nz_iret F hQ (va_up X 0 (upd (upd (X 0) 0 0) 1 m17)) h rfl dX8_set_34
  · have h := h.2 c2
    refine nz_ldc (v := (-1000001 : Int32)) F wd_X8_set_c70 dX8_set_12 ?_
    exact nz_iret F hQ (va_up X 0 (upd (X 0) 0 0)) h rfl dX8_set_14
theorem k_X8_set {y : nz_Y} {g : nz_G} {k n : Nat} {ws : va_W} {pc : Nat} {ls : List (Nat × Value)} {st rest : List Value} {av : Array Value} {isC : List Nat} {K : Int32 → (Nat → Nat → Int32) → Prop} (a : Nat → Nat) (X : Nat → Nat → Int32) (v1 : Int32) (v2 : Int32) (v3 : Int32) (run : nz_M (yz_l y) yX8_set wsX8_set rm_X8_set g [.ref (a 0), .int v1, .int v2, .int v3] (nz_wM g a X) (nz_Qi g (nz_wM g a X) (fun r (u : Nat → Nat → Int32) => K r u) (fun u => nz_wM g a u)) → nz_C y g k n ws pc ls st rest (nz_wM g a X) (nz_Qi g (nz_wM g a X) (fun r (u : Nat → Nat → Int32) => K r u) (fun u => nz_wM g a u)) av isC) (h : wp_X8_set X v1 v2 v3 K) (ws' : (Nat → Nat → Int32) → va_W) (hm : ∀ (m0 : (Nat → Nat → Int32)), nz_mrg ws isC (nz_wM g a m0) = ws' m0) (kk : ∀ (r : Int32) (m0 : (Nat → Nat → Int32)), K r m0 → nz_V y g k n (ws' m0) (pc + 3) ls (.int r :: rest)) : nz_V y g k n ws pc ls st :=
  nz_ci (ws' := fun u => ws' u) (run (c_X8_set (yz_l y) g a X v1 v2 v3 K h)) (fun _ => rfl) (fun u => hm u) (fun r u h => kk r u h)
theorem dX8_copy_0 : decode cX8_copy 0 = .ok (.aload_n 0, 1) := by decide +kernel
theorem dX8_copy_1 : decode cX8_copy 1 = .ok (.iconst 0, 1) := by decide +kernel
theorem dX8_copy_2 : decode cX8_copy 2 = .ok (.putfield 50, 3) := by decide +kernel
theorem dX8_copy_5 : decode cX8_copy 5 = .ok (.iload_n 1, 1) := by decide +kernel
theorem dX8_copy_6 : decode cX8_copy 6 = .ok (.invokestatic 64, 3) := by decide +kernel
theorem dX8_copy_9 : decode cX8_copy 9 = .ok (.ifCond .eq 10, 3) := by decide +kernel
theorem dX8_copy_12 : decode cX8_copy 12 = .ok (.iload_n 3, 1) := by decide +kernel
theorem dX8_copy_13 : decode cX8_copy 13 = .ok (.invokestatic 64, 3) := by decide +kernel
theorem dX8_copy_16 : decode cX8_copy 16 = .ok (.ifCond .ne 6, 3) := by decide +kernel
theorem dX8_copy_19 : decode cX8_copy 19 = .ok (.ldc 70, 2) := by decide +kernel
theorem dX8_copy_21 : decode cX8_copy 21 = .ok (.ireturn, 1) := by decide +kernel
theorem dX8_copy_22 : decode cX8_copy 22 = .ok (.aload_n 0, 1) := by decide +kernel
theorem dX8_copy_23 : decode cX8_copy 23 = .ok (.iconst 0, 1) := by decide +kernel
theorem dX8_copy_24 : decode cX8_copy 24 = .ok (.putfield 54, 3) := by decide +kernel
theorem dX8_copy_27 : decode cX8_copy 27 = .ok (.aload_n 0, 1) := by decide +kernel
theorem dX8_copy_28 : decode cX8_copy 28 = .ok (.getfield 7, 3) := by decide +kernel
theorem dX8_copy_31 : decode cX8_copy 31 = .ok (.iload_n 1, 1) := by decide +kernel
theorem dX8_copy_32 : decode cX8_copy 32 = .ok (.iaload, 1) := by decide +kernel
theorem dX8_copy_33 : decode cX8_copy 33 = .ok (.ifCond .lt 12, 3) := by decide +kernel
theorem dX8_copy_36 : decode cX8_copy 36 = .ok (.aload_n 0, 1) := by decide +kernel
theorem dX8_copy_37 : decode cX8_copy 37 = .ok (.getfield 7, 3) := by decide +kernel
theorem dX8_copy_40 : decode cX8_copy 40 = .ok (.iload_n 3, 1) := by decide +kernel
theorem dX8_copy_41 : decode cX8_copy 41 = .ok (.iaload, 1) := by decide +kernel
theorem dX8_copy_42 : decode cX8_copy 42 = .ok (.ifCond .ge 9, 3) := by decide +kernel
theorem dX8_copy_45 : decode cX8_copy 45 = .ok (.aload_n 0, 1) := by decide +kernel
theorem dX8_copy_46 : decode cX8_copy 46 = .ok (.iconst 1, 1) := by decide +kernel
theorem dX8_copy_47 : decode cX8_copy 47 = .ok (.invokevirtual 71, 3) := by decide +kernel
theorem dX8_copy_50 : decode cX8_copy 50 = .ok (.ireturn, 1) := by decide +kernel
theorem dX8_copy_51 : decode cX8_copy 51 = .ok (.aload_n 0, 1) := by decide +kernel
theorem dX8_copy_52 : decode cX8_copy 52 = .ok (.getfield 7, 3) := by decide +kernel
theorem dX8_copy_55 : decode cX8_copy 55 = .ok (.iload_n 1, 1) := by decide +kernel
theorem dX8_copy_56 : decode cX8_copy 56 = .ok (.iaload, 1) := by decide +kernel
theorem dX8_copy_57 : decode cX8_copy 57 = .ok (.aload_n 0, 1) := by decide +kernel
theorem dX8_copy_58 : decode cX8_copy 58 = .ok (.getfield 7, 3) := by decide +kernel
theorem dX8_copy_61 : decode cX8_copy 61 = .ok (.iload_n 3, 1) := by decide +kernel
theorem dX8_copy_62 : decode cX8_copy 62 = .ok (.iaload, 1) := by decide +kernel
theorem dX8_copy_63 : decode cX8_copy 63 = .ok (.if_icmp .eq 9, 3) := by decide +kernel
theorem dX8_copy_66 : decode cX8_copy 66 = .ok (.aload_n 0, 1) := by decide +kernel
theorem dX8_copy_67 : decode cX8_copy 67 = .ok (.iconst 5, 1) := by decide +kernel
theorem dX8_copy_68 : decode cX8_copy 68 = .ok (.invokevirtual 71, 3) := by decide +kernel
theorem dX8_copy_71 : decode cX8_copy 71 = .ok (.ireturn, 1) := by decide +kernel
theorem dX8_copy_72 : decode cX8_copy 72 = .ok (.iload_n 2, 1) := by decide +kernel
theorem dX8_copy_73 : decode cX8_copy 73 = .ok (.ifCond .lt 48, 3) := by decide +kernel
theorem dX8_copy_76 : decode cX8_copy 76 = .ok (.iload 4, 2) := by decide +kernel
theorem dX8_copy_78 : decode cX8_copy 78 = .ok (.ifCond .lt 43, 3) := by decide +kernel
theorem dX8_copy_81 : decode cX8_copy 81 = .ok (.iload 5, 2) := by decide +kernel
theorem dX8_copy_83 : decode cX8_copy 83 = .ok (.ifCond .lt 38, 3) := by decide +kernel
theorem dX8_copy_86 : decode cX8_copy 86 = .ok (.iload_n 2, 1) := by decide +kernel
theorem dX8_copy_87 : decode cX8_copy 87 = .ok (.i2l, 1) := by decide +kernel
theorem dX8_copy_88 : decode cX8_copy 88 = .ok (.iload 5, 2) := by decide +kernel
theorem dX8_copy_90 : decode cX8_copy 90 = .ok (.i2l, 1) := by decide +kernel
theorem dX8_copy_91 : decode cX8_copy 91 = .ok (.ladd, 1) := by decide +kernel
theorem dX8_copy_92 : decode cX8_copy 92 = .ok (.aload_n 0, 1) := by decide +kernel
theorem dX8_copy_93 : decode cX8_copy 93 = .ok (.getfield 13, 3) := by decide +kernel
theorem dX8_copy_96 : decode cX8_copy 96 = .ok (.iload_n 1, 1) := by decide +kernel
theorem dX8_copy_97 : decode cX8_copy 97 = .ok (.iaload, 1) := by decide +kernel
theorem dX8_copy_98 : decode cX8_copy 98 = .ok (.i2l, 1) := by decide +kernel
theorem dX8_copy_99 : decode cX8_copy 99 = .ok (.lcmp, 1) := by decide +kernel
theorem dX8_copy_100 : decode cX8_copy 100 = .ok (.ifCond .gt 21, 3) := by decide +kernel
theorem dX8_copy_103 : decode cX8_copy 103 = .ok (.iload 4, 2) := by decide +kernel
theorem dX8_copy_105 : decode cX8_copy 105 = .ok (.i2l, 1) := by decide +kernel
theorem dX8_copy_106 : decode cX8_copy 106 = .ok (.iload 5, 2) := by decide +kernel
theorem dX8_copy_108 : decode cX8_copy 108 = .ok (.i2l, 1) := by decide +kernel
theorem dX8_copy_109 : decode cX8_copy 109 = .ok (.ladd, 1) := by decide +kernel
theorem dX8_copy_110 : decode cX8_copy 110 = .ok (.aload_n 0, 1) := by decide +kernel
theorem dX8_copy_111 : decode cX8_copy 111 = .ok (.getfield 13, 3) := by decide +kernel
theorem dX8_copy_114 : decode cX8_copy 114 = .ok (.iload_n 3, 1) := by decide +kernel
theorem dX8_copy_115 : decode cX8_copy 115 = .ok (.iaload, 1) := by decide +kernel
theorem dX8_copy_116 : decode cX8_copy 116 = .ok (.i2l, 1) := by decide +kernel
theorem dX8_copy_117 : decode cX8_copy 117 = .ok (.lcmp, 1) := by decide +kernel
theorem dX8_copy_118 : decode cX8_copy 118 = .ok (.ifCond .le 9, 3) := by decide +kernel
theorem dX8_copy_121 : decode cX8_copy 121 = .ok (.aload_n 0, 1) := by decide +kernel
theorem dX8_copy_122 : decode cX8_copy 122 = .ok (.iconst 2, 1) := by decide +kernel
theorem dX8_copy_123 : decode cX8_copy 123 = .ok (.invokevirtual 71, 3) := by decide +kernel
theorem dX8_copy_126 : decode cX8_copy 126 = .ok (.ireturn, 1) := by decide +kernel
theorem dX8_copy_127 : decode cX8_copy 127 = .ok (.iload_n 2, 1) := by decide +kernel
theorem dX8_copy_128 : decode cX8_copy 128 = .ok (.iload 4, 2) := by decide +kernel
theorem dX8_copy_130 : decode cX8_copy 130 = .ok (.if_icmp .lt 7, 3) := by decide +kernel
theorem dX8_copy_133 : decode cX8_copy 133 = .ok (.iconst 1, 1) := by decide +kernel
theorem dX8_copy_134 : decode cX8_copy 134 = .ok (.goto 4, 3) := by decide +kernel
theorem dX8_copy_137 : decode cX8_copy 137 = .ok (.iconst 0, 1) := by decide +kernel
theorem dX8_copy_138 : decode cX8_copy 138 = .ok (.istore 6, 2) := by decide +kernel
theorem dX8_copy_140 : decode cX8_copy 140 = .ok (.iconst 0, 1) := by decide +kernel
theorem dX8_copy_141 : decode cX8_copy 141 = .ok (.istore 7, 2) := by decide +kernel
theorem dX8_copy_143 : decode cX8_copy 143 = .ok (.iload 7, 2) := by decide +kernel
theorem dX8_copy_145 : decode cX8_copy 145 = .ok (.iload 5, 2) := by decide +kernel
theorem dX8_copy_147 : decode cX8_copy 147 = .ok (.if_icmp .ge 57, 3) := by decide +kernel
theorem dX8_copy_150 : decode cX8_copy 150 = .ok (.iload 6, 2) := by decide +kernel
theorem dX8_copy_152 : decode cX8_copy 152 = .ok (.ifCond .eq 8, 3) := by decide +kernel
theorem dX8_copy_155 : decode cX8_copy 155 = .ok (.iload 7, 2) := by decide +kernel
theorem dX8_copy_157 : decode cX8_copy 157 = .ok (.goto 10, 3) := by decide +kernel
theorem dX8_copy_160 : decode cX8_copy 160 = .ok (.iload 5, 2) := by decide +kernel
theorem dX8_copy_162 : decode cX8_copy 162 = .ok (.iconst 1, 1) := by decide +kernel
theorem dX8_copy_163 : decode cX8_copy 163 = .ok (.isub, 1) := by decide +kernel
theorem dX8_copy_164 : decode cX8_copy 164 = .ok (.iload 7, 2) := by decide +kernel
theorem dX8_copy_166 : decode cX8_copy 166 = .ok (.isub, 1) := by decide +kernel
theorem dX8_copy_167 : decode cX8_copy 167 = .ok (.istore 8, 2) := by decide +kernel
theorem dX8_copy_169 : decode cX8_copy 169 = .ok (.aload_n 0, 1) := by decide +kernel
theorem dX8_copy_170 : decode cX8_copy 170 = .ok (.getfield 16, 3) := by decide +kernel
theorem dX8_copy_173 : decode cX8_copy 173 = .ok (.bipush 40, 2) := by decide +kernel
theorem dX8_copy_175 : decode cX8_copy 175 = .ok (.iload_n 3, 1) := by decide +kernel
theorem dX8_copy_176 : decode cX8_copy 176 = .ok (.imul, 1) := by decide +kernel
theorem dX8_copy_177 : decode cX8_copy 177 = .ok (.iload 4, 2) := by decide +kernel
theorem dX8_copy_179 : decode cX8_copy 179 = .ok (.iadd, 1) := by decide +kernel
theorem dX8_copy_180 : decode cX8_copy 180 = .ok (.iload 8, 2) := by decide +kernel
theorem dX8_copy_182 : decode cX8_copy 182 = .ok (.iadd, 1) := by decide +kernel
theorem dX8_copy_183 : decode cX8_copy 183 = .ok (.aload_n 0, 1) := by decide +kernel
theorem dX8_copy_184 : decode cX8_copy 184 = .ok (.getfield 16, 3) := by decide +kernel
theorem dX8_copy_187 : decode cX8_copy 187 = .ok (.bipush 40, 2) := by decide +kernel
theorem dX8_copy_189 : decode cX8_copy 189 = .ok (.iload_n 1, 1) := by decide +kernel
theorem dX8_copy_190 : decode cX8_copy 190 = .ok (.imul, 1) := by decide +kernel
theorem dX8_copy_191 : decode cX8_copy 191 = .ok (.iload_n 2, 1) := by decide +kernel
theorem dX8_copy_192 : decode cX8_copy 192 = .ok (.iadd, 1) := by decide +kernel
theorem dX8_copy_193 : decode cX8_copy 193 = .ok (.iload 8, 2) := by decide +kernel
theorem dX8_copy_195 : decode cX8_copy 195 = .ok (.iadd, 1) := by decide +kernel
theorem dX8_copy_196 : decode cX8_copy 196 = .ok (.iaload, 1) := by decide +kernel
theorem dX8_copy_197 : decode cX8_copy 197 = .ok (.iastore, 1) := by decide +kernel
theorem dX8_copy_198 : decode cX8_copy 198 = .ok (.iinc 7 1, 3) := by decide +kernel
theorem dX8_copy_201 : decode cX8_copy 201 = .ok (.goto (-58), 3) := by decide +kernel
theorem dX8_copy_204 : decode cX8_copy 204 = .ok (.iload 5, 2) := by decide +kernel
theorem dX8_copy_206 : decode cX8_copy 206 = .ok (.ireturn, 1) := by decide +kernel
set_option maxRecDepth 20000 in
theorem ggX8_copy_X8_finding : GoodIn wsX8_copy wsX8_finding := goodIn_r _ [18, 3, 19, 20, 21, 22, 23, 24, 25, 26, 27, 28, 29, 30, 31, 32, 33, 34, 35, 36, 37, 38, 39, 40, 41, 42, 43, 44, 45] rfl (by decide +kernel)
set_option maxRecDepth 20000 in
theorem gX8_copy_X8_finding : GoodIn wsX8_copy (wsV RX8 71 RX8 yX8_finding wsX8_finding) := goodIn_app (goodIn_r _ [15, 16, 17, 9] rfl (by decide +kernel)) ggX8_copy_X8_finding
set_option maxRecDepth 20000 in
theorem ggX8_copy_X8_isRow : GoodIn wsX8_copy wsX8_isRow := goodIn_r _ [10, 11, 12, 13, 9, 14] rfl (by decide +kernel)
set_option maxRecDepth 20000 in
theorem gX8_copy_X8_isRow : GoodIn wsX8_copy (va_wsS RX8 64 yX8_isRow wsX8_isRow) := goodIn_app (goodIn_r _ [7, 8, 9] rfl (by decide +kernel)) ggX8_copy_X8_isRow
/-! X8_copy -/
abbrev rm_X8_copy : Room := { frames := 2, cells := 0, slots := 0, locals := 45 }
theorem iw_X8_copy_8 : ∀ w ∈ wsX80, w ∈ wsX8_copy := fun _ h => List.mem_cons_of_mem _ (List.mem_append_right _ h)
theorem fl_X8_copy_50 : Cond.fieldLink RX8 50 "NightStonesModel" "thrown" "I" ∈ wsX8_copy := List.mem_of_getElem? (i := 1) rfl
theorem wd_X8_copy_c70 : Cond.constant RX8 70 (-1000001) ∈ wsX8_copy := List.mem_of_getElem? (i := 2) rfl
theorem fl_X8_copy_54 : Cond.fieldLink RX8 54 "NightStonesModel" "status" "I" ∈ wsX8_copy := List.mem_of_getElem? (i := 3) rfl
theorem fl_X8_copy_7 : Cond.fieldLink RX8 7 "NightStonesModel" "lane" "[I" ∈ wsX8_copy := List.mem_of_getElem? (i := 4) rfl
theorem fl_X8_copy_13 : Cond.fieldLink RX8 13 "NightStonesModel" "many" "[I" ∈ wsX8_copy := List.mem_of_getElem? (i := 5) rfl
theorem fl_X8_copy_16 : Cond.fieldLink RX8 16 "NightStonesModel" "item" "[I" ∈ wsX8_copy := List.mem_of_getElem? (i := 6) rfl
def S_X8_copy_121 (X : Nat → Nat → Int32) (c0_0 : Int32) (c3_c : Nat → Int32) (K : Int32 → (Nat → Nat → Int32) → Prop) : Prop := wp_X8_finding 2 (fun q15 m16 => K q15 (va_up (va_up X 0 (upd (upd (X 0) 0 c0_0) 1 m16)) 3 c3_c))
set_option maxHeartbeats 4000000 in
set_option maxRecDepth 100000 in
theorem t_X8_copy_121 {y : nz_Y} {g : nz_G} (F : nz_F y g cX8_copy 9 wsX8_copy RX8 (some .int) rm_X8_copy) {wc0 : va_W} {sz : Nat} {K : Int32 → (Nat → Nat → Int32) → Prop} (a : Nat → Nat) (X : Nat → Nat → Int32) (v1 : Int32) (v2 : Int32) (v3 : Int32) (v4 : Int32) (v5 : Int32) (c0_0 : Int32) (c0_1 : Int32) (c3_c : Nat → Int32) (hQ : yz_A y = va_A wc0 sz ∧ yz_Q y = MQ (yz_b y) ((nz_Qi g wc0 (fun r (u : Nat → Nat → Int32) => K r u) (fun u => nz_wM g a u)) sz) (yz_a y) (yz_s y) 0 0 (va_A wc0 sz)) : S_X8_copy_121 X c0_0 c3_c K → nz_V y g 0 0 [((a 0), .inr (8, [.int c0_0, .int c0_1, .ref (a 1), .ref (a 2), .ref (a 3), .ref (a 4), .ref (a 5), .ref (a 6), .int (X 0 8), .ref (a 7), .int (X 0 10), .int (X 0 11), .int (X 0 12), .int (X 0 13), .int (X 0 14), .int (X 0 15), .int (X 0 16), .int (X 0 17), .int (X 0 18), .ref (a 8), .ref (a 9), .ref (a 10), .ref (a 11), .ref (a 12), .ref (a 13), .int (X 0 25)])), ((a 1), .inl (nz_cI g, 8, .inl (X 1))), ((a 2), .inl (nz_cI g, 8, .inl (X 2))), ((a 3), .inl (nz_cI g, 320, .inl c3_c)), ((a 4), .inl (nz_cI g, 94, .inl (X 4))), ((a 5), .inl (nz_cI g, 94, .inl (X 5))), ((a 6), .inl (nz_cI g, 168, .inl (X 6))), ((a 7), .inl (nz_cI g, 400, .inl (X 7))), ((a 8), .inl (nz_cI g, 6, .inl (X 8))), ((a 9), .inl (nz_cI g, 49, .inl (X 9))), ((a 10), .inl (nz_cI g, 6, .inl (X 10))), ((a 11), .inl (nz_cZ g, 2, .inl (X 11))), ((a 12), .inl (nz_cI g, 188, .inl (X 12))), ((a 13), .inl (nz_cI g, 16, .inl (X 13)))] 121 [(0, .ref (a 0))] [] := by
  intro h
  unfold S_X8_copy_121 at h
  refine nz_aload_n F dX8_copy_121 rfl 0 rfl ?_
  refine nz_iconst (v := 2) F dX8_copy_122 (by decide) ?_
  refine k_X8_finding (a 0) (a 1) (a 2) (a 3) (a 4) (a 5) (a 6) (a 7) (a 8) (a 9) (a 10) (a 11) (a 12) (a 13) c0_0 c0_1 (X 0 8) (X 0 10) (X 0 11) (X 0 12) (X 0 13) (X 0 14) (X 0 15) (X 0 16) (X 0 17) (X 0 18) (X 0 25) (X 1) (X 2) c3_c (X 4) (X 5) (X 6) (X 7) (X 8) (X 9) (X 10) (X 11) (X 12) (X 13) 2 (fun hM => nz_runV F gX8_copy_X8_finding rfl hd_X8_finding rfl hM dX8_copy_123 [0, 1, 2, 3, 4, 5, 6, 7, 8, 9, 10, 11, 12, 13] rfl rfl 0 rfl rfl rfl (Nat.le_of_ble_eq_true rfl) rfl) h (fun m16 => [((a 0), .inr (8, [.int c0_0, .int m16, .ref (a 1), .ref (a 2), .ref (a 3), .ref (a 4), .ref (a 5), .ref (a 6), .int (X 0 8), .ref (a 7), .int (X 0 10), .int (X 0 11), .int (X 0 12), .int (X 0 13), .int (X 0 14), .int (X 0 15), .int (X 0 16), .int (X 0 17), .int (X 0 18), .ref (a 8), .ref (a 9), .ref (a 10), .ref (a 11), .ref (a 12), .ref (a 13), .int (X 0 25)])), ((a 1), .inl (nz_cI g, 8, .inl (X 1))), ((a 2), .inl (nz_cI g, 8, .inl (X 2))), ((a 3), .inl (nz_cI g, 320, .inl c3_c)), ((a 4), .inl (nz_cI g, 94, .inl (X 4))), ((a 5), .inl (nz_cI g, 94, .inl (X 5))), ((a 6), .inl (nz_cI g, 168, .inl (X 6))), ((a 7), .inl (nz_cI g, 400, .inl (X 7))), ((a 8), .inl (nz_cI g, 6, .inl (X 8))), ((a 9), .inl (nz_cI g, 49, .inl (X 9))), ((a 10), .inl (nz_cI g, 6, .inl (X 10))), ((a 11), .inl (nz_cZ g, 2, .inl (X 11))), ((a 12), .inl (nz_cI g, 188, .inl (X 12))), ((a 13), .inl (nz_cI g, 16, .inl (X 13)))]) (fun _ => rfl) (fun q15 m16 h => ?_)
  exact nz_iret F hQ (va_up (va_up X 0 (upd (upd (X 0) 0 c0_0) 1 m16)) 3 c3_c) h rfl dX8_copy_126
def S_X8_copy_167 (v1 : Int32) (v2 : Int32) (v3 : Int32) (v4 : Int32) (x7 : Int32) (s0 : Int32) (c3_c : Nat → Int32) (R143 : Int32 → (Nat → Int32) → Prop) (K : Int32 → (Nat → Nat → Int32) → Prop) : Prop := (vp_in (((40 * v1) + v2) + s0) 320 ∧ (vp_in (((40 * v3) + v4) + s0) 320 ∧ R143 (x7 + 1) (upd c3_c (((40 * v3) + v4) + s0).toNatClampNeg (c3_c (((40 * v1) + v2) + s0).toNatClampNeg))))
set_option maxHeartbeats 4000000 in
set_option maxRecDepth 100000 in
theorem t_X8_copy_167 {y : nz_Y} {g : nz_G} (F : nz_F y g cX8_copy 9 wsX8_copy RX8 (some .int) rm_X8_copy) {wc0 : va_W} {sz : Nat} {K : Int32 → (Nat → Nat → Int32) → Prop} {R143 : Int32 → (Nat → Int32) → Prop} (a : Nat → Nat) (X : Nat → Nat → Int32) (v1 : Int32) (v2 : Int32) (v3 : Int32) (v4 : Int32) (v5 : Int32) (x6 : Int32) (x7 : Int32) (s0 : Int32) (c0_0 : Int32) (c0_1 : Int32) (c3_c : Nat → Int32) (hQ : yz_A y = va_A wc0 sz ∧ yz_Q y = MQ (yz_b y) ((nz_Qi g wc0 (fun r (u : Nat → Nat → Int32) => K r u) (fun u => nz_wM g a u)) sz) (yz_a y) (yz_s y) 0 0 (va_A wc0 sz)) (hR143 : ∀ (x7 : Int32) (c3_c : Nat → Int32), R143 x7 c3_c → nz_V y g 0 0 [((a 0), .inr (8, [.int c0_0, .int c0_1, .ref (a 1), .ref (a 2), .ref (a 3), .ref (a 4), .ref (a 5), .ref (a 6), .int (X 0 8), .ref (a 7), .int (X 0 10), .int (X 0 11), .int (X 0 12), .int (X 0 13), .int (X 0 14), .int (X 0 15), .int (X 0 16), .int (X 0 17), .int (X 0 18), .ref (a 8), .ref (a 9), .ref (a 10), .ref (a 11), .ref (a 12), .ref (a 13), .int (X 0 25)])), ((a 1), .inl (nz_cI g, 8, .inl (X 1))), ((a 2), .inl (nz_cI g, 8, .inl (X 2))), ((a 3), .inl (nz_cI g, 320, .inl c3_c)), ((a 4), .inl (nz_cI g, 94, .inl (X 4))), ((a 5), .inl (nz_cI g, 94, .inl (X 5))), ((a 6), .inl (nz_cI g, 168, .inl (X 6))), ((a 7), .inl (nz_cI g, 400, .inl (X 7))), ((a 8), .inl (nz_cI g, 6, .inl (X 8))), ((a 9), .inl (nz_cI g, 49, .inl (X 9))), ((a 10), .inl (nz_cI g, 6, .inl (X 10))), ((a 11), .inl (nz_cZ g, 2, .inl (X 11))), ((a 12), .inl (nz_cI g, 188, .inl (X 12))), ((a 13), .inl (nz_cI g, 16, .inl (X 13)))] 143 [(0, .ref (a 0)), (1, .int v1), (2, .int v2), (3, .int v3), (4, .int v4), (5, .int v5), (6, .int x6), (7, .int x7)] []) : S_X8_copy_167 v1 v2 v3 v4 x7 s0 c3_c R143 K → nz_V y g 0 0 [((a 0), .inr (8, [.int c0_0, .int c0_1, .ref (a 1), .ref (a 2), .ref (a 3), .ref (a 4), .ref (a 5), .ref (a 6), .int (X 0 8), .ref (a 7), .int (X 0 10), .int (X 0 11), .int (X 0 12), .int (X 0 13), .int (X 0 14), .int (X 0 15), .int (X 0 16), .int (X 0 17), .int (X 0 18), .ref (a 8), .ref (a 9), .ref (a 10), .ref (a 11), .ref (a 12), .ref (a 13), .int (X 0 25)])), ((a 1), .inl (nz_cI g, 8, .inl (X 1))), ((a 2), .inl (nz_cI g, 8, .inl (X 2))), ((a 3), .inl (nz_cI g, 320, .inl c3_c)), ((a 4), .inl (nz_cI g, 94, .inl (X 4))), ((a 5), .inl (nz_cI g, 94, .inl (X 5))), ((a 6), .inl (nz_cI g, 168, .inl (X 6))), ((a 7), .inl (nz_cI g, 400, .inl (X 7))), ((a 8), .inl (nz_cI g, 6, .inl (X 8))), ((a 9), .inl (nz_cI g, 49, .inl (X 9))), ((a 10), .inl (nz_cI g, 6, .inl (X 10))), ((a 11), .inl (nz_cZ g, 2, .inl (X 11))), ((a 12), .inl (nz_cI g, 188, .inl (X 12))), ((a 13), .inl (nz_cI g, 16, .inl (X 13)))] 167 [(0, .ref (a 0)), (1, .int v1), (2, .int v2), (3, .int v3), (4, .int v4), (5, .int v5), (6, .int x6), (7, .int x7)] [.int s0] := by
  intro h
  unfold S_X8_copy_167 at h
  refine nz_istore (lv' := [(8, .int s0), (0, .ref (a 0)), (1, .int v1), (2, .int v2), (3, .int v3), (4, .int v4), (5, .int v5), (6, .int x6), (7, .int x7)]) F dX8_copy_167 (by decide) rfl ?_
  refine nz_aload_n F dX8_copy_169 rfl 1 rfl ?_
  refine nz_get F iw_X8_copy_8 0 rfl rfl 4 (by decide) rfl fl_X8_copy_16 rfl dX8_copy_170 ?_
  refine nz_bipush (v := 40) F dX8_copy_173 (by decide) ?_
  refine nz_iload_n F dX8_copy_175 rfl 4 rfl ?_
  refine nz_imul F dX8_copy_176 ?_
  refine nz_iload F dX8_copy_177 5 rfl ?_
  refine nz_iadd F dX8_copy_179 ?_
  refine nz_iload F dX8_copy_180 0 rfl ?_
  refine nz_iadd F dX8_copy_182 ?_
  refine nz_aload_n F dX8_copy_183 rfl 1 rfl ?_
  refine nz_get F iw_X8_copy_8 0 rfl rfl 4 (by decide) rfl fl_X8_copy_16 rfl dX8_copy_184 ?_
  refine nz_bipush (v := 40) F dX8_copy_187 (by decide) ?_
  refine nz_iload_n F dX8_copy_189 rfl 2 rfl ?_
  refine nz_imul F dX8_copy_190 ?_
  refine nz_iload_n F dX8_copy_191 rfl 3 rfl ?_
  refine nz_iadd F dX8_copy_192 ?_
  refine nz_iload F dX8_copy_193 0 rfl ?_
  refine nz_iadd F dX8_copy_195 ?_
  obtain ⟨i26, h⟩ := h
  refine nz_iald F 3 rfl i26 dX8_copy_196 ?_
  obtain ⟨i27, h⟩ := h
  refine nz_iast (ws' := [((a 0), .inr (8, [.int c0_0, .int c0_1, .ref (a 1), .ref (a 2), .ref (a 3), .ref (a 4), .ref (a 5), .ref (a 6), .int (X 0 8), .ref (a 7), .int (X 0 10), .int (X 0 11), .int (X 0 12), .int (X 0 13), .int (X 0 14), .int (X 0 15), .int (X 0 16), .int (X 0 17), .int (X 0 18), .ref (a 8), .ref (a 9), .ref (a 10), .ref (a 11), .ref (a 12), .ref (a 13), .int (X 0 25)])), ((a 1), .inl (nz_cI g, 8, .inl (X 1))), ((a 2), .inl (nz_cI g, 8, .inl (X 2))), ((a 3), .inl (nz_cI g, 320, .inl (upd c3_c (((40 * v3) + v4) + s0).toNatClampNeg (c3_c (((40 * v1) + v2) + s0).toNatClampNeg)))), ((a 4), .inl (nz_cI g, 94, .inl (X 4))), ((a 5), .inl (nz_cI g, 94, .inl (X 5))), ((a 6), .inl (nz_cI g, 168, .inl (X 6))), ((a 7), .inl (nz_cI g, 400, .inl (X 7))), ((a 8), .inl (nz_cI g, 6, .inl (X 8))), ((a 9), .inl (nz_cI g, 49, .inl (X 9))), ((a 10), .inl (nz_cI g, 6, .inl (X 10))), ((a 11), .inl (nz_cZ g, 2, .inl (X 11))), ((a 12), .inl (nz_cI g, 188, .inl (X 12))), ((a 13), .inl (nz_cI g, 16, .inl (X 13)))]) F 3 rfl i27 dX8_copy_197 rfl ?_
  refine nz_iinc (v := (x7 + 1)) (j := 8) (lv' := [(7, .int (x7 + 1)), (8, .int s0), (0, .ref (a 0)), (1, .int v1), (2, .int v2), (3, .int v3), (4, .int v4), (5, .int v5), (6, .int x6)]) F dX8_copy_198 rfl rfl (by decide) rfl ?_
  refine nz_goto (tgt := 143) F dX8_copy_201 (by decide) ?_
  refine nz_ls (lv' := [(0, .ref (a 0)), (1, .int v1), (2, .int v2), (3, .int v3), (4, .int v4), (5, .int v5), (6, .int x6), (7, .int (x7 + 1))]) [2, 3, 4, 5, 6, 7, 8, 0] rfl ?_
  exact hR143 (x7 + 1) (upd c3_c (((40 * v3) + v4) + s0).toNatClampNeg (c3_c (((40 * v1) + v2) + s0).toNatClampNeg)) h
def S_X8_copy_143 (X : Nat → Nat → Int32) (v1 : Int32) (v2 : Int32) (v3 : Int32) (v4 : Int32) (v5 : Int32) (x6 : Int32) (c0_0 : Int32) (c0_1 : Int32) (K : Int32 → (Nat → Nat → Int32) → Prop) (R143 : Int32 → (Nat → Int32) → Prop) (x7 : Int32) (c3_c : Nat → Int32) : Prop := ((v5 ≤ x7 → K v5 (va_up (va_up X 0 (upd (upd (X 0) 0 c0_0) 1 c0_1)) 3 c3_c)) ∧ (¬ (v5 ≤ x7) → ((x6 = 0 → S_X8_copy_167 v1 v2 v3 v4 x7 ((v5 - 1) - x7) c3_c R143 K) ∧ (¬ (x6 = 0) → S_X8_copy_167 v1 v2 v3 v4 x7 x7 c3_c R143 K))))
set_option maxHeartbeats 4000000 in
set_option maxRecDepth 100000 in
theorem t_X8_copy_143 {y : nz_Y} {g : nz_G} (F : nz_F y g cX8_copy 9 wsX8_copy RX8 (some .int) rm_X8_copy) {wc0 : va_W} {sz : Nat} {K : Int32 → (Nat → Nat → Int32) → Prop} (a : Nat → Nat) (X : Nat → Nat → Int32) (v1 : Int32) (v2 : Int32) (v3 : Int32) (v4 : Int32) (v5 : Int32) (x6 : Int32) (c0_0 : Int32) (c0_1 : Int32) (hQ : yz_A y = va_A wc0 sz ∧ yz_Q y = MQ (yz_b y) ((nz_Qi g wc0 (fun r (u : Nat → Nat → Int32) => K r u) (fun u => nz_wM g a u)) sz) (yz_a y) (yz_s y) 0 0 (va_A wc0 sz)) : ∀ (n1 : Nat) (x7 : Int32) (c3_c : Nat → Int32), nz_it (fun _ _ => False) (S_X8_copy_143 X v1 v2 v3 v4 v5 x6 c0_0 c0_1 K) n1 x7 c3_c → nz_V y g 0 0 [((a 0), .inr (8, [.int c0_0, .int c0_1, .ref (a 1), .ref (a 2), .ref (a 3), .ref (a 4), .ref (a 5), .ref (a 6), .int (X 0 8), .ref (a 7), .int (X 0 10), .int (X 0 11), .int (X 0 12), .int (X 0 13), .int (X 0 14), .int (X 0 15), .int (X 0 16), .int (X 0 17), .int (X 0 18), .ref (a 8), .ref (a 9), .ref (a 10), .ref (a 11), .ref (a 12), .ref (a 13), .int (X 0 25)])), ((a 1), .inl (nz_cI g, 8, .inl (X 1))), ((a 2), .inl (nz_cI g, 8, .inl (X 2))), ((a 3), .inl (nz_cI g, 320, .inl c3_c)), ((a 4), .inl (nz_cI g, 94, .inl (X 4))), ((a 5), .inl (nz_cI g, 94, .inl (X 5))), ((a 6), .inl (nz_cI g, 168, .inl (X 6))), ((a 7), .inl (nz_cI g, 400, .inl (X 7))), ((a 8), .inl (nz_cI g, 6, .inl (X 8))), ((a 9), .inl (nz_cI g, 49, .inl (X 9))), ((a 10), .inl (nz_cI g, 6, .inl (X 10))), ((a 11), .inl (nz_cZ g, 2, .inl (X 11))), ((a 12), .inl (nz_cI g, 188, .inl (X 12))), ((a 13), .inl (nz_cI g, 16, .inl (X 13)))] 143 [(0, .ref (a 0)), (1, .int v1), (2, .int v2), (3, .int v3), (4, .int v4), (5, .int v5), (6, .int x6), (7, .int x7)] [] := by
  intro n1
  induction n1 with
  | zero =>
    intro x7 c3_c h
    exact h.elim
  | succ n1 hR143 =>
    intro x7 c3_c h
    have h : S_X8_copy_143 X v1 v2 v3 v4 v5 x6 c0_0 c0_1 K (nz_it (fun _ _ => False) (S_X8_copy_143 X v1 v2 v3 v4 v5 x6 c0_0 c0_1 K) n1) x7 c3_c := h
    unfold S_X8_copy_143 at h
    refine nz_iload F dX8_copy_143 7 rfl ?_
    refine nz_iload F dX8_copy_145 5 rfl ?_
    refine nz_icmp_ge (tgt := 204) F dX8_copy_147 (by decide) (fun c24 => ?_) (fun c24 => ?_)
    · have h := h.1 c24
      refine nz_iload F dX8_copy_204 5 rfl ?_
      exact nz_iret F hQ (va_up (va_up X 0 (upd (upd (X 0) 0 c0_0) 1 c0_1)) 3 c3_c) h rfl dX8_copy_206
    · have h := h.2 c24
      refine nz_iload F dX8_copy_150 6 rfl ?_
      refine nz_if_eq (tgt := 160) F dX8_copy_152 (by decide) (fun c25 => ?_) (fun c25 => ?_)
      · have h := h.1 c25
        refine nz_iload F dX8_copy_160 5 rfl ?_
        refine nz_iconst (v := 1) F dX8_copy_162 (by decide) ?_
        refine nz_isub F dX8_copy_163 ?_
        refine nz_iload F dX8_copy_164 7 rfl ?_
        refine nz_isub F dX8_copy_166 ?_
        exact t_X8_copy_167 F a X v1 v2 v3 v4 v5 x6 x7 ((v5 - 1) - x7) c0_0 c0_1 c3_c hQ hR143 h
      · have h := h.2 c25
        refine nz_iload F dX8_copy_155 7 rfl ?_
        refine nz_goto (tgt := 167) F dX8_copy_157 (by decide) ?_
        exact t_X8_copy_167 F a X v1 v2 v3 v4 v5 x6 x7 x7 c0_0 c0_1 c3_c hQ hR143 h
def wp_X8_copy (X : Nat → Nat → Int32) (v1 : Int32) (v2 : Int32) (v3 : Int32) (v4 : Int32) (v5 : Int32) (K : Int32 → (Nat → Nat → Int32) → Prop) : Prop := wp_X8_isRow v1 (fun q1 => ((q1 = 0 → K (-1000001 : Int32) (va_up X 0 (upd (X 0) 0 0))) ∧ (¬ (q1 = 0) → wp_X8_isRow v3 (fun q3 => ((¬ q3 = 0 → (vp_in v1 8 ∧ ((((X 1) v1.toNatClampNeg) < 0 → wp_X8_finding 1 (fun q7 m8 => K q7 (va_up X 0 (upd (upd (X 0) 0 0) 1 m8)))) ∧ (¬ (((X 1) v1.toNatClampNeg) < 0) → (vp_in v3 8 ∧ ((0 ≤ ((X 1) v3.toNatClampNeg) → (vp_in v1 8 ∧ (vp_in v3 8 ∧ ((((X 1) v1.toNatClampNeg) = ((X 1) v3.toNatClampNeg) → ((v2 < 0 → S_X8_copy_121 X 0 (X 3) K) ∧ (¬ (v2 < 0) → ((v4 < 0 → S_X8_copy_121 X 0 (X 3) K) ∧ (¬ (v4 < 0) → ((v5 < 0 → S_X8_copy_121 X 0 (X 3) K) ∧ (¬ (v5 < 0) → (vp_in v1 8 ∧ ((0 < (lg_cmp (((v2 : Int32).toInt64) + ((v5 : Int32).toInt64)) ((((X 2) v1.toNatClampNeg) : Int32).toInt64)) → S_X8_copy_121 X 0 (X 3) K) ∧ (¬ (0 < (lg_cmp (((v2 : Int32).toInt64) + ((v5 : Int32).toInt64)) ((((X 2) v1.toNatClampNeg) : Int32).toInt64))) → (vp_in v3 8 ∧ (((lg_cmp (((v4 : Int32).toInt64) + ((v5 : Int32).toInt64)) ((((X 2) v3.toNatClampNeg) : Int32).toInt64)) ≤ 0 → ((v2 < v4 → (∃ n, nz_it (fun _ _ => False) (S_X8_copy_143 X v1 v2 v3 v4 v5 0 0 0 K) n 0 (X 3))) ∧ (¬ (v2 < v4) → (∃ n, nz_it (fun _ _ => False) (S_X8_copy_143 X v1 v2 v3 v4 v5 1 0 0 K) n 0 (X 3))))) ∧ (¬ ((lg_cmp (((v4 : Int32).toInt64) + ((v5 : Int32).toInt64)) ((((X 2) v3.toNatClampNeg) : Int32).toInt64)) ≤ 0) → S_X8_copy_121 X 0 (X 3) K))))))))))))) ∧ (¬ (((X 1) v1.toNatClampNeg) = ((X 1) v3.toNatClampNeg)) → wp_X8_finding 5 (fun q28 m29 => K q28 (va_up X 0 (upd (upd (X 0) 0 0) 1 m29)))))))) ∧ (¬ (0 ≤ ((X 1) v3.toNatClampNeg)) → wp_X8_finding 1 (fun q30 m31 => K q30 (va_up X 0 (upd (upd (X 0) 0 0) 1 m31)))))))))) ∧ (q3 = 0 → K (-1000001 : Int32) (va_up X 0 (upd (X 0) 0 0))))))))
set_option maxHeartbeats 4000000 in
set_option maxRecDepth 100000 in
theorem c_X8_copy (l : Launch) (g : nz_G) (a : Nat → Nat) (X : Nat → Nat → Int32) (v1 : Int32) (v2 : Int32) (v3 : Int32) (v4 : Int32) (v5 : Int32) (K : Int32 → (Nat → Nat → Int32) → Prop) (h : wp_X8_copy X v1 v2 v3 v4 v5 K) : nz_M l yX8_copy wsX8_copy rm_X8_copy g [.ref (a 0), .int v1, .int v2, .int v3, .int v4, .int v5] (nz_wM g a X) (nz_Qi g (nz_wM g a X) (fun r (u : Nat → Nat → Int32) => K r u) (fun u => nz_wM g a u)) := by
  refine nz_M.of (bytes := cX8_copy) (nL := 9) (ret := (some .int)) (own := RX8) (by decide) rfl rfl ⟨rfl, rfl⟩ rfl ?_
  intro y F hl hQ
  obtain ⟨sz, hQ⟩ := hQ
  refine nz_ent (lv' := [(0, .ref (a 0)), (1, .int v1), (2, .int v2), (3, .int v3), (4, .int v4), (5, .int v5)]) rfl ?_
  unfold wp_X8_copy at h
  refine nz_aload_n F dX8_copy_0 rfl 0 rfl ?_
  refine nz_iconst (v := 0) F dX8_copy_1 (by decide) ?_
  refine nz_put (ws' := [((a 0), .inr (8, [.int 0, .int (X 0 1), .ref (a 1), .ref (a 2), .ref (a 3), .ref (a 4), .ref (a 5), .ref (a 6), .int (X 0 8), .ref (a 7), .int (X 0 10), .int (X 0 11), .int (X 0 12), .int (X 0 13), .int (X 0 14), .int (X 0 15), .int (X 0 16), .int (X 0 17), .int (X 0 18), .ref (a 8), .ref (a 9), .ref (a 10), .ref (a 11), .ref (a 12), .ref (a 13), .int (X 0 25)])), ((a 1), .inl (nz_cI g, 8, .inl (X 1))), ((a 2), .inl (nz_cI g, 8, .inl (X 2))), ((a 3), .inl (nz_cI g, 320, .inl (X 3))), ((a 4), .inl (nz_cI g, 94, .inl (X 4))), ((a 5), .inl (nz_cI g, 94, .inl (X 5))), ((a 6), .inl (nz_cI g, 168, .inl (X 6))), ((a 7), .inl (nz_cI g, 400, .inl (X 7))), ((a 8), .inl (nz_cI g, 6, .inl (X 8))), ((a 9), .inl (nz_cI g, 49, .inl (X 9))), ((a 10), .inl (nz_cI g, 6, .inl (X 10))), ((a 11), .inl (nz_cZ g, 2, .inl (X 11))), ((a 12), .inl (nz_cI g, 188, .inl (X 12))), ((a 13), .inl (nz_cI g, 16, .inl (X 13)))]) F iw_X8_copy_8 tyX8 tyX8_ok nmX8 0 rfl rfl 0 (by decide) rfl fl_X8_copy_50 rfl rfl (Nat.le_of_ble_eq_true rfl) dX8_copy_2 rfl ?_
  refine nz_iload_n F dX8_copy_5 rfl 1 rfl ?_
  refine k_X8_isRow v1 (fun hM => nz_runS F gX8_copy_X8_isRow rfl hd_X8_isRow.2 rfl hM dX8_copy_6 [] rfl rfl rfl (Nat.le_of_ble_eq_true rfl) rfl) h ([((a 0), .inr (8, [.int 0, .int (X 0 1), .ref (a 1), .ref (a 2), .ref (a 3), .ref (a 4), .ref (a 5), .ref (a 6), .int (X 0 8), .ref (a 7), .int (X 0 10), .int (X 0 11), .int (X 0 12), .int (X 0 13), .int (X 0 14), .int (X 0 15), .int (X 0 16), .int (X 0 17), .int (X 0 18), .ref (a 8), .ref (a 9), .ref (a 10), .ref (a 11), .ref (a 12), .ref (a 13), .int (X 0 25)])), ((a 1), .inl (nz_cI g, 8, .inl (X 1))), ((a 2), .inl (nz_cI g, 8, .inl (X 2))), ((a 3), .inl (nz_cI g, 320, .inl (X 3))), ((a 4), .inl (nz_cI g, 94, .inl (X 4))), ((a 5), .inl (nz_cI g, 94, .inl (X 5))), ((a 6), .inl (nz_cI g, 168, .inl (X 6))), ((a 7), .inl (nz_cI g, 400, .inl (X 7))), ((a 8), .inl (nz_cI g, 6, .inl (X 8))), ((a 9), .inl (nz_cI g, 49, .inl (X 9))), ((a 10), .inl (nz_cI g, 6, .inl (X 10))), ((a 11), .inl (nz_cZ g, 2, .inl (X 11))), ((a 12), .inl (nz_cI g, 188, .inl (X 12))), ((a 13), .inl (nz_cI g, 16, .inl (X 13)))]) (rfl) (fun q1 h => ?_)
  refine nz_if_eq (tgt := 19) F dX8_copy_9 (by decide) (fun c2 => ?_) (fun c2 => ?_)
  · have h := h.1 c2
    refine nz_ldc (v := (-1000001 : Int32)) F wd_X8_copy_c70 dX8_copy_19 ?_
    exact nz_iret F hQ (va_up X 0 (upd (X 0) 0 0)) h rfl dX8_copy_21
  · have h := h.2 c2
    refine nz_iload_n F dX8_copy_12 rfl 3 rfl ?_
    refine k_X8_isRow v3 (fun hM => nz_runS F gX8_copy_X8_isRow rfl hd_X8_isRow.2 rfl hM dX8_copy_13 [] rfl rfl rfl (Nat.le_of_ble_eq_true rfl) rfl) h ([((a 0), .inr (8, [.int 0, .int (X 0 1), .ref (a 1), .ref (a 2), .ref (a 3), .ref (a 4), .ref (a 5), .ref (a 6), .int (X 0 8), .ref (a 7), .int (X 0 10), .int (X 0 11), .int (X 0 12), .int (X 0 13), .int (X 0 14), .int (X 0 15), .int (X 0 16), .int (X 0 17), .int (X 0 18), .ref (a 8), .ref (a 9), .ref (a 10), .ref (a 11), .ref (a 12), .ref (a 13), .int (X 0 25)])), ((a 1), .inl (nz_cI g, 8, .inl (X 1))), ((a 2), .inl (nz_cI g, 8, .inl (X 2))), ((a 3), .inl (nz_cI g, 320, .inl (X 3))), ((a 4), .inl (nz_cI g, 94, .inl (X 4))), ((a 5), .inl (nz_cI g, 94, .inl (X 5))), ((a 6), .inl (nz_cI g, 168, .inl (X 6))), ((a 7), .inl (nz_cI g, 400, .inl (X 7))), ((a 8), .inl (nz_cI g, 6, .inl (X 8))), ((a 9), .inl (nz_cI g, 49, .inl (X 9))), ((a 10), .inl (nz_cI g, 6, .inl (X 10))), ((a 11), .inl (nz_cZ g, 2, .inl (X 11))), ((a 12), .inl (nz_cI g, 188, .inl (X 12))), ((a 13), .inl (nz_cI g, 16, .inl (X 13)))]) (rfl) (fun q3 h => ?_)
    refine nz_if_ne (tgt := 22) F dX8_copy_16 (by decide) (fun c4 => ?_) (fun c4 => ?_)
    · have h := h.1 c4
      refine nz_aload_n F dX8_copy_22 rfl 0 rfl ?_
      refine nz_iconst (v := 0) F dX8_copy_23 (by decide) ?_
      refine nz_put (ws' := [((a 0), .inr (8, [.int 0, .int 0, .ref (a 1), .ref (a 2), .ref (a 3), .ref (a 4), .ref (a 5), .ref (a 6), .int (X 0 8), .ref (a 7), .int (X 0 10), .int (X 0 11), .int (X 0 12), .int (X 0 13), .int (X 0 14), .int (X 0 15), .int (X 0 16), .int (X 0 17), .int (X 0 18), .ref (a 8), .ref (a 9), .ref (a 10), .ref (a 11), .ref (a 12), .ref (a 13), .int (X 0 25)])), ((a 1), .inl (nz_cI g, 8, .inl (X 1))), ((a 2), .inl (nz_cI g, 8, .inl (X 2))), ((a 3), .inl (nz_cI g, 320, .inl (X 3))), ((a 4), .inl (nz_cI g, 94, .inl (X 4))), ((a 5), .inl (nz_cI g, 94, .inl (X 5))), ((a 6), .inl (nz_cI g, 168, .inl (X 6))), ((a 7), .inl (nz_cI g, 400, .inl (X 7))), ((a 8), .inl (nz_cI g, 6, .inl (X 8))), ((a 9), .inl (nz_cI g, 49, .inl (X 9))), ((a 10), .inl (nz_cI g, 6, .inl (X 10))), ((a 11), .inl (nz_cZ g, 2, .inl (X 11))), ((a 12), .inl (nz_cI g, 188, .inl (X 12))), ((a 13), .inl (nz_cI g, 16, .inl (X 13)))]) F iw_X8_copy_8 tyX8 tyX8_ok nmX8 0 rfl rfl 1 (by decide) rfl fl_X8_copy_54 rfl rfl (Nat.le_of_ble_eq_true rfl) dX8_copy_24 rfl ?_
      refine nz_aload_n F dX8_copy_27 rfl 0 rfl ?_
      refine nz_get F iw_X8_copy_8 0 rfl rfl 2 (by decide) rfl fl_X8_copy_7 rfl dX8_copy_28 ?_
      refine nz_iload_n F dX8_copy_31 rfl 1 rfl ?_
      obtain ⟨i5, h⟩ := h
      refine nz_iald F 1 rfl i5 dX8_copy_32 ?_
      refine nz_if_lt (tgt := 45) F dX8_copy_33 (by decide) (fun c6 => ?_) (fun c6 => ?_)
      · have h := h.1 c6
        refine nz_aload_n F dX8_copy_45 rfl 0 rfl ?_
        refine nz_iconst (v := 1) F dX8_copy_46 (by decide) ?_
        refine k_X8_finding (a 0) (a 1) (a 2) (a 3) (a 4) (a 5) (a 6) (a 7) (a 8) (a 9) (a 10) (a 11) (a 12) (a 13) 0 0 (X 0 8) (X 0 10) (X 0 11) (X 0 12) (X 0 13) (X 0 14) (X 0 15) (X 0 16) (X 0 17) (X 0 18) (X 0 25) (X 1) (X 2) (X 3) (X 4) (X 5) (X 6) (X 7) (X 8) (X 9) (X 10) (X 11) (X 12) (X 13) 1 (fun hM => nz_runV F gX8_copy_X8_finding rfl hd_X8_finding rfl hM dX8_copy_47 [0, 1, 2, 3, 4, 5, 6, 7, 8, 9, 10, 11, 12, 13] rfl rfl 0 rfl rfl rfl (Nat.le_of_ble_eq_true rfl) rfl) h (fun m8 => [((a 0), .inr (8, [.int 0, .int m8, .ref (a 1), .ref (a 2), .ref (a 3), .ref (a 4), .ref (a 5), .ref (a 6), .int (X 0 8), .ref (a 7), .int (X 0 10), .int (X 0 11), .int (X 0 12), .int (X 0 13), .int (X 0 14), .int (X 0 15), .int (X 0 16), .int (X 0 17), .int (X 0 18), .ref (a 8), .ref (a 9), .ref (a 10), .ref (a 11), .ref (a 12), .ref (a 13), .int (X 0 25)])), ((a 1), .inl (nz_cI g, 8, .inl (X 1))), ((a 2), .inl (nz_cI g, 8, .inl (X 2))), ((a 3), .inl (nz_cI g, 320, .inl (X 3))), ((a 4), .inl (nz_cI g, 94, .inl (X 4))), ((a 5), .inl (nz_cI g, 94, .inl (X 5))), ((a 6), .inl (nz_cI g, 168, .inl (X 6))), ((a 7), .inl (nz_cI g, 400, .inl (X 7))), ((a 8), .inl (nz_cI g, 6, .inl (X 8))), ((a 9), .inl (nz_cI g, 49, .inl (X 9))), ((a 10), .inl (nz_cI g, 6, .inl (X 10))), ((a 11), .inl (nz_cZ g, 2, .inl (X 11))), ((a 12), .inl (nz_cI g, 188, .inl (X 12))), ((a 13), .inl (nz_cI g, 16, .inl (X 13)))]) (fun _ => rfl) (fun q7 m8 h => ?_)
        exact nz_iret F hQ (va_up X 0 (upd (upd (X 0) 0 0) 1 m8)) h rfl dX8_copy_50
      · have h := h.2 c6
        refine nz_aload_n F dX8_copy_36 rfl 0 rfl ?_
        refine nz_get F iw_X8_copy_8 0 rfl rfl 2 (by decide) rfl fl_X8_copy_7 rfl dX8_copy_37 ?_
        refine nz_iload_n F dX8_copy_40 rfl 3 rfl ?_
        obtain ⟨i9, h⟩ := h
        refine nz_iald F 1 rfl i9 dX8_copy_41 ?_
        refine nz_if_ge (tgt := 51) F dX8_copy_42 (by decide) (fun c10 => ?_) (fun c10 => ?_)
        · have h := h.1 c10
          refine nz_aload_n F dX8_copy_51 rfl 0 rfl ?_
          refine nz_get F iw_X8_copy_8 0 rfl rfl 2 (by decide) rfl fl_X8_copy_7 rfl dX8_copy_52 ?_
          refine nz_iload_n F dX8_copy_55 rfl 1 rfl ?_
          obtain ⟨i11, h⟩ := h
          refine nz_iald F 1 rfl i11 dX8_copy_56 ?_
          refine nz_aload_n F dX8_copy_57 rfl 0 rfl ?_
          refine nz_get F iw_X8_copy_8 0 rfl rfl 2 (by decide) rfl fl_X8_copy_7 rfl dX8_copy_58 ?_
          refine nz_iload_n F dX8_copy_61 rfl 3 rfl ?_
          obtain ⟨i12, h⟩ := h
          refine nz_iald F 1 rfl i12 dX8_copy_62 ?_
          refine nz_icmp_eq (tgt := 72) F dX8_copy_63 (by decide) (fun c13 => ?_) (fun c13 => ?_)
          · have h := h.1 c13
            refine nz_iload_n F dX8_copy_72 rfl 2 rfl ?_
            refine nz_if_lt (tgt := 121) F dX8_copy_73 (by decide) (fun c14 => ?_) (fun c14 => ?_)
            · have h := h.1 c14
              refine nz_ls (lv' := [(0, .ref (a 0))]) [0] rfl ?_
              exact t_X8_copy_121 F a X v1 v2 v3 v4 v5 0 0 (X 3) hQ h
            · have h := h.2 c14
              refine nz_iload F dX8_copy_76 4 rfl ?_
              refine nz_if_lt (tgt := 121) F dX8_copy_78 (by decide) (fun c17 => ?_) (fun c17 => ?_)
              · have h := h.1 c17
                refine nz_ls (lv' := [(0, .ref (a 0))]) [0] rfl ?_
                exact t_X8_copy_121 F a X v1 v2 v3 v4 v5 0 0 (X 3) hQ h
              · have h := h.2 c17
                refine nz_iload F dX8_copy_81 5 rfl ?_
                refine nz_if_lt (tgt := 121) F dX8_copy_83 (by decide) (fun c18 => ?_) (fun c18 => ?_)
                · have h := h.1 c18
                  refine nz_ls (lv' := [(0, .ref (a 0))]) [0] rfl ?_
                  exact t_X8_copy_121 F a X v1 v2 v3 v4 v5 0 0 (X 3) hQ h
                · have h := h.2 c18
                  refine nz_iload_n F dX8_copy_86 rfl 2 rfl ?_
                  refine nz_i2l (v := ((v2 : Int32).toInt64)) F dX8_copy_87 rfl ?_
                  refine nz_iload F dX8_copy_88 5 rfl ?_
                  refine nz_i2l (v := ((v5 : Int32).toInt64)) F dX8_copy_90 rfl ?_
                  refine nz_ladd F dX8_copy_91 ?_
                  refine nz_aload_n F dX8_copy_92 rfl 0 rfl ?_
                  refine nz_get F iw_X8_copy_8 0 rfl rfl 3 (by decide) rfl fl_X8_copy_13 rfl dX8_copy_93 ?_
                  refine nz_iload_n F dX8_copy_96 rfl 1 rfl ?_
                  obtain ⟨i19, h⟩ := h
                  refine nz_iald F 2 rfl i19 dX8_copy_97 ?_
                  refine nz_i2l (v := ((((X 2) v1.toNatClampNeg) : Int32).toInt64)) F dX8_copy_98 rfl ?_
                  refine nz_lcmp F dX8_copy_99 ?_
                  refine nz_if_gt (tgt := 121) F dX8_copy_100 (by decide) (fun c20 => ?_) (fun c20 => ?_)
                  · have h := h.1 c20
                    refine nz_ls (lv' := [(0, .ref (a 0))]) [0] rfl ?_
                    exact t_X8_copy_121 F a X v1 v2 v3 v4 v5 0 0 (X 3) hQ h
                  · have h := h.2 c20
                    refine nz_iload F dX8_copy_103 4 rfl ?_
                    refine nz_i2l (v := ((v4 : Int32).toInt64)) F dX8_copy_105 rfl ?_
                    refine nz_iload F dX8_copy_106 5 rfl ?_
                    refine nz_i2l (v := ((v5 : Int32).toInt64)) F dX8_copy_108 rfl ?_
                    refine nz_ladd F dX8_copy_109 ?_
                    refine nz_aload_n F dX8_copy_110 rfl 0 rfl ?_
                    refine nz_get F iw_X8_copy_8 0 rfl rfl 3 (by decide) rfl fl_X8_copy_13 rfl dX8_copy_111 ?_
                    refine nz_iload_n F dX8_copy_114 rfl 3 rfl ?_
                    obtain ⟨i21, h⟩ := h
                    refine nz_iald F 2 rfl i21 dX8_copy_115 ?_
                    refine nz_i2l (v := ((((X 2) v3.toNatClampNeg) : Int32).toInt64)) F dX8_copy_116 rfl ?_
                    refine nz_lcmp F dX8_copy_117 ?_
                    refine nz_if_le (tgt := 127) F dX8_copy_118 (by decide) (fun c22 => ?_) (fun c22 => ?_)
                    · have h := h.1 c22
                      refine nz_iload_n F dX8_copy_127 rfl 2 rfl ?_
                      refine nz_iload F dX8_copy_128 4 rfl ?_
                      refine nz_icmp_lt (tgt := 137) F dX8_copy_130 (by decide) (fun c23 => ?_) (fun c23 => ?_)
                      · have h := h.1 c23
                        refine nz_iconst (v := 0) F dX8_copy_137 (by decide) ?_
                        refine nz_istore (lv' := [(6, .int 0), (0, .ref (a 0)), (1, .int v1), (2, .int v2), (3, .int v3), (4, .int v4), (5, .int v5)]) F dX8_copy_138 (by decide) rfl ?_
                        refine nz_iconst (v := 0) F dX8_copy_140 (by decide) ?_
                        refine nz_istore (lv' := [(7, .int 0), (6, .int 0), (0, .ref (a 0)), (1, .int v1), (2, .int v2), (3, .int v3), (4, .int v4), (5, .int v5)]) F dX8_copy_141 (by decide) rfl ?_
                        refine nz_ls (lv' := [(0, .ref (a 0)), (1, .int v1), (2, .int v2), (3, .int v3), (4, .int v4), (5, .int v5), (6, .int 0), (7, .int 0)]) [2, 3, 4, 5, 6, 7, 1, 0] rfl ?_
                        obtain ⟨n1, h⟩ := h
                        exact t_X8_copy_143 F a X v1 v2 v3 v4 v5 0 0 0 hQ n1 0 (X 3) h
                      · have h := h.2 c23
                        refine nz_iconst (v := 1) F dX8_copy_133 (by decide) ?_
                        refine nz_goto (tgt := 138) F dX8_copy_134 (by decide) ?_
                        refine nz_istore (lv' := [(6, .int 1), (0, .ref (a 0)), (1, .int v1), (2, .int v2), (3, .int v3), (4, .int v4), (5, .int v5)]) F dX8_copy_138 (by decide) rfl ?_
                        refine nz_iconst (v := 0) F dX8_copy_140 (by decide) ?_
                        refine nz_istore (lv' := [(7, .int 0), (6, .int 1), (0, .ref (a 0)), (1, .int v1), (2, .int v2), (3, .int v3), (4, .int v4), (5, .int v5)]) F dX8_copy_141 (by decide) rfl ?_
                        refine nz_ls (lv' := [(0, .ref (a 0)), (1, .int v1), (2, .int v2), (3, .int v3), (4, .int v4), (5, .int v5), (6, .int 1), (7, .int 0)]) [2, 3, 4, 5, 6, 7, 1, 0] rfl ?_
                        obtain ⟨n1, h⟩ := h
                        exact t_X8_copy_143 F a X v1 v2 v3 v4 v5 1 0 0 hQ n1 0 (X 3) h
                    · have h := h.2 c22
                      refine nz_ls (lv' := [(0, .ref (a 0))]) [0] rfl ?_
                      exact t_X8_copy_121 F a X v1 v2 v3 v4 v5 0 0 (X 3) hQ h
          · have h := h.2 c13
            refine nz_aload_n F dX8_copy_66 rfl 0 rfl ?_
            refine nz_iconst (v := 5) F dX8_copy_67 (by decide) ?_
            refine k_X8_finding (a 0) (a 1) (a 2) (a 3) (a 4) (a 5) (a 6) (a 7) (a 8) (a 9) (a 10) (a 11) (a 12) (a 13) 0 0 (X 0 8) (X 0 10) (X 0 11) (X 0 12) (X 0 13) (X 0 14) (X 0 15) (X 0 16) (X 0 17) (X 0 18) (X 0 25) (X 1) (X 2) (X 3) (X 4) (X 5) (X 6) (X 7) (X 8) (X 9) (X 10) (X 11) (X 12) (X 13) 5 (fun hM => nz_runV F gX8_copy_X8_finding rfl hd_X8_finding rfl hM dX8_copy_68 [0, 1, 2, 3, 4, 5, 6, 7, 8, 9, 10, 11, 12, 13] rfl rfl 0 rfl rfl rfl (Nat.le_of_ble_eq_true rfl) rfl) h (fun m29 => [((a 0), .inr (8, [.int 0, .int m29, .ref (a 1), .ref (a 2), .ref (a 3), .ref (a 4), .ref (a 5), .ref (a 6), .int (X 0 8), .ref (a 7), .int (X 0 10), .int (X 0 11), .int (X 0 12), .int (X 0 13), .int (X 0 14), .int (X 0 15), .int (X 0 16), .int (X 0 17), .int (X 0 18), .ref (a 8), .ref (a 9), .ref (a 10), .ref (a 11), .ref (a 12), .ref (a 13), .int (X 0 25)])), ((a 1), .inl (nz_cI g, 8, .inl (X 1))), ((a 2), .inl (nz_cI g, 8, .inl (X 2))), ((a 3), .inl (nz_cI g, 320, .inl (X 3))), ((a 4), .inl (nz_cI g, 94, .inl (X 4))), ((a 5), .inl (nz_cI g, 94, .inl (X 5))), ((a 6), .inl (nz_cI g, 168, .inl (X 6))), ((a 7), .inl (nz_cI g, 400, .inl (X 7))), ((a 8), .inl (nz_cI g, 6, .inl (X 8))), ((a 9), .inl (nz_cI g, 49, .inl (X 9))), ((a 10), .inl (nz_cI g, 6, .inl (X 10))), ((a 11), .inl (nz_cZ g, 2, .inl (X 11))), ((a 12), .inl (nz_cI g, 188, .inl (X 12))), ((a 13), .inl (nz_cI g, 16, .inl (X 13)))]) (fun _ => rfl) (fun q28 m29 h => ?_)
            exact nz_iret F hQ (va_up X 0 (upd (upd (X 0) 0 0) 1 m29)) h rfl dX8_copy_71
        · have h := h.2 c10
          refine nz_aload_n F dX8_copy_45 rfl 0 rfl ?_
          refine nz_iconst (v := 1) F dX8_copy_46 (by decide) ?_
          refine k_X8_finding (a 0) (a 1) (a 2) (a 3) (a 4) (a 5) (a 6) (a 7) (a 8) (a 9) (a 10) (a 11) (a 12) (a 13) 0 0 (X 0 8) (X 0 10) (X 0 11) (X 0 12) (X 0 13) (X 0 14) (X 0 15) (X 0 16) (X 0 17) (X 0 18) (X 0 25) (X 1) (X 2) (X 3) (X 4) (X 5) (X 6) (X 7) (X 8) (X 9) (X 10) (X 11) (X 12) (X 13) 1 (fun hM => nz_runV F gX8_copy_X8_finding rfl hd_X8_finding rfl hM dX8_copy_47 [0, 1, 2, 3, 4, 5, 6, 7, 8, 9, 10, 11, 12, 13] rfl rfl 0 rfl rfl rfl (Nat.le_of_ble_eq_true rfl) rfl) h (fun m31 => [((a 0), .inr (8, [.int 0, .int m31, .ref (a 1), .ref (a 2), .ref (a 3), .ref (a 4), .ref (a 5), .ref (a 6), .int (X 0 8), .ref (a 7), .int (X 0 10), .int (X 0 11), .int (X 0 12), .int (X 0 13), .int (X 0 14), .int (X 0 15), .int (X 0 16), .int (X 0 17), .int (X 0 18), .ref (a 8), .ref (a 9), .ref (a 10), .ref (a 11), .ref (a 12), .ref (a 13), .int (X 0 25)])), ((a 1), .inl (nz_cI g, 8, .inl (X 1))), ((a 2), .inl (nz_cI g, 8, .inl (X 2))), ((a 3), .inl (nz_cI g, 320, .inl (X 3))), ((a 4), .inl (nz_cI g, 94, .inl (X 4))), ((a 5), .inl (nz_cI g, 94, .inl (X 5))), ((a 6), .inl (nz_cI g, 168, .inl (X 6))), ((a 7), .inl (nz_cI g, 400, .inl (X 7))), ((a 8), .inl (nz_cI g, 6, .inl (X 8))), ((a 9), .inl (nz_cI g, 49, .inl (X 9))), ((a 10), .inl (nz_cI g, 6, .inl (X 10))), ((a 11), .inl (nz_cZ g, 2, .inl (X 11))), ((a 12), .inl (nz_cI g, 188, .inl (X 12))), ((a 13), .inl (nz_cI g, 16, .inl (X 13)))]) (fun _ => rfl) (fun q30 m31 h => ?_)
          exact nz_iret F hQ (va_up X 0 (upd (upd (X 0) 0 0) 1 m31)) h rfl dX8_copy_50
    · have h := h.2 c4
      refine nz_ldc (v := (-1000001 : Int32)) F wd_X8_copy_c70 dX8_copy_19 ?_
      exact nz_iret F hQ (va_up X 0 (upd (X 0) 0 0)) h rfl dX8_copy_21
theorem k_X8_copy {y : nz_Y} {g : nz_G} {k n : Nat} {ws : va_W} {pc : Nat} {ls : List (Nat × Value)} {st rest : List Value} {av : Array Value} {isC : List Nat} {K : Int32 → (Nat → Nat → Int32) → Prop} (a : Nat → Nat) (X : Nat → Nat → Int32) (v1 : Int32) (v2 : Int32) (v3 : Int32) (v4 : Int32) (v5 : Int32) (run : nz_M (yz_l y) yX8_copy wsX8_copy rm_X8_copy g [.ref (a 0), .int v1, .int v2, .int v3, .int v4, .int v5] (nz_wM g a X) (nz_Qi g (nz_wM g a X) (fun r (u : Nat → Nat → Int32) => K r u) (fun u => nz_wM g a u)) → nz_C y g k n ws pc ls st rest (nz_wM g a X) (nz_Qi g (nz_wM g a X) (fun r (u : Nat → Nat → Int32) => K r u) (fun u => nz_wM g a u)) av isC) (h : wp_X8_copy X v1 v2 v3 v4 v5 K) (ws' : (Nat → Nat → Int32) → va_W) (hm : ∀ (m0 : (Nat → Nat → Int32)), nz_mrg ws isC (nz_wM g a m0) = ws' m0) (kk : ∀ (r : Int32) (m0 : (Nat → Nat → Int32)), K r m0 → nz_V y g k n (ws' m0) (pc + 3) ls (.int r :: rest)) : nz_V y g k n ws pc ls st :=
  nz_ci (ws' := fun u => ws' u) (run (c_X8_copy (yz_l y) g a X v1 v2 v3 v4 v5 K h)) (fun _ => rfl) (fun u => hm u) (fun r u h => kk r u h)
theorem dX8_drop_0 : decode cX8_drop 0 = .ok (.aload_n 0, 1) := by decide +kernel
theorem dX8_drop_1 : decode cX8_drop 1 = .ok (.iconst 0, 1) := by decide +kernel
theorem dX8_drop_2 : decode cX8_drop 2 = .ok (.putfield 50, 3) := by decide +kernel
theorem dX8_drop_5 : decode cX8_drop 5 = .ok (.iload_n 1, 1) := by decide +kernel
theorem dX8_drop_6 : decode cX8_drop 6 = .ok (.invokestatic 64, 3) := by decide +kernel
theorem dX8_drop_9 : decode cX8_drop 9 = .ok (.ifCond .ne 6, 3) := by decide +kernel
theorem dX8_drop_12 : decode cX8_drop 12 = .ok (.ldc 70, 2) := by decide +kernel
theorem dX8_drop_14 : decode cX8_drop 14 = .ok (.ireturn, 1) := by decide +kernel
theorem dX8_drop_15 : decode cX8_drop 15 = .ok (.aload_n 0, 1) := by decide +kernel
theorem dX8_drop_16 : decode cX8_drop 16 = .ok (.iconst 0, 1) := by decide +kernel
theorem dX8_drop_17 : decode cX8_drop 17 = .ok (.putfield 54, 3) := by decide +kernel
theorem dX8_drop_20 : decode cX8_drop 20 = .ok (.aload_n 0, 1) := by decide +kernel
theorem dX8_drop_21 : decode cX8_drop 21 = .ok (.getfield 7, 3) := by decide +kernel
theorem dX8_drop_24 : decode cX8_drop 24 = .ok (.iload_n 1, 1) := by decide +kernel
theorem dX8_drop_25 : decode cX8_drop 25 = .ok (.iaload, 1) := by decide +kernel
theorem dX8_drop_26 : decode cX8_drop 26 = .ok (.ifCond .ge 9, 3) := by decide +kernel
theorem dX8_drop_29 : decode cX8_drop 29 = .ok (.aload_n 0, 1) := by decide +kernel
theorem dX8_drop_30 : decode cX8_drop 30 = .ok (.iconst 1, 1) := by decide +kernel
theorem dX8_drop_31 : decode cX8_drop 31 = .ok (.invokevirtual 71, 3) := by decide +kernel
theorem dX8_drop_34 : decode cX8_drop 34 = .ok (.ireturn, 1) := by decide +kernel
theorem dX8_drop_35 : decode cX8_drop 35 = .ok (.aload_n 0, 1) := by decide +kernel
theorem dX8_drop_36 : decode cX8_drop 36 = .ok (.getfield 7, 3) := by decide +kernel
theorem dX8_drop_39 : decode cX8_drop 39 = .ok (.iload_n 1, 1) := by decide +kernel
theorem dX8_drop_40 : decode cX8_drop 40 = .ok (.iconst (-1), 1) := by decide +kernel
theorem dX8_drop_41 : decode cX8_drop 41 = .ok (.iastore, 1) := by decide +kernel
theorem dX8_drop_42 : decode cX8_drop 42 = .ok (.aload_n 0, 1) := by decide +kernel
theorem dX8_drop_43 : decode cX8_drop 43 = .ok (.getfield 13, 3) := by decide +kernel
theorem dX8_drop_46 : decode cX8_drop 46 = .ok (.iload_n 1, 1) := by decide +kernel
theorem dX8_drop_47 : decode cX8_drop 47 = .ok (.iaload, 1) := by decide +kernel
theorem dX8_drop_48 : decode cX8_drop 48 = .ok (.ireturn, 1) := by decide +kernel
set_option maxRecDepth 20000 in
theorem ggX8_drop_X8_finding : GoodIn wsX8_drop wsX8_finding := goodIn_r _ [17, 3, 18, 19, 20, 21, 22, 23, 24, 25, 26, 27, 28, 29, 30, 31, 32, 33, 34, 35, 36, 37, 38, 39, 40, 41, 42, 43, 44] rfl (by decide +kernel)
set_option maxRecDepth 20000 in
theorem gX8_drop_X8_finding : GoodIn wsX8_drop (wsV RX8 71 RX8 yX8_finding wsX8_finding) := goodIn_app (goodIn_r _ [14, 15, 16, 8] rfl (by decide +kernel)) ggX8_drop_X8_finding
set_option maxRecDepth 20000 in
theorem ggX8_drop_X8_isRow : GoodIn wsX8_drop wsX8_isRow := goodIn_r _ [9, 10, 11, 12, 8, 13] rfl (by decide +kernel)
set_option maxRecDepth 20000 in
theorem gX8_drop_X8_isRow : GoodIn wsX8_drop (va_wsS RX8 64 yX8_isRow wsX8_isRow) := goodIn_app (goodIn_r _ [6, 7, 8] rfl (by decide +kernel)) ggX8_drop_X8_isRow
/-! X8_drop -/
abbrev rm_X8_drop : Room := { frames := 2, cells := 0, slots := 0, locals := 45 }
theorem iw_X8_drop_8 : ∀ w ∈ wsX80, w ∈ wsX8_drop := fun _ h => List.mem_cons_of_mem _ (List.mem_append_right _ h)
theorem fl_X8_drop_50 : Cond.fieldLink RX8 50 "NightStonesModel" "thrown" "I" ∈ wsX8_drop := List.mem_of_getElem? (i := 1) rfl
theorem fl_X8_drop_54 : Cond.fieldLink RX8 54 "NightStonesModel" "status" "I" ∈ wsX8_drop := List.mem_of_getElem? (i := 3) rfl
theorem fl_X8_drop_7 : Cond.fieldLink RX8 7 "NightStonesModel" "lane" "[I" ∈ wsX8_drop := List.mem_of_getElem? (i := 4) rfl
theorem fl_X8_drop_13 : Cond.fieldLink RX8 13 "NightStonesModel" "many" "[I" ∈ wsX8_drop := List.mem_of_getElem? (i := 5) rfl
theorem wd_X8_drop_c70 : Cond.constant RX8 70 (-1000001) ∈ wsX8_drop := List.mem_of_getElem? (i := 2) rfl
def wp_X8_drop (X : Nat → Nat → Int32) (v1 : Int32) (K : Int32 → (Nat → Nat → Int32) → Prop) : Prop := wp_X8_isRow v1 (fun q1 => ((¬ q1 = 0 → (vp_in v1 8 ∧ ((0 ≤ ((X 1) v1.toNatClampNeg) → (vp_in v1 8 ∧ (vp_in v1 8 ∧ K ((X 2) v1.toNatClampNeg) (va_up (va_up X 0 (upd (upd (X 0) 0 0) 1 0)) 1 (upd (X 1) v1.toNatClampNeg (-1 : Int32)))))) ∧ (¬ (0 ≤ ((X 1) v1.toNatClampNeg)) → wp_X8_finding 1 (fun q7 m8 => K q7 (va_up X 0 (upd (upd (X 0) 0 0) 1 m8))))))) ∧ (q1 = 0 → K (-1000001 : Int32) (va_up X 0 (upd (X 0) 0 0)))))
set_option maxHeartbeats 4000000 in
set_option maxRecDepth 100000 in
theorem c_X8_drop (l : Launch) (g : nz_G) (a : Nat → Nat) (X : Nat → Nat → Int32) (v1 : Int32) (K : Int32 → (Nat → Nat → Int32) → Prop) (h : wp_X8_drop X v1 K) : nz_M l yX8_drop wsX8_drop rm_X8_drop g [.ref (a 0), .int v1] (nz_wM g a X) (nz_Qi g (nz_wM g a X) (fun r (u : Nat → Nat → Int32) => K r u) (fun u => nz_wM g a u)) := by
  refine nz_M.of (bytes := cX8_drop) (nL := 2) (ret := (some .int)) (own := RX8) (by decide) rfl rfl ⟨rfl, rfl⟩ rfl ?_
  intro y F hl hQ
  obtain ⟨sz, hQ⟩ := hQ
  refine nz_ent (lv' := [(0, .ref (a 0)), (1, .int v1)]) rfl ?_
  unfold wp_X8_drop at h
  refine nz_aload_n F dX8_drop_0 rfl 0 rfl ?_
  refine nz_iconst (v := 0) F dX8_drop_1 (by decide) ?_
  refine nz_put (ws' := [((a 0), .inr (8, [.int 0, .int (X 0 1), .ref (a 1), .ref (a 2), .ref (a 3), .ref (a 4), .ref (a 5), .ref (a 6), .int (X 0 8), .ref (a 7), .int (X 0 10), .int (X 0 11), .int (X 0 12), .int (X 0 13), .int (X 0 14), .int (X 0 15), .int (X 0 16), .int (X 0 17), .int (X 0 18), .ref (a 8), .ref (a 9), .ref (a 10), .ref (a 11), .ref (a 12), .ref (a 13), .int (X 0 25)])), ((a 1), .inl (nz_cI g, 8, .inl (X 1))), ((a 2), .inl (nz_cI g, 8, .inl (X 2))), ((a 3), .inl (nz_cI g, 320, .inl (X 3))), ((a 4), .inl (nz_cI g, 94, .inl (X 4))), ((a 5), .inl (nz_cI g, 94, .inl (X 5))), ((a 6), .inl (nz_cI g, 168, .inl (X 6))), ((a 7), .inl (nz_cI g, 400, .inl (X 7))), ((a 8), .inl (nz_cI g, 6, .inl (X 8))), ((a 9), .inl (nz_cI g, 49, .inl (X 9))), ((a 10), .inl (nz_cI g, 6, .inl (X 10))), ((a 11), .inl (nz_cZ g, 2, .inl (X 11))), ((a 12), .inl (nz_cI g, 188, .inl (X 12))), ((a 13), .inl (nz_cI g, 16, .inl (X 13)))]) F iw_X8_drop_8 tyX8 tyX8_ok nmX8 0 rfl rfl 0 (by decide) rfl fl_X8_drop_50 rfl rfl (Nat.le_of_ble_eq_true rfl) dX8_drop_2 rfl ?_
  refine nz_iload_n F dX8_drop_5 rfl 1 rfl ?_
  refine k_X8_isRow v1 (fun hM => nz_runS F gX8_drop_X8_isRow rfl hd_X8_isRow.2 rfl hM dX8_drop_6 [] rfl rfl rfl (Nat.le_of_ble_eq_true rfl) rfl) h ([((a 0), .inr (8, [.int 0, .int (X 0 1), .ref (a 1), .ref (a 2), .ref (a 3), .ref (a 4), .ref (a 5), .ref (a 6), .int (X 0 8), .ref (a 7), .int (X 0 10), .int (X 0 11), .int (X 0 12), .int (X 0 13), .int (X 0 14), .int (X 0 15), .int (X 0 16), .int (X 0 17), .int (X 0 18), .ref (a 8), .ref (a 9), .ref (a 10), .ref (a 11), .ref (a 12), .ref (a 13), .int (X 0 25)])), ((a 1), .inl (nz_cI g, 8, .inl (X 1))), ((a 2), .inl (nz_cI g, 8, .inl (X 2))), ((a 3), .inl (nz_cI g, 320, .inl (X 3))), ((a 4), .inl (nz_cI g, 94, .inl (X 4))), ((a 5), .inl (nz_cI g, 94, .inl (X 5))), ((a 6), .inl (nz_cI g, 168, .inl (X 6))), ((a 7), .inl (nz_cI g, 400, .inl (X 7))), ((a 8), .inl (nz_cI g, 6, .inl (X 8))), ((a 9), .inl (nz_cI g, 49, .inl (X 9))), ((a 10), .inl (nz_cI g, 6, .inl (X 10))), ((a 11), .inl (nz_cZ g, 2, .inl (X 11))), ((a 12), .inl (nz_cI g, 188, .inl (X 12))), ((a 13), .inl (nz_cI g, 16, .inl (X 13)))]) (rfl) (fun q1 h => ?_)
  refine nz_if_ne (tgt := 15) F dX8_drop_9 (by decide) (fun c2 => ?_) (fun c2 => ?_)
  · have h := h.1 c2
    refine nz_aload_n F dX8_drop_15 rfl 0 rfl ?_
    refine nz_iconst (v := 0) F dX8_drop_16 (by decide) ?_
    refine nz_put (ws' := [((a 0), .inr (8, [.int 0, .int 0, .ref (a 1), .ref (a 2), .ref (a 3), .ref (a 4), .ref (a 5), .ref (a 6), .int (X 0 8), .ref (a 7), .int (X 0 10), .int (X 0 11), .int (X 0 12), .int (X 0 13), .int (X 0 14), .int (X 0 15), .int (X 0 16), .int (X 0 17), .int (X 0 18), .ref (a 8), .ref (a 9), .ref (a 10), .ref (a 11), .ref (a 12), .ref (a 13), .int (X 0 25)])), ((a 1), .inl (nz_cI g, 8, .inl (X 1))), ((a 2), .inl (nz_cI g, 8, .inl (X 2))), ((a 3), .inl (nz_cI g, 320, .inl (X 3))), ((a 4), .inl (nz_cI g, 94, .inl (X 4))), ((a 5), .inl (nz_cI g, 94, .inl (X 5))), ((a 6), .inl (nz_cI g, 168, .inl (X 6))), ((a 7), .inl (nz_cI g, 400, .inl (X 7))), ((a 8), .inl (nz_cI g, 6, .inl (X 8))), ((a 9), .inl (nz_cI g, 49, .inl (X 9))), ((a 10), .inl (nz_cI g, 6, .inl (X 10))), ((a 11), .inl (nz_cZ g, 2, .inl (X 11))), ((a 12), .inl (nz_cI g, 188, .inl (X 12))), ((a 13), .inl (nz_cI g, 16, .inl (X 13)))]) F iw_X8_drop_8 tyX8 tyX8_ok nmX8 0 rfl rfl 1 (by decide) rfl fl_X8_drop_54 rfl rfl (Nat.le_of_ble_eq_true rfl) dX8_drop_17 rfl ?_
    refine nz_aload_n F dX8_drop_20 rfl 0 rfl ?_
    refine nz_get F iw_X8_drop_8 0 rfl rfl 2 (by decide) rfl fl_X8_drop_7 rfl dX8_drop_21 ?_
    refine nz_iload_n F dX8_drop_24 rfl 1 rfl ?_
    obtain ⟨i3, h⟩ := h
    refine nz_iald F 1 rfl i3 dX8_drop_25 ?_
    refine nz_if_ge (tgt := 35) F dX8_drop_26 (by decide) (fun c4 => ?_) (fun c4 => ?_)
    · have h := h.1 c4
      refine nz_aload_n F dX8_drop_35 rfl 0 rfl ?_
      refine nz_get F iw_X8_drop_8 0 rfl rfl 2 (by decide) rfl fl_X8_drop_7 rfl dX8_drop_36 ?_
      refine nz_iload_n F dX8_drop_39 rfl 1 rfl ?_
      refine nz_iconst (v := (-1 : Int32)) F dX8_drop_40 (by decide) ?_
      obtain ⟨i5, h⟩ := h
      refine nz_iast (ws' := [((a 0), .inr (8, [.int 0, .int 0, .ref (a 1), .ref (a 2), .ref (a 3), .ref (a 4), .ref (a 5), .ref (a 6), .int (X 0 8), .ref (a 7), .int (X 0 10), .int (X 0 11), .int (X 0 12), .int (X 0 13), .int (X 0 14), .int (X 0 15), .int (X 0 16), .int (X 0 17), .int (X 0 18), .ref (a 8), .ref (a 9), .ref (a 10), .ref (a 11), .ref (a 12), .ref (a 13), .int (X 0 25)])), ((a 1), .inl (nz_cI g, 8, .inl (upd (X 1) v1.toNatClampNeg (-1 : Int32)))), ((a 2), .inl (nz_cI g, 8, .inl (X 2))), ((a 3), .inl (nz_cI g, 320, .inl (X 3))), ((a 4), .inl (nz_cI g, 94, .inl (X 4))), ((a 5), .inl (nz_cI g, 94, .inl (X 5))), ((a 6), .inl (nz_cI g, 168, .inl (X 6))), ((a 7), .inl (nz_cI g, 400, .inl (X 7))), ((a 8), .inl (nz_cI g, 6, .inl (X 8))), ((a 9), .inl (nz_cI g, 49, .inl (X 9))), ((a 10), .inl (nz_cI g, 6, .inl (X 10))), ((a 11), .inl (nz_cZ g, 2, .inl (X 11))), ((a 12), .inl (nz_cI g, 188, .inl (X 12))), ((a 13), .inl (nz_cI g, 16, .inl (X 13)))]) F 1 rfl i5 dX8_drop_41 rfl ?_
      refine nz_aload_n F dX8_drop_42 rfl 0 rfl ?_
      refine nz_get F iw_X8_drop_8 0 rfl rfl 3 (by decide) rfl fl_X8_drop_13 rfl dX8_drop_43 ?_
      refine nz_iload_n F dX8_drop_46 rfl 1 rfl ?_
      obtain ⟨i6, h⟩ := h
      refine nz_iald F 2 rfl i6 dX8_drop_47 ?_
      exact nz_iret F hQ (va_up (va_up X 0 (upd (upd (X 0) 0 0) 1 0)) 1 (upd (X 1) v1.toNatClampNeg (-1 : Int32))) h rfl dX8_drop_48
    · have h := h.2 c4
      refine nz_aload_n F dX8_drop_29 rfl 0 rfl ?_
      refine nz_iconst (v := 1) F dX8_drop_30 (by decide) ?_
      refine k_X8_finding (a 0) (a 1) (a 2) (a 3) (a 4) (a 5) (a 6) (a 7) (a 8) (a 9) (a 10) (a 11) (a 12) (a 13) 0 0 (X 0 8) (X 0 10) (X 0 11) (X 0 12) (X 0 13) (X 0 14) (X 0 15) (X 0 16) (X 0 17) (X 0 18) (X 0 25) (X 1) (X 2) (X 3) (X 4) (X 5) (X 6) (X 7) (X 8) (X 9) (X 10) (X 11) (X 12) (X 13) 1 (fun hM => nz_runV F gX8_drop_X8_finding rfl hd_X8_finding rfl hM dX8_drop_31 [0, 1, 2, 3, 4, 5, 6, 7, 8, 9, 10, 11, 12, 13] rfl rfl 0 rfl rfl rfl (Nat.le_of_ble_eq_true rfl) rfl) h (fun m8 => [((a 0), .inr (8, [.int 0, .int m8, .ref (a 1), .ref (a 2), .ref (a 3), .ref (a 4), .ref (a 5), .ref (a 6), .int (X 0 8), .ref (a 7), .int (X 0 10), .int (X 0 11), .int (X 0 12), .int (X 0 13), .int (X 0 14), .int (X 0 15), .int (X 0 16), .int (X 0 17), .int (X 0 18), .ref (a 8), .ref (a 9), .ref (a 10), .ref (a 11), .ref (a 12), .ref (a 13), .int (X 0 25)])), ((a 1), .inl (nz_cI g, 8, .inl (X 1))), ((a 2), .inl (nz_cI g, 8, .inl (X 2))), ((a 3), .inl (nz_cI g, 320, .inl (X 3))), ((a 4), .inl (nz_cI g, 94, .inl (X 4))), ((a 5), .inl (nz_cI g, 94, .inl (X 5))), ((a 6), .inl (nz_cI g, 168, .inl (X 6))), ((a 7), .inl (nz_cI g, 400, .inl (X 7))), ((a 8), .inl (nz_cI g, 6, .inl (X 8))), ((a 9), .inl (nz_cI g, 49, .inl (X 9))), ((a 10), .inl (nz_cI g, 6, .inl (X 10))), ((a 11), .inl (nz_cZ g, 2, .inl (X 11))), ((a 12), .inl (nz_cI g, 188, .inl (X 12))), ((a 13), .inl (nz_cI g, 16, .inl (X 13)))]) (fun _ => rfl) (fun q7 m8 h => ?_)
      exact nz_iret F hQ (va_up X 0 (upd (upd (X 0) 0 0) 1 m8)) h rfl dX8_drop_34
  · have h := h.2 c2
    refine nz_ldc (v := (-1000001 : Int32)) F wd_X8_drop_c70 dX8_drop_12 ?_
    exact nz_iret F hQ (va_up X 0 (upd (X 0) 0 0)) h rfl dX8_drop_14
theorem k_X8_drop {y : nz_Y} {g : nz_G} {k n : Nat} {ws : va_W} {pc : Nat} {ls : List (Nat × Value)} {st rest : List Value} {av : Array Value} {isC : List Nat} {K : Int32 → (Nat → Nat → Int32) → Prop} (a : Nat → Nat) (X : Nat → Nat → Int32) (v1 : Int32) (run : nz_M (yz_l y) yX8_drop wsX8_drop rm_X8_drop g [.ref (a 0), .int v1] (nz_wM g a X) (nz_Qi g (nz_wM g a X) (fun r (u : Nat → Nat → Int32) => K r u) (fun u => nz_wM g a u)) → nz_C y g k n ws pc ls st rest (nz_wM g a X) (nz_Qi g (nz_wM g a X) (fun r (u : Nat → Nat → Int32) => K r u) (fun u => nz_wM g a u)) av isC) (h : wp_X8_drop X v1 K) (ws' : (Nat → Nat → Int32) → va_W) (hm : ∀ (m0 : (Nat → Nat → Int32)), nz_mrg ws isC (nz_wM g a m0) = ws' m0) (kk : ∀ (r : Int32) (m0 : (Nat → Nat → Int32)), K r m0 → nz_V y g k n (ws' m0) (pc + 3) ls (.int r :: rest)) : nz_V y g k n ws pc ls st :=
  nz_ci (ws' := fun u => ws' u) (run (c_X8_drop (yz_l y) g a X v1 K h)) (fun _ => rfl) (fun u => hm u) (fun r u h => kk r u h)
theorem dX8_feed_0 : decode cX8_feed 0 = .ok (.aload_n 0, 1) := by decide +kernel
theorem dX8_feed_1 : decode cX8_feed 1 = .ok (.iconst 0, 1) := by decide +kernel
theorem dX8_feed_2 : decode cX8_feed 2 = .ok (.putfield 50, 3) := by decide +kernel
theorem dX8_feed_5 : decode cX8_feed 5 = .ok (.iload_n 3, 1) := by decide +kernel
theorem dX8_feed_6 : decode cX8_feed 6 = .ok (.i2l, 1) := by decide +kernel
theorem dX8_feed_7 : decode cX8_feed 7 = .ok (.lconst 1, 1) := by decide +kernel
theorem dX8_feed_8 : decode cX8_feed 8 = .ok (.ldc2_w 75, 3) := by decide +kernel
theorem dX8_feed_11 : decode cX8_feed 11 = .ok (.invokestatic 60, 3) := by decide +kernel
theorem dX8_feed_14 : decode cX8_feed 14 = .ok (.ifCond .ne 6, 3) := by decide +kernel
theorem dX8_feed_17 : decode cX8_feed 17 = .ok (.ldc 70, 2) := by decide +kernel
theorem dX8_feed_19 : decode cX8_feed 19 = .ok (.ireturn, 1) := by decide +kernel
theorem dX8_feed_20 : decode cX8_feed 20 = .ok (.aload_n 0, 1) := by decide +kernel
theorem dX8_feed_21 : decode cX8_feed 21 = .ok (.getfield 77, 3) := by decide +kernel
theorem dX8_feed_24 : decode cX8_feed 24 = .ok (.iload_n 3, 1) := by decide +kernel
theorem dX8_feed_25 : decode cX8_feed 25 = .ok (.iadd, 1) := by decide +kernel
theorem dX8_feed_26 : decode cX8_feed 26 = .ok (.sipush 400, 3) := by decide +kernel
theorem dX8_feed_29 : decode cX8_feed 29 = .ok (.if_icmp .le 6, 3) := by decide +kernel
theorem dX8_feed_32 : decode cX8_feed 32 = .ok (.ldc 80, 2) := by decide +kernel
theorem dX8_feed_34 : decode cX8_feed 34 = .ok (.ireturn, 1) := by decide +kernel
theorem dX8_feed_35 : decode cX8_feed 35 = .ok (.iload_n 3, 1) := by decide +kernel
theorem dX8_feed_36 : decode cX8_feed 36 = .ok (.iconst 1, 1) := by decide +kernel
theorem dX8_feed_37 : decode cX8_feed 37 = .ok (.isub, 1) := by decide +kernel
theorem dX8_feed_38 : decode cX8_feed 38 = .ok (.istore 4, 2) := by decide +kernel
theorem dX8_feed_40 : decode cX8_feed 40 = .ok (.iload 4, 2) := by decide +kernel
theorem dX8_feed_42 : decode cX8_feed 42 = .ok (.ifCond .lt 40, 3) := by decide +kernel
theorem dX8_feed_45 : decode cX8_feed 45 = .ok (.aload_n 0, 1) := by decide +kernel
theorem dX8_feed_46 : decode cX8_feed 46 = .ok (.getfield 28, 3) := by decide +kernel
theorem dX8_feed_49 : decode cX8_feed 49 = .ok (.aload_n 0, 1) := by decide +kernel
theorem dX8_feed_50 : decode cX8_feed 50 = .ok (.getfield 77, 3) := by decide +kernel
theorem dX8_feed_53 : decode cX8_feed 53 = .ok (.lload_n 1, 1) := by decide +kernel
theorem dX8_feed_54 : decode cX8_feed 54 = .ok (.bipush 8, 2) := by decide +kernel
theorem dX8_feed_56 : decode cX8_feed 56 = .ok (.iload 4, 2) := by decide +kernel
theorem dX8_feed_58 : decode cX8_feed 58 = .ok (.imul, 1) := by decide +kernel
theorem dX8_feed_59 : decode cX8_feed 59 = .ok (.lshr, 1) := by decide +kernel
theorem dX8_feed_60 : decode cX8_feed 60 = .ok (.ldc2_w 81, 3) := by decide +kernel
theorem dX8_feed_63 : decode cX8_feed 63 = .ok (.land, 1) := by decide +kernel
theorem dX8_feed_64 : decode cX8_feed 64 = .ok (.l2i, 1) := by decide +kernel
theorem dX8_feed_65 : decode cX8_feed 65 = .ok (.iastore, 1) := by decide +kernel
theorem dX8_feed_66 : decode cX8_feed 66 = .ok (.aload_n 0, 1) := by decide +kernel
theorem dX8_feed_67 : decode cX8_feed 67 = .ok (.dup, 1) := by decide +kernel
theorem dX8_feed_68 : decode cX8_feed 68 = .ok (.getfield 77, 3) := by decide +kernel
theorem dX8_feed_71 : decode cX8_feed 71 = .ok (.iconst 1, 1) := by decide +kernel
theorem dX8_feed_72 : decode cX8_feed 72 = .ok (.iadd, 1) := by decide +kernel
theorem dX8_feed_73 : decode cX8_feed 73 = .ok (.putfield 77, 3) := by decide +kernel
theorem dX8_feed_76 : decode cX8_feed 76 = .ok (.iinc 4 (-1), 3) := by decide +kernel
theorem dX8_feed_79 : decode cX8_feed 79 = .ok (.goto (-39), 3) := by decide +kernel
theorem dX8_feed_82 : decode cX8_feed 82 = .ok (.aload_n 0, 1) := by decide +kernel
theorem dX8_feed_83 : decode cX8_feed 83 = .ok (.getfield 77, 3) := by decide +kernel
theorem dX8_feed_86 : decode cX8_feed 86 = .ok (.ireturn, 1) := by decide +kernel
set_option maxRecDepth 20000 in
theorem ggX8_feed_X8_in : GoodIn wsX8_feed wsX8_in := goodIn_r _ [11] rfl (by decide +kernel)
set_option maxRecDepth 20000 in
theorem gX8_feed_X8_in : GoodIn wsX8_feed (va_wsS RX8 60 yX8_in wsX8_in) := goodIn_app (goodIn_r _ [8, 9, 10] rfl (by decide +kernel)) ggX8_feed_X8_in
/-! X8_feed -/
abbrev rm_X8_feed : Room := { frames := 1, cells := 0, slots := 0, locals := 25 }
theorem iw_X8_feed_8 : ∀ w ∈ wsX80, w ∈ wsX8_feed := fun _ h => List.mem_cons_of_mem _ (List.mem_append_right _ h)
theorem fl_X8_feed_50 : Cond.fieldLink RX8 50 "NightStonesModel" "thrown" "I" ∈ wsX8_feed := List.mem_of_getElem? (i := 1) rfl
theorem wd_X8_feed_c75 : Cond.constantLong RX8 75 (8) ∈ wsX8_feed := List.mem_of_getElem? (i := 2) rfl
theorem fl_X8_feed_77 : Cond.fieldLink RX8 77 "NightStonesModel" "taped" "I" ∈ wsX8_feed := List.mem_of_getElem? (i := 4) rfl
theorem fl_X8_feed_28 : Cond.fieldLink RX8 28 "NightStonesModel" "tape" "[I" ∈ wsX8_feed := List.mem_of_getElem? (i := 6) rfl
theorem wd_X8_feed_c81 : Cond.constantLong RX8 81 (255) ∈ wsX8_feed := List.mem_of_getElem? (i := 7) rfl
theorem wd_X8_feed_c80 : Cond.constant RX8 80 (-1000003) ∈ wsX8_feed := List.mem_of_getElem? (i := 5) rfl
theorem wd_X8_feed_c70 : Cond.constant RX8 70 (-1000001) ∈ wsX8_feed := List.mem_of_getElem? (i := 3) rfl
def S_X8_feed_40 (X : Nat → Nat → Int32) (v1 : Int64) (c0_0 : Int32) (K : Int32 → (Nat → Nat → Int32) → Prop) (R40 : Int32 → Int32 → (Nat → Int32) → Prop) (x4 : Int32) (c0_10 : Int32) (c7_c : Nat → Int32) : Prop := ((x4 < 0 → K c0_10 (va_up (va_up X 0 (upd (upd (X 0) 0 c0_0) 10 c0_10)) 7 c7_c)) ∧ (¬ (x4 < 0) → (vp_in c0_10 400 ∧ R40 (x4 + (-1 : Int32)) (c0_10 + 1) (upd c7_c c0_10.toNatClampNeg ((((v1 >>> (((8 * x4) : Int32).toInt64 &&& 63)) &&& 255) : Int64).toInt32)))))
set_option maxHeartbeats 4000000 in
set_option maxRecDepth 100000 in
theorem t_X8_feed_40 {y : nz_Y} {g : nz_G} (F : nz_F y g cX8_feed 5 wsX8_feed RX8 (some .int) rm_X8_feed) {wc0 : va_W} {sz : Nat} {K : Int32 → (Nat → Nat → Int32) → Prop} (a : Nat → Nat) (X : Nat → Nat → Int32) (v1 : Int64) (v3 : Int32) (c0_0 : Int32) (hQ : yz_A y = va_A wc0 sz ∧ yz_Q y = MQ (yz_b y) ((nz_Qi g wc0 (fun r (u : Nat → Nat → Int32) => K r u) (fun u => nz_wM g a u)) sz) (yz_a y) (yz_s y) 0 0 (va_A wc0 sz)) : ∀ (n1 : Nat) (x4 : Int32) (c0_10 : Int32) (c7_c : Nat → Int32), nz_it (fun _ _ _ => False) (S_X8_feed_40 X v1 c0_0 K) n1 x4 c0_10 c7_c → nz_V y g 0 0 [((a 0), .inr (8, [.int c0_0, .int (X 0 1), .ref (a 1), .ref (a 2), .ref (a 3), .ref (a 4), .ref (a 5), .ref (a 6), .int (X 0 8), .ref (a 7), .int c0_10, .int (X 0 11), .int (X 0 12), .int (X 0 13), .int (X 0 14), .int (X 0 15), .int (X 0 16), .int (X 0 17), .int (X 0 18), .ref (a 8), .ref (a 9), .ref (a 10), .ref (a 11), .ref (a 12), .ref (a 13), .int (X 0 25)])), ((a 1), .inl (nz_cI g, 8, .inl (X 1))), ((a 2), .inl (nz_cI g, 8, .inl (X 2))), ((a 3), .inl (nz_cI g, 320, .inl (X 3))), ((a 4), .inl (nz_cI g, 94, .inl (X 4))), ((a 5), .inl (nz_cI g, 94, .inl (X 5))), ((a 6), .inl (nz_cI g, 168, .inl (X 6))), ((a 7), .inl (nz_cI g, 400, .inl c7_c)), ((a 8), .inl (nz_cI g, 6, .inl (X 8))), ((a 9), .inl (nz_cI g, 49, .inl (X 9))), ((a 10), .inl (nz_cI g, 6, .inl (X 10))), ((a 11), .inl (nz_cZ g, 2, .inl (X 11))), ((a 12), .inl (nz_cI g, 188, .inl (X 12))), ((a 13), .inl (nz_cI g, 16, .inl (X 13)))] 40 [(0, .ref (a 0)), (1, .long v1), (4, .int x4)] [] := by
  intro n1
  induction n1 with
  | zero =>
    intro x4 c0_10 c7_c h
    exact h.elim
  | succ n1 hR40 =>
    intro x4 c0_10 c7_c h
    have h : S_X8_feed_40 X v1 c0_0 K (nz_it (fun _ _ _ => False) (S_X8_feed_40 X v1 c0_0 K) n1) x4 c0_10 c7_c := h
    unfold S_X8_feed_40 at h
    refine nz_iload F dX8_feed_40 2 rfl ?_
    refine nz_if_lt (tgt := 82) F dX8_feed_42 (by decide) (fun c4 => ?_) (fun c4 => ?_)
    · have h := h.1 c4
      refine nz_aload_n F dX8_feed_82 rfl 0 rfl ?_
      refine nz_get F iw_X8_feed_8 0 rfl rfl 10 (by decide) rfl fl_X8_feed_77 rfl dX8_feed_83 ?_
      exact nz_iret F hQ (va_up (va_up X 0 (upd (upd (X 0) 0 c0_0) 10 c0_10)) 7 c7_c) h rfl dX8_feed_86
    · have h := h.2 c4
      refine nz_aload_n F dX8_feed_45 rfl 0 rfl ?_
      refine nz_get F iw_X8_feed_8 0 rfl rfl 9 (by decide) rfl fl_X8_feed_28 rfl dX8_feed_46 ?_
      refine nz_aload_n F dX8_feed_49 rfl 0 rfl ?_
      refine nz_get F iw_X8_feed_8 0 rfl rfl 10 (by decide) rfl fl_X8_feed_77 rfl dX8_feed_50 ?_
      refine nz_lload_n F dX8_feed_53 rfl 1 rfl ?_
      refine nz_bipush (v := 8) F dX8_feed_54 (by decide) ?_
      refine nz_iload F dX8_feed_56 2 rfl ?_
      refine nz_imul F dX8_feed_58 ?_
      refine nz_lshr (v := (v1 >>> (((8 * x4) : Int32).toInt64 &&& 63))) F dX8_feed_59 rfl ?_
      refine nz_ldc2 (v := 255) F wd_X8_feed_c81 dX8_feed_60 ?_
      refine nz_land F dX8_feed_63 ?_
      refine nz_l2i (v := ((((v1 >>> (((8 * x4) : Int32).toInt64 &&& 63)) &&& 255) : Int64).toInt32)) F dX8_feed_64 rfl ?_
      obtain ⟨i5, h⟩ := h
      refine nz_iast (ws' := [((a 0), .inr (8, [.int c0_0, .int (X 0 1), .ref (a 1), .ref (a 2), .ref (a 3), .ref (a 4), .ref (a 5), .ref (a 6), .int (X 0 8), .ref (a 7), .int c0_10, .int (X 0 11), .int (X 0 12), .int (X 0 13), .int (X 0 14), .int (X 0 15), .int (X 0 16), .int (X 0 17), .int (X 0 18), .ref (a 8), .ref (a 9), .ref (a 10), .ref (a 11), .ref (a 12), .ref (a 13), .int (X 0 25)])), ((a 1), .inl (nz_cI g, 8, .inl (X 1))), ((a 2), .inl (nz_cI g, 8, .inl (X 2))), ((a 3), .inl (nz_cI g, 320, .inl (X 3))), ((a 4), .inl (nz_cI g, 94, .inl (X 4))), ((a 5), .inl (nz_cI g, 94, .inl (X 5))), ((a 6), .inl (nz_cI g, 168, .inl (X 6))), ((a 7), .inl (nz_cI g, 400, .inl (upd c7_c c0_10.toNatClampNeg ((((v1 >>> (((8 * x4) : Int32).toInt64 &&& 63)) &&& 255) : Int64).toInt32)))), ((a 8), .inl (nz_cI g, 6, .inl (X 8))), ((a 9), .inl (nz_cI g, 49, .inl (X 9))), ((a 10), .inl (nz_cI g, 6, .inl (X 10))), ((a 11), .inl (nz_cZ g, 2, .inl (X 11))), ((a 12), .inl (nz_cI g, 188, .inl (X 12))), ((a 13), .inl (nz_cI g, 16, .inl (X 13)))]) F 7 rfl i5 dX8_feed_65 rfl ?_
      refine nz_aload_n F dX8_feed_66 rfl 0 rfl ?_
      refine nz_dup F dX8_feed_67 rfl ?_
      refine nz_get F iw_X8_feed_8 0 rfl rfl 10 (by decide) rfl fl_X8_feed_77 rfl dX8_feed_68 ?_
      refine nz_iconst (v := 1) F dX8_feed_71 (by decide) ?_
      refine nz_iadd F dX8_feed_72 ?_
      refine nz_put (ws' := [((a 0), .inr (8, [.int c0_0, .int (X 0 1), .ref (a 1), .ref (a 2), .ref (a 3), .ref (a 4), .ref (a 5), .ref (a 6), .int (X 0 8), .ref (a 7), .int (c0_10 + 1), .int (X 0 11), .int (X 0 12), .int (X 0 13), .int (X 0 14), .int (X 0 15), .int (X 0 16), .int (X 0 17), .int (X 0 18), .ref (a 8), .ref (a 9), .ref (a 10), .ref (a 11), .ref (a 12), .ref (a 13), .int (X 0 25)])), ((a 1), .inl (nz_cI g, 8, .inl (X 1))), ((a 2), .inl (nz_cI g, 8, .inl (X 2))), ((a 3), .inl (nz_cI g, 320, .inl (X 3))), ((a 4), .inl (nz_cI g, 94, .inl (X 4))), ((a 5), .inl (nz_cI g, 94, .inl (X 5))), ((a 6), .inl (nz_cI g, 168, .inl (X 6))), ((a 7), .inl (nz_cI g, 400, .inl (upd c7_c c0_10.toNatClampNeg ((((v1 >>> (((8 * x4) : Int32).toInt64 &&& 63)) &&& 255) : Int64).toInt32)))), ((a 8), .inl (nz_cI g, 6, .inl (X 8))), ((a 9), .inl (nz_cI g, 49, .inl (X 9))), ((a 10), .inl (nz_cI g, 6, .inl (X 10))), ((a 11), .inl (nz_cZ g, 2, .inl (X 11))), ((a 12), .inl (nz_cI g, 188, .inl (X 12))), ((a 13), .inl (nz_cI g, 16, .inl (X 13)))]) F iw_X8_feed_8 tyX8 tyX8_ok nmX8 0 rfl rfl 10 (by decide) rfl fl_X8_feed_77 rfl rfl (Nat.le_of_ble_eq_true rfl) dX8_feed_73 rfl ?_
      refine nz_iinc (v := (x4 + (-1 : Int32))) (j := 2) (lv' := [(4, .int (x4 + (-1 : Int32))), (0, .ref (a 0)), (1, .long v1)]) F dX8_feed_76 rfl rfl (by decide) rfl ?_
      refine nz_goto (tgt := 40) F dX8_feed_79 (by decide) ?_
      refine nz_ls (lv' := [(0, .ref (a 0)), (1, .long v1), (4, .int (x4 + (-1 : Int32)))]) [1, 2, 0] rfl ?_
      exact hR40 (x4 + (-1 : Int32)) (c0_10 + 1) (upd c7_c c0_10.toNatClampNeg ((((v1 >>> (((8 * x4) : Int32).toInt64 &&& 63)) &&& 255) : Int64).toInt32)) h
def wp_X8_feed (X : Nat → Nat → Int32) (v1 : Int64) (v3 : Int32) (K : Int32 → (Nat → Nat → Int32) → Prop) : Prop := wp_X8_in ((v3 : Int32).toInt64) 1 8 (fun q1 => ((¬ q1 = 0 → ((((X 0 10) + v3) ≤ 400 → (∃ n, nz_it (fun _ _ _ => False) (S_X8_feed_40 X v1 0 K) n (v3 - 1) (X 0 10) (X 7))) ∧ (¬ (((X 0 10) + v3) ≤ 400) → K (-1000003 : Int32) (va_up X 0 (upd (X 0) 0 0))))) ∧ (q1 = 0 → K (-1000001 : Int32) (va_up X 0 (upd (X 0) 0 0)))))
set_option maxHeartbeats 4000000 in
set_option maxRecDepth 100000 in
theorem c_X8_feed (l : Launch) (g : nz_G) (a : Nat → Nat) (X : Nat → Nat → Int32) (v1 : Int64) (v3 : Int32) (K : Int32 → (Nat → Nat → Int32) → Prop) (h : wp_X8_feed X v1 v3 K) : nz_M l yX8_feed wsX8_feed rm_X8_feed g [.ref (a 0), .long v1, .int v3] (nz_wM g a X) (nz_Qi g (nz_wM g a X) (fun r (u : Nat → Nat → Int32) => K r u) (fun u => nz_wM g a u)) := by
  refine nz_M.of (bytes := cX8_feed) (nL := 5) (ret := (some .int)) (own := RX8) (by decide) rfl rfl ⟨rfl, rfl⟩ rfl ?_
  intro y F hl hQ
  obtain ⟨sz, hQ⟩ := hQ
  refine nz_ent (lv' := [(0, .ref (a 0)), (1, .long v1), (3, .int v3)]) rfl ?_
  unfold wp_X8_feed at h
  refine nz_aload_n F dX8_feed_0 rfl 0 rfl ?_
  refine nz_iconst (v := 0) F dX8_feed_1 (by decide) ?_
  refine nz_put (ws' := [((a 0), .inr (8, [.int 0, .int (X 0 1), .ref (a 1), .ref (a 2), .ref (a 3), .ref (a 4), .ref (a 5), .ref (a 6), .int (X 0 8), .ref (a 7), .int (X 0 10), .int (X 0 11), .int (X 0 12), .int (X 0 13), .int (X 0 14), .int (X 0 15), .int (X 0 16), .int (X 0 17), .int (X 0 18), .ref (a 8), .ref (a 9), .ref (a 10), .ref (a 11), .ref (a 12), .ref (a 13), .int (X 0 25)])), ((a 1), .inl (nz_cI g, 8, .inl (X 1))), ((a 2), .inl (nz_cI g, 8, .inl (X 2))), ((a 3), .inl (nz_cI g, 320, .inl (X 3))), ((a 4), .inl (nz_cI g, 94, .inl (X 4))), ((a 5), .inl (nz_cI g, 94, .inl (X 5))), ((a 6), .inl (nz_cI g, 168, .inl (X 6))), ((a 7), .inl (nz_cI g, 400, .inl (X 7))), ((a 8), .inl (nz_cI g, 6, .inl (X 8))), ((a 9), .inl (nz_cI g, 49, .inl (X 9))), ((a 10), .inl (nz_cI g, 6, .inl (X 10))), ((a 11), .inl (nz_cZ g, 2, .inl (X 11))), ((a 12), .inl (nz_cI g, 188, .inl (X 12))), ((a 13), .inl (nz_cI g, 16, .inl (X 13)))]) F iw_X8_feed_8 tyX8 tyX8_ok nmX8 0 rfl rfl 0 (by decide) rfl fl_X8_feed_50 rfl rfl (Nat.le_of_ble_eq_true rfl) dX8_feed_2 rfl ?_
  refine nz_iload_n F dX8_feed_5 rfl 2 rfl ?_
  refine nz_i2l (v := ((v3 : Int32).toInt64)) F dX8_feed_6 rfl ?_
  refine nz_lconst (v := 1) F dX8_feed_7 (by decide) ?_
  refine nz_ldc2 (v := 8) F wd_X8_feed_c75 dX8_feed_8 ?_
  refine k_X8_in ((v3 : Int32).toInt64) 1 8 (fun hM => nz_runS F gX8_feed_X8_in rfl hd_X8_in.2 rfl hM dX8_feed_11 [] rfl rfl rfl (Nat.le_of_ble_eq_true rfl) rfl) h ([((a 0), .inr (8, [.int 0, .int (X 0 1), .ref (a 1), .ref (a 2), .ref (a 3), .ref (a 4), .ref (a 5), .ref (a 6), .int (X 0 8), .ref (a 7), .int (X 0 10), .int (X 0 11), .int (X 0 12), .int (X 0 13), .int (X 0 14), .int (X 0 15), .int (X 0 16), .int (X 0 17), .int (X 0 18), .ref (a 8), .ref (a 9), .ref (a 10), .ref (a 11), .ref (a 12), .ref (a 13), .int (X 0 25)])), ((a 1), .inl (nz_cI g, 8, .inl (X 1))), ((a 2), .inl (nz_cI g, 8, .inl (X 2))), ((a 3), .inl (nz_cI g, 320, .inl (X 3))), ((a 4), .inl (nz_cI g, 94, .inl (X 4))), ((a 5), .inl (nz_cI g, 94, .inl (X 5))), ((a 6), .inl (nz_cI g, 168, .inl (X 6))), ((a 7), .inl (nz_cI g, 400, .inl (X 7))), ((a 8), .inl (nz_cI g, 6, .inl (X 8))), ((a 9), .inl (nz_cI g, 49, .inl (X 9))), ((a 10), .inl (nz_cI g, 6, .inl (X 10))), ((a 11), .inl (nz_cZ g, 2, .inl (X 11))), ((a 12), .inl (nz_cI g, 188, .inl (X 12))), ((a 13), .inl (nz_cI g, 16, .inl (X 13)))]) (rfl) (fun q1 h => ?_)
  refine nz_if_ne (tgt := 20) F dX8_feed_14 (by decide) (fun c2 => ?_) (fun c2 => ?_)
  · have h := h.1 c2
    refine nz_aload_n F dX8_feed_20 rfl 0 rfl ?_
    refine nz_get F iw_X8_feed_8 0 rfl rfl 10 (by decide) rfl fl_X8_feed_77 rfl dX8_feed_21 ?_
    refine nz_iload_n F dX8_feed_24 rfl 2 rfl ?_
    refine nz_iadd F dX8_feed_25 ?_
    refine nz_sipush (v := 400) F dX8_feed_26 (by decide) ?_
    refine nz_icmp_le (tgt := 35) F dX8_feed_29 (by decide) (fun c3 => ?_) (fun c3 => ?_)
    · have h := h.1 c3
      refine nz_iload_n F dX8_feed_35 rfl 2 rfl ?_
      refine nz_iconst (v := 1) F dX8_feed_36 (by decide) ?_
      refine nz_isub F dX8_feed_37 ?_
      refine nz_istore (lv' := [(4, .int (v3 - 1)), (0, .ref (a 0)), (1, .long v1), (3, .int v3)]) F dX8_feed_38 (by decide) rfl ?_
      refine nz_ls (lv' := [(0, .ref (a 0)), (1, .long v1), (4, .int (v3 - 1))]) [1, 2, 0] rfl ?_
      obtain ⟨n1, h⟩ := h
      exact t_X8_feed_40 F a X v1 v3 0 hQ n1 (v3 - 1) (X 0 10) (X 7) h
    · have h := h.2 c3
      refine nz_ldc (v := (-1000003 : Int32)) F wd_X8_feed_c80 dX8_feed_32 ?_
      exact nz_iret F hQ (va_up X 0 (upd (X 0) 0 0)) h rfl dX8_feed_34
  · have h := h.2 c2
    refine nz_ldc (v := (-1000001 : Int32)) F wd_X8_feed_c70 dX8_feed_17 ?_
    exact nz_iret F hQ (va_up X 0 (upd (X 0) 0 0)) h rfl dX8_feed_19
theorem k_X8_feed {y : nz_Y} {g : nz_G} {k n : Nat} {ws : va_W} {pc : Nat} {ls : List (Nat × Value)} {st rest : List Value} {av : Array Value} {isC : List Nat} {K : Int32 → (Nat → Nat → Int32) → Prop} (a : Nat → Nat) (X : Nat → Nat → Int32) (v1 : Int64) (v3 : Int32) (run : nz_M (yz_l y) yX8_feed wsX8_feed rm_X8_feed g [.ref (a 0), .long v1, .int v3] (nz_wM g a X) (nz_Qi g (nz_wM g a X) (fun r (u : Nat → Nat → Int32) => K r u) (fun u => nz_wM g a u)) → nz_C y g k n ws pc ls st rest (nz_wM g a X) (nz_Qi g (nz_wM g a X) (fun r (u : Nat → Nat → Int32) => K r u) (fun u => nz_wM g a u)) av isC) (h : wp_X8_feed X v1 v3 K) (ws' : (Nat → Nat → Int32) → va_W) (hm : ∀ (m0 : (Nat → Nat → Int32)), nz_mrg ws isC (nz_wM g a m0) = ws' m0) (kk : ∀ (r : Int32) (m0 : (Nat → Nat → Int32)), K r m0 → nz_V y g k n (ws' m0) (pc + 3) ls (.int r :: rest)) : nz_V y g k n ws pc ls st :=
  nz_ci (ws' := fun u => ws' u) (run (c_X8_feed (yz_l y) g a X v1 v3 K h)) (fun _ => rfl) (fun u => hm u) (fun r u h => kk r u h)
