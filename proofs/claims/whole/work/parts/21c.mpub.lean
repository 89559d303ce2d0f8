theorem dX8_prove_0 : decode cX8_prove 0 = .ok (.aload_n 0, 1) := by decide +kernel
theorem dX8_prove_1 : decode cX8_prove 1 = .ok (.iconst 0, 1) := by decide +kernel
theorem dX8_prove_2 : decode cX8_prove 2 = .ok (.putfield 50, 3) := by decide +kernel
theorem dX8_prove_5 : decode cX8_prove 5 = .ok (.aload_n 0, 1) := by decide +kernel
theorem dX8_prove_6 : decode cX8_prove 6 = .ok (.iload_n 1, 1) := by decide +kernel
theorem dX8_prove_7 : decode cX8_prove 7 = .ok (.invokevirtual 206, 3) := by decide +kernel
theorem dX8_prove_10 : decode cX8_prove 10 = .ok (.ifCond .ne 6, 3) := by decide +kernel
theorem dX8_prove_13 : decode cX8_prove 13 = .ok (.ldc 70, 2) := by decide +kernel
theorem dX8_prove_15 : decode cX8_prove 15 = .ok (.ireturn, 1) := by decide +kernel
theorem dX8_prove_16 : decode cX8_prove 16 = .ok (.aload_n 0, 1) := by decide +kernel
theorem dX8_prove_17 : decode cX8_prove 17 = .ok (.iload_n 1, 1) := by decide +kernel
theorem dX8_prove_18 : decode cX8_prove 18 = .ok (.iconst 1, 1) := by decide +kernel
theorem dX8_prove_19 : decode cX8_prove 19 = .ok (.invokevirtual 180, 3) := by decide +kernel
theorem dX8_prove_22 : decode cX8_prove 22 = .ok (.istore_n 2, 1) := by decide +kernel
theorem dX8_prove_23 : decode cX8_prove 23 = .ok (.aload_n 0, 1) := by decide +kernel
theorem dX8_prove_24 : decode cX8_prove 24 = .ok (.iload_n 1, 1) := by decide +kernel
theorem dX8_prove_25 : decode cX8_prove 25 = .ok (.iconst 2, 1) := by decide +kernel
theorem dX8_prove_26 : decode cX8_prove 26 = .ok (.invokevirtual 180, 3) := by decide +kernel
theorem dX8_prove_29 : decode cX8_prove 29 = .ok (.istore_n 3, 1) := by decide +kernel
theorem dX8_prove_30 : decode cX8_prove 30 = .ok (.iload_n 2, 1) := by decide +kernel
theorem dX8_prove_31 : decode cX8_prove 31 = .ok (.iload_n 3, 1) := by decide +kernel
theorem dX8_prove_32 : decode cX8_prove 32 = .ok (.if_icmp .ge 7, 3) := by decide +kernel
theorem dX8_prove_35 : decode cX8_prove 35 = .ok (.iload_n 2, 1) := by decide +kernel
theorem dX8_prove_36 : decode cX8_prove 36 = .ok (.goto 4, 3) := by decide +kernel
theorem dX8_prove_39 : decode cX8_prove 39 = .ok (.iload_n 3, 1) := by decide +kernel
theorem dX8_prove_40 : decode cX8_prove 40 = .ok (.istore 4, 2) := by decide +kernel
theorem dX8_prove_42 : decode cX8_prove 42 = .ok (.iload_n 2, 1) := by decide +kernel
theorem dX8_prove_43 : decode cX8_prove 43 = .ok (.iload_n 3, 1) := by decide +kernel
theorem dX8_prove_44 : decode cX8_prove 44 = .ok (.if_icmp .ge 7, 3) := by decide +kernel
theorem dX8_prove_47 : decode cX8_prove 47 = .ok (.iload_n 3, 1) := by decide +kernel
theorem dX8_prove_48 : decode cX8_prove 48 = .ok (.goto 4, 3) := by decide +kernel
theorem dX8_prove_51 : decode cX8_prove 51 = .ok (.iload_n 2, 1) := by decide +kernel
theorem dX8_prove_52 : decode cX8_prove 52 = .ok (.istore 5, 2) := by decide +kernel
theorem dX8_prove_54 : decode cX8_prove 54 = .ok (.iconst 0, 1) := by decide +kernel
theorem dX8_prove_55 : decode cX8_prove 55 = .ok (.istore 6, 2) := by decide +kernel
theorem dX8_prove_57 : decode cX8_prove 57 = .ok (.iload 6, 2) := by decide +kernel
theorem dX8_prove_59 : decode cX8_prove 59 = .ok (.aload_n 0, 1) := by decide +kernel
theorem dX8_prove_60 : decode cX8_prove 60 = .ok (.getfield 19, 3) := by decide +kernel
theorem dX8_prove_63 : decode cX8_prove 63 = .ok (.iconst 4, 1) := by decide +kernel
theorem dX8_prove_64 : decode cX8_prove 64 = .ok (.iaload, 1) := by decide +kernel
theorem dX8_prove_65 : decode cX8_prove 65 = .ok (.if_icmp .ge 38, 3) := by decide +kernel
theorem dX8_prove_68 : decode cX8_prove 68 = .ok (.iload 6, 2) := by decide +kernel
theorem dX8_prove_70 : decode cX8_prove 70 = .ok (.iload_n 1, 1) := by decide +kernel
theorem dX8_prove_71 : decode cX8_prove 71 = .ok (.if_icmp .eq 26, 3) := by decide +kernel
theorem dX8_prove_74 : decode cX8_prove 74 = .ok (.aload_n 0, 1) := by decide +kernel
theorem dX8_prove_75 : decode cX8_prove 75 = .ok (.iload 6, 2) := by decide +kernel
theorem dX8_prove_77 : decode cX8_prove 77 = .ok (.iconst 1, 1) := by decide +kernel
theorem dX8_prove_78 : decode cX8_prove 78 = .ok (.invokevirtual 180, 3) := by decide +kernel
theorem dX8_prove_81 : decode cX8_prove 81 = .ok (.i2l, 1) := by decide +kernel
theorem dX8_prove_82 : decode cX8_prove 82 = .ok (.iload 4, 2) := by decide +kernel
theorem dX8_prove_84 : decode cX8_prove 84 = .ok (.i2l, 1) := by decide +kernel
theorem dX8_prove_85 : decode cX8_prove 85 = .ok (.iload 5, 2) := by decide +kernel
theorem dX8_prove_87 : decode cX8_prove 87 = .ok (.i2l, 1) := by decide +kernel
theorem dX8_prove_88 : decode cX8_prove 88 = .ok (.invokestatic 60, 3) := by decide +kernel
theorem dX8_prove_91 : decode cX8_prove 91 = .ok (.ifCond .eq 6, 3) := by decide +kernel
theorem dX8_prove_94 : decode cX8_prove 94 = .ok (.ldc 196, 2) := by decide +kernel
theorem dX8_prove_96 : decode cX8_prove 96 = .ok (.ireturn, 1) := by decide +kernel
theorem dX8_prove_97 : decode cX8_prove 97 = .ok (.iinc 6 1, 3) := by decide +kernel
theorem dX8_prove_100 : decode cX8_prove 100 = .ok (.goto (-43), 3) := by decide +kernel
theorem dX8_prove_103 : decode cX8_prove 103 = .ok (.iload_n 2, 1) := by decide +kernel
theorem dX8_prove_104 : decode cX8_prove 104 = .ok (.iload_n 3, 1) := by decide +kernel
theorem dX8_prove_105 : decode cX8_prove 105 = .ok (.if_icmp .ne 6, 3) := by decide +kernel
theorem dX8_prove_108 : decode cX8_prove 108 = .ok (.ldc 196, 2) := by decide +kernel
theorem dX8_prove_110 : decode cX8_prove 110 = .ok (.ireturn, 1) := by decide +kernel
theorem dX8_prove_111 : decode cX8_prove 111 = .ok (.aload_n 0, 1) := by decide +kernel
theorem dX8_prove_112 : decode cX8_prove 112 = .ok (.invokevirtual 197, 3) := by decide +kernel
theorem dX8_prove_115 : decode cX8_prove 115 = .ok (.aload_n 0, 1) := by decide +kernel
theorem dX8_prove_116 : decode cX8_prove 116 = .ok (.getfield 19, 3) := by decide +kernel
theorem dX8_prove_119 : decode cX8_prove 119 = .ok (.bipush 8, 2) := by decide +kernel
theorem dX8_prove_121 : decode cX8_prove 121 = .ok (.iconst 3, 1) := by decide +kernel
theorem dX8_prove_122 : decode cX8_prove 122 = .ok (.iload_n 1, 1) := by decide +kernel
theorem dX8_prove_123 : decode cX8_prove 123 = .ok (.imul, 1) := by decide +kernel
theorem dX8_prove_124 : decode cX8_prove 124 = .ok (.iadd, 1) := by decide +kernel
theorem dX8_prove_125 : decode cX8_prove 125 = .ok (.iconst 1, 1) := by decide +kernel
theorem dX8_prove_126 : decode cX8_prove 126 = .ok (.iadd, 1) := by decide +kernel
theorem dX8_prove_127 : decode cX8_prove 127 = .ok (.iload_n 3, 1) := by decide +kernel
theorem dX8_prove_128 : decode cX8_prove 128 = .ok (.iastore, 1) := by decide +kernel
theorem dX8_prove_129 : decode cX8_prove 129 = .ok (.iload 5, 2) := by decide +kernel
theorem dX8_prove_131 : decode cX8_prove 131 = .ok (.iload 4, 2) := by decide +kernel
theorem dX8_prove_133 : decode cX8_prove 133 = .ok (.isub, 1) := by decide +kernel
theorem dX8_prove_134 : decode cX8_prove 134 = .ok (.ireturn, 1) := by decide +kernel
set_option maxRecDepth 20000 in
theorem ggX8_prove_X8_in : GoodIn wsX8_prove wsX8_in := goodIn_r _ [12] rfl (by decide +kernel)
set_option maxRecDepth 20000 in
theorem gX8_prove_X8_in : GoodIn wsX8_prove (va_wsS RX8 60 yX8_in wsX8_in) := goodIn_app (goodIn_r _ [10, 11, 8] rfl (by decide +kernel)) ggX8_prove_X8_in
set_option maxRecDepth 20000 in
theorem ggX8_prove_X8_isStone : GoodIn wsX8_prove wsX8_isStone := goodIn_r _ [9, 3, 10, 11, 8, 12, 23, 24, 25, 26, 27, 28, 29, 30, 31, 32, 33, 34, 35, 36, 37, 38, 39, 40, 41, 42, 43, 44, 45, 46, 47, 48] rfl (by decide +kernel)
set_option maxRecDepth 20000 in
theorem gX8_prove_X8_isStone : GoodIn wsX8_prove (wsV RX8 206 RX8 yX8_isStone wsX8_isStone) := goodIn_app (goodIn_r _ [5, 6, 7, 8] rfl (by decide +kernel)) ggX8_prove_X8_isStone
set_option maxRecDepth 20000 in
theorem ggX8_prove_X8_keep : GoodIn wsX8_prove wsX8_keep := goodIn_r _ [20, 21, 22, 3, 13, 14, 15, 8, 16, 23, 24, 25, 26, 27, 28, 29, 30, 31, 32, 33, 34, 35, 36, 37, 38, 39, 40, 41, 42, 43, 44, 45, 46, 47, 48] rfl (by decide +kernel)
set_option maxRecDepth 20000 in
theorem gX8_prove_X8_keep : GoodIn wsX8_prove (wsV RX8 197 RX8 yX8_keep wsX8_keep) := goodIn_app (goodIn_r _ [17, 18, 19, 8] rfl (by decide +kernel)) ggX8_prove_X8_keep
set_option maxRecDepth 20000 in
theorem ggX8_prove_X8_stoneOf : GoodIn wsX8_prove wsX8_stoneOf := goodIn_r _ [16, 3, 23, 24, 25, 26, 27, 28, 29, 30, 31, 32, 33, 34, 35, 36, 37, 38, 39, 40, 41, 42, 43, 44, 45, 46, 47, 48] rfl (by decide +kernel)
set_option maxRecDepth 20000 in
theorem gX8_prove_X8_stoneOf : GoodIn wsX8_prove (wsV RX8 180 RX8 yX8_stoneOf wsX8_stoneOf) := goodIn_app (goodIn_r _ [13, 14, 15, 8] rfl (by decide +kernel)) ggX8_prove_X8_stoneOf
/-! X8_prove -/
abbrev rm_X8_prove : Room := { frames := 2, cells := 0, slots := 0, locals := 46 }
theorem iw_X8_prove_8 : ∀ w ∈ wsX80, w ∈ wsX8_prove := fun _ h => List.mem_cons_of_mem _ (List.mem_append_right _ h)
theorem fl_X8_prove_50 : Cond.fieldLink RX8 50 "NightStonesModel" "thrown" "I" ∈ wsX8_prove := List.mem_of_getElem? (i := 1) rfl
theorem fl_X8_prove_19 : Cond.fieldLink RX8 19 "NightStonesModel" "road" "[I" ∈ wsX8_prove := List.mem_of_getElem? (i := 3) rfl
theorem wd_X8_prove_c196 : Cond.constant RX8 196 (-1000002) ∈ wsX8_prove := List.mem_of_getElem? (i := 4) rfl
theorem wd_X8_prove_c70 : Cond.constant RX8 70 (-1000001) ∈ wsX8_prove := List.mem_of_getElem? (i := 2) rfl
def S_X8_prove_57 (X : Nat → Nat → Int32) (v1 : Int32) (x2 : Int32) (x3 : Int32) (x4 : Int32) (x5 : Int32) (c0_0 : Int32) (c0_8 : Int32) (c4_c : Nat → Int32) (c6_c : Nat → Int32) (K : Int32 → (Nat → Nat → Int32) → Prop) (R57 : Int32 → Prop) (x6 : Int32) : Prop := (((c4_c 4) ≤ x6 → ((¬ x2 = x3 → wp_X8_keep c0_8 c4_c c6_c (fun m9 m10 => (vp_in ((8 + (3 * v1)) + 1) 94 ∧ K (x5 - x4) (va_up (va_up (va_up X 0 (upd (upd (X 0) 0 c0_0) 8 m9)) 4 (upd c4_c ((8 + (3 * v1)) + 1).toNatClampNeg x3)) 6 m10)))) ∧ (x2 = x3 → K (-1000002 : Int32) (va_up (va_up (va_up X 0 (upd (upd (X 0) 0 c0_0) 8 c0_8)) 4 c4_c) 6 c6_c)))) ∧ (¬ ((c4_c 4) ≤ x6) → ((x6 = v1 → R57 (x6 + 1)) ∧ (¬ (x6 = v1) → wp_X8_stoneOf c4_c x6 1 (fun q13 => wp_X8_in ((q13 : Int32).toInt64) ((x4 : Int32).toInt64) ((x5 : Int32).toInt64) (fun q14 => ((q14 = 0 → R57 (x6 + 1)) ∧ (¬ (q14 = 0) → K (-1000002 : Int32) (va_up (va_up (va_up X 0 (upd (upd (X 0) 0 c0_0) 8 c0_8)) 4 c4_c) 6 c6_c)))))))))
set_option maxHeartbeats 4000000 in
set_option maxRecDepth 100000 in
theorem t_X8_prove_57 {y : nz_Y} {g : nz_G} (F : nz_F y g cX8_prove 7 wsX8_prove RX8 (some .int) rm_X8_prove) {wc0 : va_W} {sz : Nat} {K : Int32 → (Nat → Nat → Int32) → Prop} (a : Nat → Nat) (X : Nat → Nat → Int32) (v1 : Int32) (x2 : Int32) (x3 : Int32) (x4 : Int32) (x5 : Int32) (c0_0 : Int32) (c0_8 : Int32) (c4_c : Nat → Int32) (c6_c : Nat → Int32) (hQ : yz_A y = va_A wc0 sz ∧ yz_Q y = MQ (yz_b y) ((nz_Qi g wc0 (fun r (u : Nat → Nat → Int32) => K r u) (fun u => nz_wM g a u)) sz) (yz_a y) (yz_s y) 0 0 (va_A wc0 sz)) : ∀ (n1 : Nat) (x6 : Int32), nz_it (fun _ => False) (S_X8_prove_57 X v1 x2 x3 x4 x5 c0_0 c0_8 c4_c c6_c K) n1 x6 → nz_V y g 0 0 [((a 0), .inr (8, [.int c0_0, .int (X 0 1), .ref (a 1), .ref (a 2), .ref (a 3), .ref (a 4), .ref (a 5), .ref (a 6), .int c0_8, .ref (a 7), .int (X 0 10), .int (X 0 11), .int (X 0 12), .int (X 0 13), .int (X 0 14), .int (X 0 15), .int (X 0 16), .int (X 0 17), .int (X 0 18), .ref (a 8), .ref (a 9), .ref (a 10), .ref (a 11), .ref (a 12), .ref (a 13), .int (X 0 25)])), ((a 1), .inl (nz_cI g, 8, .inl (X 1))), ((a 2), .inl (nz_cI g, 8, .inl (X 2))), ((a 3), .inl (nz_cI g, 320, .inl (X 3))), ((a 4), .inl (nz_cI g, 94, .inl c4_c)), ((a 5), .inl (nz_cI g, 94, .inl (X 5))), ((a 6), .inl (nz_cI g, 168, .inl c6_c)), ((a 7), .inl (nz_cI g, 400, .inl (X 7))), ((a 8), .inl (nz_cI g, 6, .inl (X 8))), ((a 9), .inl (nz_cI g, 49, .inl (X 9))), ((a 10), .inl (nz_cI g, 6, .inl (X 10))), ((a 11), .inl (nz_cZ g, 2, .inl (X 11))), ((a 12), .inl (nz_cI g, 188, .inl (X 12))), ((a 13), .inl (nz_cI g, 16, .inl (X 13)))] 57 [(0, .ref (a 0)), (1, .int v1), (2, .int x2), (3, .int x3), (4, .int x4), (5, .int x5), (6, .int x6)] [] := by
  intro n1
  induction n1 with
  | zero =>
    intro x6 h
    exact h.elim
  | succ n1 hR57 =>
    intro x6 h
    have h : S_X8_prove_57 X v1 x2 x3 x4 x5 c0_0 c0_8 c4_c c6_c K (nz_it (fun _ => False) (S_X8_prove_57 X v1 x2 x3 x4 x5 c0_0 c0_8 c4_c c6_c K) n1) x6 := h
    unfold S_X8_prove_57 at h
    refine nz_iload F dX8_prove_57 6 rfl ?_
    refine nz_aload_n F dX8_prove_59 rfl 0 rfl ?_
    refine nz_get F iw_X8_prove_8 0 rfl rfl 5 (by decide) rfl fl_X8_prove_19 rfl dX8_prove_60 ?_
    refine nz_iconst (v := 4) F dX8_prove_63 (by decide) ?_
    refine nz_iald F 4 rfl (nz_inC rfl) dX8_prove_64 ?_
    refine nz_vi (z := (c4_c 4)) rfl ?_
    refine nz_icmp_ge (tgt := 103) F dX8_prove_65 (by decide) (fun c7 => ?_) (fun c7 => ?_)
    · have h := h.1 c7
      refine nz_iload_n F dX8_prove_103 rfl 2 rfl ?_
      refine nz_iload_n F dX8_prove_104 rfl 3 rfl ?_
      refine nz_icmp_ne (tgt := 111) F dX8_prove_105 (by decide) (fun c8 => ?_) (fun c8 => ?_)
      · have h := h.1 c8
        refine nz_aload_n F dX8_prove_111 rfl 0 rfl ?_
        refine k_X8_keep (a 0) (a 1) (a 2) (a 3) (a 4) (a 5) (a 6) (a 7) (a 8) (a 9) (a 10) (a 11) (a 12) (a 13) c0_0 (X 0 1) c0_8 (X 0 10) (X 0 11) (X 0 12) (X 0 13) (X 0 14) (X 0 15) (X 0 16) (X 0 17) (X 0 18) (X 0 25) (X 1) (X 2) (X 3) c4_c (X 5) c6_c (X 7) (X 8) (X 9) (X 10) (X 11) (X 12) (X 13) (fun hM => nz_runV F gX8_prove_X8_keep rfl hd_X8_keep rfl hM dX8_prove_112 [0, 1, 2, 3, 4, 5, 6, 7, 8, 9, 10, 11, 12, 13] rfl rfl 0 rfl rfl rfl (Nat.le_of_ble_eq_true rfl) rfl) h (fun m9 m10 => [((a 0), .inr (8, [.int c0_0, .int (X 0 1), .ref (a 1), .ref (a 2), .ref (a 3), .ref (a 4), .ref (a 5), .ref (a 6), .int m9, .ref (a 7), .int (X 0 10), .int (X 0 11), .int (X 0 12), .int (X 0 13), .int (X 0 14), .int (X 0 15), .int (X 0 16), .int (X 0 17), .int (X 0 18), .ref (a 8), .ref (a 9), .ref (a 10), .ref (a 11), .ref (a 12), .ref (a 13), .int (X 0 25)])), ((a 1), .inl (nz_cI g, 8, .inl (X 1))), ((a 2), .inl (nz_cI g, 8, .inl (X 2))), ((a 3), .inl (nz_cI g, 320, .inl (X 3))), ((a 4), .inl (nz_cI g, 94, .inl c4_c)), ((a 5), .inl (nz_cI g, 94, .inl (X 5))), ((a 6), .inl (nz_cI g, 168, .inl m10)), ((a 7), .inl (nz_cI g, 400, .inl (X 7))), ((a 8), .inl (nz_cI g, 6, .inl (X 8))), ((a 9), .inl (nz_cI g, 49, .inl (X 9))), ((a 10), .inl (nz_cI g, 6, .inl (X 10))), ((a 11), .inl (nz_cZ g, 2, .inl (X 11))), ((a 12), .inl (nz_cI g, 188, .inl (X 12))), ((a 13), .inl (nz_cI g, 16, .inl (X 13)))]) (fun _ _ => rfl) (fun m9 m10 h => ?_)
        refine nz_aload_n F dX8_prove_115 rfl 0 rfl ?_
        refine nz_get F iw_X8_prove_8 0 rfl rfl 5 (by decide) rfl fl_X8_prove_19 rfl dX8_prove_116 ?_
        refine nz_bipush (v := 8) F dX8_prove_119 (by decide) ?_
        refine nz_iconst (v := 3) F dX8_prove_121 (by decide) ?_
        refine nz_iload_n F dX8_prove_122 rfl 1 rfl ?_
        refine nz_imul F dX8_prove_123 ?_
        refine nz_iadd F dX8_prove_124 ?_
        refine nz_iconst (v := 1) F dX8_prove_125 (by decide) ?_
        refine nz_iadd F dX8_prove_126 ?_
        refine nz_iload_n F dX8_prove_127 rfl 3 rfl ?_
        obtain ⟨i11, h⟩ := h
        refine nz_iast (ws' := [((a 0), .inr (8, [.int c0_0, .int (X 0 1), .ref (a 1), .ref (a 2), .ref (a 3), .ref (a 4), .ref (a 5), .ref (a 6), .int m9, .ref (a 7), .int (X 0 10), .int (X 0 11), .int (X 0 12), .int (X 0 13), .int (X 0 14), .int (X 0 15), .int (X 0 16), .int (X 0 17), .int (X 0 18), .ref (a 8), .ref (a 9), .ref (a 10), .ref (a 11), .ref (a 12), .ref (a 13), .int (X 0 25)])), ((a 1), .inl (nz_cI g, 8, .inl (X 1))), ((a 2), .inl (nz_cI g, 8, .inl (X 2))), ((a 3), .inl (nz_cI g, 320, .inl (X 3))), ((a 4), .inl (nz_cI g, 94, .inl (upd c4_c ((8 + (3 * v1)) + 1).toNatClampNeg x3))), ((a 5), .inl (nz_cI g, 94, .inl (X 5))), ((a 6), .inl (nz_cI g, 168, .inl m10)), ((a 7), .inl (nz_cI g, 400, .inl (X 7))), ((a 8), .inl (nz_cI g, 6, .inl (X 8))), ((a 9), .inl (nz_cI g, 49, .inl (X 9))), ((a 10), .inl (nz_cI g, 6, .inl (X 10))), ((a 11), .inl (nz_cZ g, 2, .inl (X 11))), ((a 12), .inl (nz_cI g, 188, .inl (X 12))), ((a 13), .inl (nz_cI g, 16, .inl (X 13)))]) F 4 rfl i11 dX8_prove_128 rfl ?_
        refine nz_iload F dX8_prove_129 5 rfl ?_
        refine nz_iload F dX8_prove_131 4 rfl ?_
        refine nz_isub F dX8_prove_133 ?_
        exact nz_iret F hQ (va_up (va_up (va_up X 0 (upd (upd (X 0) 0 c0_0) 8 m9)) 4 (upd c4_c ((8 + (3 * v1)) + 1).toNatClampNeg x3)) 6 m10) h rfl dX8_prove_134
      · have h := h.2 c8
        refine nz_ldc (v := (-1000002 : Int32)) F wd_X8_prove_c196 dX8_prove_108 ?_
        exact nz_iret F hQ (va_up (va_up (va_up X 0 (upd (upd (X 0) 0 c0_0) 8 c0_8)) 4 c4_c) 6 c6_c) h rfl dX8_prove_110
    · have h := h.2 c7
      refine nz_iload F dX8_prove_68 6 rfl ?_
      refine nz_iload_n F dX8_prove_70 rfl 1 rfl ?_
      refine nz_icmp_eq (tgt := 97) F dX8_prove_71 (by decide) (fun c12 => ?_) (fun c12 => ?_)
      · have h := h.1 c12
        refine nz_iinc (v := (x6 + 1)) (j := 6) (lv' := [(6, .int (x6 + 1)), (0, .ref (a 0)), (1, .int v1), (2, .int x2), (3, .int x3), (4, .int x4), (5, .int x5)]) F dX8_prove_97 rfl rfl (by decide) rfl ?_
        refine nz_goto (tgt := 57) F dX8_prove_100 (by decide) ?_
        refine nz_ls (lv' := [(0, .ref (a 0)), (1, .int v1), (2, .int x2), (3, .int x3), (4, .int x4), (5, .int x5), (6, .int (x6 + 1))]) [1, 2, 3, 4, 5, 6, 0] rfl ?_
        exact hR57 (x6 + 1) h
      · have h := h.2 c12
        refine nz_aload_n F dX8_prove_74 rfl 0 rfl ?_
        refine nz_iload F dX8_prove_75 6 rfl ?_
        refine nz_iconst (v := 1) F dX8_prove_77 (by decide) ?_
        refine k_X8_stoneOf (a 0) (a 1) (a 2) (a 3) (a 4) (a 5) (a 6) (a 7) (a 8) (a 9) (a 10) (a 11) (a 12) (a 13) c0_0 (X 0 1) c0_8 (X 0 10) (X 0 11) (X 0 12) (X 0 13) (X 0 14) (X 0 15) (X 0 16) (X 0 17) (X 0 18) (X 0 25) (X 1) (X 2) (X 3) c4_c (X 5) c6_c (X 7) (X 8) (X 9) (X 10) (X 11) (X 12) (X 13) x6 1 (fun hM => nz_runV F gX8_prove_X8_stoneOf rfl hd_X8_stoneOf rfl hM dX8_prove_78 [0, 1, 2, 3, 4, 5, 6, 7, 8, 9, 10, 11, 12, 13] rfl rfl 0 rfl rfl rfl (Nat.le_of_ble_eq_true rfl) rfl) h ([((a 0), .inr (8, [.int c0_0, .int (X 0 1), .ref (a 1), .ref (a 2), .ref (a 3), .ref (a 4), .ref (a 5), .ref (a 6), .int c0_8, .ref (a 7), .int (X 0 10), .int (X 0 11), .int (X 0 12), .int (X 0 13), .int (X 0 14), .int (X 0 15), .int (X 0 16), .int (X 0 17), .int (X 0 18), .ref (a 8), .ref (a 9), .ref (a 10), .ref (a 11), .ref (a 12), .ref (a 13), .int (X 0 25)])), ((a 1), .inl (nz_cI g, 8, .inl (X 1))), ((a 2), .inl (nz_cI g, 8, .inl (X 2))), ((a 3), .inl (nz_cI g, 320, .inl (X 3))), ((a 4), .inl (nz_cI g, 94, .inl c4_c)), ((a 5), .inl (nz_cI g, 94, .inl (X 5))), ((a 6), .inl (nz_cI g, 168, .inl c6_c)), ((a 7), .inl (nz_cI g, 400, .inl (X 7))), ((a 8), .inl (nz_cI g, 6, .inl (X 8))), ((a 9), .inl (nz_cI g, 49, .inl (X 9))), ((a 10), .inl (nz_cI g, 6, .inl (X 10))), ((a 11), .inl (nz_cZ g, 2, .inl (X 11))), ((a 12), .inl (nz_cI g, 188, .inl (X 12))), ((a 13), .inl (nz_cI g, 16, .inl (X 13)))]) (rfl) (fun q13 h => ?_)
        refine nz_i2l (v := ((q13 : Int32).toInt64)) F dX8_prove_81 rfl ?_
        refine nz_iload F dX8_prove_82 4 rfl ?_
        refine nz_i2l (v := ((x4 : Int32).toInt64)) F dX8_prove_84 rfl ?_
        refine nz_iload F dX8_prove_85 5 rfl ?_
        refine nz_i2l (v := ((x5 : Int32).toInt64)) F dX8_prove_87 rfl ?_
        refine k_X8_in ((q13 : Int32).toInt64) ((x4 : Int32).toInt64) ((x5 : Int32).toInt64) (fun hM => nz_runS F gX8_prove_X8_in rfl hd_X8_in.2 rfl hM dX8_prove_88 [] rfl rfl rfl (Nat.le_of_ble_eq_true rfl) rfl) h ([((a 0), .inr (8, [.int c0_0, .int (X 0 1), .ref (a 1), .ref (a 2), .ref (a 3), .ref (a 4), .ref (a 5), .ref (a 6), .int c0_8, .ref (a 7), .int (X 0 10), .int (X 0 11), .int (X 0 12), .int (X 0 13), .int (X 0 14), .int (X 0 15), .int (X 0 16), .int (X 0 17), .int (X 0 18), .ref (a 8), .ref (a 9), .ref (a 10), .ref (a 11), .ref (a 12), .ref (a 13), .int (X 0 25)])), ((a 1), .inl (nz_cI g, 8, .inl (X 1))), ((a 2), .inl (nz_cI g, 8, .inl (X 2))), ((a 3), .inl (nz_cI g, 320, .inl (X 3))), ((a 4), .inl (nz_cI g, 94, .inl c4_c)), ((a 5), .inl (nz_cI g, 94, .inl (X 5))), ((a 6), .inl (nz_cI g, 168, .inl c6_c)), ((a 7), .inl (nz_cI g, 400, .inl (X 7))), ((a 8), .inl (nz_cI g, 6, .inl (X 8))), ((a 9), .inl (nz_cI g, 49, .inl (X 9))), ((a 10), .inl (nz_cI g, 6, .inl (X 10))), ((a 11), .inl (nz_cZ g, 2, .inl (X 11))), ((a 12), .inl (nz_cI g, 188, .inl (X 12))), ((a 13), .inl (nz_cI g, 16, .inl (X 13)))]) (rfl) (fun q14 h => ?_)
        refine nz_if_eq (tgt := 97) F dX8_prove_91 (by decide) (fun c15 => ?_) (fun c15 => ?_)
        · have h := h.1 c15
          refine nz_iinc (v := (x6 + 1)) (j := 6) (lv' := [(6, .int (x6 + 1)), (0, .ref (a 0)), (1, .int v1), (2, .int x2), (3, .int x3), (4, .int x4), (5, .int x5)]) F dX8_prove_97 rfl rfl (by decide) rfl ?_
          refine nz_goto (tgt := 57) F dX8_prove_100 (by decide) ?_
          refine nz_ls (lv' := [(0, .ref (a 0)), (1, .int v1), (2, .int x2), (3, .int x3), (4, .int x4), (5, .int x5), (6, .int (x6 + 1))]) [1, 2, 3, 4, 5, 6, 0] rfl ?_
          exact hR57 (x6 + 1) h
        · have h := h.2 c15
          refine nz_ldc (v := (-1000002 : Int32)) F wd_X8_prove_c196 dX8_prove_94 ?_
          exact nz_iret F hQ (va_up (va_up (va_up X 0 (upd (upd (X 0) 0 c0_0) 8 c0_8)) 4 c4_c) 6 c6_c) h rfl dX8_prove_96
def S_X8_prove_40 (X : Nat → Nat → Int32) (v1 : Int32) (x2 : Int32) (x3 : Int32) (s0 : Int32) (c0_0 : Int32) (c0_8 : Int32) (c4_c : Nat → Int32) (c6_c : Nat → Int32) (K : Int32 → (Nat → Nat → Int32) → Prop) : Prop := ((x3 ≤ x2 → (∃ n, nz_it (fun _ => False) (S_X8_prove_57 X v1 x2 x3 s0 x2 c0_0 c0_8 c4_c c6_c K) n 0)) ∧ (¬ (x3 ≤ x2) → (∃ n, nz_it (fun _ => False) (S_X8_prove_57 X v1 x2 x3 s0 x3 c0_0 c0_8 c4_c c6_c K) n 0)))
set_option maxHeartbeats 4000000 in
set_option maxRecDepth 100000 in
theorem t_X8_prove_40 {y : nz_Y} {g : nz_G} (F : nz_F y g cX8_prove 7 wsX8_prove RX8 (some .int) rm_X8_prove) {wc0 : va_W} {sz : Nat} {K : Int32 → (Nat → Nat → Int32) → Prop} (a : Nat → Nat) (X : Nat → Nat → Int32) (v1 : Int32) (x2 : Int32) (x3 : Int32) (s0 : Int32) (c0_0 : Int32) (c0_8 : Int32) (c4_c : Nat → Int32) (c6_c : Nat → Int32) (hQ : yz_A y = va_A wc0 sz ∧ yz_Q y = MQ (yz_b y) ((nz_Qi g wc0 (fun r (u : Nat → Nat → Int32) => K r u) (fun u => nz_wM g a u)) sz) (yz_a y) (yz_s y) 0 0 (va_A wc0 sz)) : S_X8_prove_40 X v1 x2 x3 s0 c0_0 c0_8 c4_c c6_c K → nz_V y g 0 0 [((a 0), .inr (8, [.int c0_0, .int (X 0 1), .ref (a 1), .ref (a 2), .ref (a 3), .ref (a 4), .ref (a 5), .ref (a 6), .int c0_8, .ref (a 7), .int (X 0 10), .int (X 0 11), .int (X 0 12), .int (X 0 13), .int (X 0 14), .int (X 0 15), .int (X 0 16), .int (X 0 17), .int (X 0 18), .ref (a 8), .ref (a 9), .ref (a 10), .ref (a 11), .ref (a 12), .ref (a 13), .int (X 0 25)])), ((a 1), .inl (nz_cI g, 8, .inl (X 1))), ((a 2), .inl (nz_cI g, 8, .inl (X 2))), ((a 3), .inl (nz_cI g, 320, .inl (X 3))), ((a 4), .inl (nz_cI g, 94, .inl c4_c)), ((a 5), .inl (nz_cI g, 94, .inl (X 5))), ((a 6), .inl (nz_cI g, 168, .inl c6_c)), ((a 7), .inl (nz_cI g, 400, .inl (X 7))), ((a 8), .inl (nz_cI g, 6, .inl (X 8))), ((a 9), .inl (nz_cI g, 49, .inl (X 9))), ((a 10), .inl (nz_cI g, 6, .inl (X 10))), ((a 11), .inl (nz_cZ g, 2, .inl (X 11))), ((a 12), .inl (nz_cI g, 188, .inl (X 12))), ((a 13), .inl (nz_cI g, 16, .inl (X 13)))] 40 [(0, .ref (a 0)), (1, .int v1), (2, .int x2), (3, .int x3)] [.int s0] := by
  intro h
  unfold S_X8_prove_40 at h
  refine nz_istore (lv' := [(4, .int s0), (0, .ref (a 0)), (1, .int v1), (2, .int x2), (3, .int x3)]) F dX8_prove_40 (by decide) rfl ?_
  refine nz_iload_n F dX8_prove_42 rfl 3 rfl ?_
  refine nz_iload_n F dX8_prove_43 rfl 4 rfl ?_
  refine nz_icmp_ge (tgt := 51) F dX8_prove_44 (by decide) (fun c6 => ?_) (fun c6 => ?_)
  · have h := h.1 c6
    refine nz_iload_n F dX8_prove_51 rfl 3 rfl ?_
    refine nz_istore (lv' := [(5, .int x2), (4, .int s0), (0, .ref (a 0)), (1, .int v1), (2, .int x2), (3, .int x3)]) F dX8_prove_52 (by decide) rfl ?_
    refine nz_iconst (v := 0) F dX8_prove_54 (by decide) ?_
    refine nz_istore (lv' := [(6, .int 0), (5, .int x2), (4, .int s0), (0, .ref (a 0)), (1, .int v1), (2, .int x2), (3, .int x3)]) F dX8_prove_55 (by decide) rfl ?_
    refine nz_ls (lv' := [(0, .ref (a 0)), (1, .int v1), (2, .int x2), (3, .int x3), (4, .int s0), (5, .int x2), (6, .int 0)]) [3, 4, 5, 6, 2, 1, 0] rfl ?_
    obtain ⟨n1, h⟩ := h
    exact t_X8_prove_57 F a X v1 x2 x3 s0 x2 c0_0 c0_8 c4_c c6_c hQ n1 0 h
  · have h := h.2 c6
    refine nz_iload_n F dX8_prove_47 rfl 4 rfl ?_
    refine nz_goto (tgt := 52) F dX8_prove_48 (by decide) ?_
    refine nz_istore (lv' := [(5, .int x3), (4, .int s0), (0, .ref (a 0)), (1, .int v1), (2, .int x2), (3, .int x3)]) F dX8_prove_52 (by decide) rfl ?_
    refine nz_iconst (v := 0) F dX8_prove_54 (by decide) ?_
    refine nz_istore (lv' := [(6, .int 0), (5, .int x3), (4, .int s0), (0, .ref (a 0)), (1, .int v1), (2, .int x2), (3, .int x3)]) F dX8_prove_55 (by decide) rfl ?_
    refine nz_ls (lv' := [(0, .ref (a 0)), (1, .int v1), (2, .int x2), (3, .int x3), (4, .int s0), (5, .int x3), (6, .int 0)]) [3, 4, 5, 6, 2, 1, 0] rfl ?_
    obtain ⟨n1, h⟩ := h
    exact t_X8_prove_57 F a X v1 x2 x3 s0 x3 c0_0 c0_8 c4_c c6_c hQ n1 0 h
def wp_X8_prove (X : Nat → Nat → Int32) (v1 : Int32) (K : Int32 → (Nat → Nat → Int32) → Prop) : Prop := wp_X8_isStone (X 4) v1 (fun q1 => ((¬ q1 = 0 → wp_X8_stoneOf (X 4) v1 1 (fun q3 => wp_X8_stoneOf (X 4) v1 2 (fun q4 => ((q4 ≤ q3 → S_X8_prove_40 X v1 q3 q4 q4 0 (X 0 8) (X 4) (X 6) K) ∧ (¬ (q4 ≤ q3) → S_X8_prove_40 X v1 q3 q4 q3 0 (X 0 8) (X 4) (X 6) K))))) ∧ (q1 = 0 → K (-1000001 : Int32) (va_up X 0 (upd (X 0) 0 0)))))
set_option maxHeartbeats 4000000 in
set_option maxRecDepth 100000 in
theorem c_X8_prove (l : Launch) (g : nz_G) (a : Nat → Nat) (X : Nat → Nat → Int32) (v1 : Int32) (K : Int32 → (Nat → Nat → Int32) → Prop) (h : wp_X8_prove X v1 K) : nz_M l yX8_prove wsX8_prove rm_X8_prove g [.ref (a 0), .int v1] (nz_wM g a X) (nz_Qi g (nz_wM g a X) (fun r (u : Nat → Nat → Int32) => K r u) (fun u => nz_wM g a u)) := by
  refine nz_M.of (bytes := cX8_prove) (nL := 7) (ret := (some .int)) (own := RX8) (by decide) rfl rfl ⟨rfl, rfl⟩ rfl ?_
  intro y F hl hQ
  obtain ⟨sz, hQ⟩ := hQ
  refine nz_ent (lv' := [(0, .ref (a 0)), (1, .int v1)]) rfl ?_
  unfold wp_X8_prove at h
  refine nz_aload_n F dX8_prove_0 rfl 0 rfl ?_
  refine nz_iconst (v := 0) F dX8_prove_1 (by decide) ?_
  refine nz_put (ws' := [((a 0), .inr (8, [.int 0, .int (X 0 1), .ref (a 1), .ref (a 2), .ref (a 3), .ref (a 4), .ref (a 5), .ref (a 6), .int (X 0 8), .ref (a 7), .int (X 0 10), .int (X 0 11), .int (X 0 12), .int (X 0 13), .int (X 0 14), .int (X 0 15), .int (X 0 16), .int (X 0 17), .int (X 0 18), .ref (a 8), .ref (a 9), .ref (a 10), .ref (a 11), .ref (a 12), .ref (a 13), .int (X 0 25)])), ((a 1), .inl (nz_cI g, 8, .inl (X 1))), ((a 2), .inl (nz_cI g, 8, .inl (X 2))), ((a 3), .inl (nz_cI g, 320, .inl (X 3))), ((a 4), .inl (nz_cI g, 94, .inl (X 4))), ((a 5), .inl (nz_cI g, 94, .inl (X 5))), ((a 6), .inl (nz_cI g, 168, .inl (X 6))), ((a 7), .inl (nz_cI g, 400, .inl (X 7))), ((a 8), .inl (nz_cI g, 6, .inl (X 8))), ((a 9), .inl (nz_cI g, 49, .inl (X 9))), ((a 10), .inl (nz_cI g, 6, .inl (X 10))), ((a 11), .inl (nz_cZ g, 2, .inl (X 11))), ((a 12), .inl (nz_cI g, 188, .inl (X 12))), ((a 13), .inl (nz_cI g, 16, .inl (X 13)))]) F iw_X8_prove_8 tyX8 tyX8_ok nmX8 0 rfl rfl 0 (by decide) rfl fl_X8_prove_50 rfl rfl (Nat.le_of_ble_eq_true rfl) dX8_prove_2 rfl ?_
  refine nz_aload_n F dX8_prove_5 rfl 0 rfl ?_
  refine nz_iload_n F dX8_prove_6 rfl 1 rfl ?_
  refine k_X8_isStone (a 0) (a 1) (a 2) (a 3) (a 4) (a 5) (a 6) (a 7) (a 8) (a 9) (a 10) (a 11) (a 12) (a 13) 0 (X 0 1) (X 0 8) (X 0 10) (X 0 11) (X 0 12) (X 0 13) (X 0 14) (X 0 15) (X 0 16) (X 0 17) (X 0 18) (X 0 25) (X 1) (X 2) (X 3) (X 4) (X 5) (X 6) (X 7) (X 8) (X 9) (X 10) (X 11) (X 12) (X 13) v1 (fun hM => nz_runV F gX8_prove_X8_isStone rfl hd_X8_isStone rfl hM dX8_prove_7 [0, 1, 2, 3, 4, 5, 6, 7, 8, 9, 10, 11, 12, 13] rfl rfl 0 rfl rfl rfl (Nat.le_of_ble_eq_true rfl) rfl) h ([((a 0), .inr (8, [.int 0, .int (X 0 1), .ref (a 1), .ref (a 2), .ref (a 3), .ref (a 4), .ref (a 5), .ref (a 6), .int (X 0 8), .ref (a 7), .int (X 0 10), .int (X 0 11), .int (X 0 12), .int (X 0 13), .int (X 0 14), .int (X 0 15), .int (X 0 16), .int (X 0 17), .int (X 0 18), .ref (a 8), .ref (a 9), .ref (a 10), .ref (a 11), .ref (a 12), .ref (a 13), .int (X 0 25)])), ((a 1), .inl (nz_cI g, 8, .inl (X 1))), ((a 2), .inl (nz_cI g, 8, .inl (X 2))), ((a 3), .inl (nz_cI g, 320, .inl (X 3))), ((a 4), .inl (nz_cI g, 94, .inl (X 4))), ((a 5), .inl (nz_cI g, 94, .inl (X 5))), ((a 6), .inl (nz_cI g, 168, .inl (X 6))), ((a 7), .inl (nz_cI g, 400, .inl (X 7))), ((a 8), .inl (nz_cI g, 6, .inl (X 8))), ((a 9), .inl (nz_cI g, 49, .inl (X 9))), ((a 10), .inl (nz_cI g, 6, .inl (X 10))), ((a 11), .inl (nz_cZ g, 2, .inl (X 11))), ((a 12), .inl (nz_cI g, 188, .inl (X 12))), ((a 13), .inl (nz_cI g, 16, .inl (X 13)))]) (rfl) (fun q1 h => ?_)
  refine nz_if_ne (tgt := 16) F dX8_prove_10 (by decide) (fun c2 => ?_) (fun c2 => ?_)
  · have h := h.1 c2
    refine nz_aload_n F dX8_prove_16 rfl 0 rfl ?_
    refine nz_iload_n F dX8_prove_17 rfl 1 rfl ?_
    refine nz_iconst (v := 1) F dX8_prove_18 (by decide) ?_
    refine k_X8_stoneOf (a 0) (a 1) (a 2) (a 3) (a 4) (a 5) (a 6) (a 7) (a 8) (a 9) (a 10) (a 11) (a 12) (a 13) 0 (X 0 1) (X 0 8) (X 0 10) (X 0 11) (X 0 12) (X 0 13) (X 0 14) (X 0 15) (X 0 16) (X 0 17) (X 0 18) (X 0 25) (X 1) (X 2) (X 3) (X 4) (X 5) (X 6) (X 7) (X 8) (X 9) (X 10) (X 11) (X 12) (X 13) v1 1 (fun hM => nz_runV F gX8_prove_X8_stoneOf rfl hd_X8_stoneOf rfl hM dX8_prove_19 [0, 1, 2, 3, 4, 5, 6, 7, 8, 9, 10, 11, 12, 13] rfl rfl 0 rfl rfl rfl (Nat.le_of_ble_eq_true rfl) rfl) h ([((a 0), .inr (8, [.int 0, .int (X 0 1), .ref (a 1), .ref (a 2), .ref (a 3), .ref (a 4), .ref (a 5), .ref (a 6), .int (X 0 8), .ref (a 7), .int (X 0 10), .int (X 0 11), .int (X 0 12), .int (X 0 13), .int (X 0 14), .int (X 0 15), .int (X 0 16), .int (X 0 17), .int (X 0 18), .ref (a 8), .ref (a 9), .ref (a 10), .ref (a 11), .ref (a 12), .ref (a 13), .int (X 0 25)])), ((a 1), .inl (nz_cI g, 8, .inl (X 1))), ((a 2), .inl (nz_cI g, 8, .inl (X 2))), ((a 3), .inl (nz_cI g, 320, .inl (X 3))), ((a 4), .inl (nz_cI g, 94, .inl (X 4))), ((a 5), .inl (nz_cI g, 94, .inl (X 5))), ((a 6), .inl (nz_cI g, 168, .inl (X 6))), ((a 7), .inl (nz_cI g, 400, .inl (X 7))), ((a 8), .inl (nz_cI g, 6, .inl (X 8))), ((a 9), .inl (nz_cI g, 49, .inl (X 9))), ((a 10), .inl (nz_cI g, 6, .inl (X 10))), ((a 11), .inl (nz_cZ g, 2, .inl (X 11))), ((a 12), .inl (nz_cI g, 188, .inl (X 12))), ((a 13), .inl (nz_cI g, 16, .inl (X 13)))]) (rfl) (fun q3 h => ?_)
    refine nz_istore_n (lv' := [(2, .int q3), (0, .ref (a 0)), (1, .int v1)]) F dX8_prove_22 rfl (by decide) rfl ?_
    refine nz_aload_n F dX8_prove_23 rfl 1 rfl ?_
    refine nz_iload_n F dX8_prove_24 rfl 2 rfl ?_
    refine nz_iconst (v := 2) F dX8_prove_25 (by decide) ?_
    refine k_X8_stoneOf (a 0) (a 1) (a 2) (a 3) (a 4) (a 5) (a 6) (a 7) (a 8) (a 9) (a 10) (a 11) (a 12) (a 13) 0 (X 0 1) (X 0 8) (X 0 10) (X 0 11) (X 0 12) (X 0 13) (X 0 14) (X 0 15) (X 0 16) (X 0 17) (X 0 18) (X 0 25) (X 1) (X 2) (X 3) (X 4) (X 5) (X 6) (X 7) (X 8) (X 9) (X 10) (X 11) (X 12) (X 13) v1 2 (fun hM => nz_runV F gX8_prove_X8_stoneOf rfl hd_X8_stoneOf rfl hM dX8_prove_26 [0, 1, 2, 3, 4, 5, 6, 7, 8, 9, 10, 11, 12, 13] rfl rfl 0 rfl rfl rfl (Nat.le_of_ble_eq_true rfl) rfl) h ([((a 0), .inr (8, [.int 0, .int (X 0 1), .ref (a 1), .ref (a 2), .ref (a 3), .ref (a 4), .ref (a 5), .ref (a 6), .int (X 0 8), .ref (a 7), .int (X 0 10), .int (X 0 11), .int (X 0 12), .int (X 0 13), .int (X 0 14), .int (X 0 15), .int (X 0 16), .int (X 0 17), .int (X 0 18), .ref (a 8), .ref (a 9), .ref (a 10), .ref (a 11), .ref (a 12), .ref (a 13), .int (X 0 25)])), ((a 1), .inl (nz_cI g, 8, .inl (X 1))), ((a 2), .inl (nz_cI g, 8, .inl (X 2))), ((a 3), .inl (nz_cI g, 320, .inl (X 3))), ((a 4), .inl (nz_cI g, 94, .inl (X 4))), ((a 5), .inl (nz_cI g, 94, .inl (X 5))), ((a 6), .inl (nz_cI g, 168, .inl (X 6))), ((a 7), .inl (nz_cI g, 400, .inl (X 7))), ((a 8), .inl (nz_cI g, 6, .inl (X 8))), ((a 9), .inl (nz_cI g, 49, .inl (X 9))), ((a 10), .inl (nz_cI g, 6, .inl (X 10))), ((a 11), .inl (nz_cZ g, 2, .inl (X 11))), ((a 12), .inl (nz_cI g, 188, .inl (X 12))), ((a 13), .inl (nz_cI g, 16, .inl (X 13)))]) (rfl) (fun q4 h => ?_)
    refine nz_istore_n (lv' := [(3, .int q4), (2, .int q3), (0, .ref (a 0)), (1, .int v1)]) F dX8_prove_29 rfl (by decide) rfl ?_
    refine nz_iload_n F dX8_prove_30 rfl 1 rfl ?_
    refine nz_iload_n F dX8_prove_31 rfl 0 rfl ?_
    refine nz_icmp_ge (tgt := 39) F dX8_prove_32 (by decide) (fun c5 => ?_) (fun c5 => ?_)
    · have h := h.1 c5
      refine nz_iload_n F dX8_prove_39 rfl 0 rfl ?_
      refine nz_ls (lv' := [(0, .ref (a 0)), (1, .int v1), (2, .int q3), (3, .int q4)]) [2, 3, 1, 0] rfl ?_
      exact t_X8_prove_40 F a X v1 q3 q4 q4 0 (X 0 8) (X 4) (X 6) hQ h
    · have h := h.2 c5
      refine nz_iload_n F dX8_prove_35 rfl 1 rfl ?_
      refine nz_goto (tgt := 40) F dX8_prove_36 (by decide) ?_
      refine nz_ls (lv' := [(0, .ref (a 0)), (1, .int v1), (2, .int q3), (3, .int q4)]) [2, 3, 1, 0] rfl ?_
      exact t_X8_prove_40 F a X v1 q3 q4 q3 0 (X 0 8) (X 4) (X 6) hQ h
  · have h := h.2 c2
    refine nz_ldc (v := (-1000001 : Int32)) F wd_X8_prove_c70 dX8_prove_13 ?_
    exact nz_iret F hQ (va_up X 0 (upd (X 0) 0 0)) h rfl dX8_prove_15
theorem k_X8_prove {y : nz_Y} {g : nz_G} {k n : Nat} {ws : va_W} {pc : Nat} {ls : List (Nat × Value)} {st rest : List Value} {av : Array Value} {isC : List Nat} {K : Int32 → (Nat → Nat → Int32) → Prop} (a : Nat → Nat) (X : Nat → Nat → Int32) (v1 : Int32) (run : nz_M (yz_l y) yX8_prove wsX8_prove rm_X8_prove g [.ref (a 0), .int v1] (nz_wM g a X) (nz_Qi g (nz_wM g a X) (fun r (u : Nat → Nat → Int32) => K r u) (fun u => nz_wM g a u)) → nz_C y g k n ws pc ls st rest (nz_wM g a X) (nz_Qi g (nz_wM g a X) (fun r (u : Nat → Nat → Int32) => K r u) (fun u => nz_wM g a u)) av isC) (h : wp_X8_prove X v1 K) (ws' : (Nat → Nat → Int32) → va_W) (hm : ∀ (m0 : (Nat → Nat → Int32)), nz_mrg ws isC (nz_wM g a m0) = ws' m0) (kk : ∀ (r : Int32) (m0 : (Nat → Nat → Int32)), K r m0 → nz_V y g k n (ws' m0) (pc + 3) ls (.int r :: rest)) : nz_V y g k n ws pc ls st :=
  nz_ci (ws' := fun u => ws' u) (run (c_X8_prove (yz_l y) g a X v1 K h)) (fun _ => rfl) (fun u => hm u) (fun r u h => kk r u h)
theorem dX8_undo_0 : decode cX8_undo 0 = .ok (.aload_n 0, 1) := by decide +kernel
theorem dX8_undo_1 : decode cX8_undo 1 = .ok (.iconst 0, 1) := by decide +kernel
theorem dX8_undo_2 : decode cX8_undo 2 = .ok (.putfield 50, 3) := by decide +kernel
theorem dX8_undo_5 : decode cX8_undo 5 = .ok (.aload_n 0, 1) := by decide +kernel
theorem dX8_undo_6 : decode cX8_undo 6 = .ok (.getfield 177, 3) := by decide +kernel
theorem dX8_undo_9 : decode cX8_undo 9 = .ok (.ifCond .ne 6, 3) := by decide +kernel
theorem dX8_undo_12 : decode cX8_undo 12 = .ok (.ldc 196, 2) := by decide +kernel
theorem dX8_undo_14 : decode cX8_undo 14 = .ok (.ireturn, 1) := by decide +kernel
theorem dX8_undo_15 : decode cX8_undo 15 = .ok (.aload_n 0, 1) := by decide +kernel
theorem dX8_undo_16 : decode cX8_undo 16 = .ok (.dup, 1) := by decide +kernel
theorem dX8_undo_17 : decode cX8_undo 17 = .ok (.getfield 177, 3) := by decide +kernel
theorem dX8_undo_20 : decode cX8_undo 20 = .ok (.iconst 1, 1) := by decide +kernel
theorem dX8_undo_21 : decode cX8_undo 21 = .ok (.isub, 1) := by decide +kernel
theorem dX8_undo_22 : decode cX8_undo 22 = .ok (.putfield 177, 3) := by decide +kernel
theorem dX8_undo_25 : decode cX8_undo 25 = .ok (.iconst 0, 1) := by decide +kernel
theorem dX8_undo_26 : decode cX8_undo 26 = .ok (.istore_n 1, 1) := by decide +kernel
theorem dX8_undo_27 : decode cX8_undo 27 = .ok (.iload_n 1, 1) := by decide +kernel
theorem dX8_undo_28 : decode cX8_undo 28 = .ok (.bipush 6, 2) := by decide +kernel
theorem dX8_undo_30 : decode cX8_undo 30 = .ok (.if_icmp .ge 36, 3) := by decide +kernel
theorem dX8_undo_33 : decode cX8_undo 33 = .ok (.aload_n 0, 1) := by decide +kernel
theorem dX8_undo_34 : decode cX8_undo 34 = .ok (.getfield 19, 3) := by decide +kernel
theorem dX8_undo_37 : decode cX8_undo 37 = .ok (.bipush 8, 2) := by decide +kernel
theorem dX8_undo_39 : decode cX8_undo 39 = .ok (.iconst 3, 1) := by decide +kernel
theorem dX8_undo_40 : decode cX8_undo 40 = .ok (.iload_n 1, 1) := by decide +kernel
theorem dX8_undo_41 : decode cX8_undo 41 = .ok (.imul, 1) := by decide +kernel
theorem dX8_undo_42 : decode cX8_undo 42 = .ok (.iadd, 1) := by decide +kernel
theorem dX8_undo_43 : decode cX8_undo 43 = .ok (.iconst 1, 1) := by decide +kernel
theorem dX8_undo_44 : decode cX8_undo 44 = .ok (.iadd, 1) := by decide +kernel
theorem dX8_undo_45 : decode cX8_undo 45 = .ok (.aload_n 0, 1) := by decide +kernel
theorem dX8_undo_46 : decode cX8_undo 46 = .ok (.getfield 25, 3) := by decide +kernel
theorem dX8_undo_49 : decode cX8_undo 49 = .ok (.bipush 7, 2) := by decide +kernel
theorem dX8_undo_51 : decode cX8_undo 51 = .ok (.aload_n 0, 1) := by decide +kernel
theorem dX8_undo_52 : decode cX8_undo 52 = .ok (.getfield 177, 3) := by decide +kernel
theorem dX8_undo_55 : decode cX8_undo 55 = .ok (.imul, 1) := by decide +kernel
theorem dX8_undo_56 : decode cX8_undo 56 = .ok (.iload_n 1, 1) := by decide +kernel
theorem dX8_undo_57 : decode cX8_undo 57 = .ok (.iadd, 1) := by decide +kernel
theorem dX8_undo_58 : decode cX8_undo 58 = .ok (.iaload, 1) := by decide +kernel
theorem dX8_undo_59 : decode cX8_undo 59 = .ok (.iastore, 1) := by decide +kernel
theorem dX8_undo_60 : decode cX8_undo 60 = .ok (.iinc 1 1, 3) := by decide +kernel
theorem dX8_undo_63 : decode cX8_undo 63 = .ok (.goto (-36), 3) := by decide +kernel
theorem dX8_undo_66 : decode cX8_undo 66 = .ok (.aload_n 0, 1) := by decide +kernel
theorem dX8_undo_67 : decode cX8_undo 67 = .ok (.getfield 19, 3) := by decide +kernel
theorem dX8_undo_70 : decode cX8_undo 70 = .ok (.bipush 6, 2) := by decide +kernel
theorem dX8_undo_72 : decode cX8_undo 72 = .ok (.aload_n 0, 1) := by decide +kernel
theorem dX8_undo_73 : decode cX8_undo 73 = .ok (.getfield 25, 3) := by decide +kernel
theorem dX8_undo_76 : decode cX8_undo 76 = .ok (.bipush 7, 2) := by decide +kernel
theorem dX8_undo_78 : decode cX8_undo 78 = .ok (.aload_n 0, 1) := by decide +kernel
theorem dX8_undo_79 : decode cX8_undo 79 = .ok (.getfield 177, 3) := by decide +kernel
theorem dX8_undo_82 : decode cX8_undo 82 = .ok (.imul, 1) := by decide +kernel
theorem dX8_undo_83 : decode cX8_undo 83 = .ok (.bipush 6, 2) := by decide +kernel
theorem dX8_undo_85 : decode cX8_undo 85 = .ok (.iadd, 1) := by decide +kernel
theorem dX8_undo_86 : decode cX8_undo 86 = .ok (.iaload, 1) := by decide +kernel
theorem dX8_undo_87 : decode cX8_undo 87 = .ok (.iastore, 1) := by decide +kernel
theorem dX8_undo_88 : decode cX8_undo 88 = .ok (.aload_n 0, 1) := by decide +kernel
theorem dX8_undo_89 : decode cX8_undo 89 = .ok (.getfield 177, 3) := by decide +kernel
theorem dX8_undo_92 : decode cX8_undo 92 = .ok (.ireturn, 1) := by decide +kernel
/-! X8_undo -/
abbrev rm_X8_undo : Room := { frames := 0, cells := 0, slots := 0, locals := 0 }
theorem iw_X8_undo_8 : ∀ w ∈ wsX80, w ∈ wsX8_undo := fun _ h => List.mem_cons_of_mem _ (List.mem_append_right _ h)
theorem fl_X8_undo_50 : Cond.fieldLink RX8 50 "NightStonesModel" "thrown" "I" ∈ wsX8_undo := List.mem_of_getElem? (i := 1) rfl
theorem fl_X8_undo_177 : Cond.fieldLink RX8 177 "NightStonesModel" "acts" "I" ∈ wsX8_undo := List.mem_of_getElem? (i := 2) rfl
theorem fl_X8_undo_19 : Cond.fieldLink RX8 19 "NightStonesModel" "road" "[I" ∈ wsX8_undo := List.mem_of_getElem? (i := 4) rfl
theorem fl_X8_undo_25 : Cond.fieldLink RX8 25 "NightStonesModel" "was" "[I" ∈ wsX8_undo := List.mem_of_getElem? (i := 5) rfl
theorem wd_X8_undo_c196 : Cond.constant RX8 196 (-1000002) ∈ wsX8_undo := List.mem_of_getElem? (i := 3) rfl
def S_X8_undo_27 (X : Nat → Nat → Int32) (c0_0 : Int32) (c0_8 : Int32) (K : Int32 → (Nat → Nat → Int32) → Prop) (R27 : Int32 → (Nat → Int32) → Prop) (x1 : Int32) (c4_c : Nat → Int32) : Prop := ((6 ≤ x1 → (vp_in ((7 * c0_8) + 6) 168 ∧ K c0_8 (va_up (va_up X 0 (upd (upd (X 0) 0 c0_0) 8 c0_8)) 4 (upd c4_c 6 ((X 6) ((7 * c0_8) + 6).toNatClampNeg))))) ∧ (¬ (6 ≤ x1) → (vp_in ((7 * c0_8) + x1) 168 ∧ (vp_in ((8 + (3 * x1)) + 1) 94 ∧ R27 (x1 + 1) (upd c4_c ((8 + (3 * x1)) + 1).toNatClampNeg ((X 6) ((7 * c0_8) + x1).toNatClampNeg))))))
set_option maxHeartbeats 4000000 in
set_option maxRecDepth 100000 in
theorem t_X8_undo_27 {y : nz_Y} {g : nz_G} (F : nz_F y g cX8_undo 2 wsX8_undo RX8 (some .int) rm_X8_undo) {wc0 : va_W} {sz : Nat} {K : Int32 → (Nat → Nat → Int32) → Prop} (a : Nat → Nat) (X : Nat → Nat → Int32) (c0_0 : Int32) (c0_8 : Int32) (hQ : yz_A y = va_A wc0 sz ∧ yz_Q y = MQ (yz_b y) ((nz_Qi g wc0 (fun r (u : Nat → Nat → Int32) => K r u) (fun u => nz_wM g a u)) sz) (yz_a y) (yz_s y) 0 0 (va_A wc0 sz)) : ∀ (n1 : Nat) (x1 : Int32) (c4_c : Nat → Int32), nz_it (fun _ _ => False) (S_X8_undo_27 X c0_0 c0_8 K) n1 x1 c4_c → nz_V y g 0 0 [((a 0), .inr (8, [.int c0_0, .int (X 0 1), .ref (a 1), .ref (a 2), .ref (a 3), .ref (a 4), .ref (a 5), .ref (a 6), .int c0_8, .ref (a 7), .int (X 0 10), .int (X 0 11), .int (X 0 12), .int (X 0 13), .int (X 0 14), .int (X 0 15), .int (X 0 16), .int (X 0 17), .int (X 0 18), .ref (a 8), .ref (a 9), .ref (a 10), .ref (a 11), .ref (a 12), .ref (a 13), .int (X 0 25)])), ((a 1), .inl (nz_cI g, 8, .inl (X 1))), ((a 2), .inl (nz_cI g, 8, .inl (X 2))), ((a 3), .inl (nz_cI g, 320, .inl (X 3))), ((a 4), .inl (nz_cI g, 94, .inl c4_c)), ((a 5), .inl (nz_cI g, 94, .inl (X 5))), ((a 6), .inl (nz_cI g, 168, .inl (X 6))), ((a 7), .inl (nz_cI g, 400, .inl (X 7))), ((a 8), .inl (nz_cI g, 6, .inl (X 8))), ((a 9), .inl (nz_cI g, 49, .inl (X 9))), ((a 10), .inl (nz_cI g, 6, .inl (X 10))), ((a 11), .inl (nz_cZ g, 2, .inl (X 11))), ((a 12), .inl (nz_cI g, 188, .inl (X 12))), ((a 13), .inl (nz_cI g, 16, .inl (X 13)))] 27 [(0, .ref (a 0)), (1, .int x1)] [] := by
  intro n1
  induction n1 with
  | zero =>
    intro x1 c4_c h
    exact h.elim
  | succ n1 hR27 =>
    intro x1 c4_c h
    have h : S_X8_undo_27 X c0_0 c0_8 K (nz_it (fun _ _ => False) (S_X8_undo_27 X c0_0 c0_8 K) n1) x1 c4_c := h
    unfold S_X8_undo_27 at h
    refine nz_iload_n F dX8_undo_27 rfl 1 rfl ?_
    refine nz_bipush (v := 6) F dX8_undo_28 (by decide) ?_
    refine nz_icmp_ge (tgt := 66) F dX8_undo_30 (by decide) (fun c2 => ?_) (fun c2 => ?_)
    · have h := h.1 c2
      refine nz_aload_n F dX8_undo_66 rfl 0 rfl ?_
      refine nz_get F iw_X8_undo_8 0 rfl rfl 5 (by decide) rfl fl_X8_undo_19 rfl dX8_undo_67 ?_
      refine nz_bipush (v := 6) F dX8_undo_70 (by decide) ?_
      refine nz_aload_n F dX8_undo_72 rfl 0 rfl ?_
      refine nz_get F iw_X8_undo_8 0 rfl rfl 7 (by decide) rfl fl_X8_undo_25 rfl dX8_undo_73 ?_
      refine nz_bipush (v := 7) F dX8_undo_76 (by decide) ?_
      refine nz_aload_n F dX8_undo_78 rfl 0 rfl ?_
      refine nz_get F iw_X8_undo_8 0 rfl rfl 8 (by decide) rfl fl_X8_undo_177 rfl dX8_undo_79 ?_
      refine nz_imul F dX8_undo_82 ?_
      refine nz_bipush (v := 6) F dX8_undo_83 (by decide) ?_
      refine nz_iadd F dX8_undo_85 ?_
      obtain ⟨i3, h⟩ := h
      refine nz_iald F 6 rfl i3 dX8_undo_86 ?_
      refine nz_iast (ws' := [((a 0), .inr (8, [.int c0_0, .int (X 0 1), .ref (a 1), .ref (a 2), .ref (a 3), .ref (a 4), .ref (a 5), .ref (a 6), .int c0_8, .ref (a 7), .int (X 0 10), .int (X 0 11), .int (X 0 12), .int (X 0 13), .int (X 0 14), .int (X 0 15), .int (X 0 16), .int (X 0 17), .int (X 0 18), .ref (a 8), .ref (a 9), .ref (a 10), .ref (a 11), .ref (a 12), .ref (a 13), .int (X 0 25)])), ((a 1), .inl (nz_cI g, 8, .inl (X 1))), ((a 2), .inl (nz_cI g, 8, .inl (X 2))), ((a 3), .inl (nz_cI g, 320, .inl (X 3))), ((a 4), .inl (nz_cI g, 94, .inl (upd c4_c 6 ((X 6) ((7 * c0_8) + 6).toNatClampNeg)))), ((a 5), .inl (nz_cI g, 94, .inl (X 5))), ((a 6), .inl (nz_cI g, 168, .inl (X 6))), ((a 7), .inl (nz_cI g, 400, .inl (X 7))), ((a 8), .inl (nz_cI g, 6, .inl (X 8))), ((a 9), .inl (nz_cI g, 49, .inl (X 9))), ((a 10), .inl (nz_cI g, 6, .inl (X 10))), ((a 11), .inl (nz_cZ g, 2, .inl (X 11))), ((a 12), .inl (nz_cI g, 188, .inl (X 12))), ((a 13), .inl (nz_cI g, 16, .inl (X 13)))]) F 4 rfl (nz_inC rfl) dX8_undo_87 rfl ?_
      refine nz_aload_n F dX8_undo_88 rfl 0 rfl ?_
      refine nz_get F iw_X8_undo_8 0 rfl rfl 8 (by decide) rfl fl_X8_undo_177 rfl dX8_undo_89 ?_
      exact nz_iret F hQ (va_up (va_up X 0 (upd (upd (X 0) 0 c0_0) 8 c0_8)) 4 (upd c4_c 6 ((X 6) ((7 * c0_8) + 6).toNatClampNeg))) h rfl dX8_undo_92
    · have h := h.2 c2
      refine nz_aload_n F dX8_undo_33 rfl 0 rfl ?_
      refine nz_get F iw_X8_undo_8 0 rfl rfl 5 (by decide) rfl fl_X8_undo_19 rfl dX8_undo_34 ?_
      refine nz_bipush (v := 8) F dX8_undo_37 (by decide) ?_
      refine nz_iconst (v := 3) F dX8_undo_39 (by decide) ?_
      refine nz_iload_n F dX8_undo_40 rfl 1 rfl ?_
      refine nz_imul F dX8_undo_41 ?_
      refine nz_iadd F dX8_undo_42 ?_
      refine nz_iconst (v := 1) F dX8_undo_43 (by decide) ?_
      refine nz_iadd F dX8_undo_44 ?_
      refine nz_aload_n F dX8_undo_45 rfl 0 rfl ?_
      refine nz_get F iw_X8_undo_8 0 rfl rfl 7 (by decide) rfl fl_X8_undo_25 rfl dX8_undo_46 ?_
      refine nz_bipush (v := 7) F dX8_undo_49 (by decide) ?_
      refine nz_aload_n F dX8_undo_51 rfl 0 rfl ?_
      refine nz_get F iw_X8_undo_8 0 rfl rfl 8 (by decide) rfl fl_X8_undo_177 rfl dX8_undo_52 ?_
      refine nz_imul F dX8_undo_55 ?_
      refine nz_iload_n F dX8_undo_56 rfl 1 rfl ?_
      refine nz_iadd F dX8_undo_57 ?_
      obtain ⟨i4, h⟩ := h
      refine nz_iald F 6 rfl i4 dX8_undo_58 ?_
      obtain ⟨i5, h⟩ := h
      refine nz_iast (ws' := [((a 0), .inr (8, [.int c0_0, .int (X 0 1), .ref (a 1), .ref (a 2), .ref (a 3), .ref (a 4), .ref (a 5), .ref (a 6), .int c0_8, .ref (a 7), .int (X 0 10), .int (X 0 11), .int (X 0 12), .int (X 0 13), .int (X 0 14), .int (X 0 15), .int (X 0 16), .int (X 0 17), .int (X 0 18), .ref (a 8), .ref (a 9), .ref (a 10), .ref (a 11), .ref (a 12), .ref (a 13), .int (X 0 25)])), ((a 1), .inl (nz_cI g, 8, .inl (X 1))), ((a 2), .inl (nz_cI g, 8, .inl (X 2))), ((a 3), .inl (nz_cI g, 320, .inl (X 3))), ((a 4), .inl (nz_cI g, 94, .inl (upd c4_c ((8 + (3 * x1)) + 1).toNatClampNeg ((X 6) ((7 * c0_8) + x1).toNatClampNeg)))), ((a 5), .inl (nz_cI g, 94, .inl (X 5))), ((a 6), .inl (nz_cI g, 168, .inl (X 6))), ((a 7), .inl (nz_cI g, 400, .inl (X 7))), ((a 8), .inl (nz_cI g, 6, .inl (X 8))), ((a 9), .inl (nz_cI g, 49, .inl (X 9))), ((a 10), .inl (nz_cI g, 6, .inl (X 10))), ((a 11), .inl (nz_cZ g, 2, .inl (X 11))), ((a 12), .inl (nz_cI g, 188, .inl (X 12))), ((a 13), .inl (nz_cI g, 16, .inl (X 13)))]) F 4 rfl i5 dX8_undo_59 rfl ?_
      refine nz_iinc (v := (x1 + 1)) (j := 1) (lv' := [(1, .int (x1 + 1)), (0, .ref (a 0))]) F dX8_undo_60 rfl rfl (by decide) rfl ?_
      refine nz_goto (tgt := 27) F dX8_undo_63 (by decide) ?_
      refine nz_ls (lv' := [(0, .ref (a 0)), (1, .int (x1 + 1))]) [1, 0] rfl ?_
      exact hR27 (x1 + 1) (upd c4_c ((8 + (3 * x1)) + 1).toNatClampNeg ((X 6) ((7 * c0_8) + x1).toNatClampNeg)) h
def wp_X8_undo (X : Nat → Nat → Int32) (K : Int32 → (Nat → Nat → Int32) → Prop) : Prop := ((¬ (X 0 8) = 0 → (∃ n, nz_it (fun _ _ => False) (S_X8_undo_27 X 0 ((X 0 8) - 1) K) n 0 (X 4))) ∧ ((X 0 8) = 0 → K (-1000002 : Int32) (va_up X 0 (upd (X 0) 0 0))))
set_option maxHeartbeats 4000000 in
set_option maxRecDepth 100000 in
theorem c_X8_undo (l : Launch) (g : nz_G) (a : Nat → Nat) (X : Nat → Nat → Int32) (K : Int32 → (Nat → Nat → Int32) → Prop) (h : wp_X8_undo X K) : nz_M l yX8_undo wsX8_undo rm_X8_undo g [.ref (a 0)] (nz_wM g a X) (nz_Qi g (nz_wM g a X) (fun r (u : Nat → Nat → Int32) => K r u) (fun u => nz_wM g a u)) := by
  refine nz_M.of (bytes := cX8_undo) (nL := 2) (ret := (some .int)) (own := RX8) (by decide) rfl rfl ⟨rfl, rfl⟩ rfl ?_
  intro y F hl hQ
  obtain ⟨sz, hQ⟩ := hQ
  refine nz_ent (lv' := [(0, .ref (a 0))]) rfl ?_
  unfold wp_X8_undo at h
  refine nz_aload_n F dX8_undo_0 rfl 0 rfl ?_
  refine nz_iconst (v := 0) F dX8_undo_1 (by decide) ?_
  refine nz_put (ws' := [((a 0), .inr (8, [.int 0, .int (X 0 1), .ref (a 1), .ref (a 2), .ref (a 3), .ref (a 4), .ref (a 5), .ref (a 6), .int (X 0 8), .ref (a 7), .int (X 0 10), .int (X 0 11), .int (X 0 12), .int (X 0 13), .int (X 0 14), .int (X 0 15), .int (X 0 16), .int (X 0 17), .int (X 0 18), .ref (a 8), .ref (a 9), .ref (a 10), .ref (a 11), .ref (a 12), .ref (a 13), .int (X 0 25)])), ((a 1), .inl (nz_cI g, 8, .inl (X 1))), ((a 2), .inl (nz_cI g, 8, .inl (X 2))), ((a 3), .inl (nz_cI g, 320, .inl (X 3))), ((a 4), .inl (nz_cI g, 94, .inl (X 4))), ((a 5), .inl (nz_cI g, 94, .inl (X 5))), ((a 6), .inl (nz_cI g, 168, .inl (X 6))), ((a 7), .inl (nz_cI g, 400, .inl (X 7))), ((a 8), .inl (nz_cI g, 6, .inl (X 8))), ((a 9), .inl (nz_cI g, 49, .inl (X 9))), ((a 10), .inl (nz_cI g, 6, .inl (X 10))), ((a 11), .inl (nz_cZ g, 2, .inl (X 11))), ((a 12), .inl (nz_cI g, 188, .inl (X 12))), ((a 13), .inl (nz_cI g, 16, .inl (X 13)))]) F iw_X8_undo_8 tyX8 tyX8_ok nmX8 0 rfl rfl 0 (by decide) rfl fl_X8_undo_50 rfl rfl (Nat.le_of_ble_eq_true rfl) dX8_undo_2 rfl ?_
  refine nz_aload_n F dX8_undo_5 rfl 0 rfl ?_
  refine nz_get F iw_X8_undo_8 0 rfl rfl 8 (by decide) rfl fl_X8_undo_177 rfl dX8_undo_6 ?_
  refine nz_if_ne (tgt := 15) F dX8_undo_9 (by decide) (fun c1 => ?_) (fun c1 => ?_)
  · have h := h.1 c1
    refine nz_aload_n F dX8_undo_15 rfl 0 rfl ?_
    refine nz_dup F dX8_undo_16 rfl ?_
    refine nz_get F iw_X8_undo_8 0 rfl rfl 8 (by decide) rfl fl_X8_undo_177 rfl dX8_undo_17 ?_
    refine nz_iconst (v := 1) F dX8_undo_20 (by decide) ?_
    refine nz_isub F dX8_undo_21 ?_
    refine nz_put (ws' := [((a 0), .inr (8, [.int 0, .int (X 0 1), .ref (a 1), .ref (a 2), .ref (a 3), .ref (a 4), .ref (a 5), .ref (a 6), .int ((X 0 8) - 1), .ref (a 7), .int (X 0 10), .int (X 0 11), .int (X 0 12), .int (X 0 13), .int (X 0 14), .int (X 0 15), .int (X 0 16), .int (X 0 17), .int (X 0 18), .ref (a 8), .ref (a 9), .ref (a 10), .ref (a 11), .ref (a 12), .ref (a 13), .int (X 0 25)])), ((a 1), .inl (nz_cI g, 8, .inl (X 1))), ((a 2), .inl (nz_cI g, 8, .inl (X 2))), ((a 3), .inl (nz_cI g, 320, .inl (X 3))), ((a 4), .inl (nz_cI g, 94, .inl (X 4))), ((a 5), .inl (nz_cI g, 94, .inl (X 5))), ((a 6), .inl (nz_cI g, 168, .inl (X 6))), ((a 7), .inl (nz_cI g, 400, .inl (X 7))), ((a 8), .inl (nz_cI g, 6, .inl (X 8))), ((a 9), .inl (nz_cI g, 49, .inl (X 9))), ((a 10), .inl (nz_cI g, 6, .inl (X 10))), ((a 11), .inl (nz_cZ g, 2, .inl (X 11))), ((a 12), .inl (nz_cI g, 188, .inl (X 12))), ((a 13), .inl (nz_cI g, 16, .inl (X 13)))]) F iw_X8_undo_8 tyX8 tyX8_ok nmX8 0 rfl rfl 8 (by decide) rfl fl_X8_undo_177 rfl rfl (Nat.le_of_ble_eq_true rfl) dX8_undo_22 rfl ?_
    refine nz_iconst (v := 0) F dX8_undo_25 (by decide) ?_
    refine nz_istore_n (lv' := [(1, .int 0), (0, .ref (a 0))]) F dX8_undo_26 rfl (by decide) rfl ?_
    refine nz_ls (lv' := [(0, .ref (a 0)), (1, .int 0)]) [1, 0] rfl ?_
    obtain ⟨n1, h⟩ := h
    exact t_X8_undo_27 F a X 0 ((X 0 8) - 1) hQ n1 0 (X 4) h
  · have h := h.2 c1
    refine nz_ldc (v := (-1000002 : Int32)) F wd_X8_undo_c196 dX8_undo_12 ?_
    exact nz_iret F hQ (va_up X 0 (upd (X 0) 0 0)) h rfl dX8_undo_14
theorem k_X8_undo {y : nz_Y} {g : nz_G} {k n : Nat} {ws : va_W} {pc : Nat} {ls : List (Nat × Value)} {st rest : List Value} {av : Array Value} {isC : List Nat} {K : Int32 → (Nat → Nat → Int32) → Prop} (a : Nat → Nat) (X : Nat → Nat → Int32) (run : nz_M (yz_l y) yX8_undo wsX8_undo rm_X8_undo g [.ref (a 0)] (nz_wM g a X) (nz_Qi g (nz_wM g a X) (fun r (u : Nat → Nat → Int32) => K r u) (fun u => nz_wM g a u)) → nz_C y g k n ws pc ls st rest (nz_wM g a X) (nz_Qi g (nz_wM g a X) (fun r (u : Nat → Nat → Int32) => K r u) (fun u => nz_wM g a u)) av isC) (h : wp_X8_undo X K) (ws' : (Nat → Nat → Int32) → va_W) (hm : ∀ (m0 : (Nat → Nat → Int32)), nz_mrg ws isC (nz_wM g a m0) = ws' m0) (kk : ∀ (r : Int32) (m0 : (Nat → Nat → Int32)), K r m0 → nz_V y g k n (ws' m0) (pc + 3) ls (.int r :: rest)) : nz_V y g k n ws pc ls st :=
  nz_ci (ws' := fun u => ws' u) (run (c_X8_undo (yz_l y) g a X K h)) (fun _ => rfl) (fun u => hm u) (fun r u h => kk r u h)
theorem dX8_stone_0 : decode cX8_stone 0 = .ok (.aload_n 0, 1) := by decide +kernel
theorem dX8_stone_1 : decode cX8_stone 1 = .ok (.iconst 0, 1) := by decide +kernel
theorem dX8_stone_2 : decode cX8_stone 2 = .ok (.putfield 50, 3) := by decide +kernel
theorem dX8_stone_5 : decode cX8_stone 5 = .ok (.aload_n 0, 1) := by decide +kernel
theorem dX8_stone_6 : decode cX8_stone 6 = .ok (.iload_n 1, 1) := by decide +kernel
theorem dX8_stone_7 : decode cX8_stone 7 = .ok (.invokevirtual 206, 3) := by decide +kernel
theorem dX8_stone_10 : decode cX8_stone 10 = .ok (.ifCond .eq 24, 3) := by decide +kernel
theorem dX8_stone_13 : decode cX8_stone 13 = .ok (.iload_n 2, 1) := by decide +kernel
theorem dX8_stone_14 : decode cX8_stone 14 = .ok (.i2l, 1) := by decide +kernel
theorem dX8_stone_15 : decode cX8_stone 15 = .ok (.lconst 0, 1) := by decide +kernel
theorem dX8_stone_16 : decode cX8_stone 16 = .ok (.ldc2_w 68, 3) := by decide +kernel
theorem dX8_stone_19 : decode cX8_stone 19 = .ok (.invokestatic 60, 3) := by decide +kernel
theorem dX8_stone_22 : decode cX8_stone 22 = .ok (.ifCond .eq 12, 3) := by decide +kernel
theorem dX8_stone_25 : decode cX8_stone 25 = .ok (.aload_n 0, 1) := by decide +kernel
theorem dX8_stone_26 : decode cX8_stone 26 = .ok (.iload_n 1, 1) := by decide +kernel
theorem dX8_stone_27 : decode cX8_stone 27 = .ok (.iload_n 2, 1) := by decide +kernel
theorem dX8_stone_28 : decode cX8_stone 28 = .ok (.invokevirtual 180, 3) := by decide +kernel
theorem dX8_stone_31 : decode cX8_stone 31 = .ok (.goto 5, 3) := by decide +kernel
theorem dX8_stone_34 : decode cX8_stone 34 = .ok (.ldc 70, 2) := by decide +kernel
theorem dX8_stone_36 : decode cX8_stone 36 = .ok (.ireturn, 1) := by decide +kernel
set_option maxRecDepth 20000 in
theorem ggX8_stone_X8_in : GoodIn wsX8_stone wsX8_in := goodIn_r _ [12] rfl (by decide +kernel)
set_option maxRecDepth 20000 in
theorem gX8_stone_X8_in : GoodIn wsX8_stone (va_wsS RX8 60 yX8_in wsX8_in) := goodIn_app (goodIn_r _ [10, 11, 7] rfl (by decide +kernel)) ggX8_stone_X8_in
set_option maxRecDepth 20000 in
theorem ggX8_stone_X8_isStone : GoodIn wsX8_stone wsX8_isStone := goodIn_r _ [8, 9, 10, 11, 7, 12, 17, 18, 19, 20, 21, 22, 23, 24, 25, 26, 27, 28, 29, 30, 31, 32, 33, 34, 35, 36, 37, 38, 39, 40, 41, 42] rfl (by decide +kernel)
set_option maxRecDepth 20000 in
theorem gX8_stone_X8_isStone : GoodIn wsX8_stone (wsV RX8 206 RX8 yX8_isStone wsX8_isStone) := goodIn_app (goodIn_r _ [4, 5, 6, 7] rfl (by decide +kernel)) ggX8_stone_X8_isStone
set_option maxRecDepth 20000 in
theorem ggX8_stone_X8_stoneOf : GoodIn wsX8_stone wsX8_stoneOf := goodIn_r _ [16, 9, 17, 18, 19, 20, 21, 22, 23, 24, 25, 26, 27, 28, 29, 30, 31, 32, 33, 34, 35, 36, 37, 38, 39, 40, 41, 42] rfl (by decide +kernel)
set_option maxRecDepth 20000 in
theorem gX8_stone_X8_stoneOf : GoodIn wsX8_stone (wsV RX8 180 RX8 yX8_stoneOf wsX8_stoneOf) := goodIn_app (goodIn_r _ [13, 14, 15, 7] rfl (by decide +kernel)) ggX8_stone_X8_stoneOf
/-! X8_stone -/
abbrev rm_X8_stone : Room := { frames := 2, cells := 0, slots := 0, locals := 46 }
theorem iw_X8_stone_8 : ∀ w ∈ wsX80, w ∈ wsX8_stone := fun _ h => List.mem_cons_of_mem _ (List.mem_append_right _ h)
theorem fl_X8_stone_50 : Cond.fieldLink RX8 50 "NightStonesModel" "thrown" "I" ∈ wsX8_stone := List.mem_of_getElem? (i := 1) rfl
theorem wd_X8_stone_c70 : Cond.constant RX8 70 (-1000001) ∈ wsX8_stone := List.mem_of_getElem? (i := 3) rfl
theorem wd_X8_stone_c68 : Cond.constantLong RX8 68 (2) ∈ wsX8_stone := List.mem_of_getElem? (i := 2) rfl
def wp_X8_stone (X : Nat → Nat → Int32) (v1 : Int32) (v2 : Int32) (K : Int32 → (Nat → Nat → Int32) → Prop) : Prop := wp_X8_isStone (X 4) v1 (fun q1 => ((q1 = 0 → K (-1000001 : Int32) (va_up X 0 (upd (X 0) 0 0))) ∧ (¬ (q1 = 0) → wp_X8_in ((v2 : Int32).toInt64) 0 2 (fun q3 => ((q3 = 0 → K (-1000001 : Int32) (va_up X 0 (upd (X 0) 0 0))) ∧ (¬ (q3 = 0) → wp_X8_stoneOf (X 4) v1 v2 (fun q5 => K q5 (va_up X 0 (upd (X 0) 0 0)))))))))
set_option maxHeartbeats 4000000 in
set_option maxRecDepth 100000 in
theorem c_X8_stone (l : Launch) (g : nz_G) (a : Nat → Nat) (X : Nat → Nat → Int32) (v1 : Int32) (v2 : Int32) (K : Int32 → (Nat → Nat → Int32) → Prop) (h : wp_X8_stone X v1 v2 K) : nz_M l yX8_stone wsX8_stone rm_X8_stone g [.ref (a 0), .int v1, .int v2] (nz_wM g a X) (nz_Qi g (nz_wM g a X) (fun r (u : Nat → Nat → Int32) => K r u) (fun u => nz_wM g a u)) := by
  refine nz_M.of (bytes := cX8_stone) (nL := 3) (ret := (some .int)) (own := RX8) (by decide) rfl rfl ⟨rfl, rfl⟩ rfl ?_
  intro y F hl hQ
  obtain ⟨sz, hQ⟩ := hQ
  refine nz_ent (lv' := [(0, .ref (a 0)), (1, .int v1), (2, .int v2)]) rfl ?_
  unfold wp_X8_stone at h
  refine nz_aload_n F dX8_stone_0 rfl 0 rfl ?_
  refine nz_iconst (v := 0) F dX8_stone_1 (by decide) ?_
  refine nz_put (ws' := [((a 0), .inr (8, [.int 0, .int (X 0 1), .ref (a 1), .ref (a 2), .ref (a 3), .ref (a 4), .ref (a 5), .ref (a 6), .int (X 0 8), .ref (a 7), .int (X 0 10), .int (X 0 11), .int (X 0 12), .int (X 0 13), .int (X 0 14), .int (X 0 15), .int (X 0 16), .int (X 0 17), .int (X 0 18), .ref (a 8), .ref (a 9), .ref (a 10), .ref (a 11), .ref (a 12), .ref (a 13), .int (X 0 25)])), ((a 1), .inl (nz_cI g, 8, .inl (X 1))), ((a 2), .inl (nz_cI g, 8, .inl (X 2))), ((a 3), .inl (nz_cI g, 320, .inl (X 3))), ((a 4), .inl (nz_cI g, 94, .inl (X 4))), ((a 5), .inl (nz_cI g, 94, .inl (X 5))), ((a 6), .inl (nz_cI g, 168, .inl (X 6))), ((a 7), .inl (nz_cI g, 400, .inl (X 7))), ((a 8), .inl (nz_cI g, 6, .inl (X 8))), ((a 9), .inl (nz_cI g, 49, .inl (X 9))), ((a 10), .inl (nz_cI g, 6, .inl (X 10))), ((a 11), .inl (nz_cZ g, 2, .inl (X 11))), ((a 12), .inl (nz_cI g, 188, .inl (X 12))), ((a 13), .inl (nz_cI g, 16, .inl (X 13)))]) F iw_X8_stone_8 tyX8 tyX8_ok nmX8 0 rfl rfl 0 (by decide) rfl fl_X8_stone_50 rfl rfl (Nat.le_of_ble_eq_true rfl) dX8_stone_2 rfl ?_
  refine nz_aload_n F dX8_stone_5 rfl 0 rfl ?_
  refine nz_iload_n F dX8_stone_6 rfl 1 rfl ?_
  refine k_X8_isStone (a 0) (a 1) (a 2) (a 3) (a 4) (a 5) (a 6) (a 7) (a 8) (a 9) (a 10) (a 11) (a 12) (a 13) 0 (X 0 1) (X 0 8) (X 0 10) (X 0 11) (X 0 12) (X 0 13) (X 0 14) (X 0 15) (X 0 16) (X 0 17) (X 0 18) (X 0 25) (X 1) (X 2) (X 3) (X 4) (X 5) (X 6) (X 7) (X 8) (X 9) (X 10) (X 11) (X 12) (X 13) v1 (fun hM => nz_runV F gX8_stone_X8_isStone rfl hd_X8_isStone rfl hM dX8_stone_7 [0, 1, 2, 3, 4, 5, 6, 7, 8, 9, 10, 11, 12, 13] rfl rfl 0 rfl rfl rfl (Nat.le_of_ble_eq_true rfl) rfl) h ([((a 0), .inr (8, [.int 0, .int (X 0 1), .ref (a 1), .ref (a 2), .ref (a 3), .ref (a 4), .ref (a 5), .ref (a 6), .int (X 0 8), .ref (a 7), .int (X 0 10), .int (X 0 11), .int (X 0 12), .int (X 0 13), .int (X 0 14), .int (X 0 15), .int (X 0 16), .int (X 0 17), .int (X 0 18), .ref (a 8), .ref (a 9), .ref (a 10), .ref (a 11), .ref (a 12), .ref (a 13), .int (X 0 25)])), ((a 1), .inl (nz_cI g, 8, .inl (X 1))), ((a 2), .inl (nz_cI g, 8, .inl (X 2))), ((a 3), .inl (nz_cI g, 320, .inl (X 3))), ((a 4), .inl (nz_cI g, 94, .inl (X 4))), ((a 5), .inl (nz_cI g, 94, .inl (X 5))), ((a 6), .inl (nz_cI g, 168, .inl (X 6))), ((a 7), .inl (nz_cI g, 400, .inl (X 7))), ((a 8), .inl (nz_cI g, 6, .inl (X 8))), ((a 9), .inl (nz_cI g, 49, .inl (X 9))), ((a 10), .inl (nz_cI g, 6, .inl (X 10))), ((a 11), .inl (nz_cZ g, 2, .inl (X 11))), ((a 12), .inl (nz_cI g, 188, .inl (X 12))), ((a 13), .inl (nz_cI g, 16, .inl (X 13)))]) (rfl) (fun q1 h => ?_)
  refine nz_if_eq (tgt := 34) F dX8_stone_10 (by decide) (fun c2 => ?_) (fun c2 => ?_)
  · have h := h.1 c2
    refine nz_ldc (v := (-1000001 : Int32)) F wd_X8_stone_c70 dX8_stone_34 ?_
    exact nz_iret F hQ (va_up X 0 (upd (X 0) 0 0)) h rfl dX8_stone_36
  · have h := h.2 c2
    refine nz_iload_n F dX8_stone_13 rfl 2 rfl ?_
    refine nz_i2l (v := ((v2 : Int32).toInt64)) F dX8_stone_14 rfl ?_
    refine nz_lconst (v := 0) F dX8_stone_15 (by decide) ?_
    refine nz_ldc2 (v := 2) F wd_X8_stone_c68 dX8_stone_16 ?_
    refine k_X8_in ((v2 : Int32).toInt64) 0 2 (fun hM => nz_runS F gX8_stone_X8_in rfl hd_X8_in.2 rfl hM dX8_stone_19 [] rfl rfl rfl (Nat.le_of_ble_eq_true rfl) rfl) h ([((a 0), .inr (8, [.int 0, .int (X 0 1), .ref (a 1), .ref (a 2), .ref (a 3), .ref (a 4), .ref (a 5), .ref (a 6), .int (X 0 8), .ref (a 7), .int (X 0 10), .int (X 0 11), .int (X 0 12), .int (X 0 13), .int (X 0 14), .int (X 0 15), .int (X 0 16), .int (X 0 17), .int (X 0 18), .ref (a 8), .ref (a 9), .ref (a 10), .ref (a 11), .ref (a 12), .ref (a 13), .int (X 0 25)])), ((a 1), .inl (nz_cI g, 8, .inl (X 1))), ((a 2), .inl (nz_cI g, 8, .inl (X 2))), ((a 3), .inl (nz_cI g, 320, .inl (X 3))), ((a 4), .inl (nz_cI g, 94, .inl (X 4))), ((a 5), .inl (nz_cI g, 94, .inl (X 5))), ((a 6), .inl (nz_cI g, 168, .inl (X 6))), ((a 7), .inl (nz_cI g, 400, .inl (X 7))), ((a 8), .inl (nz_cI g, 6, .inl (X 8))), ((a 9), .inl (nz_cI g, 49, .inl (X 9))), ((a 10), .inl (nz_cI g, 6, .inl (X 10))), ((a 11), .inl (nz_cZ g, 2, .inl (X 11))), ((a 12), .inl (nz_cI g, 188, .inl (X 12))), ((a 13), .inl (nz_cI g, 16, .inl (X 13)))]) (rfl) (fun q3 h => ?_)
    refine nz_if_eq (tgt := 34) F dX8_stone_22 (by decide) (fun c4 => ?_) (fun c4 => ?_)
    · have h := h.1 c4
      refine nz_ldc (v := (-1000001 : Int32)) F wd_X8_stone_c70 dX8_stone_34 ?_
      exact nz_iret F hQ (va_up X 0 (upd (X 0) 0 0)) h rfl dX8_stone_36
    · have h := h.2 c4
      refine nz_aload_n F dX8_stone_25 rfl 0 rfl ?_
      refine nz_iload_n F dX8_stone_26 rfl 1 rfl ?_
      refine nz_iload_n F dX8_stone_27 rfl 2 rfl ?_
      refine k_X8_stoneOf (a 0) (a 1) (a 2) (a 3) (a 4) (a 5) (a 6) (a 7) (a 8) (a 9) (a 10) (a 11) (a 12) (a 13) 0 (X 0 1) (X 0 8) (X 0 10) (X 0 11) (X 0 12) (X 0 13) (X 0 14) (X 0 15) (X 0 16) (X 0 17) (X 0 18) (X 0 25) (X 1) (X 2) (X 3) (X 4) (X 5) (X 6) (X 7) (X 8) (X 9) (X 10) (X 11) (X 12) (X 13) v1 v2 (fun hM => nz_runV F gX8_stone_X8_stoneOf rfl hd_X8_stoneOf rfl hM dX8_stone_28 [0, 1, 2, 3, 4, 5, 6, 7, 8, 9, 10, 11, 12, 13] rfl rfl 0 rfl rfl rfl (Nat.le_of_ble_eq_true rfl) rfl) h ([((a 0), .inr (8, [.int 0, .int (X 0 1), .ref (a 1), .ref (a 2), .ref (a 3), .ref (a 4), .ref (a 5), .ref (a 6), .int (X 0 8), .ref (a 7), .int (X 0 10), .int (X 0 11), .int (X 0 12), .int (X 0 13), .int (X 0 14), .int (X 0 15), .int (X 0 16), .int (X 0 17), .int (X 0 18), .ref (a 8), .ref (a 9), .ref (a 10), .ref (a 11), .ref (a 12), .ref (a 13), .int (X 0 25)])), ((a 1), .inl (nz_cI g, 8, .inl (X 1))), ((a 2), .inl (nz_cI g, 8, .inl (X 2))), ((a 3), .inl (nz_cI g, 320, .inl (X 3))), ((a 4), .inl (nz_cI g, 94, .inl (X 4))), ((a 5), .inl (nz_cI g, 94, .inl (X 5))), ((a 6), .inl (nz_cI g, 168, .inl (X 6))), ((a 7), .inl (nz_cI g, 400, .inl (X 7))), ((a 8), .inl (nz_cI g, 6, .inl (X 8))), ((a 9), .inl (nz_cI g, 49, .inl (X 9))), ((a 10), .inl (nz_cI g, 6, .inl (X 10))), ((a 11), .inl (nz_cZ g, 2, .inl (X 11))), ((a 12), .inl (nz_cI g, 188, .inl (X 12))), ((a 13), .inl (nz_cI g, 16, .inl (X 13)))]) (rfl) (fun q5 h => ?_)
      refine nz_goto (tgt := 36) F dX8_stone_31 (by decide) ?_
      exact nz_iret F hQ (va_up X 0 (upd (X 0) 0 0)) h rfl dX8_stone_36
theorem k_X8_stone {y : nz_Y} {g : nz_G} {k n : Nat} {ws : va_W} {pc : Nat} {ls : List (Nat × Value)} {st rest : List Value} {av : Array Value} {isC : List Nat} {K : Int32 → (Nat → Nat → Int32) → Prop} (a : Nat → Nat) (X : Nat → Nat → Int32) (v1 : Int32) (v2 : Int32) (run : nz_M (yz_l y) yX8_stone wsX8_stone rm_X8_stone g [.ref (a 0), .int v1, .int v2] (nz_wM g a X) (nz_Qi g (nz_wM g a X) (fun r (u : Nat → Nat → Int32) => K r u) (fun u => nz_wM g a u)) → nz_C y g k n ws pc ls st rest (nz_wM g a X) (nz_Qi g (nz_wM g a X) (fun r (u : Nat → Nat → Int32) => K r u) (fun u => nz_wM g a u)) av isC) (h : wp_X8_stone X v1 v2 K) (ws' : (Nat → Nat → Int32) → va_W) (hm : ∀ (m0 : (Nat → Nat → Int32)), nz_mrg ws isC (nz_wM g a m0) = ws' m0) (kk : ∀ (r : Int32) (m0 : (Nat → Nat → Int32)), K r m0 → nz_V y g k n (ws' m0) (pc + 3) ls (.int r :: rest)) : nz_V y g k n ws pc ls st :=
  nz_ci (ws' := fun u => ws' u) (run (c_X8_stone (yz_l y) g a X v1 v2 K h)) (fun _ => rfl) (fun u => hm u) (fun r u h => kk r u h)
theorem dX8_carry_0 : decode cX8_carry 0 = .ok (.aload_n 0, 1) := by decide +kernel
theorem dX8_carry_1 : decode cX8_carry 1 = .ok (.iconst 0, 1) := by decide +kernel
theorem dX8_carry_2 : decode cX8_carry 2 = .ok (.putfield 50, 3) := by decide +kernel
theorem dX8_carry_5 : decode cX8_carry 5 = .ok (.aload_n 0, 1) := by decide +kernel
theorem dX8_carry_6 : decode cX8_carry 6 = .ok (.iload_n 1, 1) := by decide +kernel
theorem dX8_carry_7 : decode cX8_carry 7 = .ok (.invokevirtual 206, 3) := by decide +kernel
theorem dX8_carry_10 : decode cX8_carry 10 = .ok (.ifCond .eq 21, 3) := by decide +kernel
theorem dX8_carry_13 : decode cX8_carry 13 = .ok (.aload_n 0, 1) := by decide +kernel
theorem dX8_carry_14 : decode cX8_carry 14 = .ok (.iload_n 2, 1) := by decide +kernel
theorem dX8_carry_15 : decode cX8_carry 15 = .ok (.invokevirtual 206, 3) := by decide +kernel
theorem dX8_carry_18 : decode cX8_carry 18 = .ok (.ifCond .eq 13, 3) := by decide +kernel
theorem dX8_carry_21 : decode cX8_carry 21 = .ok (.iload_n 3, 1) := by decide +kernel
theorem dX8_carry_22 : decode cX8_carry 22 = .ok (.i2l, 1) := by decide +kernel
theorem dX8_carry_23 : decode cX8_carry 23 = .ok (.lconst 0, 1) := by decide +kernel
theorem dX8_carry_24 : decode cX8_carry 24 = .ok (.lconst 1, 1) := by decide +kernel
theorem dX8_carry_25 : decode cX8_carry 25 = .ok (.invokestatic 60, 3) := by decide +kernel
theorem dX8_carry_28 : decode cX8_carry 28 = .ok (.ifCond .ne 6, 3) := by decide +kernel
theorem dX8_carry_31 : decode cX8_carry 31 = .ok (.ldc 70, 2) := by decide +kernel
theorem dX8_carry_33 : decode cX8_carry 33 = .ok (.ireturn, 1) := by decide +kernel
theorem dX8_carry_34 : decode cX8_carry 34 = .ok (.iload_n 3, 1) := by decide +kernel
theorem dX8_carry_35 : decode cX8_carry 35 = .ok (.ifCond .ne 28, 3) := by decide +kernel
theorem dX8_carry_38 : decode cX8_carry 38 = .ok (.aload_n 0, 1) := by decide +kernel
theorem dX8_carry_39 : decode cX8_carry 39 = .ok (.getfield 19, 3) := by decide +kernel
theorem dX8_carry_42 : decode cX8_carry 42 = .ok (.iconst 1, 1) := by decide +kernel
theorem dX8_carry_43 : decode cX8_carry 43 = .ok (.iaload, 1) := by decide +kernel
theorem dX8_carry_44 : decode cX8_carry 44 = .ok (.aload_n 0, 1) := by decide +kernel
theorem dX8_carry_45 : decode cX8_carry 45 = .ok (.iload_n 1, 1) := by decide +kernel
theorem dX8_carry_46 : decode cX8_carry 46 = .ok (.iconst 0, 1) := by decide +kernel
theorem dX8_carry_47 : decode cX8_carry 47 = .ok (.invokevirtual 180, 3) := by decide +kernel
theorem dX8_carry_50 : decode cX8_carry 50 = .ok (.aload_n 0, 1) := by decide +kernel
theorem dX8_carry_51 : decode cX8_carry 51 = .ok (.iload_n 2, 1) := by decide +kernel
theorem dX8_carry_52 : decode cX8_carry 52 = .ok (.iconst 0, 1) := by decide +kernel
theorem dX8_carry_53 : decode cX8_carry 53 = .ok (.invokevirtual 180, 3) := by decide +kernel
theorem dX8_carry_56 : decode cX8_carry 56 = .ok (.invokestatic 209, 3) := by decide +kernel
theorem dX8_carry_59 : decode cX8_carry 59 = .ok (.imul, 1) := by decide +kernel
theorem dX8_carry_60 : decode cX8_carry 60 = .ok (.goto 18, 3) := by decide +kernel
theorem dX8_carry_63 : decode cX8_carry 63 = .ok (.aload_n 0, 1) := by decide +kernel
theorem dX8_carry_64 : decode cX8_carry 64 = .ok (.iload_n 1, 1) := by decide +kernel
theorem dX8_carry_65 : decode cX8_carry 65 = .ok (.iconst 1, 1) := by decide +kernel
theorem dX8_carry_66 : decode cX8_carry 66 = .ok (.invokevirtual 180, 3) := by decide +kernel
theorem dX8_carry_69 : decode cX8_carry 69 = .ok (.aload_n 0, 1) := by decide +kernel
theorem dX8_carry_70 : decode cX8_carry 70 = .ok (.iload_n 2, 1) := by decide +kernel
theorem dX8_carry_71 : decode cX8_carry 71 = .ok (.iconst 1, 1) := by decide +kernel
theorem dX8_carry_72 : decode cX8_carry 72 = .ok (.invokevirtual 180, 3) := by decide +kernel
theorem dX8_carry_75 : decode cX8_carry 75 = .ok (.invokestatic 209, 3) := by decide +kernel
theorem dX8_carry_78 : decode cX8_carry 78 = .ok (.ireturn, 1) := by decide +kernel
set_option maxRecDepth 20000 in
theorem ggX8_carry_X8_apart : GoodIn wsX8_carry wsX8_apart := goodIn_r _ [18] rfl (by decide +kernel)
set_option maxRecDepth 20000 in
theorem gX8_carry_X8_apart : GoodIn wsX8_carry (va_wsS RX8 209 yX8_apart wsX8_apart) := goodIn_app (goodIn_r _ [16, 17, 7] rfl (by decide +kernel)) ggX8_carry_X8_apart
set_option maxRecDepth 20000 in
theorem ggX8_carry_X8_in : GoodIn wsX8_carry wsX8_in := goodIn_r _ [11] rfl (by decide +kernel)
set_option maxRecDepth 20000 in
theorem gX8_carry_X8_in : GoodIn wsX8_carry (va_wsS RX8 60 yX8_in wsX8_in) := goodIn_app (goodIn_r _ [9, 10, 7] rfl (by decide +kernel)) ggX8_carry_X8_in
set_option maxRecDepth 20000 in
theorem ggX8_carry_X8_isStone : GoodIn wsX8_carry wsX8_isStone := goodIn_r _ [8, 3, 9, 10, 7, 11, 19, 20, 21, 22, 23, 24, 25, 26, 27, 28, 29, 30, 31, 32, 33, 34, 35, 36, 37, 38, 39, 40, 41, 42, 43, 44] rfl (by decide +kernel)
set_option maxRecDepth 20000 in
theorem gX8_carry_X8_isStone : GoodIn wsX8_carry (wsV RX8 206 RX8 yX8_isStone wsX8_isStone) := goodIn_app (goodIn_r _ [4, 5, 6, 7] rfl (by decide +kernel)) ggX8_carry_X8_isStone
set_option maxRecDepth 20000 in
theorem ggX8_carry_X8_stoneOf : GoodIn wsX8_carry wsX8_stoneOf := goodIn_r _ [15, 3, 19, 20, 21, 22, 23, 24, 25, 26, 27, 28, 29, 30, 31, 32, 33, 34, 35, 36, 37, 38, 39, 40, 41, 42, 43, 44] rfl (by decide +kernel)
set_option maxRecDepth 20000 in
theorem gX8_carry_X8_stoneOf : GoodIn wsX8_carry (wsV RX8 180 RX8 yX8_stoneOf wsX8_stoneOf) := goodIn_app (goodIn_r _ [12, 13, 14, 7] rfl (by decide +kernel)) ggX8_carry_X8_stoneOf
theorem hd_X8_apart : yX8_apart.cls = RX8 ∧ yX8_apart.cls ≠ "java/lang/invoke/MethodHandle" ∧ yX8_apart.cls ≠ "java/lang/invoke/VarHandle" ∧ (parseMethodDescriptor yX8_apart.desc).map (fun d => d.parameters.length) = some 2 := by decide +kernel
/-! X8_carry -/
abbrev rm_X8_carry : Room := { frames := 2, cells := 0, slots := 0, locals := 46 }
theorem iw_X8_carry_8 : ∀ w ∈ wsX80, w ∈ wsX8_carry := fun _ h => List.mem_cons_of_mem _ (List.mem_append_right _ h)
theorem fl_X8_carry_50 : Cond.fieldLink RX8 50 "NightStonesModel" "thrown" "I" ∈ wsX8_carry := List.mem_of_getElem? (i := 1) rfl
theorem wd_X8_carry_c70 : Cond.constant RX8 70 (-1000001) ∈ wsX8_carry := List.mem_of_getElem? (i := 2) rfl
theorem fl_X8_carry_19 : Cond.fieldLink RX8 19 "NightStonesModel" "road" "[I" ∈ wsX8_carry := List.mem_of_getElem? (i := 3) rfl
def wp_X8_carry (X : Nat → Nat → Int32) (v1 : Int32) (v2 : Int32) (v3 : Int32) (K : Int32 → (Nat → Nat → Int32) → Prop) : Prop := wp_X8_isStone (X 4) v1 (fun q1 => ((q1 = 0 → K (-1000001 : Int32) (va_up X 0 (upd (X 0) 0 0))) ∧ (¬ (q1 = 0) → wp_X8_isStone (X 4) v2 (fun q3 => ((q3 = 0 → K (-1000001 : Int32) (va_up X 0 (upd (X 0) 0 0))) ∧ (¬ (q3 = 0) → wp_X8_in ((v3 : Int32).toInt64) 0 1 (fun q5 => ((¬ q5 = 0 → ((¬ v3 = 0 → wp_X8_stoneOf (X 4) v1 1 (fun q8 => wp_X8_stoneOf (X 4) v2 1 (fun q9 => wp_X8_apart q8 q9 (fun q10 => K q10 (va_up X 0 (upd (X 0) 0 0)))))) ∧ (v3 = 0 → wp_X8_stoneOf (X 4) v1 0 (fun q11 => wp_X8_stoneOf (X 4) v2 0 (fun q12 => wp_X8_apart q11 q12 (fun q13 => K (((X 4) 1) * q13) (va_up X 0 (upd (X 0) 0 0)))))))) ∧ (q5 = 0 → K (-1000001 : Int32) (va_up X 0 (upd (X 0) 0 0)))))))))))
set_option maxHeartbeats 4000000 in
set_option maxRecDepth 100000 in
theorem c_X8_carry (l : Launch) (g : nz_G) (a : Nat → Nat) (X : Nat → Nat → Int32) (v1 : Int32) (v2 : Int32) (v3 : Int32) (K : Int32 → (Nat → Nat → Int32) → Prop) (h : wp_X8_carry X v1 v2 v3 K) : nz_M l yX8_carry wsX8_carry rm_X8_carry g [.ref (a 0), .int v1, .int v2, .int v3] (nz_wM g a X) (nz_Qi g (nz_wM g a X) (fun r (u : Nat → Nat → Int32) => K r u) (fun u => nz_wM g a u)) := by
  refine nz_M.of (bytes := cX8_carry) (nL := 4) (ret := (some .int)) (own := RX8) (by decide) rfl rfl ⟨rfl, rfl⟩ rfl ?_
  intro y F hl hQ
  obtain ⟨sz, hQ⟩ := hQ
  refine nz_ent (lv' := [(0, .ref (a 0)), (1, .int v1), (2, .int v2), (3, .int v3)]) rfl ?_
  unfold wp_X8_carry at h
  refine nz_aload_n F dX8_carry_0 rfl 0 rfl ?_
  refine nz_iconst (v := 0) F dX8_carry_1 (by decide) ?_
  refine nz_put (ws' := [((a 0), .inr (8, [.int 0, .int (X 0 1), .ref (a 1), .ref (a 2), .ref (a 3), .ref (a 4), .ref (a 5), .ref (a 6), .int (X 0 8), .ref (a 7), .int (X 0 10), .int (X 0 11), .int (X 0 12), .int (X 0 13), .int (X 0 14), .int (X 0 15), .int (X 0 16), .int (X 0 17), .int (X 0 18), .ref (a 8), .ref (a 9), .ref (a 10), .ref (a 11), .ref (a 12), .ref (a 13), .int (X 0 25)])), ((a 1), .inl (nz_cI g, 8, .inl (X 1))), ((a 2), .inl (nz_cI g, 8, .inl (X 2))), ((a 3), .inl (nz_cI g, 320, .inl (X 3))), ((a 4), .inl (nz_cI g, 94, .inl (X 4))), ((a 5), .inl (nz_cI g, 94, .inl (X 5))), ((a 6), .inl (nz_cI g, 168, .inl (X 6))), ((a 7), .inl (nz_cI g, 400, .inl (X 7))), ((a 8), .inl (nz_cI g, 6, .inl (X 8))), ((a 9), .inl (nz_cI g, 49, .inl (X 9))), ((a 10), .inl (nz_cI g, 6, .inl (X 10))), ((a 11), .inl (nz_cZ g, 2, .inl (X 11))), ((a 12), .inl (nz_cI g, 188, .inl (X 12))), ((a 13), .inl (nz_cI g, 16, .inl (X 13)))]) F iw_X8_carry_8 tyX8 tyX8_ok nmX8 0 rfl rfl 0 (by decide) rfl fl_X8_carry_50 rfl rfl (Nat.le_of_ble_eq_true rfl) dX8_carry_2 rfl ?_
  refine nz_aload_n F dX8_carry_5 rfl 0 rfl ?_
  refine nz_iload_n F dX8_carry_6 rfl 1 rfl ?_
  refine k_X8_isStone (a 0) (a 1) (a 2) (a 3) (a 4) (a 5) (a 6) (a 7) (a 8) (a 9) (a 10) (a 11) (a 12) (a 13) 0 (X 0 1) (X 0 8) (X 0 10) (X 0 11) (X 0 12) (X 0 13) (X 0 14) (X 0 15) (X 0 16) (X 0 17) (X 0 18) (X 0 25) (X 1) (X 2) (X 3) (X 4) (X 5) (X 6) (X 7) (X 8) (X 9) (X 10) (X 11) (X 12) (X 13) v1 (fun hM => nz_runV F gX8_carry_X8_isStone rfl hd_X8_isStone rfl hM dX8_carry_7 [0, 1, 2, 3, 4, 5, 6, 7, 8, 9, 10, 11, 12, 13] rfl rfl 0 rfl rfl rfl (Nat.le_of_ble_eq_true rfl) rfl) h ([((a 0), .inr (8, [.int 0, .int (X 0 1), .ref (a 1), .ref (a 2), .ref (a 3), .ref (a 4), .ref (a 5), .ref (a 6), .int (X 0 8), .ref (a 7), .int (X 0 10), .int (X 0 11), .int (X 0 12), .int (X 0 13), .int (X 0 14), .int (X 0 15), .int (X 0 16), .int (X 0 17), .int (X 0 18), .ref (a 8), .ref (a 9), .ref (a 10), .ref (a 11), .ref (a 12), .ref (a 13), .int (X 0 25)])), ((a 1), .inl (nz_cI g, 8, .inl (X 1))), ((a 2), .inl (nz_cI g, 8, .inl (X 2))), ((a 3), .inl (nz_cI g, 320, .inl (X 3))), ((a 4), .inl (nz_cI g, 94, .inl (X 4))), ((a 5), .inl (nz_cI g, 94, .inl (X 5))), ((a 6), .inl (nz_cI g, 168, .inl (X 6))), ((a 7), .inl (nz_cI g, 400, .inl (X 7))), ((a 8), .inl (nz_cI g, 6, .inl (X 8))), ((a 9), .inl (nz_cI g, 49, .inl (X 9))), ((a 10), .inl (nz_cI g, 6, .inl (X 10))), ((a 11), .inl (nz_cZ g, 2, .inl (X 11))), ((a 12), .inl (nz_cI g, 188, .inl (X 12))), ((a 13), .inl (nz_cI g, 16, .inl (X 13)))]) (rfl) (fun q1 h => ?_)
  refine nz_if_eq (tgt := 31) F dX8_carry_10 (by decide) (fun c2 => ?_) (fun c2 => ?_)
  · have h := h.1 c2
    refine nz_ldc (v := (-1000001 : Int32)) F wd_X8_carry_c70 dX8_carry_31 ?_
    exact nz_iret F hQ (va_up X 0 (upd (X 0) 0 0)) h rfl dX8_carry_33
  · have h := h.2 c2
    refine nz_aload_n F dX8_carry_13 rfl 0 rfl ?_
    refine nz_iload_n F dX8_carry_14 rfl 2 rfl ?_
    refine k_X8_isStone (a 0) (a 1) (a 2) (a 3) (a 4) (a 5) (a 6) (a 7) (a 8) (a 9) (a 10) (a 11) (a 12) (a 13) 0 (X 0 1) (X 0 8) (X 0 10) (X 0 11) (X 0 12) (X 0 13) (X 0 14) (X 0 15) (X 0 16) (X 0 17) (X 0 18) (X 0 25) (X 1) (X 2) (X 3) (X 4) (X 5) (X 6) (X 7) (X 8) (X 9) (X 10) (X 11) (X 12) (X 13) v2 (fun hM => nz_runV F gX8_carry_X8_isStone rfl hd_X8_isStone rfl hM dX8_carry_15 [0, 1, 2, 3, 4, 5, 6, 7, 8, 9, 10, 11, 12, 13] rfl rfl 0 rfl rfl rfl (Nat.le_of_ble_eq_true rfl) rfl) h ([((a 0), .inr (8, [.int 0, .int (X 0 1), .ref (a 1), .ref (a 2), .ref (a 3), .ref (a 4), .ref (a 5), .ref (a 6), .int (X 0 8), .ref (a 7), .int (X 0 10), .int (X 0 11), .int (X 0 12), .int (X 0 13), .int (X 0 14), .int (X 0 15), .int (X 0 16), .int (X 0 17), .int (X 0 18), .ref (a 8), .ref (a 9), .ref (a 10), .ref (a 11), .ref (a 12), .ref (a 13), .int (X 0 25)])), ((a 1), .inl (nz_cI g, 8, .inl (X 1))), ((a 2), .inl (nz_cI g, 8, .inl (X 2))), ((a 3), .inl (nz_cI g, 320, .inl (X 3))), ((a 4), .inl (nz_cI g, 94, .inl (X 4))), ((a 5), .inl (nz_cI g, 94, .inl (X 5))), ((a 6), .inl (nz_cI g, 168, .inl (X 6))), ((a 7), .inl (nz_cI g, 400, .inl (X 7))), ((a 8), .inl (nz_cI g, 6, .inl (X 8))), ((a 9), .inl (nz_cI g, 49, .inl (X 9))), ((a 10), .inl (nz_cI g, 6, .inl (X 10))), ((a 11), .inl (nz_cZ g, 2, .inl (X 11))), ((a 12), .inl (nz_cI g, 188, .inl (X 12))), ((a 13), .inl (nz_cI g, 16, .inl (X 13)))]) (rfl) (fun q3 h => ?_)
    refine nz_if_eq (tgt := 31) F dX8_carry_18 (by decide) (fun c4 => ?_) (fun c4 => ?_)
    · have h := h.1 c4
      refine nz_ldc (v := (-1000001 : Int32)) F wd_X8_carry_c70 dX8_carry_31 ?_
      exact nz_iret F hQ (va_up X 0 (upd (X 0) 0 0)) h rfl dX8_carry_33
    · have h := h.2 c4
      refine nz_iload_n F dX8_carry_21 rfl 3 rfl ?_
      refine nz_i2l (v := ((v3 : Int32).toInt64)) F dX8_carry_22 rfl ?_
      refine nz_lconst (v := 0) F dX8_carry_23 (by decide) ?_
      refine nz_lconst (v := 1) F dX8_carry_24 (by decide) ?_
      refine k_X8_in ((v3 : Int32).toInt64) 0 1 (fun hM => nz_runS F gX8_carry_X8_in rfl hd_X8_in.2 rfl hM dX8_carry_25 [] rfl rfl rfl (Nat.le_of_ble_eq_true rfl) rfl) h ([((a 0), .inr (8, [.int 0, .int (X 0 1), .ref (a 1), .ref (a 2), .ref (a 3), .ref (a 4), .ref (a 5), .ref (a 6), .int (X 0 8), .ref (a 7), .int (X 0 10), .int (X 0 11), .int (X 0 12), .int (X 0 13), .int (X 0 14), .int (X 0 15), .int (X 0 16), .int (X 0 17), .int (X 0 18), .ref (a 8), .ref (a 9), .ref (a 10), .ref (a 11), .ref (a 12), .ref (a 13), .int (X 0 25)])), ((a 1), .inl (nz_cI g, 8, .inl (X 1))), ((a 2), .inl (nz_cI g, 8, .inl (X 2))), ((a 3), .inl (nz_cI g, 320, .inl (X 3))), ((a 4), .inl (nz_cI g, 94, .inl (X 4))), ((a 5), .inl (nz_cI g, 94, .inl (X 5))), ((a 6), .inl (nz_cI g, 168, .inl (X 6))), ((a 7), .inl (nz_cI g, 400, .inl (X 7))), ((a 8), .inl (nz_cI g, 6, .inl (X 8))), ((a 9), .inl (nz_cI g, 49, .inl (X 9))), ((a 10), .inl (nz_cI g, 6, .inl (X 10))), ((a 11), .inl (nz_cZ g, 2, .inl (X 11))), ((a 12), .inl (nz_cI g, 188, .inl (X 12))), ((a 13), .inl (nz_cI g, 16, .inl (X 13)))]) (rfl) (fun q5 h => ?_)
      refine nz_if_ne (tgt := 34) F dX8_carry_28 (by decide) (fun c6 => ?_) (fun c6 => ?_)
      · have h := h.1 c6
        refine nz_iload_n F dX8_carry_34 rfl 3 rfl ?_
        refine nz_if_ne (tgt := 63) F dX8_carry_35 (by decide) (fun c7 => ?_) (fun c7 => ?_)
        · have h := h.1 c7
          refine nz_aload_n F dX8_carry_63 rfl 0 rfl ?_
          refine nz_iload_n F dX8_carry_64 rfl 1 rfl ?_
          refine nz_iconst (v := 1) F dX8_carry_65 (by decide) ?_
          refine k_X8_stoneOf (a 0) (a 1) (a 2) (a 3) (a 4) (a 5) (a 6) (a 7) (a 8) (a 9) (a 10) (a 11) (a 12) (a 13) 0 (X 0 1) (X 0 8) (X 0 10) (X 0 11) (X 0 12) (X 0 13) (X 0 14) (X 0 15) (X 0 16) (X 0 17) (X 0 18) (X 0 25) (X 1) (X 2) (X 3) (X 4) (X 5) (X 6) (X 7) (X 8) (X 9) (X 10) (X 11) (X 12) (X 13) v1 1 (fun hM => nz_runV F gX8_carry_X8_stoneOf rfl hd_X8_stoneOf rfl hM dX8_carry_66 [0, 1, 2, 3, 4, 5, 6, 7, 8, 9, 10, 11, 12, 13] rfl rfl 0 rfl rfl rfl (Nat.le_of_ble_eq_true rfl) rfl) h ([((a 0), .inr (8, [.int 0, .int (X 0 1), .ref (a 1), .ref (a 2), .ref (a 3), .ref (a 4), .ref (a 5), .ref (a 6), .int (X 0 8), .ref (a 7), .int (X 0 10), .int (X 0 11), .int (X 0 12), .int (X 0 13), .int (X 0 14), .int (X 0 15), .int (X 0 16), .int (X 0 17), .int (X 0 18), .ref (a 8), .ref (a 9), .ref (a 10), .ref (a 11), .ref (a 12), .ref (a 13), .int (X 0 25)])), ((a 1), .inl (nz_cI g, 8, .inl (X 1))), ((a 2), .inl (nz_cI g, 8, .inl (X 2))), ((a 3), .inl (nz_cI g, 320, .inl (X 3))), ((a 4), .inl (nz_cI g, 94, .inl (X 4))), ((a 5), .inl (nz_cI g, 94, .inl (X 5))), ((a 6), .inl (nz_cI g, 168, .inl (X 6))), ((a 7), .inl (nz_cI g, 400, .inl (X 7))), ((a 8), .inl (nz_cI g, 6, .inl (X 8))), ((a 9), .inl (nz_cI g, 49, .inl (X 9))), ((a 10), .inl (nz_cI g, 6, .inl (X 10))), ((a 11), .inl (nz_cZ g, 2, .inl (X 11))), ((a 12), .inl (nz_cI g, 188, .inl (X 12))), ((a 13), .inl (nz_cI g, 16, .inl (X 13)))]) (rfl) (fun q8 h => ?_)
          refine nz_aload_n F dX8_carry_69 rfl 0 rfl ?_
          refine nz_iload_n F dX8_carry_70 rfl 2 rfl ?_
          refine nz_iconst (v := 1) F dX8_carry_71 (by decide) ?_
          refine k_X8_stoneOf (a 0) (a 1) (a 2) (a 3) (a 4) (a 5) (a 6) (a 7) (a 8) (a 9) (a 10) (a 11) (a 12) (a 13) 0 (X 0 1) (X 0 8) (X 0 10) (X 0 11) (X 0 12) (X 0 13) (X 0 14) (X 0 15) (X 0 16) (X 0 17) (X 0 18) (X 0 25) (X 1) (X 2) (X 3) (X 4) (X 5) (X 6) (X 7) (X 8) (X 9) (X 10) (X 11) (X 12) (X 13) v2 1 (fun hM => nz_runV F gX8_carry_X8_stoneOf rfl hd_X8_stoneOf rfl hM dX8_carry_72 [0, 1, 2, 3, 4, 5, 6, 7, 8, 9, 10, 11, 12, 13] rfl rfl 0 rfl rfl rfl (Nat.le_of_ble_eq_true rfl) rfl) h ([((a 0), .inr (8, [.int 0, .int (X 0 1), .ref (a 1), .ref (a 2), .ref (a 3), .ref (a 4), .ref (a 5), .ref (a 6), .int (X 0 8), .ref (a 7), .int (X 0 10), .int (X 0 11), .int (X 0 12), .int (X 0 13), .int (X 0 14), .int (X 0 15), .int (X 0 16), .int (X 0 17), .int (X 0 18), .ref (a 8), .ref (a 9), .ref (a 10), .ref (a 11), .ref (a 12), .ref (a 13), .int (X 0 25)])), ((a 1), .inl (nz_cI g, 8, .inl (X 1))), ((a 2), .inl (nz_cI g, 8, .inl (X 2))), ((a 3), .inl (nz_cI g, 320, .inl (X 3))), ((a 4), .inl (nz_cI g, 94, .inl (X 4))), ((a 5), .inl (nz_cI g, 94, .inl (X 5))), ((a 6), .inl (nz_cI g, 168, .inl (X 6))), ((a 7), .inl (nz_cI g, 400, .inl (X 7))), ((a 8), .inl (nz_cI g, 6, .inl (X 8))), ((a 9), .inl (nz_cI g, 49, .inl (X 9))), ((a 10), .inl (nz_cI g, 6, .inl (X 10))), ((a 11), .inl (nz_cZ g, 2, .inl (X 11))), ((a 12), .inl (nz_cI g, 188, .inl (X 12))), ((a 13), .inl (nz_cI g, 16, .inl (X 13)))]) (rfl) (fun q9 h => ?_)
          refine k_X8_apart q8 q9 (fun hM => nz_runS F gX8_carry_X8_apart rfl hd_X8_apart.2 rfl hM dX8_carry_75 [] rfl rfl rfl (Nat.le_of_ble_eq_true rfl) rfl) h ([((a 0), .inr (8, [.int 0, .int (X 0 1), .ref (a 1), .ref (a 2), .ref (a 3), .ref (a 4), .ref (a 5), .ref (a 6), .int (X 0 8), .ref (a 7), .int (X 0 10), .int (X 0 11), .int (X 0 12), .int (X 0 13), .int (X 0 14), .int (X 0 15), .int (X 0 16), .int (X 0 17), .int (X 0 18), .ref (a 8), .ref (a 9), .ref (a 10), .ref (a 11), .ref (a 12), .ref (a 13), .int (X 0 25)])), ((a 1), .inl (nz_cI g, 8, .inl (X 1))), ((a 2), .inl (nz_cI g, 8, .inl (X 2))), ((a 3), .inl (nz_cI g, 320, .inl (X 3))), ((a 4), .inl (nz_cI g, 94, .inl (X 4))), ((a 5), .inl (nz_cI g, 94, .inl (X 5))), ((a 6), .inl (nz_cI g, 168, .inl (X 6))), ((a 7), .inl (nz_cI g, 400, .inl (X 7))), ((a 8), .inl (nz_cI g, 6, .inl (X 8))), ((a 9), .inl (nz_cI g, 49, .inl (X 9))), ((a 10), .inl (nz_cI g, 6, .inl (X 10))), ((a 11), .inl (nz_cZ g, 2, .inl (X 11))), ((a 12), .inl (nz_cI g, 188, .inl (X 12))), ((a 13), .inl (nz_cI g, 16, .inl (X 13)))]) (rfl) (fun q10 h => ?_)
          exact nz_iret F hQ (va_up X 0 (upd (X 0) 0 0)) h rfl dX8_carry_78
        · have h := h.2 c7
          refine nz_aload_n F dX8_carry_38 rfl 0 rfl ?_
          refine nz_get F iw_X8_carry_8 0 rfl rfl 5 (by decide) rfl fl_X8_carry_19 rfl dX8_carry_39 ?_
          refine nz_iconst (v := 1) F dX8_carry_42 (by decide) ?_
          refine nz_iald F 4 rfl (nz_inC rfl) dX8_carry_43 ?_
          refine nz_vi (z := ((X 4) 1)) rfl ?_
          refine nz_aload_n F dX8_carry_44 rfl 0 rfl ?_
          refine nz_iload_n F dX8_carry_45 rfl 1 rfl ?_
          refine nz_iconst (v := 0) F dX8_carry_46 (by decide) ?_
          refine k_X8_stoneOf (a 0) (a 1) (a 2) (a 3) (a 4) (a 5) (a 6) (a 7) (a 8) (a 9) (a 10) (a 11) (a 12) (a 13) 0 (X 0 1) (X 0 8) (X 0 10) (X 0 11) (X 0 12) (X 0 13) (X 0 14) (X 0 15) (X 0 16) (X 0 17) (X 0 18) (X 0 25) (X 1) (X 2) (X 3) (X 4) (X 5) (X 6) (X 7) (X 8) (X 9) (X 10) (X 11) (X 12) (X 13) v1 0 (fun hM => nz_runV F gX8_carry_X8_stoneOf rfl hd_X8_stoneOf rfl hM dX8_carry_47 [0, 1, 2, 3, 4, 5, 6, 7, 8, 9, 10, 11, 12, 13] rfl rfl 0 rfl rfl rfl (Nat.le_of_ble_eq_true rfl) rfl) h ([((a 0), .inr (8, [.int 0, .int (X 0 1), .ref (a 1), .ref (a 2), .ref (a 3), .ref (a 4), .ref (a 5), .ref (a 6), .int (X 0 8), .ref (a 7), .int (X 0 10), .int (X 0 11), .int (X 0 12), .int (X 0 13), .int (X 0 14), .int (X 0 15), .int (X 0 16), .int (X 0 17), .int (X 0 18), .ref (a 8), .ref (a 9), .ref (a 10), .ref (a 11), .ref (a 12), .ref (a 13), .int (X 0 25)])), ((a 1), .inl (nz_cI g, 8, .inl (X 1))), ((a 2), .inl (nz_cI g, 8, .inl (X 2))), ((a 3), .inl (nz_cI g, 320, .inl (X 3))), ((a 4), .inl (nz_cI g, 94, .inl (X 4))), ((a 5), .inl (nz_cI g, 94, .inl (X 5))), ((a 6), .inl (nz_cI g, 168, .inl (X 6))), ((a 7), .inl (nz_cI g, 400, .inl (X 7))), ((a 8), .inl (nz_cI g, 6, .inl (X 8))), ((a 9), .inl (nz_cI g, 49, .inl (X 9))), ((a 10), .inl (nz_cI g, 6, .inl (X 10))), ((a 11), .inl (nz_cZ g, 2, .inl (X 11))), ((a 12), .inl (nz_cI g, 188, .inl (X 12))), ((a 13), .inl (nz_cI g, 16, .inl (X 13)))]) (rfl) (fun q11 h => ?_)
          refine nz_aload_n F dX8_carry_50 rfl 0 rfl ?_
          refine nz_iload_n F dX8_carry_51 rfl 2 rfl ?_
          refine nz_iconst (v := 0) F dX8_carry_52 (by decide) ?_
          refine k_X8_stoneOf (a 0) (a 1) (a 2) (a 3) (a 4) (a 5) (a 6) (a 7) (a 8) (a 9) (a 10) (a 11) (a 12) (a 13) 0 (X 0 1) (X 0 8) (X 0 10) (X 0 11) (X 0 12) (X 0 13) (X 0 14) (X 0 15) (X 0 16) (X 0 17) (X 0 18) (X 0 25) (X 1) (X 2) (X 3) (X 4) (X 5) (X 6) (X 7) (X 8) (X 9) (X 10) (X 11) (X 12) (X 13) v2 0 (fun hM => nz_runV F gX8_carry_X8_stoneOf rfl hd_X8_stoneOf rfl hM dX8_carry_53 [0, 1, 2, 3, 4, 5, 6, 7, 8, 9, 10, 11, 12, 13] rfl rfl 0 rfl rfl rfl (Nat.le_of_ble_eq_true rfl) rfl) h ([((a 0), .inr (8, [.int 0, .int (X 0 1), .ref (a 1), .ref (a 2), .ref (a 3), .ref (a 4), .ref (a 5), .ref (a 6), .int (X 0 8), .ref (a 7), .int (X 0 10), .int (X 0 11), .int (X 0 12), .int (X 0 13), .int (X 0 14), .int (X 0 15), .int (X 0 16), .int (X 0 17), .int (X 0 18), .ref (a 8), .ref (a 9), .ref (a 10), .ref (a 11), .ref (a 12), .ref (a 13), .int (X 0 25)])), ((a 1), .inl (nz_cI g, 8, .inl (X 1))), ((a 2), .inl (nz_cI g, 8, .inl (X 2))), ((a 3), .inl (nz_cI g, 320, .inl (X 3))), ((a 4), .inl (nz_cI g, 94, .inl (X 4))), ((a 5), .inl (nz_cI g, 94, .inl (X 5))), ((a 6), .inl (nz_cI g, 168, .inl (X 6))), ((a 7), .inl (nz_cI g, 400, .inl (X 7))), ((a 8), .inl (nz_cI g, 6, .inl (X 8))), ((a 9), .inl (nz_cI g, 49, .inl (X 9))), ((a 10), .inl (nz_cI g, 6, .inl (X 10))), ((a 11), .inl (nz_cZ g, 2, .inl (X 11))), ((a 12), .inl (nz_cI g, 188, .inl (X 12))), ((a 13), .inl (nz_cI g, 16, .inl (X 13)))]) (rfl) (fun q12 h => ?_)
          refine k_X8_apart q11 q12 (fun hM => nz_runS F gX8_carry_X8_apart rfl hd_X8_apart.2 rfl hM dX8_carry_56 [] rfl rfl rfl (Nat.le_of_ble_eq_true rfl) rfl) h ([((a 0), .inr (8, [.int 0, .int (X 0 1), .ref (a 1), .ref (a 2), .ref (a 3), .ref (a 4), .ref (a 5), .ref (a 6), .int (X 0 8), .ref (a 7), .int (X 0 10), .int (X 0 11), .int (X 0 12), .int (X 0 13), .int (X 0 14), .int (X 0 15), .int (X 0 16), .int (X 0 17), .int (X 0 18), .ref (a 8), .ref (a 9), .ref (a 10), .ref (a 11), .ref (a 12), .ref (a 13), .int (X 0 25)])), ((a 1), .inl (nz_cI g, 8, .inl (X 1))), ((a 2), .inl (nz_cI g, 8, .inl (X 2))), ((a 3), .inl (nz_cI g, 320, .inl (X 3))), ((a 4), .inl (nz_cI g, 94, .inl (X 4))), ((a 5), .inl (nz_cI g, 94, .inl (X 5))), ((a 6), .inl (nz_cI g, 168, .inl (X 6))), ((a 7), .inl (nz_cI g, 400, .inl (X 7))), ((a 8), .inl (nz_cI g, 6, .inl (X 8))), ((a 9), .inl (nz_cI g, 49, .inl (X 9))), ((a 10), .inl (nz_cI g, 6, .inl (X 10))), ((a 11), .inl (nz_cZ g, 2, .inl (X 11))), ((a 12), .inl (nz_cI g, 188, .inl (X 12))), ((a 13), .inl (nz_cI g, 16, .inl (X 13)))]) (rfl) (fun q13 h => ?_)
          refine nz_imul F dX8_carry_59 ?_
          refine nz_goto (tgt := 78) F dX8_carry_60 (by decide) ?_
          exact nz_iret F hQ (va_up X 0 (upd (X 0) 0 0)) h rfl dX8_carry_78
      · have h := h.2 c6
        refine nz_ldc (v := (-1000001 : Int32)) F wd_X8_carry_c70 dX8_carry_31 ?_
        exact nz_iret F hQ (va_up X 0 (upd (X 0) 0 0)) h rfl dX8_carry_33
theorem k_X8_carry {y : nz_Y} {g : nz_G} {k n : Nat} {ws : va_W} {pc : Nat} {ls : List (Nat × Value)} {st rest : List Value} {av : Array Value} {isC : List Nat} {K : Int32 → (Nat → Nat → Int32) → Prop} (a : Nat → Nat) (X : Nat → Nat → Int32) (v1 : Int32) (v2 : Int32) (v3 : Int32) (run : nz_M (yz_l y) yX8_carry wsX8_carry rm_X8_carry g [.ref (a 0), .int v1, .int v2, .int v3] (nz_wM g a X) (nz_Qi g (nz_wM g a X) (fun r (u : Nat → Nat → Int32) => K r u) (fun u => nz_wM g a u)) → nz_C y g k n ws pc ls st rest (nz_wM g a X) (nz_Qi g (nz_wM g a X) (fun r (u : Nat → Nat → Int32) => K r u) (fun u => nz_wM g a u)) av isC) (h : wp_X8_carry X v1 v2 v3 K) (ws' : (Nat → Nat → Int32) → va_W) (hm : ∀ (m0 : (Nat → Nat → Int32)), nz_mrg ws isC (nz_wM g a m0) = ws' m0) (kk : ∀ (r : Int32) (m0 : (Nat → Nat → Int32)), K r m0 → nz_V y g k n (ws' m0) (pc + 3) ls (.int r :: rest)) : nz_V y g k n ws pc ls st :=
  nz_ci (ws' := fun u => ws' u) (run (c_X8_carry (yz_l y) g a X v1 v2 v3 K h)) (fun _ => rfl) (fun u => hm u) (fun r u h => kk r u h)
theorem dX8_time_0 : decode cX8_time 0 = .ok (.aload_n 0, 1) := by decide +kernel
theorem dX8_time_1 : decode cX8_time 1 = .ok (.iconst 0, 1) := by decide +kernel
theorem dX8_time_2 : decode cX8_time 2 = .ok (.putfield 50, 3) := by decide +kernel
theorem dX8_time_5 : decode cX8_time 5 = .ok (.aload_n 0, 1) := by decide +kernel
theorem dX8_time_6 : decode cX8_time 6 = .ok (.iload_n 1, 1) := by decide +kernel
theorem dX8_time_7 : decode cX8_time 7 = .ok (.iload_n 2, 1) := by decide +kernel
theorem dX8_time_8 : decode cX8_time 8 = .ok (.iload_n 3, 1) := by decide +kernel
theorem dX8_time_9 : decode cX8_time 9 = .ok (.iload 4, 2) := by decide +kernel
theorem dX8_time_11 : decode cX8_time 11 = .ok (.invokevirtual 216, 3) := by decide +kernel
theorem dX8_time_14 : decode cX8_time 14 = .ok (.ifCond .ne 6, 3) := by decide +kernel
theorem dX8_time_17 : decode cX8_time 17 = .ok (.ldc 70, 2) := by decide +kernel
theorem dX8_time_19 : decode cX8_time 19 = .ok (.ireturn, 1) := by decide +kernel
theorem dX8_time_20 : decode cX8_time 20 = .ok (.aload_n 0, 1) := by decide +kernel
theorem dX8_time_21 : decode cX8_time 21 = .ok (.getfield 19, 3) := by decide +kernel
theorem dX8_time_24 : decode cX8_time 24 = .ok (.bipush 7, 2) := by decide +kernel
theorem dX8_time_26 : decode cX8_time 26 = .ok (.iaload, 1) := by decide +kernel
theorem dX8_time_27 : decode cX8_time 27 = .ok (.bipush 12, 2) := by decide +kernel
theorem dX8_time_29 : decode cX8_time 29 = .ok (.if_icmp .ne 6, 3) := by decide +kernel
theorem dX8_time_32 : decode cX8_time 32 = .ok (.ldc 80, 2) := by decide +kernel
theorem dX8_time_34 : decode cX8_time 34 = .ok (.ireturn, 1) := by decide +kernel
theorem dX8_time_35 : decode cX8_time 35 = .ok (.aload_n 0, 1) := by decide +kernel
theorem dX8_time_36 : decode cX8_time 36 = .ok (.iload_n 1, 1) := by decide +kernel
theorem dX8_time_37 : decode cX8_time 37 = .ok (.iload_n 2, 1) := by decide +kernel
theorem dX8_time_38 : decode cX8_time 38 = .ok (.iload_n 3, 1) := by decide +kernel
theorem dX8_time_39 : decode cX8_time 39 = .ok (.iload 4, 2) := by decide +kernel
theorem dX8_time_41 : decode cX8_time 41 = .ok (.invokevirtual 220, 3) := by decide +kernel
theorem dX8_time_44 : decode cX8_time 44 = .ok (.aload_n 0, 1) := by decide +kernel
theorem dX8_time_45 : decode cX8_time 45 = .ok (.getfield 19, 3) := by decide +kernel
theorem dX8_time_48 : decode cX8_time 48 = .ok (.bipush 7, 2) := by decide +kernel
theorem dX8_time_50 : decode cX8_time 50 = .ok (.iaload, 1) := by decide +kernel
theorem dX8_time_51 : decode cX8_time 51 = .ok (.ireturn, 1) := by decide +kernel
set_option maxRecDepth 20000 in
theorem ggX8_time_X8_addTime : GoodIn wsX8_time wsX8_addTime := goodIn_r _ [22, 3, 23, 24, 25, 26, 27, 28, 29, 30, 31, 32, 33, 34, 35, 36, 37, 38, 39, 40, 41, 42, 43, 44, 45, 46, 47, 48] rfl (by decide +kernel)
set_option maxRecDepth 20000 in
theorem gX8_time_X8_addTime : GoodIn wsX8_time (wsV RX8 220 RX8 yX8_addTime wsX8_addTime) := goodIn_app (goodIn_r _ [19, 20, 21, 8] rfl (by decide +kernel)) ggX8_time_X8_addTime
set_option maxRecDepth 20000 in
theorem ggX8_time_X8_isTime : GoodIn wsX8_time wsX8_isTime := goodIn_r _ [9, 10, 11, 12, 13, 14, 8, 15, 3, 16, 17, 18, 23, 24, 25, 26, 27, 28, 29, 30, 31, 32, 33, 34, 35, 36, 37, 38, 39, 40, 41, 42, 43, 44, 45, 46, 47, 48] rfl (by decide +kernel)
set_option maxRecDepth 20000 in
theorem gX8_time_X8_isTime : GoodIn wsX8_time (wsV RX8 216 RX8 yX8_isTime wsX8_isTime) := goodIn_app (goodIn_r _ [5, 6, 7, 8] rfl (by decide +kernel)) ggX8_time_X8_isTime
theorem hd_X8_addTime : yX8_addTime.cls = RX8 ∧ yX8_addTime.cls ≠ "java/lang/invoke/MethodHandle" ∧ yX8_addTime.cls ≠ "java/lang/invoke/VarHandle" ∧ (parseMethodDescriptor yX8_addTime.desc).map (fun d => d.parameters.length) = some 4 := by decide +kernel
theorem hd_X8_isTime : yX8_isTime.cls = RX8 ∧ yX8_isTime.cls ≠ "java/lang/invoke/MethodHandle" ∧ yX8_isTime.cls ≠ "java/lang/invoke/VarHandle" ∧ (parseMethodDescriptor yX8_isTime.desc).map (fun d => d.parameters.length) = some 4 := by decide +kernel
/-! X8_time -/
abbrev rm_X8_time : Room := { frames := 3, cells := 0, slots := 0, locals := 70 }
theorem iw_X8_time_8 : ∀ w ∈ wsX80, w ∈ wsX8_time := fun _ h => List.mem_cons_of_mem _ (List.mem_append_right _ h)
theorem fl_X8_time_50 : Cond.fieldLink RX8 50 "NightStonesModel" "thrown" "I" ∈ wsX8_time := List.mem_of_getElem? (i := 1) rfl
theorem fl_X8_time_19 : Cond.fieldLink RX8 19 "NightStonesModel" "road" "[I" ∈ wsX8_time := List.mem_of_getElem? (i := 3) rfl
theorem wd_X8_time_c80 : Cond.constant RX8 80 (-1000003) ∈ wsX8_time := List.mem_of_getElem? (i := 4) rfl
theorem wd_X8_time_c70 : Cond.constant RX8 70 (-1000001) ∈ wsX8_time := List.mem_of_getElem? (i := 2) rfl
def wp_X8_time (X : Nat → Nat → Int32) (v1 : Int32) (v2 : Int32) (v3 : Int32) (v4 : Int32) (K : Int32 → (Nat → Nat → Int32) → Prop) : Prop := wp_X8_isTime (X 4) v1 v2 v3 v4 (fun q1 => ((¬ q1 = 0 → ((¬ ((X 4) 7) = 12 → wp_X8_addTime (X 4) v1 v2 v3 v4 (fun m4 => K (m4 7) (va_up (va_up X 0 (upd (X 0) 0 0)) 4 m4))) ∧ (((X 4) 7) = 12 → K (-1000003 : Int32) (va_up X 0 (upd (X 0) 0 0))))) ∧ (q1 = 0 → K (-1000001 : Int32) (va_up X 0 (upd (X 0) 0 0)))))
set_option maxHeartbeats 4000000 in
set_option maxRecDepth 100000 in
theorem c_X8_time (l : Launch) (g : nz_G) (a : Nat → Nat) (X : Nat → Nat → Int32) (v1 : Int32) (v2 : Int32) (v3 : Int32) (v4 : Int32) (K : Int32 → (Nat → Nat → Int32) → Prop) (h : wp_X8_time X v1 v2 v3 v4 K) : nz_M l yX8_time wsX8_time rm_X8_time g [.ref (a 0), .int v1, .int v2, .int v3, .int v4] (nz_wM g a X) (nz_Qi g (nz_wM g a X) (fun r (u : Nat → Nat → Int32) => K r u) (fun u => nz_wM g a u)) := by
  refine nz_M.of (bytes := cX8_time) (nL := 5) (ret := (some .int)) (own := RX8) (by decide) rfl rfl ⟨rfl, rfl⟩ rfl ?_
  intro y F hl hQ
  obtain ⟨sz, hQ⟩ := hQ
  refine nz_ent (lv' := [(0, .ref (a 0)), (1, .int v1), (2, .int v2), (3, .int v3), (4, .int v4)]) rfl ?_
  unfold wp_X8_time at h
  refine nz_aload_n F dX8_time_0 rfl 0 rfl ?_
  refine nz_iconst (v := 0) F dX8_time_1 (by decide) ?_
  refine nz_put (ws' := [((a 0), .inr (8, [.int 0, .int (X 0 1), .ref (a 1), .ref (a 2), .ref (a 3), .ref (a 4), .ref (a 5), .ref (a 6), .int (X 0 8), .ref (a 7), .int (X 0 10), .int (X 0 11), .int (X 0 12), .int (X 0 13), .int (X 0 14), .int (X 0 15), .int (X 0 16), .int (X 0 17), .int (X 0 18), .ref (a 8), .ref (a 9), .ref (a 10), .ref (a 11), .ref (a 12), .ref (a 13), .int (X 0 25)])), ((a 1), .inl (nz_cI g, 8, .inl (X 1))), ((a 2), .inl (nz_cI g, 8, .inl (X 2))), ((a 3), .inl (nz_cI g, 320, .inl (X 3))), ((a 4), .inl (nz_cI g, 94, .inl (X 4))), ((a 5), .inl (nz_cI g, 94, .inl (X 5))), ((a 6), .inl (nz_cI g, 168, .inl (X 6))), ((a 7), .inl (nz_cI g, 400, .inl (X 7))), ((a 8), .inl (nz_cI g, 6, .inl (X 8))), ((a 9), .inl (nz_cI g, 49, .inl (X 9))), ((a 10), .inl (nz_cI g, 6, .inl (X 10))), ((a 11), .inl (nz_cZ g, 2, .inl (X 11))), ((a 12), .inl (nz_cI g, 188, .inl (X 12))), ((a 13), .inl (nz_cI g, 16, .inl (X 13)))]) F iw_X8_time_8 tyX8 tyX8_ok nmX8 0 rfl rfl 0 (by decide) rfl fl_X8_time_50 rfl rfl (Nat.le_of_ble_eq_true rfl) dX8_time_2 rfl ?_
  refine nz_aload_n F dX8_time_5 rfl 0 rfl ?_
  refine nz_iload_n F dX8_time_6 rfl 1 rfl ?_
  refine nz_iload_n F dX8_time_7 rfl 2 rfl ?_
  refine nz_iload_n F dX8_time_8 rfl 3 rfl ?_
  refine nz_iload F dX8_time_9 4 rfl ?_
  refine k_X8_isTime (a 0) (a 1) (a 2) (a 3) (a 4) (a 5) (a 6) (a 7) (a 8) (a 9) (a 10) (a 11) (a 12) (a 13) 0 (X 0 1) (X 0 8) (X 0 10) (X 0 11) (X 0 12) (X 0 13) (X 0 14) (X 0 15) (X 0 16) (X 0 17) (X 0 18) (X 0 25) (X 1) (X 2) (X 3) (X 4) (X 5) (X 6) (X 7) (X 8) (X 9) (X 10) (X 11) (X 12) (X 13) v1 v2 v3 v4 (fun hM => nz_runV F gX8_time_X8_isTime rfl hd_X8_isTime rfl hM dX8_time_11 [0, 1, 2, 3, 4, 5, 6, 7, 8, 9, 10, 11, 12, 13] rfl rfl 0 rfl rfl rfl (Nat.le_of_ble_eq_true rfl) rfl) h ([((a 0), .inr (8, [.int 0, .int (X 0 1), .ref (a 1), .ref (a 2), .ref (a 3), .ref (a 4), .ref (a 5), .ref (a 6), .int (X 0 8), .ref (a 7), .int (X 0 10), .int (X 0 11), .int (X 0 12), .int (X 0 13), .int (X 0 14), .int (X 0 15), .int (X 0 16), .int (X 0 17), .int (X 0 18), .ref (a 8), .ref (a 9), .ref (a 10), .ref (a 11), .ref (a 12), .ref (a 13), .int (X 0 25)])), ((a 1), .inl (nz_cI g, 8, .inl (X 1))), ((a 2), .inl (nz_cI g, 8, .inl (X 2))), ((a 3), .inl (nz_cI g, 320, .inl (X 3))), ((a 4), .inl (nz_cI g, 94, .inl (X 4))), ((a 5), .inl (nz_cI g, 94, .inl (X 5))), ((a 6), .inl (nz_cI g, 168, .inl (X 6))), ((a 7), .inl (nz_cI g, 400, .inl (X 7))), ((a 8), .inl (nz_cI g, 6, .inl (X 8))), ((a 9), .inl (nz_cI g, 49, .inl (X 9))), ((a 10), .inl (nz_cI g, 6, .inl (X 10))), ((a 11), .inl (nz_cZ g, 2, .inl (X 11))), ((a 12), .inl (nz_cI g, 188, .inl (X 12))), ((a 13), .inl (nz_cI g, 16, .inl (X 13)))]) (rfl) (fun q1 h => ?_)
  refine nz_if_ne (tgt := 20) F dX8_time_14 (by decide) (fun c2 => ?_) (fun c2 => ?_)
  · have h := h.1 c2
    refine nz_aload_n F dX8_time_20 rfl 0 rfl ?_
    refine nz_get F iw_X8_time_8 0 rfl rfl 5 (by decide) rfl fl_X8_time_19 rfl dX8_time_21 ?_
    refine nz_bipush (v := 7) F dX8_time_24 (by decide) ?_
    refine nz_iald F 4 rfl (nz_inC rfl) dX8_time_26 ?_
    refine nz_vi (z := ((X 4) 7)) rfl ?_
    refine nz_bipush (v := 12) F dX8_time_27 (by decide) ?_
    refine nz_icmp_ne (tgt := 35) F dX8_time_29 (by decide) (fun c3 => ?_) (fun c3 => ?_)
    · have h := h.1 c3
      refine nz_aload_n F dX8_time_35 rfl 0 rfl ?_
      refine nz_iload_n F dX8_time_36 rfl 1 rfl ?_
      refine nz_iload_n F dX8_time_37 rfl 2 rfl ?_
      refine nz_iload_n F dX8_time_38 rfl 3 rfl ?_
      refine nz_iload F dX8_time_39 4 rfl ?_
      refine k_X8_addTime (a 0) (a 1) (a 2) (a 3) (a 4) (a 5) (a 6) (a 7) (a 8) (a 9) (a 10) (a 11) (a 12) (a 13) 0 (X 0 1) (X 0 8) (X 0 10) (X 0 11) (X 0 12) (X 0 13) (X 0 14) (X 0 15) (X 0 16) (X 0 17) (X 0 18) (X 0 25) (X 1) (X 2) (X 3) (X 4) (X 5) (X 6) (X 7) (X 8) (X 9) (X 10) (X 11) (X 12) (X 13) v1 v2 v3 v4 (fun hM => nz_runV F gX8_time_X8_addTime rfl hd_X8_addTime rfl hM dX8_time_41 [0, 1, 2, 3, 4, 5, 6, 7, 8, 9, 10, 11, 12, 13] rfl rfl 0 rfl rfl rfl (Nat.le_of_ble_eq_true rfl) rfl) h (fun m4 => [((a 0), .inr (8, [.int 0, .int (X 0 1), .ref (a 1), .ref (a 2), .ref (a 3), .ref (a 4), .ref (a 5), .ref (a 6), .int (X 0 8), .ref (a 7), .int (X 0 10), .int (X 0 11), .int (X 0 12), .int (X 0 13), .int (X 0 14), .int (X 0 15), .int (X 0 16), .int (X 0 17), .int (X 0 18), .ref (a 8), .ref (a 9), .ref (a 10), .ref (a 11), .ref (a 12), .ref (a 13), .int (X 0 25)])), ((a 1), .inl (nz_cI g, 8, .inl (X 1))), ((a 2), .inl (nz_cI g, 8, .inl (X 2))), ((a 3), .inl (nz_cI g, 320, .inl (X 3))), ((a 4), .inl (nz_cI g, 94, .inl m4)), ((a 5), .inl (nz_cI g, 94, .inl (X 5))), ((a 6), .inl (nz_cI g, 168, .inl (X 6))), ((a 7), .inl (nz_cI g, 400, .inl (X 7))), ((a 8), .inl (nz_cI g, 6, .inl (X 8))), ((a 9), .inl (nz_cI g, 49, .inl (X 9))), ((a 10), .inl (nz_cI g, 6, .inl (X 10))), ((a 11), .inl (nz_cZ g, 2, .inl (X 11))), ((a 12), .inl (nz_cI g, 188, .inl (X 12))), ((a 13), .inl (nz_cI g, 16, .inl (X 13)))]) (fun _ => rfl) (fun m4 h => ?_)
      refine nz_aload_n F dX8_time_44 rfl 0 rfl ?_
      refine nz_get F iw_X8_time_8 0 rfl rfl 5 (by decide) rfl fl_X8_time_19 rfl dX8_time_45 ?_
      refine nz_bipush (v := 7) F dX8_time_48 (by decide) ?_
      refine nz_iald F 4 rfl (nz_inC rfl) dX8_time_50 ?_
      refine nz_vi (z := (m4 7)) rfl ?_
      exact nz_iret F hQ (va_up (va_up X 0 (upd (X 0) 0 0)) 4 m4) h rfl dX8_time_51
    · have h := h.2 c3
      refine nz_ldc (v := (-1000003 : Int32)) F wd_X8_time_c80 dX8_time_32 ?_
      exact nz_iret F hQ (va_up X 0 (upd (X 0) 0 0)) h rfl dX8_time_34
  · have h := h.2 c2
    refine nz_ldc (v := (-1000001 : Int32)) F wd_X8_time_c70 dX8_time_17 ?_
    exact nz_iret F hQ (va_up X 0 (upd (X 0) 0 0)) h rfl dX8_time_19
theorem k_X8_time {y : nz_Y} {g : nz_G} {k n : Nat} {ws : va_W} {pc : Nat} {ls : List (Nat × Value)} {st rest : List Value} {av : Array Value} {isC : List Nat} {K : Int32 → (Nat → Nat → Int32) → Prop} (a : Nat → Nat) (X : Nat → Nat → Int32) (v1 : Int32) (v2 : Int32) (v3 : Int32) (v4 : Int32) (run : nz_M (yz_l y) yX8_time wsX8_time rm_X8_time g [.ref (a 0), .int v1, .int v2, .int v3, .int v4] (nz_wM g a X) (nz_Qi g (nz_wM g a X) (fun r (u : Nat → Nat → Int32) => K r u) (fun u => nz_wM g a u)) → nz_C y g k n ws pc ls st rest (nz_wM g a X) (nz_Qi g (nz_wM g a X) (fun r (u : Nat → Nat → Int32) => K r u) (fun u => nz_wM g a u)) av isC) (h : wp_X8_time X v1 v2 v3 v4 K) (ws' : (Nat → Nat → Int32) → va_W) (hm : ∀ (m0 : (Nat → Nat → Int32)), nz_mrg ws isC (nz_wM g a m0) = ws' m0) (kk : ∀ (r : Int32) (m0 : (Nat → Nat → Int32)), K r m0 → nz_V y g k n (ws' m0) (pc + 3) ls (.int r :: rest)) : nz_V y g k n ws pc ls st :=
  nz_ci (ws' := fun u => ws' u) (run (c_X8_time (yz_l y) g a X v1 v2 v3 v4 K h)) (fun _ => rfl) (fun u => hm u) (fun r u h => kk r u h)
theorem dX8_times_0 : decode cX8_times 0 = .ok (.aload_n 0, 1) := by decide +kernel
theorem dX8_times_1 : decode cX8_times 1 = .ok (.iconst 0, 1) := by decide +kernel
theorem dX8_times_2 : decode cX8_times 2 = .ok (.putfield 50, 3) := by decide +kernel
theorem dX8_times_5 : decode cX8_times 5 = .ok (.aload_n 0, 1) := by decide +kernel
theorem dX8_times_6 : decode cX8_times 6 = .ok (.invokevirtual 192, 3) := by decide +kernel
theorem dX8_times_9 : decode cX8_times 9 = .ok (.ifCond .ne 6, 3) := by decide +kernel
theorem dX8_times_12 : decode cX8_times 12 = .ok (.ldc 196, 2) := by decide +kernel
theorem dX8_times_14 : decode cX8_times 14 = .ok (.ireturn, 1) := by decide +kernel
theorem dX8_times_15 : decode cX8_times 15 = .ok (.iload_n 1, 1) := by decide +kernel
theorem dX8_times_16 : decode cX8_times 16 = .ok (.invokestatic 64, 3) := by decide +kernel
theorem dX8_times_19 : decode cX8_times 19 = .ok (.ifCond .eq 15, 3) := by decide +kernel
theorem dX8_times_22 : decode cX8_times 22 = .ok (.iload_n 3, 1) := by decide +kernel
theorem dX8_times_23 : decode cX8_times 23 = .ok (.i2l, 1) := by decide +kernel
theorem dX8_times_24 : decode cX8_times 24 = .ok (.lconst 1, 1) := by decide +kernel
theorem dX8_times_25 : decode cX8_times 25 = .ok (.ldc2_w 224, 3) := by decide +kernel
theorem dX8_times_28 : decode cX8_times 28 = .ok (.invokestatic 60, 3) := by decide +kernel
theorem dX8_times_31 : decode cX8_times 31 = .ok (.ifCond .ne 6, 3) := by decide +kernel
theorem dX8_times_34 : decode cX8_times 34 = .ok (.ldc 70, 2) := by decide +kernel
theorem dX8_times_36 : decode cX8_times 36 = .ok (.ireturn, 1) := by decide +kernel
theorem dX8_times_37 : decode cX8_times 37 = .ok (.aload_n 0, 1) := by decide +kernel
theorem dX8_times_38 : decode cX8_times 38 = .ok (.getfield 7, 3) := by decide +kernel
theorem dX8_times_41 : decode cX8_times 41 = .ok (.iload_n 1, 1) := by decide +kernel
theorem dX8_times_42 : decode cX8_times 42 = .ok (.iaload, 1) := by decide +kernel
theorem dX8_times_43 : decode cX8_times 43 = .ok (.ifCond .ge 9, 3) := by decide +kernel
theorem dX8_times_46 : decode cX8_times 46 = .ok (.aload_n 0, 1) := by decide +kernel
theorem dX8_times_47 : decode cX8_times 47 = .ok (.iconst 1, 1) := by decide +kernel
theorem dX8_times_48 : decode cX8_times 48 = .ok (.invokevirtual 71, 3) := by decide +kernel
theorem dX8_times_51 : decode cX8_times 51 = .ok (.ireturn, 1) := by decide +kernel
theorem dX8_times_52 : decode cX8_times 52 = .ok (.iload_n 2, 1) := by decide +kernel
theorem dX8_times_53 : decode cX8_times 53 = .ok (.ifCond .lt 21, 3) := by decide +kernel
theorem dX8_times_56 : decode cX8_times 56 = .ok (.iload_n 2, 1) := by decide +kernel
theorem dX8_times_57 : decode cX8_times 57 = .ok (.i2l, 1) := by decide +kernel
theorem dX8_times_58 : decode cX8_times 58 = .ok (.iconst 4, 1) := by decide +kernel
theorem dX8_times_59 : decode cX8_times 59 = .ok (.iload_n 3, 1) := by decide +kernel
theorem dX8_times_60 : decode cX8_times 60 = .ok (.imul, 1) := by decide +kernel
theorem dX8_times_61 : decode cX8_times 61 = .ok (.i2l, 1) := by decide +kernel
theorem dX8_times_62 : decode cX8_times 62 = .ok (.ladd, 1) := by decide +kernel
theorem dX8_times_63 : decode cX8_times 63 = .ok (.aload_n 0, 1) := by decide +kernel
theorem dX8_times_64 : decode cX8_times 64 = .ok (.getfield 13, 3) := by decide +kernel
theorem dX8_times_67 : decode cX8_times 67 = .ok (.iload_n 1, 1) := by decide +kernel
theorem dX8_times_68 : decode cX8_times 68 = .ok (.iaload, 1) := by decide +kernel
theorem dX8_times_69 : decode cX8_times 69 = .ok (.i2l, 1) := by decide +kernel
theorem dX8_times_70 : decode cX8_times 70 = .ok (.lcmp, 1) := by decide +kernel
theorem dX8_times_71 : decode cX8_times 71 = .ok (.ifCond .le 9, 3) := by decide +kernel
theorem dX8_times_74 : decode cX8_times 74 = .ok (.aload_n 0, 1) := by decide +kernel
theorem dX8_times_75 : decode cX8_times 75 = .ok (.iconst 2, 1) := by decide +kernel
theorem dX8_times_76 : decode cX8_times 76 = .ok (.invokevirtual 71, 3) := by decide +kernel
theorem dX8_times_79 : decode cX8_times 79 = .ok (.ireturn, 1) := by decide +kernel
theorem dX8_times_80 : decode cX8_times 80 = .ok (.bipush 40, 2) := by decide +kernel
theorem dX8_times_82 : decode cX8_times 82 = .ok (.iload_n 1, 1) := by decide +kernel
theorem dX8_times_83 : decode cX8_times 83 = .ok (.imul, 1) := by decide +kernel
theorem dX8_times_84 : decode cX8_times 84 = .ok (.iload_n 2, 1) := by decide +kernel
theorem dX8_times_85 : decode cX8_times 85 = .ok (.iadd, 1) := by decide +kernel
theorem dX8_times_86 : decode cX8_times 86 = .ok (.istore 4, 2) := by decide +kernel
theorem dX8_times_88 : decode cX8_times 88 = .ok (.iconst 0, 1) := by decide +kernel
theorem dX8_times_89 : decode cX8_times 89 = .ok (.istore 5, 2) := by decide +kernel
theorem dX8_times_91 : decode cX8_times 91 = .ok (.iload 5, 2) := by decide +kernel
theorem dX8_times_93 : decode cX8_times 93 = .ok (.iload_n 3, 1) := by decide +kernel
theorem dX8_times_94 : decode cX8_times 94 = .ok (.if_icmp .ge 73, 3) := by decide +kernel
theorem dX8_times_97 : decode cX8_times 97 = .ok (.aload_n 0, 1) := by decide +kernel
theorem dX8_times_98 : decode cX8_times 98 = .ok (.aload_n 0, 1) := by decide +kernel
theorem dX8_times_99 : decode cX8_times 99 = .ok (.getfield 16, 3) := by decide +kernel
theorem dX8_times_102 : decode cX8_times 102 = .ok (.iload 4, 2) := by decide +kernel
theorem dX8_times_104 : decode cX8_times 104 = .ok (.iconst 4, 1) := by decide +kernel
theorem dX8_times_105 : decode cX8_times 105 = .ok (.iload 5, 2) := by decide +kernel
theorem dX8_times_107 : decode cX8_times 107 = .ok (.imul, 1) := by decide +kernel
theorem dX8_times_108 : decode cX8_times 108 = .ok (.iadd, 1) := by decide +kernel
theorem dX8_times_109 : decode cX8_times 109 = .ok (.iaload, 1) := by decide +kernel
theorem dX8_times_110 : decode cX8_times 110 = .ok (.aload_n 0, 1) := by decide +kernel
theorem dX8_times_111 : decode cX8_times 111 = .ok (.getfield 16, 3) := by decide +kernel
theorem dX8_times_114 : decode cX8_times 114 = .ok (.iload 4, 2) := by decide +kernel
theorem dX8_times_116 : decode cX8_times 116 = .ok (.iconst 4, 1) := by decide +kernel
theorem dX8_times_117 : decode cX8_times 117 = .ok (.iload 5, 2) := by decide +kernel
theorem dX8_times_119 : decode cX8_times 119 = .ok (.imul, 1) := by decide +kernel
theorem dX8_times_120 : decode cX8_times 120 = .ok (.iadd, 1) := by decide +kernel
theorem dX8_times_121 : decode cX8_times 121 = .ok (.iconst 1, 1) := by decide +kernel
theorem dX8_times_122 : decode cX8_times 122 = .ok (.iadd, 1) := by decide +kernel
theorem dX8_times_123 : decode cX8_times 123 = .ok (.iaload, 1) := by decide +kernel
theorem dX8_times_124 : decode cX8_times 124 = .ok (.aload_n 0, 1) := by decide +kernel
theorem dX8_times_125 : decode cX8_times 125 = .ok (.getfield 16, 3) := by decide +kernel
theorem dX8_times_128 : decode cX8_times 128 = .ok (.iload 4, 2) := by decide +kernel
theorem dX8_times_130 : decode cX8_times 130 = .ok (.iconst 4, 1) := by decide +kernel
theorem dX8_times_131 : decode cX8_times 131 = .ok (.iload 5, 2) := by decide +kernel
theorem dX8_times_133 : decode cX8_times 133 = .ok (.imul, 1) := by decide +kernel
theorem dX8_times_134 : decode cX8_times 134 = .ok (.iadd, 1) := by decide +kernel
theorem dX8_times_135 : decode cX8_times 135 = .ok (.iconst 2, 1) := by decide +kernel
theorem dX8_times_136 : decode cX8_times 136 = .ok (.iadd, 1) := by decide +kernel
theorem dX8_times_137 : decode cX8_times 137 = .ok (.iaload, 1) := by decide +kernel
theorem dX8_times_138 : decode cX8_times 138 = .ok (.aload_n 0, 1) := by decide +kernel
theorem dX8_times_139 : decode cX8_times 139 = .ok (.getfield 16, 3) := by decide +kernel
theorem dX8_times_142 : decode cX8_times 142 = .ok (.iload 4, 2) := by decide +kernel
theorem dX8_times_144 : decode cX8_times 144 = .ok (.iconst 4, 1) := by decide +kernel
theorem dX8_times_145 : decode cX8_times 145 = .ok (.iload 5, 2) := by decide +kernel
theorem dX8_times_147 : decode cX8_times 147 = .ok (.imul, 1) := by decide +kernel
theorem dX8_times_148 : decode cX8_times 148 = .ok (.iadd, 1) := by decide +kernel
theorem dX8_times_149 : decode cX8_times 149 = .ok (.iconst 3, 1) := by decide +kernel
theorem dX8_times_150 : decode cX8_times 150 = .ok (.iadd, 1) := by decide +kernel
theorem dX8_times_151 : decode cX8_times 151 = .ok (.iaload, 1) := by decide +kernel
theorem dX8_times_152 : decode cX8_times 152 = .ok (.invokevirtual 216, 3) := by decide +kernel
theorem dX8_times_155 : decode cX8_times 155 = .ok (.ifCond .ne 6, 3) := by decide +kernel
theorem dX8_times_158 : decode cX8_times 158 = .ok (.ldc 70, 2) := by decide +kernel
theorem dX8_times_160 : decode cX8_times 160 = .ok (.ireturn, 1) := by decide +kernel
theorem dX8_times_161 : decode cX8_times 161 = .ok (.iinc 5 1, 3) := by decide +kernel
theorem dX8_times_164 : decode cX8_times 164 = .ok (.goto (-73), 3) := by decide +kernel
theorem dX8_times_167 : decode cX8_times 167 = .ok (.aload_n 0, 1) := by decide +kernel
theorem dX8_times_168 : decode cX8_times 168 = .ok (.getfield 19, 3) := by decide +kernel
theorem dX8_times_171 : decode cX8_times 171 = .ok (.bipush 7, 2) := by decide +kernel
theorem dX8_times_173 : decode cX8_times 173 = .ok (.iaload, 1) := by decide +kernel
theorem dX8_times_174 : decode cX8_times 174 = .ok (.iload_n 3, 1) := by decide +kernel
theorem dX8_times_175 : decode cX8_times 175 = .ok (.iadd, 1) := by decide +kernel
theorem dX8_times_176 : decode cX8_times 176 = .ok (.bipush 12, 2) := by decide +kernel
theorem dX8_times_178 : decode cX8_times 178 = .ok (.if_icmp .le 6, 3) := by decide +kernel
theorem dX8_times_181 : decode cX8_times 181 = .ok (.ldc 80, 2) := by decide +kernel
theorem dX8_times_183 : decode cX8_times 183 = .ok (.ireturn, 1) := by decide +kernel
theorem dX8_times_184 : decode cX8_times 184 = .ok (.aload_n 0, 1) := by decide +kernel
theorem dX8_times_185 : decode cX8_times 185 = .ok (.iconst 0, 1) := by decide +kernel
theorem dX8_times_186 : decode cX8_times 186 = .ok (.putfield 54, 3) := by decide +kernel
theorem dX8_times_189 : decode cX8_times 189 = .ok (.iconst 0, 1) := by decide +kernel
theorem dX8_times_190 : decode cX8_times 190 = .ok (.istore 5, 2) := by decide +kernel
theorem dX8_times_192 : decode cX8_times 192 = .ok (.iload 5, 2) := by decide +kernel
theorem dX8_times_194 : decode cX8_times 194 = .ok (.iload_n 3, 1) := by decide +kernel
theorem dX8_times_195 : decode cX8_times 195 = .ok (.if_icmp .ge 67, 3) := by decide +kernel
theorem dX8_times_198 : decode cX8_times 198 = .ok (.aload_n 0, 1) := by decide +kernel
theorem dX8_times_199 : decode cX8_times 199 = .ok (.aload_n 0, 1) := by decide +kernel
theorem dX8_times_200 : decode cX8_times 200 = .ok (.getfield 16, 3) := by decide +kernel
theorem dX8_times_203 : decode cX8_times 203 = .ok (.iload 4, 2) := by decide +kernel
theorem dX8_times_205 : decode cX8_times 205 = .ok (.iconst 4, 1) := by decide +kernel
theorem dX8_times_206 : decode cX8_times 206 = .ok (.iload 5, 2) := by decide +kernel
theorem dX8_times_208 : decode cX8_times 208 = .ok (.imul, 1) := by decide +kernel
theorem dX8_times_209 : decode cX8_times 209 = .ok (.iadd, 1) := by decide +kernel
theorem dX8_times_210 : decode cX8_times 210 = .ok (.iaload, 1) := by decide +kernel
theorem dX8_times_211 : decode cX8_times 211 = .ok (.aload_n 0, 1) := by decide +kernel
theorem dX8_times_212 : decode cX8_times 212 = .ok (.getfield 16, 3) := by decide +kernel
theorem dX8_times_215 : decode cX8_times 215 = .ok (.iload 4, 2) := by decide +kernel
theorem dX8_times_217 : decode cX8_times 217 = .ok (.iconst 4, 1) := by decide +kernel
theorem dX8_times_218 : decode cX8_times 218 = .ok (.iload 5, 2) := by decide +kernel
theorem dX8_times_220 : decode cX8_times 220 = .ok (.imul, 1) := by decide +kernel
theorem dX8_times_221 : decode cX8_times 221 = .ok (.iadd, 1) := by decide +kernel
theorem dX8_times_222 : decode cX8_times 222 = .ok (.iconst 1, 1) := by decide +kernel
theorem dX8_times_223 : decode cX8_times 223 = .ok (.iadd, 1) := by decide +kernel
theorem dX8_times_224 : decode cX8_times 224 = .ok (.iaload, 1) := by decide +kernel
theorem dX8_times_225 : decode cX8_times 225 = .ok (.aload_n 0, 1) := by decide +kernel
theorem dX8_times_226 : decode cX8_times 226 = .ok (.getfield 16, 3) := by decide +kernel
theorem dX8_times_229 : decode cX8_times 229 = .ok (.iload 4, 2) := by decide +kernel
theorem dX8_times_231 : decode cX8_times 231 = .ok (.iconst 4, 1) := by decide +kernel
theorem dX8_times_232 : decode cX8_times 232 = .ok (.iload 5, 2) := by decide +kernel
theorem dX8_times_234 : decode cX8_times 234 = .ok (.imul, 1) := by decide +kernel
theorem dX8_times_235 : decode cX8_times 235 = .ok (.iadd, 1) := by decide +kernel
theorem dX8_times_236 : decode cX8_times 236 = .ok (.iconst 2, 1) := by decide +kernel
theorem dX8_times_237 : decode cX8_times 237 = .ok (.iadd, 1) := by decide +kernel
theorem dX8_times_238 : decode cX8_times 238 = .ok (.iaload, 1) := by decide +kernel
theorem dX8_times_239 : decode cX8_times 239 = .ok (.aload_n 0, 1) := by decide +kernel
theorem dX8_times_240 : decode cX8_times 240 = .ok (.getfield 16, 3) := by decide +kernel
theorem dX8_times_243 : decode cX8_times 243 = .ok (.iload 4, 2) := by decide +kernel
theorem dX8_times_245 : decode cX8_times 245 = .ok (.iconst 4, 1) := by decide +kernel
theorem dX8_times_246 : decode cX8_times 246 = .ok (.iload 5, 2) := by decide +kernel
theorem dX8_times_248 : decode cX8_times 248 = .ok (.imul, 1) := by decide +kernel
theorem dX8_times_249 : decode cX8_times 249 = .ok (.iadd, 1) := by decide +kernel
theorem dX8_times_250 : decode cX8_times 250 = .ok (.iconst 3, 1) := by decide +kernel
theorem dX8_times_251 : decode cX8_times 251 = .ok (.iadd, 1) := by decide +kernel
theorem dX8_times_252 : decode cX8_times 252 = .ok (.iaload, 1) := by decide +kernel
theorem dX8_times_253 : decode cX8_times 253 = .ok (.invokevirtual 220, 3) := by decide +kernel
theorem dX8_times_256 : decode cX8_times 256 = .ok (.iinc 5 1, 3) := by decide +kernel
theorem dX8_times_259 : decode cX8_times 259 = .ok (.goto (-67), 3) := by decide +kernel
theorem dX8_times_262 : decode cX8_times 262 = .ok (.aload_n 0, 1) := by decide +kernel
theorem dX8_times_263 : decode cX8_times 263 = .ok (.getfield 19, 3) := by decide +kernel
theorem dX8_times_266 : decode cX8_times 266 = .ok (.bipush 7, 2) := by decide +kernel
theorem dX8_times_268 : decode cX8_times 268 = .ok (.iaload, 1) := by decide +kernel
theorem dX8_times_269 : decode cX8_times 269 = .ok (.ireturn, 1) := by decide +kernel
set_option maxRecDepth 20000 in
theorem ggX8_times_X8_addTime : GoodIn wsX8_times wsX8_addTime := goodIn_r _ [41, 8, 42, 43, 44, 45, 46, 47, 48, 49, 50, 51, 52, 53, 54, 55, 56, 57, 58, 59, 60, 61, 62, 63, 64, 65, 66, 67] rfl (by decide +kernel)
set_option maxRecDepth 20000 in
theorem gX8_times_X8_addTime : GoodIn wsX8_times (wsV RX8 220 RX8 yX8_addTime wsX8_addTime) := goodIn_app (goodIn_r _ [38, 39, 40, 14] rfl (by decide +kernel)) ggX8_times_X8_addTime
set_option maxRecDepth 20000 in
theorem ggX8_times_X8_finding : GoodIn wsX8_times wsX8_finding := goodIn_r _ [26, 10, 27, 42, 43, 44, 45, 46, 47, 48, 49, 50, 51, 52, 53, 54, 55, 56, 57, 58, 59, 60, 61, 62, 63, 64, 65, 66, 67] rfl (by decide +kernel)
set_option maxRecDepth 20000 in
theorem gX8_times_X8_finding : GoodIn wsX8_times (wsV RX8 71 RX8 yX8_finding wsX8_finding) := goodIn_app (goodIn_r _ [23, 24, 25, 14] rfl (by decide +kernel)) ggX8_times_X8_finding
set_option maxRecDepth 20000 in
theorem ggX8_times_X8_in : GoodIn wsX8_times wsX8_in := goodIn_r _ [22] rfl (by decide +kernel)
set_option maxRecDepth 20000 in
theorem gX8_times_X8_in : GoodIn wsX8_times (va_wsS RX8 60 yX8_in wsX8_in) := goodIn_app (goodIn_r _ [20, 21, 14] rfl (by decide +kernel)) ggX8_times_X8_in
set_option maxRecDepth 20000 in
theorem ggX8_times_X8_isRow : GoodIn wsX8_times wsX8_isRow := goodIn_r _ [18, 19, 20, 21, 14, 22] rfl (by decide +kernel)
set_option maxRecDepth 20000 in
theorem gX8_times_X8_isRow : GoodIn wsX8_times (va_wsS RX8 64 yX8_isRow wsX8_isRow) := goodIn_app (goodIn_r _ [16, 17, 14] rfl (by decide +kernel)) ggX8_times_X8_isRow
set_option maxRecDepth 20000 in
theorem ggX8_times_X8_isThere : GoodIn wsX8_times wsX8_isThere := goodIn_r _ [15, 8, 42, 43, 44, 45, 46, 47, 48, 49, 50, 51, 52, 53, 54, 55, 56, 57, 58, 59, 60, 61, 62, 63, 64, 65, 66, 67] rfl (by decide +kernel)
set_option maxRecDepth 20000 in
theorem gX8_times_X8_isThere : GoodIn wsX8_times (wsV RX8 192 RX8 yX8_isThere wsX8_isThere) := goodIn_app (goodIn_r _ [11, 12, 13, 14] rfl (by decide +kernel)) ggX8_times_X8_isThere
set_option maxRecDepth 20000 in
theorem ggX8_times_X8_isTime : GoodIn wsX8_times wsX8_isTime := goodIn_r _ [31, 32, 33, 34, 35, 36, 14, 37, 8, 20, 21, 22, 42, 43, 44, 45, 46, 47, 48, 49, 50, 51, 52, 53, 54, 55, 56, 57, 58, 59, 60, 61, 62, 63, 64, 65, 66, 67] rfl (by decide +kernel)
set_option maxRecDepth 20000 in
theorem gX8_times_X8_isTime : GoodIn wsX8_times (wsV RX8 216 RX8 yX8_isTime wsX8_isTime) := goodIn_app (goodIn_r _ [28, 29, 30, 14] rfl (by decide +kernel)) ggX8_times_X8_isTime
/-! X8_times -/
abbrev rm_X8_times : Room := { frames := 3, cells := 0, slots := 0, locals := 70 }
theorem iw_X8_times_8 : ∀ w ∈ wsX80, w ∈ wsX8_times := fun _ h => List.mem_cons_of_mem _ (List.mem_append_right _ h)
theorem fl_X8_times_50 : Cond.fieldLink RX8 50 "NightStonesModel" "thrown" "I" ∈ wsX8_times := List.mem_of_getElem? (i := 1) rfl
theorem wd_X8_times_c70 : Cond.constant RX8 70 (-1000001) ∈ wsX8_times := List.mem_of_getElem? (i := 4) rfl
theorem wd_X8_times_c224 : Cond.constantLong RX8 224 (10) ∈ wsX8_times := List.mem_of_getElem? (i := 3) rfl
theorem fl_X8_times_7 : Cond.fieldLink RX8 7 "NightStonesModel" "lane" "[I" ∈ wsX8_times := List.mem_of_getElem? (i := 5) rfl
theorem fl_X8_times_13 : Cond.fieldLink RX8 13 "NightStonesModel" "many" "[I" ∈ wsX8_times := List.mem_of_getElem? (i := 6) rfl
theorem fl_X8_times_19 : Cond.fieldLink RX8 19 "NightStonesModel" "road" "[I" ∈ wsX8_times := List.mem_of_getElem? (i := 8) rfl
theorem fl_X8_times_54 : Cond.fieldLink RX8 54 "NightStonesModel" "status" "I" ∈ wsX8_times := List.mem_of_getElem? (i := 10) rfl
theorem fl_X8_times_16 : Cond.fieldLink RX8 16 "NightStonesModel" "item" "[I" ∈ wsX8_times := List.mem_of_getElem? (i := 7) rfl
theorem wd_X8_times_c80 : Cond.constant RX8 80 (-1000003) ∈ wsX8_times := List.mem_of_getElem? (i := 9) rfl
theorem wd_X8_times_c196 : Cond.constant RX8 196 (-1000002) ∈ wsX8_times := List.mem_of_getElem? (i := 2) rfl
def S_X8_times_192 (X : Nat → Nat → Int32) (v3 : Int32) (x4 : Int32) (c0_0 : Int32) (c0_1 : Int32) (K : Int32 → (Nat → Nat → Int32) → Prop) (R192 : Int32 → (Nat → Int32) → Prop) (x5 : Int32) (c4_c : Nat → Int32) : Prop := ((v3 ≤ x5 → K (c4_c 7) (va_up (va_up X 0 (upd (upd (X 0) 0 c0_0) 1 c0_1)) 4 c4_c)) ∧ (¬ (v3 ≤ x5) → (vp_in (x4 + (4 * x5)) 320 ∧ (vp_in ((x4 + (4 * x5)) + 1) 320 ∧ (vp_in ((x4 + (4 * x5)) + 2) 320 ∧ (vp_in ((x4 + (4 * x5)) + 3) 320 ∧ wp_X8_addTime c4_c ((X 3) (x4 + (4 * x5)).toNatClampNeg) ((X 3) ((x4 + (4 * x5)) + 1).toNatClampNeg) ((X 3) ((x4 + (4 * x5)) + 2).toNatClampNeg) ((X 3) ((x4 + (4 * x5)) + 3).toNatClampNeg) (fun m21 => R192 (x5 + 1) m21)))))))
set_option maxHeartbeats 4000000 in
set_option maxRecDepth 100000 in
theorem t_X8_times_192 {y : nz_Y} {g : nz_G} (F : nz_F y g cX8_times 6 wsX8_times RX8 (some .int) rm_X8_times) {wc0 : va_W} {sz : Nat} {K : Int32 → (Nat → Nat → Int32) → Prop} (a : Nat → Nat) (X : Nat → Nat → Int32) (v1 : Int32) (v2 : Int32) (v3 : Int32) (x4 : Int32) (c0_0 : Int32) (c0_1 : Int32) (hQ : yz_A y = va_A wc0 sz ∧ yz_Q y = MQ (yz_b y) ((nz_Qi g wc0 (fun r (u : Nat → Nat → Int32) => K r u) (fun u => nz_wM g a u)) sz) (yz_a y) (yz_s y) 0 0 (va_A wc0 sz)) : ∀ (n1 : Nat) (x5 : Int32) (c4_c : Nat → Int32), nz_it (fun _ _ => False) (S_X8_times_192 X v3 x4 c0_0 c0_1 K) n1 x5 c4_c → nz_V y g 0 0 [((a 0), .inr (8, [.int c0_0, .int c0_1, .ref (a 1), .ref (a 2), .ref (a 3), .ref (a 4), .ref (a 5), .ref (a 6), .int (X 0 8), .ref (a 7), .int (X 0 10), .int (X 0 11), .int (X 0 12), .int (X 0 13), .int (X 0 14), .int (X 0 15), .int (X 0 16), .int (X 0 17), .int (X 0 18), .ref (a 8), .ref (a 9), .ref (a 10), .ref (a 11), .ref (a 12), .ref (a 13), .int (X 0 25)])), ((a 1), .inl (nz_cI g, 8, .inl (X 1))), ((a 2), .inl (nz_cI g, 8, .inl (X 2))), ((a 3), .inl (nz_cI g, 320, .inl (X 3))), ((a 4), .inl (nz_cI g, 94, .inl c4_c)), ((a 5), .inl (nz_cI g, 94, .inl (X 5))), ((a 6), .inl (nz_cI g, 168, .inl (X 6))), ((a 7), .inl (nz_cI g, 400, .inl (X 7))), ((a 8), .inl (nz_cI g, 6, .inl (X 8))), ((a 9), .inl (nz_cI g, 49, .inl (X 9))), ((a 10), .inl (nz_cI g, 6, .inl (X 10))), ((a 11), .inl (nz_cZ g, 2, .inl (X 11))), ((a 12), .inl (nz_cI g, 188, .inl (X 12))), ((a 13), .inl (nz_cI g, 16, .inl (X 13)))] 192 [(0, .ref (a 0)), (3, .int v3), (4, .int x4), (5, .int x5)] [] := by
  intro n1
  induction n1 with
  | zero =>
    intro x5 c4_c h
    exact h.elim
  | succ n1 hR192 =>
    intro x5 c4_c h
    have h : S_X8_times_192 X v3 x4 c0_0 c0_1 K (nz_it (fun _ _ => False) (S_X8_times_192 X v3 x4 c0_0 c0_1 K) n1) x5 c4_c := h
    unfold S_X8_times_192 at h
    refine nz_iload F dX8_times_192 3 rfl ?_
    refine nz_iload_n F dX8_times_194 rfl 1 rfl ?_
    refine nz_icmp_ge (tgt := 262) F dX8_times_195 (by decide) (fun c16 => ?_) (fun c16 => ?_)
    · have h := h.1 c16
      refine nz_aload_n F dX8_times_262 rfl 0 rfl ?_
      refine nz_get F iw_X8_times_8 0 rfl rfl 5 (by decide) rfl fl_X8_times_19 rfl dX8_times_263 ?_
      refine nz_bipush (v := 7) F dX8_times_266 (by decide) ?_
      refine nz_iald F 4 rfl (nz_inC rfl) dX8_times_268 ?_
      refine nz_vi (z := (c4_c 7)) rfl ?_
      exact nz_iret F hQ (va_up (va_up X 0 (upd (upd (X 0) 0 c0_0) 1 c0_1)) 4 c4_c) h rfl dX8_times_269
    · have h := h.2 c16
      refine nz_aload_n F dX8_times_198 rfl 0 rfl ?_
      refine nz_aload_n F dX8_times_199 rfl 0 rfl ?_
      refine nz_get F iw_X8_times_8 0 rfl rfl 4 (by decide) rfl fl_X8_times_16 rfl dX8_times_200 ?_
      refine nz_iload F dX8_times_203 2 rfl ?_
      refine nz_iconst (v := 4) F dX8_times_205 (by decide) ?_
      refine nz_iload F dX8_times_206 3 rfl ?_
      refine nz_imul F dX8_times_208 ?_
      refine nz_iadd F dX8_times_209 ?_
      obtain ⟨i17, h⟩ := h
      refine nz_iald F 3 rfl i17 dX8_times_210 ?_
      refine nz_aload_n F dX8_times_211 rfl 0 rfl ?_
      refine nz_get F iw_X8_times_8 0 rfl rfl 4 (by decide) rfl fl_X8_times_16 rfl dX8_times_212 ?_
      refine nz_iload F dX8_times_215 2 rfl ?_
      refine nz_iconst (v := 4) F dX8_times_217 (by decide) ?_
      refine nz_iload F dX8_times_218 3 rfl ?_
      refine nz_imul F dX8_times_220 ?_
      refine nz_iadd F dX8_times_221 ?_
      refine nz_iconst (v := 1) F dX8_times_222 (by decide) ?_
      refine nz_iadd F dX8_times_223 ?_
      obtain ⟨i18, h⟩ := h
      refine nz_iald F 3 rfl i18 dX8_times_224 ?_
      refine nz_aload_n F dX8_times_225 rfl 0 rfl ?_
      refine nz_get F iw_X8_times_8 0 rfl rfl 4 (by decide) rfl fl_X8_times_16 rfl dX8_times_226 ?_
      refine nz_iload F dX8_times_229 2 rfl ?_
      refine nz_iconst (v := 4) F dX8_times_231 (by decide) ?_
      refine nz_iload F dX8_times_232 3 rfl ?_
      refine nz_imul F dX8_times_234 ?_
      refine nz_iadd F dX8_times_235 ?_
      refine nz_iconst (v := 2) F dX8_times_236 (by decide) ?_
      refine nz_iadd F dX8_times_237 ?_
      obtain ⟨i19, h⟩ := h
      refine nz_iald F 3 rfl i19 dX8_times_238 ?_
      refine nz_aload_n F dX8_times_239 rfl 0 rfl ?_
      refine nz_get F iw_X8_times_8 0 rfl rfl 4 (by decide) rfl fl_X8_times_16 rfl dX8_times_240 ?_
      refine nz_iload F dX8_times_243 2 rfl ?_
      refine nz_iconst (v := 4) F dX8_times_245 (by decide) ?_
      refine nz_iload F dX8_times_246 3 rfl ?_
      refine nz_imul F dX8_times_248 ?_
      refine nz_iadd F dX8_times_249 ?_
      refine nz_iconst (v := 3) F dX8_times_250 (by decide) ?_
      refine nz_iadd F dX8_times_251 ?_
      obtain ⟨i20, h⟩ := h
      refine nz_iald F 3 rfl i20 dX8_times_252 ?_
      refine k_X8_addTime (a 0) (a 1) (a 2) (a 3) (a 4) (a 5) (a 6) (a 7) (a 8) (a 9) (a 10) (a 11) (a 12) (a 13) c0_0 c0_1 (X 0 8) (X 0 10) (X 0 11) (X 0 12) (X 0 13) (X 0 14) (X 0 15) (X 0 16) (X 0 17) (X 0 18) (X 0 25) (X 1) (X 2) (X 3) c4_c (X 5) (X 6) (X 7) (X 8) (X 9) (X 10) (X 11) (X 12) (X 13) ((X 3) (x4 + (4 * x5)).toNatClampNeg) ((X 3) ((x4 + (4 * x5)) + 1).toNatClampNeg) ((X 3) ((x4 + (4 * x5)) + 2).toNatClampNeg) ((X 3) ((x4 + (4 * x5)) + 3).toNatClampNeg) (fun hM => nz_runV F gX8_times_X8_addTime rfl hd_X8_addTime rfl hM dX8_times_253 [0, 1, 2, 3, 4, 5, 6, 7, 8, 9, 10, 11, 12, 13] rfl rfl 0 rfl rfl rfl (Nat.le_of_ble_eq_true rfl) rfl) h (fun m21 => [((a 0), .inr (8, [.int c0_0, .int c0_1, .ref (a 1), .ref (a 2), .ref (a 3), .ref (a 4), .ref (a 5), .ref (a 6), .int (X 0 8), .ref (a 7), .int (X 0 10), .int (X 0 11), .int (X 0 12), .int (X 0 13), .int (X 0 14), .int (X 0 15), .int (X 0 16), .int (X 0 17), .int (X 0 18), .ref (a 8), .ref (a 9), .ref (a 10), .ref (a 11), .ref (a 12), .ref (a 13), .int (X 0 25)])), ((a 1), .inl (nz_cI g, 8, .inl (X 1))), ((a 2), .inl (nz_cI g, 8, .inl (X 2))), ((a 3), .inl (nz_cI g, 320, .inl (X 3))), ((a 4), .inl (nz_cI g, 94, .inl m21)), ((a 5), .inl (nz_cI g, 94, .inl (X 5))), ((a 6), .inl (nz_cI g, 168, .inl (X 6))), ((a 7), .inl (nz_cI g, 400, .inl (X 7))), ((a 8), .inl (nz_cI g, 6, .inl (X 8))), ((a 9), .inl (nz_cI g, 49, .inl (X 9))), ((a 10), .inl (nz_cI g, 6, .inl (X 10))), ((a 11), .inl (nz_cZ g, 2, .inl (X 11))), ((a 12), .inl (nz_cI g, 188, .inl (X 12))), ((a 13), .inl (nz_cI g, 16, .inl (X 13)))]) (fun _ => rfl) (fun m21 h => ?_)
      refine nz_iinc (v := (x5 + 1)) (j := 3) (lv' := [(5, .int (x5 + 1)), (0, .ref (a 0)), (3, .int v3), (4, .int x4)]) F dX8_times_256 rfl rfl (by decide) rfl ?_
      refine nz_goto (tgt := 192) F dX8_times_259 (by decide) ?_
      refine nz_ls (lv' := [(0, .ref (a 0)), (3, .int v3), (4, .int x4), (5, .int (x5 + 1))]) [1, 2, 3, 0] rfl ?_
      exact hR192 (x5 + 1) m21 h
def S_X8_times_91 (X : Nat → Nat → Int32) (v3 : Int32) (x4 : Int32) (c0_0 : Int32) (c0_1 : Int32) (c4_c : Nat → Int32) (K : Int32 → (Nat → Nat → Int32) → Prop) (R91 : Int32 → Prop) (x5 : Int32) : Prop := ((v3 ≤ x5 → ((((c4_c 7) + v3) ≤ 12 → (∃ n, nz_it (fun _ _ => False) (S_X8_times_192 X v3 x4 c0_0 0 K) n 0 c4_c)) ∧ (¬ (((c4_c 7) + v3) ≤ 12) → K (-1000003 : Int32) (va_up (va_up X 0 (upd (upd (X 0) 0 c0_0) 1 c0_1)) 4 c4_c)))) ∧ (¬ (v3 ≤ x5) → (vp_in (x4 + (4 * x5)) 320 ∧ (vp_in ((x4 + (4 * x5)) + 1) 320 ∧ (vp_in ((x4 + (4 * x5)) + 2) 320 ∧ (vp_in ((x4 + (4 * x5)) + 3) 320 ∧ wp_X8_isTime c4_c ((X 3) (x4 + (4 * x5)).toNatClampNeg) ((X 3) ((x4 + (4 * x5)) + 1).toNatClampNeg) ((X 3) ((x4 + (4 * x5)) + 2).toNatClampNeg) ((X 3) ((x4 + (4 * x5)) + 3).toNatClampNeg) (fun q26 => ((¬ q26 = 0 → R91 (x5 + 1)) ∧ (q26 = 0 → K (-1000001 : Int32) (va_up (va_up X 0 (upd (upd (X 0) 0 c0_0) 1 c0_1)) 4 c4_c))))))))))
set_option maxHeartbeats 4000000 in
set_option maxRecDepth 100000 in
theorem t_X8_times_91 {y : nz_Y} {g : nz_G} (F : nz_F y g cX8_times 6 wsX8_times RX8 (some .int) rm_X8_times) {wc0 : va_W} {sz : Nat} {K : Int32 → (Nat → Nat → Int32) → Prop} (a : Nat → Nat) (X : Nat → Nat → Int32) (v1 : Int32) (v2 : Int32) (v3 : Int32) (x4 : Int32) (c0_0 : Int32) (c0_1 : Int32) (c4_c : Nat → Int32) (hQ : yz_A y = va_A wc0 sz ∧ yz_Q y = MQ (yz_b y) ((nz_Qi g wc0 (fun r (u : Nat → Nat → Int32) => K r u) (fun u => nz_wM g a u)) sz) (yz_a y) (yz_s y) 0 0 (va_A wc0 sz)) : ∀ (n1 : Nat) (x5 : Int32), nz_it (fun _ => False) (S_X8_times_91 X v3 x4 c0_0 c0_1 c4_c K) n1 x5 → nz_V y g 0 0 [((a 0), .inr (8, [.int c0_0, .int c0_1, .ref (a 1), .ref (a 2), .ref (a 3), .ref (a 4), .ref (a 5), .ref (a 6), .int (X 0 8), .ref (a 7), .int (X 0 10), .int (X 0 11), .int (X 0 12), .int (X 0 13), .int (X 0 14), .int (X 0 15), .int (X 0 16), .int (X 0 17), .int (X 0 18), .ref (a 8), .ref (a 9), .ref (a 10), .ref (a 11), .ref (a 12), .ref (a 13), .int (X 0 25)])), ((a 1), .inl (nz_cI g, 8, .inl (X 1))), ((a 2), .inl (nz_cI g, 8, .inl (X 2))), ((a 3), .inl (nz_cI g, 320, .inl (X 3))), ((a 4), .inl (nz_cI g, 94, .inl c4_c)), ((a 5), .inl (nz_cI g, 94, .inl (X 5))), ((a 6), .inl (nz_cI g, 168, .inl (X 6))), ((a 7), .inl (nz_cI g, 400, .inl (X 7))), ((a 8), .inl (nz_cI g, 6, .inl (X 8))), ((a 9), .inl (nz_cI g, 49, .inl (X 9))), ((a 10), .inl (nz_cI g, 6, .inl (X 10))), ((a 11), .inl (nz_cZ g, 2, .inl (X 11))), ((a 12), .inl (nz_cI g, 188, .inl (X 12))), ((a 13), .inl (nz_cI g, 16, .inl (X 13)))] 91 [(0, .ref (a 0)), (3, .int v3), (4, .int x4), (5, .int x5)] [] := by
  intro n1
  induction n1 with
  | zero =>
    intro x5 h
    exact h.elim
  | succ n1 hR91 =>
    intro x5 h
    have h : S_X8_times_91 X v3 x4 c0_0 c0_1 c4_c K (nz_it (fun _ => False) (S_X8_times_91 X v3 x4 c0_0 c0_1 c4_c K) n1) x5 := h
    unfold S_X8_times_91 at h
    refine nz_iload F dX8_times_91 3 rfl ?_
    refine nz_iload_n F dX8_times_93 rfl 1 rfl ?_
    refine nz_icmp_ge (tgt := 167) F dX8_times_94 (by decide) (fun c14 => ?_) (fun c14 => ?_)
    · have h := h.1 c14
      refine nz_aload_n F dX8_times_167 rfl 0 rfl ?_
      refine nz_get F iw_X8_times_8 0 rfl rfl 5 (by decide) rfl fl_X8_times_19 rfl dX8_times_168 ?_
      refine nz_bipush (v := 7) F dX8_times_171 (by decide) ?_
      refine nz_iald F 4 rfl (nz_inC rfl) dX8_times_173 ?_
      refine nz_vi (z := (c4_c 7)) rfl ?_
      refine nz_iload_n F dX8_times_174 rfl 1 rfl ?_
      refine nz_iadd F dX8_times_175 ?_
      refine nz_bipush (v := 12) F dX8_times_176 (by decide) ?_
      refine nz_icmp_le (tgt := 184) F dX8_times_178 (by decide) (fun c15 => ?_) (fun c15 => ?_)
      · have h := h.1 c15
        refine nz_aload_n F dX8_times_184 rfl 0 rfl ?_
        refine nz_iconst (v := 0) F dX8_times_185 (by decide) ?_
        refine nz_put (ws' := [((a 0), .inr (8, [.int c0_0, .int 0, .ref (a 1), .ref (a 2), .ref (a 3), .ref (a 4), .ref (a 5), .ref (a 6), .int (X 0 8), .ref (a 7), .int (X 0 10), .int (X 0 11), .int (X 0 12), .int (X 0 13), .int (X 0 14), .int (X 0 15), .int (X 0 16), .int (X 0 17), .int (X 0 18), .ref (a 8), .ref (a 9), .ref (a 10), .ref (a 11), .ref (a 12), .ref (a 13), .int (X 0 25)])), ((a 1), .inl (nz_cI g, 8, .inl (X 1))), ((a 2), .inl (nz_cI g, 8, .inl (X 2))), ((a 3), .inl (nz_cI g, 320, .inl (X 3))), ((a 4), .inl (nz_cI g, 94, .inl c4_c)), ((a 5), .inl (nz_cI g, 94, .inl (X 5))), ((a 6), .inl (nz_cI g, 168, .inl (X 6))), ((a 7), .inl (nz_cI g, 400, .inl (X 7))), ((a 8), .inl (nz_cI g, 6, .inl (X 8))), ((a 9), .inl (nz_cI g, 49, .inl (X 9))), ((a 10), .inl (nz_cI g, 6, .inl (X 10))), ((a 11), .inl (nz_cZ g, 2, .inl (X 11))), ((a 12), .inl (nz_cI g, 188, .inl (X 12))), ((a 13), .inl (nz_cI g, 16, .inl (X 13)))]) F iw_X8_times_8 tyX8 tyX8_ok nmX8 0 rfl rfl 1 (by decide) rfl fl_X8_times_54 rfl rfl (Nat.le_of_ble_eq_true rfl) dX8_times_186 rfl ?_
        refine nz_iconst (v := 0) F dX8_times_189 (by decide) ?_
        refine nz_istore (lv' := [(5, .int 0), (0, .ref (a 0)), (3, .int v3), (4, .int x4)]) F dX8_times_190 (by decide) rfl ?_
        refine nz_ls (lv' := [(0, .ref (a 0)), (3, .int v3), (4, .int x4), (5, .int 0)]) [1, 2, 3, 0] rfl ?_
        obtain ⟨n1, h⟩ := h
        exact t_X8_times_192 F a X v1 v2 v3 x4 c0_0 0 hQ n1 0 c4_c h
      · have h := h.2 c15
        refine nz_ldc (v := (-1000003 : Int32)) F wd_X8_times_c80 dX8_times_181 ?_
        exact nz_iret F hQ (va_up (va_up X 0 (upd (upd (X 0) 0 c0_0) 1 c0_1)) 4 c4_c) h rfl dX8_times_183
    · have h := h.2 c14
      refine nz_aload_n F dX8_times_97 rfl 0 rfl ?_
      refine nz_aload_n F dX8_times_98 rfl 0 rfl ?_
      refine nz_get F iw_X8_times_8 0 rfl rfl 4 (by decide) rfl fl_X8_times_16 rfl dX8_times_99 ?_
      refine nz_iload F dX8_times_102 2 rfl ?_
      refine nz_iconst (v := 4) F dX8_times_104 (by decide) ?_
      refine nz_iload F dX8_times_105 3 rfl ?_
      refine nz_imul F dX8_times_107 ?_
      refine nz_iadd F dX8_times_108 ?_
      obtain ⟨i22, h⟩ := h
      refine nz_iald F 3 rfl i22 dX8_times_109 ?_
      refine nz_aload_n F dX8_times_110 rfl 0 rfl ?_
      refine nz_get F iw_X8_times_8 0 rfl rfl 4 (by decide) rfl fl_X8_times_16 rfl dX8_times_111 ?_
      refine nz_iload F dX8_times_114 2 rfl ?_
      refine nz_iconst (v := 4) F dX8_times_116 (by decide) ?_
      refine nz_iload F dX8_times_117 3 rfl ?_
      refine nz_imul F dX8_times_119 ?_
      refine nz_iadd F dX8_times_120 ?_
      refine nz_iconst (v := 1) F dX8_times_121 (by decide) ?_
      refine nz_iadd F dX8_times_122 ?_
      obtain ⟨i23, h⟩ := h
      refine nz_iald F 3 rfl i23 dX8_times_123 ?_
      refine nz_aload_n F dX8_times_124 rfl 0 rfl ?_
      refine nz_get F iw_X8_times_8 0 rfl rfl 4 (by decide) rfl fl_X8_times_16 rfl dX8_times_125 ?_
      refine nz_iload F dX8_times_128 2 rfl ?_
      refine nz_iconst (v := 4) F dX8_times_130 (by decide) ?_
      refine nz_iload F dX8_times_131 3 rfl ?_
      refine nz_imul F dX8_times_133 ?_
      refine nz_iadd F dX8_times_134 ?_
      refine nz_iconst (v := 2) F dX8_times_135 (by decide) ?_
      refine nz_iadd F dX8_times_136 ?_
      obtain ⟨i24, h⟩ := h
      refine nz_iald F 3 rfl i24 dX8_times_137 ?_
      refine nz_aload_n F dX8_times_138 rfl 0 rfl ?_
      refine nz_get F iw_X8_times_8 0 rfl rfl 4 (by decide) rfl fl_X8_times_16 rfl dX8_times_139 ?_
      refine nz_iload F dX8_times_142 2 rfl ?_
      refine nz_iconst (v := 4) F dX8_times_144 (by decide) ?_
      refine nz_iload F dX8_times_145 3 rfl ?_
      refine nz_imul F dX8_times_147 ?_
      refine nz_iadd F dX8_times_148 ?_
      refine nz_iconst (v := 3) F dX8_times_149 (by decide) ?_
      refine nz_iadd F dX8_times_150 ?_
      obtain ⟨i25, h⟩ := h
      refine nz_iald F 3 rfl i25 dX8_times_151 ?_
      refine k_X8_isTime (a 0) (a 1) (a 2) (a 3) (a 4) (a 5) (a 6) (a 7) (a 8) (a 9) (a 10) (a 11) (a 12) (a 13) c0_0 c0_1 (X 0 8) (X 0 10) (X 0 11) (X 0 12) (X 0 13) (X 0 14) (X 0 15) (X 0 16) (X 0 17) (X 0 18) (X 0 25) (X 1) (X 2) (X 3) c4_c (X 5) (X 6) (X 7) (X 8) (X 9) (X 10) (X 11) (X 12) (X 13) ((X 3) (x4 + (4 * x5)).toNatClampNeg) ((X 3) ((x4 + (4 * x5)) + 1).toNatClampNeg) ((X 3) ((x4 + (4 * x5)) + 2).toNatClampNeg) ((X 3) ((x4 + (4 * x5)) + 3).toNatClampNeg) (fun hM => nz_runV F gX8_times_X8_isTime rfl hd_X8_isTime rfl hM dX8_times_152 [0, 1, 2, 3, 4, 5, 6, 7, 8, 9, 10, 11, 12, 13] rfl rfl 0 rfl rfl rfl (Nat.le_of_ble_eq_true rfl) rfl) h ([((a 0), .inr (8, [.int c0_0, .int c0_1, .ref (a 1), .ref (a 2), .ref (a 3), .ref (a 4), .ref (a 5), .ref (a 6), .int (X 0 8), .ref (a 7), .int (X 0 10), .int (X 0 11), .int (X 0 12), .int (X 0 13), .int (X 0 14), .int (X 0 15), .int (X 0 16), .int (X 0 17), .int (X 0 18), .ref (a 8), .ref (a 9), .ref (a 10), .ref (a 11), .ref (a 12), .ref (a 13), .int (X 0 25)])), ((a 1), .inl (nz_cI g, 8, .inl (X 1))), ((a 2), .inl (nz_cI g, 8, .inl (X 2))), ((a 3), .inl (nz_cI g, 320, .inl (X 3))), ((a 4), .inl (nz_cI g, 94, .inl c4_c)), ((a 5), .inl (nz_cI g, 94, .inl (X 5))), ((a 6), .inl (nz_cI g, 168, .inl (X 6))), ((a 7), .inl (nz_cI g, 400, .inl (X 7))), ((a 8), .inl (nz_cI g, 6, .inl (X 8))), ((a 9), .inl (nz_cI g, 49, .inl (X 9))), ((a 10), .inl (nz_cI g, 6, .inl (X 10))), ((a 11), .inl (nz_cZ g, 2, .inl (X 11))), ((a 12), .inl (nz_cI g, 188, .inl (X 12))), ((a 13), .inl (nz_cI g, 16, .inl (X 13)))]) (rfl) (fun q26 h => ?_)
      refine nz_if_ne (tgt := 161) F dX8_times_155 (by decide) (fun c27 => ?_) (fun c27 => ?_)
      · have h := h.1 c27
        refine nz_iinc (v := (x5 + 1)) (j := 3) (lv' := [(5, .int (x5 + 1)), (0, .ref (a 0)), (3, .int v3), (4, .int x4)]) F dX8_times_161 rfl rfl (by decide) rfl ?_
        refine nz_goto (tgt := 91) F dX8_times_164 (by decide) ?_
        refine nz_ls (lv' := [(0, .ref (a 0)), (3, .int v3), (4, .int x4), (5, .int (x5 + 1))]) [1, 2, 3, 0] rfl ?_
        exact hR91 (x5 + 1) h
      · have h := h.2 c27
        refine nz_ldc (v := (-1000001 : Int32)) F wd_X8_times_c70 dX8_times_158 ?_
        exact nz_iret F hQ (va_up (va_up X 0 (upd (upd (X 0) 0 c0_0) 1 c0_1)) 4 c4_c) h rfl dX8_times_160
def wp_X8_times (X : Nat → Nat → Int32) (v1 : Int32) (v2 : Int32) (v3 : Int32) (K : Int32 → (Nat → Nat → Int32) → Prop) : Prop := wp_X8_isThere (X 4) (fun q1 => ((¬ q1 = 0 → wp_X8_isRow v1 (fun q3 => ((q3 = 0 → K (-1000001 : Int32) (va_up X 0 (upd (X 0) 0 0))) ∧ (¬ (q3 = 0) → wp_X8_in ((v3 : Int32).toInt64) 1 10 (fun q5 => ((¬ q5 = 0 → (vp_in v1 8 ∧ ((0 ≤ ((X 1) v1.toNatClampNeg) → ((v2 < 0 → wp_X8_finding 2 (fun q10 m11 => K q10 (va_up X 0 (upd (upd (X 0) 0 0) 1 m11)))) ∧ (¬ (v2 < 0) → (vp_in v1 8 ∧ (((lg_cmp (((v2 : Int32).toInt64) + (((4 * v3) : Int32).toInt64)) ((((X 2) v1.toNatClampNeg) : Int32).toInt64)) ≤ 0 → (∃ n, nz_it (fun _ => False) (S_X8_times_91 X v3 ((40 * v1) + v2) 0 (X 0 1) (X 4) K) n 0)) ∧ (¬ ((lg_cmp (((v2 : Int32).toInt64) + (((4 * v3) : Int32).toInt64)) ((((X 2) v1.toNatClampNeg) : Int32).toInt64)) ≤ 0) → wp_X8_finding 2 (fun q28 m29 => K q28 (va_up X 0 (upd (upd (X 0) 0 0) 1 m29))))))))) ∧ (¬ (0 ≤ ((X 1) v1.toNatClampNeg)) → wp_X8_finding 1 (fun q30 m31 => K q30 (va_up X 0 (upd (upd (X 0) 0 0) 1 m31))))))) ∧ (q5 = 0 → K (-1000001 : Int32) (va_up X 0 (upd (X 0) 0 0))))))))) ∧ (q1 = 0 → K (-1000002 : Int32) (va_up X 0 (upd (X 0) 0 0)))))
set_option maxHeartbeats 4000000 in
set_option maxRecDepth 100000 in
theorem c_X8_times (l : Launch) (g : nz_G) (a : Nat → Nat) (X : Nat → Nat → Int32) (v1 : Int32) (v2 : Int32) (v3 : Int32) (K : Int32 → (Nat → Nat → Int32) → Prop) (h : wp_X8_times X v1 v2 v3 K) : nz_M l yX8_times wsX8_times rm_X8_times g [.ref (a 0), .int v1, .int v2, .int v3] (nz_wM g a X) (nz_Qi g (nz_wM g a X) (fun r (u : Nat → Nat → Int32) => K r u) (fun u => nz_wM g a u)) := by
  refine nz_M.of (bytes := cX8_times) (nL := 6) (ret := (some .int)) (own := RX8) (by decide) rfl rfl ⟨rfl, rfl⟩ rfl ?_
  intro y F hl hQ
  obtain ⟨sz, hQ⟩ := hQ
  refine nz_ent (lv' := [(0, .ref (a 0)), (1, .int v1), (2, .int v2), (3, .int v3)]) rfl ?_
  unfold wp_X8_times at h
  refine nz_aload_n F dX8_times_0 rfl 0 rfl ?_
  refine nz_iconst (v := 0) F dX8_times_1 (by decide) ?_
  refine nz_put (ws' := [((a 0), .inr (8, [.int 0, .int (X 0 1), .ref (a 1), .ref (a 2), .ref (a 3), .ref (a 4), .ref (a 5), .ref (a 6), .int (X 0 8), .ref (a 7), .int (X 0 10), .int (X 0 11), .int (X 0 12), .int (X 0 13), .int (X 0 14), .int (X 0 15), .int (X 0 16), .int (X 0 17), .int (X 0 18), .ref (a 8), .ref (a 9), .ref (a 10), .ref (a 11), .ref (a 12), .ref (a 13), .int (X 0 25)])), ((a 1), .inl (nz_cI g, 8, .inl (X 1))), ((a 2), .inl (nz_cI g, 8, .inl (X 2))), ((a 3), .inl (nz_cI g, 320, .inl (X 3))), ((a 4), .inl (nz_cI g, 94, .inl (X 4))), ((a 5), .inl (nz_cI g, 94, .inl (X 5))), ((a 6), .inl (nz_cI g, 168, .inl (X 6))), ((a 7), .inl (nz_cI g, 400, .inl (X 7))), ((a 8), .inl (nz_cI g, 6, .inl (X 8))), ((a 9), .inl (nz_cI g, 49, .inl (X 9))), ((a 10), .inl (nz_cI g, 6, .inl (X 10))), ((a 11), .inl (nz_cZ g, 2, .inl (X 11))), ((a 12), .inl (nz_cI g, 188, .inl (X 12))), ((a 13), .inl (nz_cI g, 16, .inl (X 13)))]) F iw_X8_times_8 tyX8 tyX8_ok nmX8 0 rfl rfl 0 (by decide) rfl fl_X8_times_50 rfl rfl (Nat.le_of_ble_eq_true rfl) dX8_times_2 rfl ?_
  refine nz_aload_n F dX8_times_5 rfl 0 rfl ?_
  refine k_X8_isThere (a 0) (a 1) (a 2) (a 3) (a 4) (a 5) (a 6) (a 7) (a 8) (a 9) (a 10) (a 11) (a 12) (a 13) 0 (X 0 1) (X 0 8) (X 0 10) (X 0 11) (X 0 12) (X 0 13) (X 0 14) (X 0 15) (X 0 16) (X 0 17) (X 0 18) (X 0 25) (X 1) (X 2) (X 3) (X 4) (X 5) (X 6) (X 7) (X 8) (X 9) (X 10) (X 11) (X 12) (X 13) (fun hM => nz_runV F gX8_times_X8_isThere rfl hd_X8_isThere rfl hM dX8_times_6 [0, 1, 2, 3, 4, 5, 6, 7, 8, 9, 10, 11, 12, 13] rfl rfl 0 rfl rfl rfl (Nat.le_of_ble_eq_true rfl) rfl) h ([((a 0), .inr (8, [.int 0, .int (X 0 1), .ref (a 1), .ref (a 2), .ref (a 3), .ref (a 4), .ref (a 5), .ref (a 6), .int (X 0 8), .ref (a 7), .int (X 0 10), .int (X 0 11), .int (X 0 12), .int (X 0 13), .int (X 0 14), .int (X 0 15), .int (X 0 16), .int (X 0 17), .int (X 0 18), .ref (a 8), .ref (a 9), .ref (a 10), .ref (a 11), .ref (a 12), .ref (a 13), .int (X 0 25)])), ((a 1), .inl (nz_cI g, 8, .inl (X 1))), ((a 2), .inl (nz_cI g, 8, .inl (X 2))), ((a 3), .inl (nz_cI g, 320, .inl (X 3))), ((a 4), .inl (nz_cI g, 94, .inl (X 4))), ((a 5), .inl (nz_cI g, 94, .inl (X 5))), ((a 6), .inl (nz_cI g, 168, .inl (X 6))), ((a 7), .inl (nz_cI g, 400, .inl (X 7))), ((a 8), .inl (nz_cI g, 6, .inl (X 8))), ((a 9), .inl (nz_cI g, 49, .inl (X 9))), ((a 10), .inl (nz_cI g, 6, .inl (X 10))), ((a 11), .inl (nz_cZ g, 2, .inl (X 11))), ((a 12), .inl (nz_cI g, 188, .inl (X 12))), ((a 13), .inl (nz_cI g, 16, .inl (X 13)))]) (rfl) (fun q1 h => ?_)
  refine nz_if_ne (tgt := 15) F dX8_times_9 (by decide) (fun c2 => ?_) (fun c2 => ?_)
  · have h := h.1 c2
    refine nz_iload_n F dX8_times_15 rfl 1 rfl ?_
    refine k_X8_isRow v1 (fun hM => nz_runS F gX8_times_X8_isRow rfl hd_X8_isRow.2 rfl hM dX8_times_16 [] rfl rfl rfl (Nat.le_of_ble_eq_true rfl) rfl) h ([((a 0), .inr (8, [.int 0, .int (X 0 1), .ref (a 1), .ref (a 2), .ref (a 3), .ref (a 4), .ref (a 5), .ref (a 6), .int (X 0 8), .ref (a 7), .int (X 0 10), .int (X 0 11), .int (X 0 12), .int (X 0 13), .int (X 0 14), .int (X 0 15), .int (X 0 16), .int (X 0 17), .int (X 0 18), .ref (a 8), .ref (a 9), .ref (a 10), .ref (a 11), .ref (a 12), .ref (a 13), .int (X 0 25)])), ((a 1), .inl (nz_cI g, 8, .inl (X 1))), ((a 2), .inl (nz_cI g, 8, .inl (X 2))), ((a 3), .inl (nz_cI g, 320, .inl (X 3))), ((a 4), .inl (nz_cI g, 94, .inl (X 4))), ((a 5), .inl (nz_cI g, 94, .inl (X 5))), ((a 6), .inl (nz_cI g, 168, .inl (X 6))), ((a 7), .inl (nz_cI g, 400, .inl (X 7))), ((a 8), .inl (nz_cI g, 6, .inl (X 8))), ((a 9), .inl (nz_cI g, 49, .inl (X 9))), ((a 10), .inl (nz_cI g, 6, .inl (X 10))), ((a 11), .inl (nz_cZ g, 2, .inl (X 11))), ((a 12), .inl (nz_cI g, 188, .inl (X 12))), ((a 13), .inl (nz_cI g, 16, .inl (X 13)))]) (rfl) (fun q3 h => ?_)
    refine nz_if_eq (tgt := 34) F dX8_times_19 (by decide) (fun c4 => ?_) (fun c4 => ?_)
    · have h := h.1 c4
      refine nz_ldc (v := (-1000001 : Int32)) F wd_X8_times_c70 dX8_times_34 ?_
      exact nz_iret F hQ (va_up X 0 (upd (X 0) 0 0)) h rfl dX8_times_36
    · have h := h.2 c4
      refine nz_iload_n F dX8_times_22 rfl 3 rfl ?_
      refine nz_i2l (v := ((v3 : Int32).toInt64)) F dX8_times_23 rfl ?_
      refine nz_lconst (v := 1) F dX8_times_24 (by decide) ?_
      refine nz_ldc2 (v := 10) F wd_X8_times_c224 dX8_times_25 ?_
      refine k_X8_in ((v3 : Int32).toInt64) 1 10 (fun hM => nz_runS F gX8_times_X8_in rfl hd_X8_in.2 rfl hM dX8_times_28 [] rfl rfl rfl (Nat.le_of_ble_eq_true rfl) rfl) h ([((a 0), .inr (8, [.int 0, .int (X 0 1), .ref (a 1), .ref (a 2), .ref (a 3), .ref (a 4), .ref (a 5), .ref (a 6), .int (X 0 8), .ref (a 7), .int (X 0 10), .int (X 0 11), .int (X 0 12), .int (X 0 13), .int (X 0 14), .int (X 0 15), .int (X 0 16), .int (X 0 17), .int (X 0 18), .ref (a 8), .ref (a 9), .ref (a 10), .ref (a 11), .ref (a 12), .ref (a 13), .int (X 0 25)])), ((a 1), .inl (nz_cI g, 8, .inl (X 1))), ((a 2), .inl (nz_cI g, 8, .inl (X 2))), ((a 3), .inl (nz_cI g, 320, .inl (X 3))), ((a 4), .inl (nz_cI g, 94, .inl (X 4))), ((a 5), .inl (nz_cI g, 94, .inl (X 5))), ((a 6), .inl (nz_cI g, 168, .inl (X 6))), ((a 7), .inl (nz_cI g, 400, .inl (X 7))), ((a 8), .inl (nz_cI g, 6, .inl (X 8))), ((a 9), .inl (nz_cI g, 49, .inl (X 9))), ((a 10), .inl (nz_cI g, 6, .inl (X 10))), ((a 11), .inl (nz_cZ g, 2, .inl (X 11))), ((a 12), .inl (nz_cI g, 188, .inl (X 12))), ((a 13), .inl (nz_cI g, 16, .inl (X 13)))]) (rfl) (fun q5 h => ?_)
      refine nz_if_ne (tgt := 37) F dX8_times_31 (by decide) (fun c6 => ?_) (fun c6 => ?_)
      · have h := h.1 c6
        refine nz_aload_n F dX8_times_37 rfl 0 rfl ?_
        refine nz_get F iw_X8_times_8 0 rfl rfl 2 (by decide) rfl fl_X8_times_7 rfl dX8_times_38 ?_
        refine nz_iload_n F dX8_times_41 rfl 1 rfl ?_
        obtain ⟨i7, h⟩ := h
        refine nz_iald F 1 rfl i7 dX8_times_42 ?_
        refine nz_if_ge (tgt := 52) F dX8_times_43 (by decide) (fun c8 => ?_) (fun c8 => ?_)
        · have h := h.1 c8
          refine nz_iload_n F dX8_times_52 rfl 2 rfl ?_
          refine nz_if_lt (tgt := 74) F dX8_times_53 (by decide) (fun c9 => ?_) (fun c9 => ?_)
          · have h := h.1 c9
            refine nz_aload_n F dX8_times_74 rfl 0 rfl ?_
            refine nz_iconst (v := 2) F dX8_times_75 (by decide) ?_
            refine k_X8_finding (a 0) (a 1) (a 2) (a 3) (a 4) (a 5) (a 6) (a 7) (a 8) (a 9) (a 10) (a 11) (a 12) (a 13) 0 (X 0 1) (X 0 8) (X 0 10) (X 0 11) (X 0 12) (X 0 13) (X 0 14) (X 0 15) (X 0 16) (X 0 17) (X 0 18) (X 0 25) (X 1) (X 2) (X 3) (X 4) (X 5) (X 6) (X 7) (X 8) (X 9) (X 10) (X 11) (X 12) (X 13) 2 (fun hM => nz_runV F gX8_times_X8_finding rfl hd_X8_finding rfl hM dX8_times_76 [0, 1, 2, 3, 4, 5, 6, 7, 8, 9, 10, 11, 12, 13] rfl rfl 0 rfl rfl rfl (Nat.le_of_ble_eq_true rfl) rfl) h (fun m11 => [((a 0), .inr (8, [.int 0, .int m11, .ref (a 1), .ref (a 2), .ref (a 3), .ref (a 4), .ref (a 5), .ref (a 6), .int (X 0 8), .ref (a 7), .int (X 0 10), .int (X 0 11), .int (X 0 12), .int (X 0 13), .int (X 0 14), .int (X 0 15), .int (X 0 16), .int (X 0 17), .int (X 0 18), .ref (a 8), .ref (a 9), .ref (a 10), .ref (a 11), .ref (a 12), .ref (a 13), .int (X 0 25)])), ((a 1), .inl (nz_cI g, 8, .inl (X 1))), ((a 2), .inl (nz_cI g, 8, .inl (X 2))), ((a 3), .inl (nz_cI g, 320, .inl (X 3))), ((a 4), .inl (nz_cI g, 94, .inl (X 4))), ((a 5), .inl (nz_cI g, 94, .inl (X 5))), ((a 6), .inl (nz_cI g, 168, .inl (X 6))), ((a 7), .inl (nz_cI g, 400, .inl (X 7))), ((a 8), .inl (nz_cI g, 6, .inl (X 8))), ((a 9), .inl (nz_cI g, 49, .inl (X 9))), ((a 10), .inl (nz_cI g, 6, .inl (X 10))), ((a 11), .inl (nz_cZ g, 2, .inl (X 11))), ((a 12), .inl (nz_cI g, 188, .inl (X 12))), ((a 13), .inl (nz_cI g, 16, .inl (X 13)))]) (fun _ => rfl) (fun q10 m11 h => ?_)
            exact nz_iret F hQ (va_up X 0 (upd (upd (X 0) 0 0) 1 m11)) h rfl dX8_times_79
          · have h := h.2 c9
            refine nz_iload_n F dX8_times_56 rfl 2 rfl ?_
            refine nz_i2l (v := ((v2 : Int32).toInt64)) F dX8_times_57 rfl ?_
            refine nz_iconst (v := 4) F dX8_times_58 (by decide) ?_
            refine nz_iload_n F dX8_times_59 rfl 3 rfl ?_
            refine nz_imul F dX8_times_60 ?_
            refine nz_i2l (v := (((4 * v3) : Int32).toInt64)) F dX8_times_61 rfl ?_
            refine nz_ladd F dX8_times_62 ?_
            refine nz_aload_n F dX8_times_63 rfl 0 rfl ?_
            refine nz_get F iw_X8_times_8 0 rfl rfl 3 (by decide) rfl fl_X8_times_13 rfl dX8_times_64 ?_
            refine nz_iload_n F dX8_times_67 rfl 1 rfl ?_
            obtain ⟨i12, h⟩ := h
            refine nz_iald F 2 rfl i12 dX8_times_68 ?_
            refine nz_i2l (v := ((((X 2) v1.toNatClampNeg) : Int32).toInt64)) F dX8_times_69 rfl ?_
            refine nz_lcmp F dX8_times_70 ?_
            refine nz_if_le (tgt := 80) F dX8_times_71 (by decide) (fun c13 => ?_) (fun c13 => ?_)
            · have h := h.1 c13
              refine nz_bipush (v := 40) F dX8_times_80 (by decide) ?_
              refine nz_iload_n F dX8_times_82 rfl 1 rfl ?_
              refine nz_imul F dX8_times_83 ?_
              refine nz_iload_n F dX8_times_84 rfl 2 rfl ?_
              refine nz_iadd F dX8_times_85 ?_
              refine nz_istore (lv' := [(4, .int ((40 * v1) + v2)), (0, .ref (a 0)), (1, .int v1), (2, .int v2), (3, .int v3)]) F dX8_times_86 (by decide) rfl ?_
              refine nz_iconst (v := 0) F dX8_times_88 (by decide) ?_
              refine nz_istore (lv' := [(5, .int 0), (4, .int ((40 * v1) + v2)), (0, .ref (a 0)), (1, .int v1), (2, .int v2), (3, .int v3)]) F dX8_times_89 (by decide) rfl ?_
              refine nz_ls (lv' := [(0, .ref (a 0)), (3, .int v3), (4, .int ((40 * v1) + v2)), (5, .int 0)]) [2, 5, 1, 0] rfl ?_
              obtain ⟨n1, h⟩ := h
              exact t_X8_times_91 F a X v1 v2 v3 ((40 * v1) + v2) 0 (X 0 1) (X 4) hQ n1 0 h
            · have h := h.2 c13
              refine nz_aload_n F dX8_times_74 rfl 0 rfl ?_
              refine nz_iconst (v := 2) F dX8_times_75 (by decide) ?_
              refine k_X8_finding (a 0) (a 1) (a 2) (a 3) (a 4) (a 5) (a 6) (a 7) (a 8) (a 9) (a 10) (a 11) (a 12) (a 13) 0 (X 0 1) (X 0 8) (X 0 10) (X 0 11) (X 0 12) (X 0 13) (X 0 14) (X 0 15) (X 0 16) (X 0 17) (X 0 18) (X 0 25) (X 1) (X 2) (X 3) (X 4) (X 5) (X 6) (X 7) (X 8) (X 9) (X 10) (X 11) (X 12) (X 13) 2 (fun hM => nz_runV F gX8_times_X8_finding rfl hd_X8_finding rfl hM dX8_times_76 [0, 1, 2, 3, 4, 5, 6, 7, 8, 9, 10, 11, 12, 13] rfl rfl 0 rfl rfl rfl (Nat.le_of_ble_eq_true rfl) rfl) h (fun m29 => [((a 0), .inr (8, [.int 0, .int m29, .ref (a 1), .ref (a 2), .ref (a 3), .ref (a 4), .ref (a 5), .ref (a 6), .int (X 0 8), .ref (a 7), .int (X 0 10), .int (X 0 11), .int (X 0 12), .int (X 0 13), .int (X 0 14), .int (X 0 15), .int (X 0 16), .int (X 0 17), .int (X 0 18), .ref (a 8), .ref (a 9), .ref (a 10), .ref (a 11), .ref (a 12), .ref (a 13), .int (X 0 25)])), ((a 1), .inl (nz_cI g, 8, .inl (X 1))), ((a 2), .inl (nz_cI g, 8, .inl (X 2))), ((a 3), .inl (nz_cI g, 320, .inl (X 3))), ((a 4), .inl (nz_cI g, 94, .inl (X 4))), ((a 5), .inl (nz_cI g, 94, .inl (X 5))), ((a 6), .inl (nz_cI g, 168, .inl (X 6))), ((a 7), .inl (nz_cI g, 400, .inl (X 7))), ((a 8), .inl (nz_cI g, 6, .inl (X 8))), ((a 9), .inl (nz_cI g, 49, .inl (X 9))), ((a 10), .inl (nz_cI g, 6, .inl (X 10))), ((a 11), .inl (nz_cZ g, 2, .inl (X 11))), ((a 12), .inl (nz_cI g, 188, .inl (X 12))), ((a 13), .inl (nz_cI g, 16, .inl (X 13)))]) (fun _ => rfl) (fun q28 m29 h => ?_)
              exact nz_iret F hQ (va_up X 0 (upd (upd (X 0) 0 0) 1 m29)) h rfl dX8_times_79
        · have h := h.2 c8
          refine nz_aload_n F dX8_times_46 rfl 0 rfl ?_
          refine nz_iconst (v := 1) F dX8_times_47 (by decide) ?_
          refine k_X8_finding (a 0) (a 1) (a 2) (a 3) (a 4) (a 5) (a 6) (a 7) (a 8) (a 9) (a 10) (a 11) (a 12) (a 13) 0 (X 0 1) (X 0 8) (X 0 10) (X 0 11) (X 0 12) (X 0 13) (X 0 14) (X 0 15) (X 0 16) (X 0 17) (X 0 18) (X 0 25) (X 1) (X 2) (X 3) (X 4) (X 5) (X 6) (X 7) (X 8) (X 9) (X 10) (X 11) (X 12) (X 13) 1 (fun hM => nz_runV F gX8_times_X8_finding rfl hd_X8_finding rfl hM dX8_times_48 [0, 1, 2, 3, 4, 5, 6, 7, 8, 9, 10, 11, 12, 13] rfl rfl 0 rfl rfl rfl (Nat.le_of_ble_eq_true rfl) rfl) h (fun m31 => [((a 0), .inr (8, [.int 0, .int m31, .ref (a 1), .ref (a 2), .ref (a 3), .ref (a 4), .ref (a 5), .ref (a 6), .int (X 0 8), .ref (a 7), .int (X 0 10), .int (X 0 11), .int (X 0 12), .int (X 0 13), .int (X 0 14), .int (X 0 15), .int (X 0 16), .int (X 0 17), .int (X 0 18), .ref (a 8), .ref (a 9), .ref (a 10), .ref (a 11), .ref (a 12), .ref (a 13), .int (X 0 25)])), ((a 1), .inl (nz_cI g, 8, .inl (X 1))), ((a 2), .inl (nz_cI g, 8, .inl (X 2))), ((a 3), .inl (nz_cI g, 320, .inl (X 3))), ((a 4), .inl (nz_cI g, 94, .inl (X 4))), ((a 5), .inl (nz_cI g, 94, .inl (X 5))), ((a 6), .inl (nz_cI g, 168, .inl (X 6))), ((a 7), .inl (nz_cI g, 400, .inl (X 7))), ((a 8), .inl (nz_cI g, 6, .inl (X 8))), ((a 9), .inl (nz_cI g, 49, .inl (X 9))), ((a 10), .inl (nz_cI g, 6, .inl (X 10))), ((a 11), .inl (nz_cZ g, 2, .inl (X 11))), ((a 12), .inl (nz_cI g, 188, .inl (X 12))), ((a 13), .inl (nz_cI g, 16, .inl (X 13)))]) (fun _ => rfl) (fun q30 m31 h => ?_)
          exact nz_iret F hQ (va_up X 0 (upd (upd (X 0) 0 0) 1 m31)) h rfl dX8_times_51
      · have h := h.2 c6
        refine nz_ldc (v := (-1000001 : Int32)) F wd_X8_times_c70 dX8_times_34 ?_
        exact nz_iret F hQ (va_up X 0 (upd (X 0) 0 0)) h rfl dX8_times_36
  · have h := h.2 c2
    refine nz_ldc (v := (-1000002 : Int32)) F wd_X8_times_c196 dX8_times_12 ?_
    exact nz_iret F hQ (va_up X 0 (upd (X 0) 0 0)) h rfl dX8_times_14
theorem k_X8_times {y : nz_Y} {g : nz_G} {k n : Nat} {ws : va_W} {pc : Nat} {ls : List (Nat × Value)} {st rest : List Value} {av : Array Value} {isC : List Nat} {K : Int32 → (Nat → Nat → Int32) → Prop} (a : Nat → Nat) (X : Nat → Nat → Int32) (v1 : Int32) (v2 : Int32) (v3 : Int32) (run : nz_M (yz_l y) yX8_times wsX8_times rm_X8_times g [.ref (a 0), .int v1, .int v2, .int v3] (nz_wM g a X) (nz_Qi g (nz_wM g a X) (fun r (u : Nat → Nat → Int32) => K r u) (fun u => nz_wM g a u)) → nz_C y g k n ws pc ls st rest (nz_wM g a X) (nz_Qi g (nz_wM g a X) (fun r (u : Nat → Nat → Int32) => K r u) (fun u => nz_wM g a u)) av isC) (h : wp_X8_times X v1 v2 v3 K) (ws' : (Nat → Nat → Int32) → va_W) (hm : ∀ (m0 : (Nat → Nat → Int32)), nz_mrg ws isC (nz_wM g a m0) = ws' m0) (kk : ∀ (r : Int32) (m0 : (Nat → Nat → Int32)), K r m0 → nz_V y g k n (ws' m0) (pc + 3) ls (.int r :: rest)) : nz_V y g k n ws pc ls st :=
  nz_ci (ws' := fun u => ws' u) (run (c_X8_times (yz_l y) g a X v1 v2 v3 K h)) (fun _ => rfl) (fun u => hm u) (fun r u h => kk r u h)
