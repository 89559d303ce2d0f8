theorem dX8_keep_0 : decode cX8_keep 0 = .ok (.aload_n 0, 1) := by decide +kernel
theorem dX8_keep_1 : decode cX8_keep 1 = .ok (.getfield 177, 3) := by decide +kernel
theorem dX8_keep_4 : decode cX8_keep 4 = .ok (.bipush 24, 2) := by decide +kernel
theorem dX8_keep_6 : decode cX8_keep 6 = .ok (.if_icmp .ne 43, 3) := by decide +kernel
theorem dX8_keep_9 : decode cX8_keep 9 = .ok (.iconst 0, 1) := by decide +kernel
theorem dX8_keep_10 : decode cX8_keep 10 = .ok (.istore_n 1, 1) := by decide +kernel
theorem dX8_keep_11 : decode cX8_keep 11 = .ok (.iload_n 1, 1) := by decide +kernel
theorem dX8_keep_12 : decode cX8_keep 12 = .ok (.sipush 161, 3) := by decide +kernel
theorem dX8_keep_15 : decode cX8_keep 15 = .ok (.if_icmp .ge 24, 3) := by decide +kernel
theorem dX8_keep_18 : decode cX8_keep 18 = .ok (.aload_n 0, 1) := by decide +kernel
theorem dX8_keep_19 : decode cX8_keep 19 = .ok (.getfield 25, 3) := by decide +kernel
theorem dX8_keep_22 : decode cX8_keep 22 = .ok (.iload_n 1, 1) := by decide +kernel
theorem dX8_keep_23 : decode cX8_keep 23 = .ok (.aload_n 0, 1) := by decide +kernel
theorem dX8_keep_24 : decode cX8_keep 24 = .ok (.getfield 25, 3) := by decide +kernel
theorem dX8_keep_27 : decode cX8_keep 27 = .ok (.iload_n 1, 1) := by decide +kernel
theorem dX8_keep_28 : decode cX8_keep 28 = .ok (.bipush 7, 2) := by decide +kernel
theorem dX8_keep_30 : decode cX8_keep 30 = .ok (.iadd, 1) := by decide +kernel
theorem dX8_keep_31 : decode cX8_keep 31 = .ok (.iaload, 1) := by decide +kernel
theorem dX8_keep_32 : decode cX8_keep 32 = .ok (.iastore, 1) := by decide +kernel
theorem dX8_keep_33 : decode cX8_keep 33 = .ok (.iinc 1 1, 3) := by decide +kernel
theorem dX8_keep_36 : decode cX8_keep 36 = .ok (.goto (-25), 3) := by decide +kernel
theorem dX8_keep_39 : decode cX8_keep 39 = .ok (.aload_n 0, 1) := by decide +kernel
theorem dX8_keep_40 : decode cX8_keep 40 = .ok (.dup, 1) := by decide +kernel
theorem dX8_keep_41 : decode cX8_keep 41 = .ok (.getfield 177, 3) := by decide +kernel
theorem dX8_keep_44 : decode cX8_keep 44 = .ok (.iconst 1, 1) := by decide +kernel
theorem dX8_keep_45 : decode cX8_keep 45 = .ok (.isub, 1) := by decide +kernel
theorem dX8_keep_46 : decode cX8_keep 46 = .ok (.putfield 177, 3) := by decide +kernel
theorem dX8_keep_49 : decode cX8_keep 49 = .ok (.iconst 0, 1) := by decide +kernel
theorem dX8_keep_50 : decode cX8_keep 50 = .ok (.istore_n 1, 1) := by decide +kernel
theorem dX8_keep_51 : decode cX8_keep 51 = .ok (.iload_n 1, 1) := by decide +kernel
theorem dX8_keep_52 : decode cX8_keep 52 = .ok (.bipush 6, 2) := by decide +kernel
theorem dX8_keep_54 : decode cX8_keep 54 = .ok (.if_icmp .ge 29, 3) := by decide +kernel
theorem dX8_keep_57 : decode cX8_keep 57 = .ok (.aload_n 0, 1) := by decide +kernel
theorem dX8_keep_58 : decode cX8_keep 58 = .ok (.getfield 25, 3) := by decide +kernel
theorem dX8_keep_61 : decode cX8_keep 61 = .ok (.bipush 7, 2) := by decide +kernel
theorem dX8_keep_63 : decode cX8_keep 63 = .ok (.aload_n 0, 1) := by decide +kernel
theorem dX8_keep_64 : decode cX8_keep 64 = .ok (.getfield 177, 3) := by decide +kernel
theorem dX8_keep_67 : decode cX8_keep 67 = .ok (.imul, 1) := by decide +kernel
theorem dX8_keep_68 : decode cX8_keep 68 = .ok (.iload_n 1, 1) := by decide +kernel
theorem dX8_keep_69 : decode cX8_keep 69 = .ok (.iadd, 1) := by decide +kernel
theorem dX8_keep_70 : decode cX8_keep 70 = .ok (.aload_n 0, 1) := by decide +kernel
theorem dX8_keep_71 : decode cX8_keep 71 = .ok (.iload_n 1, 1) := by decide +kernel
theorem dX8_keep_72 : decode cX8_keep 72 = .ok (.iconst 1, 1) := by decide +kernel
theorem dX8_keep_73 : decode cX8_keep 73 = .ok (.invokevirtual 180, 3) := by decide +kernel
theorem dX8_keep_76 : decode cX8_keep 76 = .ok (.iastore, 1) := by decide +kernel
theorem dX8_keep_77 : decode cX8_keep 77 = .ok (.iinc 1 1, 3) := by decide +kernel
theorem dX8_keep_80 : decode cX8_keep 80 = .ok (.goto (-29), 3) := by decide +kernel
theorem dX8_keep_83 : decode cX8_keep 83 = .ok (.aload_n 0, 1) := by decide +kernel
theorem dX8_keep_84 : decode cX8_keep 84 = .ok (.getfield 25, 3) := by decide +kernel
theorem dX8_keep_87 : decode cX8_keep 87 = .ok (.bipush 7, 2) := by decide +kernel
theorem dX8_keep_89 : decode cX8_keep 89 = .ok (.aload_n 0, 1) := by decide +kernel
theorem dX8_keep_90 : decode cX8_keep 90 = .ok (.getfield 177, 3) := by decide +kernel
theorem dX8_keep_93 : decode cX8_keep 93 = .ok (.imul, 1) := by decide +kernel
theorem dX8_keep_94 : decode cX8_keep 94 = .ok (.bipush 6, 2) := by decide +kernel
theorem dX8_keep_96 : decode cX8_keep 96 = .ok (.iadd, 1) := by decide +kernel
theorem dX8_keep_97 : decode cX8_keep 97 = .ok (.aload_n 0, 1) := by decide +kernel
theorem dX8_keep_98 : decode cX8_keep 98 = .ok (.getfield 19, 3) := by decide +kernel
theorem dX8_keep_101 : decode cX8_keep 101 = .ok (.bipush 6, 2) := by decide +kernel
theorem dX8_keep_103 : decode cX8_keep 103 = .ok (.iaload, 1) := by decide +kernel
theorem dX8_keep_104 : decode cX8_keep 104 = .ok (.iastore, 1) := by decide +kernel
theorem dX8_keep_105 : decode cX8_keep 105 = .ok (.aload_n 0, 1) := by decide +kernel
theorem dX8_keep_106 : decode cX8_keep 106 = .ok (.dup, 1) := by decide +kernel
theorem dX8_keep_107 : decode cX8_keep 107 = .ok (.getfield 177, 3) := by decide +kernel
theorem dX8_keep_110 : decode cX8_keep 110 = .ok (.iconst 1, 1) := by decide +kernel
theorem dX8_keep_111 : decode cX8_keep 111 = .ok (.iadd, 1) := by decide +kernel
theorem dX8_keep_112 : decode cX8_keep 112 = .ok (.putfield 177, 3) := by decide +kernel
theorem dX8_keep_115 : decode cX8_keep 115 = .ok (.return_, 1) := by decide +kernel
set_option maxRecDepth 20000 in
theorem ggX8_keep_X8_stoneOf : GoodIn wsX8_keep wsX8_stoneOf := goodIn_r _ [8, 3, 9, 10, 11, 12, 13, 14, 15, 16, 17, 18, 19, 20, 21, 22, 23, 24, 25, 26, 27, 28, 29, 30, 31, 32, 33, 34] rfl (by decide +kernel)
set_option maxRecDepth 20000 in
theorem gX8_keep_X8_stoneOf : GoodIn wsX8_keep (wsV RX8 180 RX8 yX8_stoneOf wsX8_stoneOf) := goodIn_app (goodIn_r _ [4, 5, 6, 7] rfl (by decide +kernel)) ggX8_keep_X8_stoneOf
/-! X8_keep -/
abbrev rm_X8_keep : Room := { frames := 1, cells := 0, slots := 0, locals := 22 }
theorem iw_X8_keep_8 : ∀ w ∈ wsX80, w ∈ wsX8_keep := fun _ h => List.mem_cons_of_mem _ (List.mem_append_right _ h)
theorem fl_X8_keep_177 : Cond.fieldLink RX8 177 "NightStonesModel" "acts" "I" ∈ wsX8_keep := List.mem_of_getElem? (i := 1) rfl
theorem fl_X8_keep_25 : Cond.fieldLink RX8 25 "NightStonesModel" "was" "[I" ∈ wsX8_keep := List.mem_of_getElem? (i := 2) rfl
theorem fl_X8_keep_19 : Cond.fieldLink RX8 19 "NightStonesModel" "road" "[I" ∈ wsX8_keep := List.mem_of_getElem? (i := 3) rfl
def S_X8_keep_51 (f5 : Nat → Int32) (r8 : Int32) (K : Int32 → (Nat → Int32) → Prop) (R51 : Int32 → (Nat → Int32) → Prop) (x1 : Int32) (f7 : Nat → Int32) : Prop := ((6 ≤ x1 → (vp_in ((7 * r8) + 6) 168 ∧ K (r8 + 1) (upd f7 ((7 * r8) + 6).toNatClampNeg (f5 6)))) ∧ (¬ (6 ≤ x1) → wp_X8_stoneOf f5 x1 1 (fun q4 => (vp_in ((7 * r8) + x1) 168 ∧ R51 (x1 + 1) (upd f7 ((7 * r8) + x1).toNatClampNeg q4)))))
set_option maxHeartbeats 4000000 in
set_option maxRecDepth 100000 in
theorem t_X8_keep_51 {y : nz_Y} {g : nz_G} (F : nz_F y g cX8_keep 2 wsX8_keep RX8 none rm_X8_keep) {wc0 : va_W} {sz : Nat} {K : Int32 → (Nat → Int32) → Prop} (o : Nat) (a2 : Nat) (a3 : Nat) (a4 : Nat) (a5 : Nat) (a6 : Nat) (a7 : Nat) (a9 : Nat) (a19 : Nat) (a20 : Nat) (a21 : Nat) (a22 : Nat) (a23 : Nat) (a24 : Nat) (r0 : Int32) (r1 : Int32) (r10 : Int32) (r11 : Int32) (r12 : Int32) (r13 : Int32) (r14 : Int32) (r15 : Int32) (r16 : Int32) (r17 : Int32) (r18 : Int32) (r25 : Int32) (f2 : Nat → Int32) (f3 : Nat → Int32) (f4 : Nat → Int32) (f5 : Nat → Int32) (f6 : Nat → Int32) (f9 : Nat → Int32) (f19 : Nat → Int32) (f20 : Nat → Int32) (f21 : Nat → Int32) (f22 : Nat → Int32) (f23 : Nat → Int32) (f24 : Nat → Int32) (r8 : Int32) (hQ : yz_A y = va_A wc0 sz ∧ yz_Q y = MQ (yz_b y) ((nz_Qv g wc0 (fun (u : Int32 × (Nat → Int32)) => K u.1 u.2) (fun u => [(o, .inr (8, [.int r0, .int r1, .ref a2, .ref a3, .ref a4, .ref a5, .ref a6, .ref a7, .int u.1, .ref a9, .int r10, .int r11, .int r12, .int r13, .int r14, .int r15, .int r16, .int r17, .int r18, .ref a19, .ref a20, .ref a21, .ref a22, .ref a23, .ref a24, .int r25])), (a2, .inl (nz_cI g, 8, .inl f2)), (a3, .inl (nz_cI g, 8, .inl f3)), (a4, .inl (nz_cI g, 320, .inl f4)), (a5, .inl (nz_cI g, 94, .inl f5)), (a6, .inl (nz_cI g, 94, .inl f6)), (a7, .inl (nz_cI g, 168, .inl u.2)), (a9, .inl (nz_cI g, 400, .inl f9)), (a19, .inl (nz_cI g, 6, .inl f19)), (a20, .inl (nz_cI g, 49, .inl f20)), (a21, .inl (nz_cI g, 6, .inl f21)), (a22, .inl (nz_cZ g, 2, .inl f22)), (a23, .inl (nz_cI g, 188, .inl f23)), (a24, .inl (nz_cI g, 16, .inl f24))])) sz) (yz_a y) (yz_s y) 0 0 (va_A wc0 sz)) : ∀ (n1 : Nat) (x1 : Int32) (f7 : Nat → Int32), nz_it (fun _ _ => False) (S_X8_keep_51 f5 r8 K) n1 x1 f7 → nz_V y g 0 0 [(o, .inr (8, [.int r0, .int r1, .ref a2, .ref a3, .ref a4, .ref a5, .ref a6, .ref a7, .int r8, .ref a9, .int r10, .int r11, .int r12, .int r13, .int r14, .int r15, .int r16, .int r17, .int r18, .ref a19, .ref a20, .ref a21, .ref a22, .ref a23, .ref a24, .int r25])), (a2, .inl (nz_cI g, 8, .inl f2)), (a3, .inl (nz_cI g, 8, .inl f3)), (a4, .inl (nz_cI g, 320, .inl f4)), (a5, .inl (nz_cI g, 94, .inl f5)), (a6, .inl (nz_cI g, 94, .inl f6)), (a7, .inl (nz_cI g, 168, .inl f7)), (a9, .inl (nz_cI g, 400, .inl f9)), (a19, .inl (nz_cI g, 6, .inl f19)), (a20, .inl (nz_cI g, 49, .inl f20)), (a21, .inl (nz_cI g, 6, .inl f21)), (a22, .inl (nz_cZ g, 2, .inl f22)), (a23, .inl (nz_cI g, 188, .inl f23)), (a24, .inl (nz_cI g, 16, .inl f24))] 51 [(0, .ref o), (1, .int x1)] [] := by
  intro n1
  induction n1 with
  | zero =>
    intro x1 f7 h
    exact h.elim
  | succ n1 hR51 =>
    intro x1 f7 h
    have h : S_X8_keep_51 f5 r8 K (nz_it (fun _ _ => False) (S_X8_keep_51 f5 r8 K) n1) x1 f7 := h
    unfold S_X8_keep_51 at h
    refine nz_iload_n F dX8_keep_51 rfl 1 rfl ?_
    refine nz_bipush (v := 6) F dX8_keep_52 (by decide) ?_
    refine nz_icmp_ge (tgt := 83) F dX8_keep_54 (by decide) (fun c2 => ?_) (fun c2 => ?_)
    · have h := h.1 c2
      refine nz_aload_n F dX8_keep_83 rfl 0 rfl ?_
      refine nz_get F iw_X8_keep_8 0 rfl rfl 7 (by decide) rfl fl_X8_keep_25 rfl dX8_keep_84 ?_
      refine nz_bipush (v := 7) F dX8_keep_87 (by decide) ?_
      refine nz_aload_n F dX8_keep_89 rfl 0 rfl ?_
      refine nz_get F iw_X8_keep_8 0 rfl rfl 8 (by decide) rfl fl_X8_keep_177 rfl dX8_keep_90 ?_
      refine nz_imul F dX8_keep_93 ?_
      refine nz_bipush (v := 6) F dX8_keep_94 (by decide) ?_
      refine nz_iadd F dX8_keep_96 ?_
      refine nz_aload_n F dX8_keep_97 rfl 0 rfl ?_
      refine nz_get F iw_X8_keep_8 0 rfl rfl 5 (by decide) rfl fl_X8_keep_19 rfl dX8_keep_98 ?_
      refine nz_bipush (v := 6) F dX8_keep_101 (by decide) ?_
      refine nz_iald F 4 rfl (nz_inC rfl) dX8_keep_103 ?_
      refine nz_vi (z := (f5 6)) rfl ?_
      obtain ⟨i3, h⟩ := h
      refine nz_iast (ws' := [(o, .inr (8, [.int r0, .int r1, .ref a2, .ref a3, .ref a4, .ref a5, .ref a6, .ref a7, .int r8, .ref a9, .int r10, .int r11, .int r12, .int r13, .int r14, .int r15, .int r16, .int r17, .int r18, .ref a19, .ref a20, .ref a21, .ref a22, .ref a23, .ref a24, .int r25])), (a2, .inl (nz_cI g, 8, .inl f2)), (a3, .inl (nz_cI g, 8, .inl f3)), (a4, .inl (nz_cI g, 320, .inl f4)), (a5, .inl (nz_cI g, 94, .inl f5)), (a6, .inl (nz_cI g, 94, .inl f6)), (a7, .inl (nz_cI g, 168, .inl (upd f7 ((7 * r8) + 6).toNatClampNeg (f5 6)))), (a9, .inl (nz_cI g, 400, .inl f9)), (a19, .inl (nz_cI g, 6, .inl f19)), (a20, .inl (nz_cI g, 49, .inl f20)), (a21, .inl (nz_cI g, 6, .inl f21)), (a22, .inl (nz_cZ g, 2, .inl f22)), (a23, .inl (nz_cI g, 188, .inl f23)), (a24, .inl (nz_cI g, 16, .inl f24))]) F 6 rfl i3 dX8_keep_104 rfl ?_
      refine nz_aload_n F dX8_keep_105 rfl 0 rfl ?_
      refine nz_dup F dX8_keep_106 rfl ?_
      refine nz_get F iw_X8_keep_8 0 rfl rfl 8 (by decide) rfl fl_X8_keep_177 rfl dX8_keep_107 ?_
      refine nz_iconst (v := 1) F dX8_keep_110 (by decide) ?_
      refine nz_iadd F dX8_keep_111 ?_
      refine nz_put (ws' := [(o, .inr (8, [.int r0, .int r1, .ref a2, .ref a3, .ref a4, .ref a5, .ref a6, .ref a7, .int (r8 + 1), .ref a9, .int r10, .int r11, .int r12, .int r13, .int r14, .int r15, .int r16, .int r17, .int r18, .ref a19, .ref a20, .ref a21, .ref a22, .ref a23, .ref a24, .int r25])), (a2, .inl (nz_cI g, 8, .inl f2)), (a3, .inl (nz_cI g, 8, .inl f3)), (a4, .inl (nz_cI g, 320, .inl f4)), (a5, .inl (nz_cI g, 94, .inl f5)), (a6, .inl (nz_cI g, 94, .inl f6)), (a7, .inl (nz_cI g, 168, .inl (upd f7 ((7 * r8) + 6).toNatClampNeg (f5 6)))), (a9, .inl (nz_cI g, 400, .inl f9)), (a19, .inl (nz_cI g, 6, .inl f19)), (a20, .inl (nz_cI g, 49, .inl f20)), (a21, .inl (nz_cI g, 6, .inl f21)), (a22, .inl (nz_cZ g, 2, .inl f22)), (a23, .inl (nz_cI g, 188, .inl f23)), (a24, .inl (nz_cI g, 16, .inl f24))]) F iw_X8_keep_8 tyX8 tyX8_ok nmX8 0 rfl rfl 8 (by decide) rfl fl_X8_keep_177 rfl rfl (Nat.le_of_ble_eq_true rfl) dX8_keep_112 rfl ?_
      exact nz_vret F hQ ((r8 + 1), (upd f7 ((7 * r8) + 6).toNatClampNeg (f5 6))) h rfl dX8_keep_115
    · have h := h.2 c2
      refine nz_aload_n F dX8_keep_57 rfl 0 rfl ?_
      refine nz_get F iw_X8_keep_8 0 rfl rfl 7 (by decide) rfl fl_X8_keep_25 rfl dX8_keep_58 ?_
      refine nz_bipush (v := 7) F dX8_keep_61 (by decide) ?_
      refine nz_aload_n F dX8_keep_63 rfl 0 rfl ?_
      refine nz_get F iw_X8_keep_8 0 rfl rfl 8 (by decide) rfl fl_X8_keep_177 rfl dX8_keep_64 ?_
      refine nz_imul F dX8_keep_67 ?_
      refine nz_iload_n F dX8_keep_68 rfl 1 rfl ?_
      refine nz_iadd F dX8_keep_69 ?_
      refine nz_aload_n F dX8_keep_70 rfl 0 rfl ?_
      refine nz_iload_n F dX8_keep_71 rfl 1 rfl ?_
      refine nz_iconst (v := 1) F dX8_keep_72 (by decide) ?_
      refine k_X8_stoneOf o a2 a3 a4 a5 a6 a7 a9 a19 a20 a21 a22 a23 a24 r0 r1 r8 r10 r11 r12 r13 r14 r15 r16 r17 r18 r25 f2 f3 f4 f5 f6 f7 f9 f19 f20 f21 f22 f23 f24 x1 1 (fun hM => nz_runV F gX8_keep_X8_stoneOf rfl hd_X8_stoneOf rfl hM dX8_keep_73 [0, 1, 2, 3, 4, 5, 6, 7, 8, 9, 10, 11, 12, 13] rfl rfl 0 rfl rfl rfl (Nat.le_of_ble_eq_true rfl) rfl) h ([(o, .inr (8, [.int r0, .int r1, .ref a2, .ref a3, .ref a4, .ref a5, .ref a6, .ref a7, .int r8, .ref a9, .int r10, .int r11, .int r12, .int r13, .int r14, .int r15, .int r16, .int r17, .int r18, .ref a19, .ref a20, .ref a21, .ref a22, .ref a23, .ref a24, .int r25])), (a2, .inl (nz_cI g, 8, .inl f2)), (a3, .inl (nz_cI g, 8, .inl f3)), (a4, .inl (nz_cI g, 320, .inl f4)), (a5, .inl (nz_cI g, 94, .inl f5)), (a6, .inl (nz_cI g, 94, .inl f6)), (a7, .inl (nz_cI g, 168, .inl f7)), (a9, .inl (nz_cI g, 400, .inl f9)), (a19, .inl (nz_cI g, 6, .inl f19)), (a20, .inl (nz_cI g, 49, .inl f20)), (a21, .inl (nz_cI g, 6, .inl f21)), (a22, .inl (nz_cZ g, 2, .inl f22)), (a23, .inl (nz_cI g, 188, .inl f23)), (a24, .inl (nz_cI g, 16, .inl f24))]) (rfl) (fun q4 h => ?_)
      obtain ⟨i5, h⟩ := h
      refine nz_iast (ws' := [(o, .inr (8, [.int r0, .int r1, .ref a2, .ref a3, .ref a4, .ref a5, .ref a6, .ref a7, .int r8, .ref a9, .int r10, .int r11, .int r12, .int r13, .int r14, .int r15, .int r16, .int r17, .int r18, .ref a19, .ref a20, .ref a21, .ref a22, .ref a23, .ref a24, .int r25])), (a2, .inl (nz_cI g, 8, .inl f2)), (a3, .inl (nz_cI g, 8, .inl f3)), (a4, .inl (nz_cI g, 320, .inl f4)), (a5, .inl (nz_cI g, 94, .inl f5)), (a6, .inl (nz_cI g, 94, .inl f6)), (a7, .inl (nz_cI g, 168, .inl (upd f7 ((7 * r8) + x1).toNatClampNeg q4))), (a9, .inl (nz_cI g, 400, .inl f9)), (a19, .inl (nz_cI g, 6, .inl f19)), (a20, .inl (nz_cI g, 49, .inl f20)), (a21, .inl (nz_cI g, 6, .inl f21)), (a22, .inl (nz_cZ g, 2, .inl f22)), (a23, .inl (nz_cI g, 188, .inl f23)), (a24, .inl (nz_cI g, 16, .inl f24))]) F 6 rfl i5 dX8_keep_76 rfl ?_
      refine nz_iinc (v := (x1 + 1)) (j := 1) (lv' := [(1, .int (x1 + 1)), (0, .ref o)]) F dX8_keep_77 rfl rfl (by decide) rfl ?_
      refine nz_goto (tgt := 51) F dX8_keep_80 (by decide) ?_
      refine nz_ls (lv' := [(0, .ref o), (1, .int (x1 + 1))]) [1, 0] rfl ?_
      exact hR51 (x1 + 1) (upd f7 ((7 * r8) + x1).toNatClampNeg q4) h
def S_X8_keep_11 (f5 : Nat → Int32) (r8 : Int32) (K : Int32 → (Nat → Int32) → Prop) (R11 : Int32 → (Nat → Int32) → Prop) (x1 : Int32) (f7 : Nat → Int32) : Prop := ((161 ≤ x1 → (∃ n, nz_it (fun _ _ => False) (S_X8_keep_51 f5 (r8 - 1) K) n 0 f7)) ∧ (¬ (161 ≤ x1) → (vp_in (x1 + 7) 168 ∧ (vp_in x1 168 ∧ R11 (x1 + 1) (upd f7 x1.toNatClampNeg (f7 (x1 + 7).toNatClampNeg))))))
set_option maxHeartbeats 4000000 in
set_option maxRecDepth 100000 in
theorem t_X8_keep_11 {y : nz_Y} {g : nz_G} (F : nz_F y g cX8_keep 2 wsX8_keep RX8 none rm_X8_keep) {wc0 : va_W} {sz : Nat} {K : Int32 → (Nat → Int32) → Prop} (o : Nat) (a2 : Nat) (a3 : Nat) (a4 : Nat) (a5 : Nat) (a6 : Nat) (a7 : Nat) (a9 : Nat) (a19 : Nat) (a20 : Nat) (a21 : Nat) (a22 : Nat) (a23 : Nat) (a24 : Nat) (r0 : Int32) (r1 : Int32) (r10 : Int32) (r11 : Int32) (r12 : Int32) (r13 : Int32) (r14 : Int32) (r15 : Int32) (r16 : Int32) (r17 : Int32) (r18 : Int32) (r25 : Int32) (f2 : Nat → Int32) (f3 : Nat → Int32) (f4 : Nat → Int32) (f5 : Nat → Int32) (f6 : Nat → Int32) (f9 : Nat → Int32) (f19 : Nat → Int32) (f20 : Nat → Int32) (f21 : Nat → Int32) (f22 : Nat → Int32) (f23 : Nat → Int32) (f24 : Nat → Int32) (r8 : Int32) (hQ : yz_A y = va_A wc0 sz ∧ yz_Q y = MQ (yz_b y) ((nz_Qv g wc0 (fun (u : Int32 × (Nat → Int32)) => K u.1 u.2) (fun u => [(o, .inr (8, [.int r0, .int r1, .ref a2, .ref a3, .ref a4, .ref a5, .ref a6, .ref a7, .int u.1, .ref a9, .int r10, .int r11, .int r12, .int r13, .int r14, .int r15, .int r16, .int r17, .int r18, .ref a19, .ref a20, .ref a21, .ref a22, .ref a23, .ref a24, .int r25])), (a2, .inl (nz_cI g, 8, .inl f2)), (a3, .inl (nz_cI g, 8, .inl f3)), (a4, .inl (nz_cI g, 320, .inl f4)), (a5, .inl (nz_cI g, 94, .inl f5)), (a6, .inl (nz_cI g, 94, .inl f6)), (a7, .inl (nz_cI g, 168, .inl u.2)), (a9, .inl (nz_cI g, 400, .inl f9)), (a19, .inl (nz_cI g, 6, .inl f19)), (a20, .inl (nz_cI g, 49, .inl f20)), (a21, .inl (nz_cI g, 6, .inl f21)), (a22, .inl (nz_cZ g, 2, .inl f22)), (a23, .inl (nz_cI g, 188, .inl f23)), (a24, .inl (nz_cI g, 16, .inl f24))])) sz) (yz_a y) (yz_s y) 0 0 (va_A wc0 sz)) : ∀ (n1 : Nat) (x1 : Int32) (f7 : Nat → Int32), nz_it (fun _ _ => False) (S_X8_keep_11 f5 r8 K) n1 x1 f7 → nz_V y g 0 0 [(o, .inr (8, [.int r0, .int r1, .ref a2, .ref a3, .ref a4, .ref a5, .ref a6, .ref a7, .int r8, .ref a9, .int r10, .int r11, .int r12, .int r13, .int r14, .int r15, .int r16, .int r17, .int r18, .ref a19, .ref a20, .ref a21, .ref a22, .ref a23, .ref a24, .int r25])), (a2, .inl (nz_cI g, 8, .inl f2)), (a3, .inl (nz_cI g, 8, .inl f3)), (a4, .inl (nz_cI g, 320, .inl f4)), (a5, .inl (nz_cI g, 94, .inl f5)), (a6, .inl (nz_cI g, 94, .inl f6)), (a7, .inl (nz_cI g, 168, .inl f7)), (a9, .inl (nz_cI g, 400, .inl f9)), (a19, .inl (nz_cI g, 6, .inl f19)), (a20, .inl (nz_cI g, 49, .inl f20)), (a21, .inl (nz_cI g, 6, .inl f21)), (a22, .inl (nz_cZ g, 2, .inl f22)), (a23, .inl (nz_cI g, 188, .inl f23)), (a24, .inl (nz_cI g, 16, .inl f24))] 11 [(0, .ref o), (1, .int x1)] [] := by
  intro n1
  induction n1 with
  | zero =>
    intro x1 f7 h
    exact h.elim
  | succ n1 hR11 =>
    intro x1 f7 h
    have h : S_X8_keep_11 f5 r8 K (nz_it (fun _ _ => False) (S_X8_keep_11 f5 r8 K) n1) x1 f7 := h
    unfold S_X8_keep_11 at h
    refine nz_iload_n F dX8_keep_11 rfl 1 rfl ?_
    refine nz_sipush (v := 161) F dX8_keep_12 (by decide) ?_
    refine nz_icmp_ge (tgt := 39) F dX8_keep_15 (by decide) (fun c6 => ?_) (fun c6 => ?_)
    · have h := h.1 c6
      refine nz_aload_n F dX8_keep_39 rfl 0 rfl ?_
      refine nz_dup F dX8_keep_40 rfl ?_
      refine nz_get F iw_X8_keep_8 0 rfl rfl 8 (by decide) rfl fl_X8_keep_177 rfl dX8_keep_41 ?_
      refine nz_iconst (v := 1) F dX8_keep_44 (by decide) ?_
      refine nz_isub F dX8_keep_45 ?_
      refine nz_put (ws' := [(o, .inr (8, [.int r0, .int r1, .ref a2, .ref a3, .ref a4, .ref a5, .ref a6, .ref a7, .int (r8 - 1), .ref a9, .int r10, .int r11, .int r12, .int r13, .int r14, .int r15, .int r16, .int r17, .int r18, .ref a19, .ref a20, .ref a21, .ref a22, .ref a23, .ref a24, .int r25])), (a2, .inl (nz_cI g, 8, .inl f2)), (a3, .inl (nz_cI g, 8, .inl f3)), (a4, .inl (nz_cI g, 320, .inl f4)), (a5, .inl (nz_cI g, 94, .inl f5)), (a6, .inl (nz_cI g, 94, .inl f6)), (a7, .inl (nz_cI g, 168, .inl f7)), (a9, .inl (nz_cI g, 400, .inl f9)), (a19, .inl (nz_cI g, 6, .inl f19)), (a20, .inl (nz_cI g, 49, .inl f20)), (a21, .inl (nz_cI g, 6, .inl f21)), (a22, .inl (nz_cZ g, 2, .inl f22)), (a23, .inl (nz_cI g, 188, .inl f23)), (a24, .inl (nz_cI g, 16, .inl f24))]) F iw_X8_keep_8 tyX8 tyX8_ok nmX8 0 rfl rfl 8 (by decide) rfl fl_X8_keep_177 rfl rfl (Nat.le_of_ble_eq_true rfl) dX8_keep_46 rfl ?_
      refine nz_iconst (v := 0) F dX8_keep_49 (by decide) ?_
      refine nz_istore_n (lv' := [(1, .int 0), (0, .ref o)]) F dX8_keep_50 rfl (by decide) rfl ?_
      refine nz_ls (lv' := [(0, .ref o), (1, .int 0)]) [1, 0] rfl ?_
      obtain ⟨n1, h⟩ := h
      exact t_X8_keep_51 F o a2 a3 a4 a5 a6 a7 a9 a19 a20 a21 a22 a23 a24 r0 r1 r10 r11 r12 r13 r14 r15 r16 r17 r18 r25 f2 f3 f4 f5 f6 f9 f19 f20 f21 f22 f23 f24 (r8 - 1) hQ n1 0 f7 h
    · have h := h.2 c6
      refine nz_aload_n F dX8_keep_18 rfl 0 rfl ?_
      refine nz_get F iw_X8_keep_8 0 rfl rfl 7 (by decide) rfl fl_X8_keep_25 rfl dX8_keep_19 ?_
      refine nz_iload_n F dX8_keep_22 rfl 1 rfl ?_
      refine nz_aload_n F dX8_keep_23 rfl 0 rfl ?_
      refine nz_get F iw_X8_keep_8 0 rfl rfl 7 (by decide) rfl fl_X8_keep_25 rfl dX8_keep_24 ?_
      refine nz_iload_n F dX8_keep_27 rfl 1 rfl ?_
      refine nz_bipush (v := 7) F dX8_keep_28 (by decide) ?_
      refine nz_iadd F dX8_keep_30 ?_
      obtain ⟨i7, h⟩ := h
      refine nz_iald F 6 rfl i7 dX8_keep_31 ?_
      obtain ⟨i8, h⟩ := h
      refine nz_iast (ws' := [(o, .inr (8, [.int r0, .int r1, .ref a2, .ref a3, .ref a4, .ref a5, .ref a6, .ref a7, .int r8, .ref a9, .int r10, .int r11, .int r12, .int r13, .int r14, .int r15, .int r16, .int r17, .int r18, .ref a19, .ref a20, .ref a21, .ref a22, .ref a23, .ref a24, .int r25])), (a2, .inl (nz_cI g, 8, .inl f2)), (a3, .inl (nz_cI g, 8, .inl f3)), (a4, .inl (nz_cI g, 320, .inl f4)), (a5, .inl (nz_cI g, 94, .inl f5)), (a6, .inl (nz_cI g, 94, .inl f6)), (a7, .inl (nz_cI g, 168, .inl (upd f7 x1.toNatClampNeg (f7 (x1 + 7).toNatClampNeg)))), (a9, .inl (nz_cI g, 400, .inl f9)), (a19, .inl (nz_cI g, 6, .inl f19)), (a20, .inl (nz_cI g, 49, .inl f20)), (a21, .inl (nz_cI g, 6, .inl f21)), (a22, .inl (nz_cZ g, 2, .inl f22)), (a23, .inl (nz_cI g, 188, .inl f23)), (a24, .inl (nz_cI g, 16, .inl f24))]) F 6 rfl i8 dX8_keep_32 rfl ?_
      refine nz_iinc (v := (x1 + 1)) (j := 1) (lv' := [(1, .int (x1 + 1)), (0, .ref o)]) F dX8_keep_33 rfl rfl (by decide) rfl ?_
      refine nz_goto (tgt := 11) F dX8_keep_36 (by decide) ?_
      refine nz_ls (lv' := [(0, .ref o), (1, .int (x1 + 1))]) [1, 0] rfl ?_
      exact hR11 (x1 + 1) (upd f7 x1.toNatClampNeg (f7 (x1 + 7).toNatClampNeg)) h
def wp_X8_keep (r8 : Int32) (f5 : Nat → Int32) (f7 : Nat → Int32) (K : Int32 → (Nat → Int32) → Prop) : Prop := ((¬ r8 = 24 → (∃ n, nz_it (fun _ _ => False) (S_X8_keep_51 f5 r8 K) n 0 f7)) ∧ (r8 = 24 → (∃ n, nz_it (fun _ _ => False) (S_X8_keep_11 f5 r8 K) n 0 f7)))
set_option maxHeartbeats 4000000 in
set_option maxRecDepth 100000 in
theorem c_X8_keep (l : Launch) (g : nz_G) (o : Nat) (a2 : Nat) (a3 : Nat) (a4 : Nat) (a5 : Nat) (a6 : Nat) (a7 : Nat) (a9 : Nat) (a19 : Nat) (a20 : Nat) (a21 : Nat) (a22 : Nat) (a23 : Nat) (a24 : Nat) (r0 : Int32) (r1 : Int32) (r8 : Int32) (r10 : Int32) (r11 : Int32) (r12 : Int32) (r13 : Int32) (r14 : Int32) (r15 : Int32) (r16 : Int32) (r17 : Int32) (r18 : Int32) (r25 : Int32) (f2 : Nat → Int32) (f3 : Nat → Int32) (f4 : Nat → Int32) (f5 : Nat → Int32) (f6 : Nat → Int32) (f7 : Nat → Int32) (f9 : Nat → Int32) (f19 : Nat → Int32) (f20 : Nat → Int32) (f21 : Nat → Int32) (f22 : Nat → Int32) (f23 : Nat → Int32) (f24 : Nat → Int32) (K : Int32 → (Nat → Int32) → Prop) (h : wp_X8_keep r8 f5 f7 K) : nz_M l yX8_keep wsX8_keep rm_X8_keep g [.ref o] [(o, .inr (8, [.int r0, .int r1, .ref a2, .ref a3, .ref a4, .ref a5, .ref a6, .ref a7, .int r8, .ref a9, .int r10, .int r11, .int r12, .int r13, .int r14, .int r15, .int r16, .int r17, .int r18, .ref a19, .ref a20, .ref a21, .ref a22, .ref a23, .ref a24, .int r25])), (a2, .inl (nz_cI g, 8, .inl f2)), (a3, .inl (nz_cI g, 8, .inl f3)), (a4, .inl (nz_cI g, 320, .inl f4)), (a5, .inl (nz_cI g, 94, .inl f5)), (a6, .inl (nz_cI g, 94, .inl f6)), (a7, .inl (nz_cI g, 168, .inl f7)), (a9, .inl (nz_cI g, 400, .inl f9)), (a19, .inl (nz_cI g, 6, .inl f19)), (a20, .inl (nz_cI g, 49, .inl f20)), (a21, .inl (nz_cI g, 6, .inl f21)), (a22, .inl (nz_cZ g, 2, .inl f22)), (a23, .inl (nz_cI g, 188, .inl f23)), (a24, .inl (nz_cI g, 16, .inl f24))] (nz_Qv g [(o, .inr (8, [.int r0, .int r1, .ref a2, .ref a3, .ref a4, .ref a5, .ref a6, .ref a7, .int r8, .ref a9, .int r10, .int r11, .int r12, .int r13, .int r14, .int r15, .int r16, .int r17, .int r18, .ref a19, .ref a20, .ref a21, .ref a22, .ref a23, .ref a24, .int r25])), (a2, .inl (nz_cI g, 8, .inl f2)), (a3, .inl (nz_cI g, 8, .inl f3)), (a4, .inl (nz_cI g, 320, .inl f4)), (a5, .inl (nz_cI g, 94, .inl f5)), (a6, .inl (nz_cI g, 94, .inl f6)), (a7, .inl (nz_cI g, 168, .inl f7)), (a9, .inl (nz_cI g, 400, .inl f9)), (a19, .inl (nz_cI g, 6, .inl f19)), (a20, .inl (nz_cI g, 49, .inl f20)), (a21, .inl (nz_cI g, 6, .inl f21)), (a22, .inl (nz_cZ g, 2, .inl f22)), (a23, .inl (nz_cI g, 188, .inl f23)), (a24, .inl (nz_cI g, 16, .inl f24))] (fun (u : Int32 × (Nat → Int32)) => K u.1 u.2) (fun u => [(o, .inr (8, [.int r0, .int r1, .ref a2, .ref a3, .ref a4, .ref a5, .ref a6, .ref a7, .int u.1, .ref a9, .int r10, .int r11, .int r12, .int r13, .int r14, .int r15, .int r16, .int r17, .int r18, .ref a19, .ref a20, .ref a21, .ref a22, .ref a23, .ref a24, .int r25])), (a2, .inl (nz_cI g, 8, .inl f2)), (a3, .inl (nz_cI g, 8, .inl f3)), (a4, .inl (nz_cI g, 320, .inl f4)), (a5, .inl (nz_cI g, 94, .inl f5)), (a6, .inl (nz_cI g, 94, .inl f6)), (a7, .inl (nz_cI g, 168, .inl u.2)), (a9, .inl (nz_cI g, 400, .inl f9)), (a19, .inl (nz_cI g, 6, .inl f19)), (a20, .inl (nz_cI g, 49, .inl f20)), (a21, .inl (nz_cI g, 6, .inl f21)), (a22, .inl (nz_cZ g, 2, .inl f22)), (a23, .inl (nz_cI g, 188, .inl f23)), (a24, .inl (nz_cI g, 16, .inl f24))])) := by
  refine nz_M.of (bytes := cX8_keep) (nL := 2) (ret := none) (own := RX8) (by decide) rfl rfl ⟨rfl, rfl⟩ rfl ?_
  intro y F hl hQ
  obtain ⟨sz, hQ⟩ := hQ
  refine nz_ent (lv' := [(0, .ref o)]) rfl ?_
  unfold wp_X8_keep at h
  refine nz_aload_n F dX8_keep_0 rfl 0 rfl ?_
  refine nz_get F iw_X8_keep_8 0 rfl rfl 8 (by decide) rfl fl_X8_keep_177 rfl dX8_keep_1 ?_
  refine nz_bipush (v := 24) F dX8_keep_4 (by decide) ?_
  refine nz_icmp_ne (tgt := 49) F dX8_keep_6 (by decide) (fun c1 => ?_) (fun c1 => ?_)
  · have h := h.1 c1
    refine nz_iconst (v := 0) F dX8_keep_49 (by decide) ?_
    refine nz_istore_n (lv' := [(1, .int 0), (0, .ref o)]) F dX8_keep_50 rfl (by decide) rfl ?_
    refine nz_ls (lv' := [(0, .ref o), (1, .int 0)]) [1, 0] rfl ?_
    obtain ⟨n1, h⟩ := h
    exact t_X8_keep_51 F o a2 a3 a4 a5 a6 a7 a9 a19 a20 a21 a22 a23 a24 r0 r1 r10 r11 r12 r13 r14 r15 r16 r17 r18 r25 f2 f3 f4 f5 f6 f9 f19 f20 f21 f22 f23 f24 r8 hQ n1 0 f7 h
  · have h := h.2 c1
    refine nz_iconst (v := 0) F dX8_keep_9 (by decide) ?_
    refine nz_istore_n (lv' := [(1, .int 0), (0, .ref o)]) F dX8_keep_10 rfl (by decide) rfl ?_
    refine nz_ls (lv' := [(0, .ref o), (1, .int 0)]) [1, 0] rfl ?_
    obtain ⟨n1, h⟩ := h
    exact t_X8_keep_11 F o a2 a3 a4 a5 a6 a7 a9 a19 a20 a21 a22 a23 a24 r0 r1 r10 r11 r12 r13 r14 r15 r16 r17 r18 r25 f2 f3 f4 f5 f6 f9 f19 f20 f21 f22 f23 f24 r8 hQ n1 0 f7 h
theorem k_X8_keep {y : nz_Y} {g : nz_G} {k n : Nat} {ws : va_W} {pc : Nat} {ls : List (Nat × Value)} {st rest : List Value} {av : Array Value} {isC : List Nat} {K : Int32 → (Nat → Int32) → Prop} (o : Nat) (a2 : Nat) (a3 : Nat) (a4 : Nat) (a5 : Nat) (a6 : Nat) (a7 : Nat) (a9 : Nat) (a19 : Nat) (a20 : Nat) (a21 : Nat) (a22 : Nat) (a23 : Nat) (a24 : Nat) (r0 : Int32) (r1 : Int32) (r8 : Int32) (r10 : Int32) (r11 : Int32) (r12 : Int32) (r13 : Int32) (r14 : Int32) (r15 : Int32) (r16 : Int32) (r17 : Int32) (r18 : Int32) (r25 : Int32) (f2 : Nat → Int32) (f3 : Nat → Int32) (f4 : Nat → Int32) (f5 : Nat → Int32) (f6 : Nat → Int32) (f7 : Nat → Int32) (f9 : Nat → Int32) (f19 : Nat → Int32) (f20 : Nat → Int32) (f21 : Nat → Int32) (f22 : Nat → Int32) (f23 : Nat → Int32) (f24 : Nat → Int32) (run : nz_M (yz_l y) yX8_keep wsX8_keep rm_X8_keep g [.ref o] [(o, .inr (8, [.int r0, .int r1, .ref a2, .ref a3, .ref a4, .ref a5, .ref a6, .ref a7, .int r8, .ref a9, .int r10, .int r11, .int r12, .int r13, .int r14, .int r15, .int r16, .int r17, .int r18, .ref a19, .ref a20, .ref a21, .ref a22, .ref a23, .ref a24, .int r25])), (a2, .inl (nz_cI g, 8, .inl f2)), (a3, .inl (nz_cI g, 8, .inl f3)), (a4, .inl (nz_cI g, 320, .inl f4)), (a5, .inl (nz_cI g, 94, .inl f5)), (a6, .inl (nz_cI g, 94, .inl f6)), (a7, .inl (nz_cI g, 168, .inl f7)), (a9, .inl (nz_cI g, 400, .inl f9)), (a19, .inl (nz_cI g, 6, .inl f19)), (a20, .inl (nz_cI g, 49, .inl f20)), (a21, .inl (nz_cI g, 6, .inl f21)), (a22, .inl (nz_cZ g, 2, .inl f22)), (a23, .inl (nz_cI g, 188, .inl f23)), (a24, .inl (nz_cI g, 16, .inl f24))] (nz_Qv g [(o, .inr (8, [.int r0, .int r1, .ref a2, .ref a3, .ref a4, .ref a5, .ref a6, .ref a7, .int r8, .ref a9, .int r10, .int r11, .int r12, .int r13, .int r14, .int r15, .int r16, .int r17, .int r18, .ref a19, .ref a20, .ref a21, .ref a22, .ref a23, .ref a24, .int r25])), (a2, .inl (nz_cI g, 8, .inl f2)), (a3, .inl (nz_cI g, 8, .inl f3)), (a4, .inl (nz_cI g, 320, .inl f4)), (a5, .inl (nz_cI g, 94, .inl f5)), (a6, .inl (nz_cI g, 94, .inl f6)), (a7, .inl (nz_cI g, 168, .inl f7)), (a9, .inl (nz_cI g, 400, .inl f9)), (a19, .inl (nz_cI g, 6, .inl f19)), (a20, .inl (nz_cI g, 49, .inl f20)), (a21, .inl (nz_cI g, 6, .inl f21)), (a22, .inl (nz_cZ g, 2, .inl f22)), (a23, .inl (nz_cI g, 188, .inl f23)), (a24, .inl (nz_cI g, 16, .inl f24))] (fun (u : Int32 × (Nat → Int32)) => K u.1 u.2) (fun u => [(o, .inr (8, [.int r0, .int r1, .ref a2, .ref a3, .ref a4, .ref a5, .ref a6, .ref a7, .int u.1, .ref a9, .int r10, .int r11, .int r12, .int r13, .int r14, .int r15, .int r16, .int r17, .int r18, .ref a19, .ref a20, .ref a21, .ref a22, .ref a23, .ref a24, .int r25])), (a2, .inl (nz_cI g, 8, .inl f2)), (a3, .inl (nz_cI g, 8, .inl f3)), (a4, .inl (nz_cI g, 320, .inl f4)), (a5, .inl (nz_cI g, 94, .inl f5)), (a6, .inl (nz_cI g, 94, .inl f6)), (a7, .inl (nz_cI g, 168, .inl u.2)), (a9, .inl (nz_cI g, 400, .inl f9)), (a19, .inl (nz_cI g, 6, .inl f19)), (a20, .inl (nz_cI g, 49, .inl f20)), (a21, .inl (nz_cI g, 6, .inl f21)), (a22, .inl (nz_cZ g, 2, .inl f22)), (a23, .inl (nz_cI g, 188, .inl f23)), (a24, .inl (nz_cI g, 16, .inl f24))])) → nz_C y g k n ws pc ls st rest [(o, .inr (8, [.int r0, .int r1, .ref a2, .ref a3, .ref a4, .ref a5, .ref a6, .ref a7, .int r8, .ref a9, .int r10, .int r11, .int r12, .int r13, .int r14, .int r15, .int r16, .int r17, .int r18, .ref a19, .ref a20, .ref a21, .ref a22, .ref a23, .ref a24, .int r25])), (a2, .inl (nz_cI g, 8, .inl f2)), (a3, .inl (nz_cI g, 8, .inl f3)), (a4, .inl (nz_cI g, 320, .inl f4)), (a5, .inl (nz_cI g, 94, .inl f5)), (a6, .inl (nz_cI g, 94, .inl f6)), (a7, .inl (nz_cI g, 168, .inl f7)), (a9, .inl (nz_cI g, 400, .inl f9)), (a19, .inl (nz_cI g, 6, .inl f19)), (a20, .inl (nz_cI g, 49, .inl f20)), (a21, .inl (nz_cI g, 6, .inl f21)), (a22, .inl (nz_cZ g, 2, .inl f22)), (a23, .inl (nz_cI g, 188, .inl f23)), (a24, .inl (nz_cI g, 16, .inl f24))] (nz_Qv g [(o, .inr (8, [.int r0, .int r1, .ref a2, .ref a3, .ref a4, .ref a5, .ref a6, .ref a7, .int r8, .ref a9, .int r10, .int r11, .int r12, .int r13, .int r14, .int r15, .int r16, .int r17, .int r18, .ref a19, .ref a20, .ref a21, .ref a22, .ref a23, .ref a24, .int r25])), (a2, .inl (nz_cI g, 8, .inl f2)), (a3, .inl (nz_cI g, 8, .inl f3)), (a4, .inl (nz_cI g, 320, .inl f4)), (a5, .inl (nz_cI g, 94, .inl f5)), (a6, .inl (nz_cI g, 94, .inl f6)), (a7, .inl (nz_cI g, 168, .inl f7)), (a9, .inl (nz_cI g, 400, .inl f9)), (a19, .inl (nz_cI g, 6, .inl f19)), (a20, .inl (nz_cI g, 49, .inl f20)), (a21, .inl (nz_cI g, 6, .inl f21)), (a22, .inl (nz_cZ g, 2, .inl f22)), (a23, .inl (nz_cI g, 188, .inl f23)), (a24, .inl (nz_cI g, 16, .inl f24))] (fun (u : Int32 × (Nat → Int32)) => K u.1 u.2) (fun u => [(o, .inr (8, [.int r0, .int r1, .ref a2, .ref a3, .ref a4, .ref a5, .ref a6, .ref a7, .int u.1, .ref a9, .int r10, .int r11, .int r12, .int r13, .int r14, .int r15, .int r16, .int r17, .int r18, .ref a19, .ref a20, .ref a21, .ref a22, .ref a23, .ref a24, .int r25])), (a2, .inl (nz_cI g, 8, .inl f2)), (a3, .inl (nz_cI g, 8, .inl f3)), (a4, .inl (nz_cI g, 320, .inl f4)), (a5, .inl (nz_cI g, 94, .inl f5)), (a6, .inl (nz_cI g, 94, .inl f6)), (a7, .inl (nz_cI g, 168, .inl u.2)), (a9, .inl (nz_cI g, 400, .inl f9)), (a19, .inl (nz_cI g, 6, .inl f19)), (a20, .inl (nz_cI g, 49, .inl f20)), (a21, .inl (nz_cI g, 6, .inl f21)), (a22, .inl (nz_cZ g, 2, .inl f22)), (a23, .inl (nz_cI g, 188, .inl f23)), (a24, .inl (nz_cI g, 16, .inl f24))])) av isC) (h : wp_X8_keep r8 f5 f7 K) (ws' : Int32 → (Nat → Int32) → va_W) (hm : ∀ (m0 : Int32) (m1 : (Nat → Int32)), nz_mrg ws isC [(o, .inr (8, [.int r0, .int r1, .ref a2, .ref a3, .ref a4, .ref a5, .ref a6, .ref a7, .int m0, .ref a9, .int r10, .int r11, .int r12, .int r13, .int r14, .int r15, .int r16, .int r17, .int r18, .ref a19, .ref a20, .ref a21, .ref a22, .ref a23, .ref a24, .int r25])), (a2, .inl (nz_cI g, 8, .inl f2)), (a3, .inl (nz_cI g, 8, .inl f3)), (a4, .inl (nz_cI g, 320, .inl f4)), (a5, .inl (nz_cI g, 94, .inl f5)), (a6, .inl (nz_cI g, 94, .inl f6)), (a7, .inl (nz_cI g, 168, .inl m1)), (a9, .inl (nz_cI g, 400, .inl f9)), (a19, .inl (nz_cI g, 6, .inl f19)), (a20, .inl (nz_cI g, 49, .inl f20)), (a21, .inl (nz_cI g, 6, .inl f21)), (a22, .inl (nz_cZ g, 2, .inl f22)), (a23, .inl (nz_cI g, 188, .inl f23)), (a24, .inl (nz_cI g, 16, .inl f24))] = ws' m0 m1) (kk : ∀ (m0 : Int32) (m1 : (Nat → Int32)), K m0 m1 → nz_V y g k n (ws' m0 m1) (pc + 3) ls (rest)) : nz_V y g k n ws pc ls st :=
  nz_cv (ws' := fun u => ws' u.1 u.2) (run (c_X8_keep (yz_l y) g o a2 a3 a4 a5 a6 a7 a9 a19 a20 a21 a22 a23 a24 r0 r1 r8 r10 r11 r12 r13 r14 r15 r16 r17 r18 r25 f2 f3 f4 f5 f6 f7 f9 f19 f20 f21 f22 f23 f24 K h)) (fun _ => rfl) (fun u => hm u.1 u.2) (fun u h => kk u.1 u.2 h)
theorem dX8_apart_0 : decode cX8_apart 0 = .ok (.iload_n 0, 1) := by decide +kernel
theorem dX8_apart_1 : decode cX8_apart 1 = .ok (.iload_n 1, 1) := by decide +kernel
theorem dX8_apart_2 : decode cX8_apart 2 = .ok (.if_icmp .ge 9, 3) := by decide +kernel
theorem dX8_apart_5 : decode cX8_apart 5 = .ok (.iload_n 1, 1) := by decide +kernel
theorem dX8_apart_6 : decode cX8_apart 6 = .ok (.iload_n 0, 1) := by decide +kernel
theorem dX8_apart_7 : decode cX8_apart 7 = .ok (.isub, 1) := by decide +kernel
theorem dX8_apart_8 : decode cX8_apart 8 = .ok (.goto 6, 3) := by decide +kernel
theorem dX8_apart_11 : decode cX8_apart 11 = .ok (.iload_n 0, 1) := by decide +kernel
theorem dX8_apart_12 : decode cX8_apart 12 = .ok (.iload_n 1, 1) := by decide +kernel
theorem dX8_apart_13 : decode cX8_apart 13 = .ok (.isub, 1) := by decide +kernel
theorem dX8_apart_14 : decode cX8_apart 14 = .ok (.ireturn, 1) := by decide +kernel
/-! X8_apart -/
abbrev rm_X8_apart : Room := { frames := 0, cells := 0, slots := 0, locals := 0 }
def wp_X8_apart (v0 : Int32) (v1 : Int32) (K : Int32 → Prop) : Prop := ((v1 ≤ v0 → K (v0 - v1)) ∧ (¬ (v1 ≤ v0) → K (v1 - v0)))
set_option maxHeartbeats 4000000 in
set_option maxRecDepth 100000 in
theorem c_X8_apart (l : Launch) (g : nz_G) (v0 : Int32) (v1 : Int32) (K : Int32 → Prop) (h : wp_X8_apart v0 v1 K) : nz_M l yX8_apart wsX8_apart rm_X8_apart g [.int v0, .int v1] [] (nz_Qi g [] (fun r (u : Unit) => K r) (fun u => [])) := by
  refine nz_M.of (bytes := cX8_apart) (nL := 2) (ret := (some .int)) (own := RX8) (by decide) rfl rfl ⟨rfl, rfl⟩ rfl ?_
  intro y F hl hQ
  obtain ⟨sz, hQ⟩ := hQ
  refine nz_ent (lv' := [(0, .int v0), (1, .int v1)]) rfl ?_
  unfold wp_X8_apart at h
  refine nz_iload_n F dX8_apart_0 rfl 0 rfl ?_
  refine nz_iload_n F dX8_apart_1 rfl 1 rfl ?_
  refine nz_icmp_ge (tgt := 11) F dX8_apart_2 (by decide) (fun c1 => ?_) (fun c1 => ?_)
  · have h := h.1 c1
    refine nz_iload_n F dX8_apart_11 rfl 0 rfl ?_
    refine nz_iload_n F dX8_apart_12 rfl 1 rfl ?_
    refine nz_isub F dX8_apart_13 ?_
    exact nz_iret F hQ () h rfl dX8_apart_14
  · have h := h.2 c1
    refine nz_iload_n F dX8_apart_5 rfl 1 rfl ?_
    refine nz_iload_n F dX8_apart_6 rfl 0 rfl ?_
    refine nz_isub F dX8_apart_7 ?_
    refine nz_goto (tgt := 14) F dX8_apart_8 (by decide) ?_
    exact nz_iret F hQ () h rfl dX8_apart_14
theorem k_X8_apart {y : nz_Y} {g : nz_G} {k n : Nat} {ws : va_W} {pc : Nat} {ls : List (Nat × Value)} {st rest : List Value} {av : Array Value} {isC : List Nat} {K : Int32 → Prop} (v0 : Int32) (v1 : Int32) (run : nz_M (yz_l y) yX8_apart wsX8_apart rm_X8_apart g [.int v0, .int v1] [] (nz_Qi g [] (fun r (u : Unit) => K r) (fun u => [])) → nz_C y g k n ws pc ls st rest [] (nz_Qi g [] (fun r (u : Unit) => K r) (fun u => [])) av isC) (h : wp_X8_apart v0 v1 K) (ws' : va_W) (hm : nz_mrg ws isC [] = ws' ) (kk : ∀ (r : Int32), K r → nz_V y g k n ws' (pc + 3) ls (.int r :: rest)) : nz_V y g k n ws pc ls st :=
  nz_ci (ws' := fun _ => ws') (run (c_X8_apart (yz_l y) g v0 v1 K h)) (fun _ => rfl) (fun _ => hm) (fun r u h => kk r h)
theorem dX8_isTime_0 : decode cX8_isTime 0 = .ok (.aload_n 0, 1) := by decide +kernel
theorem dX8_isTime_1 : decode cX8_isTime 1 = .ok (.iload_n 1, 1) := by decide +kernel
theorem dX8_isTime_2 : decode cX8_isTime 2 = .ok (.invokevirtual 206, 3) := by decide +kernel
theorem dX8_isTime_5 : decode cX8_isTime 5 = .ok (.ifCond .eq 45, 3) := by decide +kernel
theorem dX8_isTime_8 : decode cX8_isTime 8 = .ok (.aload_n 0, 1) := by decide +kernel
theorem dX8_isTime_9 : decode cX8_isTime 9 = .ok (.iload_n 2, 1) := by decide +kernel
theorem dX8_isTime_10 : decode cX8_isTime 10 = .ok (.invokevirtual 206, 3) := by decide +kernel
theorem dX8_isTime_13 : decode cX8_isTime 13 = .ok (.ifCond .eq 37, 3) := by decide +kernel
theorem dX8_isTime_16 : decode cX8_isTime 16 = .ok (.iload_n 1, 1) := by decide +kernel
theorem dX8_isTime_17 : decode cX8_isTime 17 = .ok (.iload_n 2, 1) := by decide +kernel
theorem dX8_isTime_18 : decode cX8_isTime 18 = .ok (.if_icmp .ge 32, 3) := by decide +kernel
theorem dX8_isTime_21 : decode cX8_isTime 21 = .ok (.iload_n 3, 1) := by decide +kernel
theorem dX8_isTime_22 : decode cX8_isTime 22 = .ok (.i2l, 1) := by decide +kernel
theorem dX8_isTime_23 : decode cX8_isTime 23 = .ok (.lconst 1, 1) := by decide +kernel
theorem dX8_isTime_24 : decode cX8_isTime 24 = .ok (.ldc2_w 212, 3) := by decide +kernel
theorem dX8_isTime_27 : decode cX8_isTime 27 = .ok (.invokestatic 60, 3) := by decide +kernel
theorem dX8_isTime_30 : decode cX8_isTime 30 = .ok (.ifCond .eq 20, 3) := by decide +kernel
theorem dX8_isTime_33 : decode cX8_isTime 33 = .ok (.iload 4, 2) := by decide +kernel
theorem dX8_isTime_35 : decode cX8_isTime 35 = .ok (.i2l, 1) := by decide +kernel
theorem dX8_isTime_36 : decode cX8_isTime 36 = .ok (.lconst 0, 1) := by decide +kernel
theorem dX8_isTime_37 : decode cX8_isTime 37 = .ok (.ldc2_w 214, 3) := by decide +kernel
theorem dX8_isTime_40 : decode cX8_isTime 40 = .ok (.invokestatic 60, 3) := by decide +kernel
theorem dX8_isTime_43 : decode cX8_isTime 43 = .ok (.ifCond .eq 7, 3) := by decide +kernel
theorem dX8_isTime_46 : decode cX8_isTime 46 = .ok (.iconst 1, 1) := by decide +kernel
theorem dX8_isTime_47 : decode cX8_isTime 47 = .ok (.goto 4, 3) := by decide +kernel
theorem dX8_isTime_50 : decode cX8_isTime 50 = .ok (.iconst 0, 1) := by decide +kernel
theorem dX8_isTime_51 : decode cX8_isTime 51 = .ok (.ireturn, 1) := by decide +kernel
set_option maxRecDepth 20000 in
theorem ggX8_isTime_X8_in : GoodIn wsX8_isTime wsX8_in := goodIn_r _ [11] rfl (by decide +kernel)
set_option maxRecDepth 20000 in
theorem gX8_isTime_X8_in : GoodIn wsX8_isTime (va_wsS RX8 60 yX8_in wsX8_in) := goodIn_app (goodIn_r _ [9, 10, 6] rfl (by decide +kernel)) ggX8_isTime_X8_in
set_option maxRecDepth 20000 in
theorem ggX8_isTime_X8_isStone : GoodIn wsX8_isTime wsX8_isStone := goodIn_r _ [7, 8, 9, 10, 6, 11, 12, 13, 14, 15, 16, 17, 18, 19, 20, 21, 22, 23, 24, 25, 26, 27, 28, 29, 30, 31, 32, 33, 34, 35, 36, 37] rfl (by decide +kernel)
set_option maxRecDepth 20000 in
theorem gX8_isTime_X8_isStone : GoodIn wsX8_isTime (wsV RX8 206 RX8 yX8_isStone wsX8_isStone) := goodIn_app (goodIn_r _ [3, 4, 5, 6] rfl (by decide +kernel)) ggX8_isTime_X8_isStone
theorem hd_X8_isStone : yX8_isStone.cls = RX8 ∧ yX8_isStone.cls ≠ "java/lang/invoke/MethodHandle" ∧ yX8_isStone.cls ≠ "java/lang/invoke/VarHandle" ∧ (parseMethodDescriptor yX8_isStone.desc).map (fun d => d.parameters.length) = some 1 := by decide +kernel
/-! X8_isTime -/
abbrev rm_X8_isTime : Room := { frames := 2, cells := 0, slots := 0, locals := 46 }
theorem wd_X8_isTime_c212 : Cond.constantLong RX8 212 (20) ∈ wsX8_isTime := List.mem_of_getElem? (i := 1) rfl
theorem wd_X8_isTime_c214 : Cond.constantLong RX8 214 (99) ∈ wsX8_isTime := List.mem_of_getElem? (i := 2) rfl
def wp_X8_isTime (f5 : Nat → Int32) (v1 : Int32) (v2 : Int32) (v3 : Int32) (v4 : Int32) (K : Int32 → Prop) : Prop := wp_X8_isStone f5 v1 (fun q1 => ((q1 = 0 → K 0) ∧ (¬ (q1 = 0) → wp_X8_isStone f5 v2 (fun q3 => ((q3 = 0 → K 0) ∧ (¬ (q3 = 0) → ((v2 ≤ v1 → K 0) ∧ (¬ (v2 ≤ v1) → wp_X8_in ((v3 : Int32).toInt64) 1 20 (fun q6 => ((q6 = 0 → K 0) ∧ (¬ (q6 = 0) → wp_X8_in ((v4 : Int32).toInt64) 0 99 (fun q8 => ((q8 = 0 → K 0) ∧ (¬ (q8 = 0) → K 1))))))))))))))
set_option maxHeartbeats 4000000 in
set_option maxRecDepth 100000 in
theorem c_X8_isTime (l : Launch) (g : nz_G) (o : Nat) (a2 : Nat) (a3 : Nat) (a4 : Nat) (a5 : Nat) (a6 : Nat) (a7 : Nat) (a9 : Nat) (a19 : Nat) (a20 : Nat) (a21 : Nat) (a22 : Nat) (a23 : Nat) (a24 : Nat) (r0 : Int32) (r1 : Int32) (r8 : Int32) (r10 : Int32) (r11 : Int32) (r12 : Int32) (r13 : Int32) (r14 : Int32) (r15 : Int32) (r16 : Int32) (r17 : Int32) (r18 : Int32) (r25 : Int32) (f2 : Nat → Int32) (f3 : Nat → Int32) (f4 : Nat → Int32) (f5 : Nat → Int32) (f6 : Nat → Int32) (f7 : Nat → Int32) (f9 : Nat → Int32) (f19 : Nat → Int32) (f20 : Nat → Int32) (f21 : Nat → Int32) (f22 : Nat → Int32) (f23 : Nat → Int32) (f24 : Nat → Int32) (v1 : Int32) (v2 : Int32) (v3 : Int32) (v4 : Int32) (K : Int32 → Prop) (h : wp_X8_isTime f5 v1 v2 v3 v4 K) : nz_M l yX8_isTime wsX8_isTime rm_X8_isTime g [.ref o, .int v1, .int v2, .int v3, .int v4] [(o, .inr (8, [.int r0, .int r1, .ref a2, .ref a3, .ref a4, .ref a5, .ref a6, .ref a7, .int r8, .ref a9, .int r10, .int r11, .int r12, .int r13, .int r14, .int r15, .int r16, .int r17, .int r18, .ref a19, .ref a20, .ref a21, .ref a22, .ref a23, .ref a24, .int r25])), (a2, .inl (nz_cI g, 8, .inl f2)), (a3, .inl (nz_cI g, 8, .inl f3)), (a4, .inl (nz_cI g, 320, .inl f4)), (a5, .inl (nz_cI g, 94, .inl f5)), (a6, .inl (nz_cI g, 94, .inl f6)), (a7, .inl (nz_cI g, 168, .inl f7)), (a9, .inl (nz_cI g, 400, .inl f9)), (a19, .inl (nz_cI g, 6, .inl f19)), (a20, .inl (nz_cI g, 49, .inl f20)), (a21, .inl (nz_cI g, 6, .inl f21)), (a22, .inl (nz_cZ g, 2, .inl f22)), (a23, .inl (nz_cI g, 188, .inl f23)), (a24, .inl (nz_cI g, 16, .inl f24))] (nz_Qi g [(o, .inr (8, [.int r0, .int r1, .ref a2, .ref a3, .ref a4, .ref a5, .ref a6, .ref a7, .int r8, .ref a9, .int r10, .int r11, .int r12, .int r13, .int r14, .int r15, .int r16, .int r17, .int r18, .ref a19, .ref a20, .ref a21, .ref a22, .ref a23, .ref a24, .int r25])), (a2, .inl (nz_cI g, 8, .inl f2)), (a3, .inl (nz_cI g, 8, .inl f3)), (a4, .inl (nz_cI g, 320, .inl f4)), (a5, .inl (nz_cI g, 94, .inl f5)), (a6, .inl (nz_cI g, 94, .inl f6)), (a7, .inl (nz_cI g, 168, .inl f7)), (a9, .inl (nz_cI g, 400, .inl f9)), (a19, .inl (nz_cI g, 6, .inl f19)), (a20, .inl (nz_cI g, 49, .inl f20)), (a21, .inl (nz_cI g, 6, .inl f21)), (a22, .inl (nz_cZ g, 2, .inl f22)), (a23, .inl (nz_cI g, 188, .inl f23)), (a24, .inl (nz_cI g, 16, .inl f24))] (fun r (u : Unit) => K r) (fun u => [(o, .inr (8, [.int r0, .int r1, .ref a2, .ref a3, .ref a4, .ref a5, .ref a6, .ref a7, .int r8, .ref a9, .int r10, .int r11, .int r12, .int r13, .int r14, .int r15, .int r16, .int r17, .int r18, .ref a19, .ref a20, .ref a21, .ref a22, .ref a23, .ref a24, .int r25])), (a2, .inl (nz_cI g, 8, .inl f2)), (a3, .inl (nz_cI g, 8, .inl f3)), (a4, .inl (nz_cI g, 320, .inl f4)), (a5, .inl (nz_cI g, 94, .inl f5)), (a6, .inl (nz_cI g, 94, .inl f6)), (a7, .inl (nz_cI g, 168, .inl f7)), (a9, .inl (nz_cI g, 400, .inl f9)), (a19, .inl (nz_cI g, 6, .inl f19)), (a20, .inl (nz_cI g, 49, .inl f20)), (a21, .inl (nz_cI g, 6, .inl f21)), (a22, .inl (nz_cZ g, 2, .inl f22)), (a23, .inl (nz_cI g, 188, .inl f23)), (a24, .inl (nz_cI g, 16, .inl f24))])) := by
  refine nz_M.of (bytes := cX8_isTime) (nL := 5) (ret := (some .boolean)) (own := RX8) (by decide) rfl rfl ⟨rfl, rfl⟩ rfl ?_
  intro y F hl hQ
  obtain ⟨sz, hQ⟩ := hQ
  refine nz_ent (lv' := [(0, .ref o), (1, .int v1), (2, .int v2), (3, .int v3), (4, .int v4)]) rfl ?_
  unfold wp_X8_isTime at h
  refine nz_aload_n F dX8_isTime_0 rfl 0 rfl ?_
  refine nz_iload_n F dX8_isTime_1 rfl 1 rfl ?_
  refine k_X8_isStone o a2 a3 a4 a5 a6 a7 a9 a19 a20 a21 a22 a23 a24 r0 r1 r8 r10 r11 r12 r13 r14 r15 r16 r17 r18 r25 f2 f3 f4 f5 f6 f7 f9 f19 f20 f21 f22 f23 f24 v1 (fun hM => nz_runV F gX8_isTime_X8_isStone rfl hd_X8_isStone rfl hM dX8_isTime_2 [0, 1, 2, 3, 4, 5, 6, 7, 8, 9, 10, 11, 12, 13] rfl rfl 0 rfl rfl rfl (Nat.le_of_ble_eq_true rfl) rfl) h ([(o, .inr (8, [.int r0, .int r1, .ref a2, .ref a3, .ref a4, .ref a5, .ref a6, .ref a7, .int r8, .ref a9, .int r10, .int r11, .int r12, .int r13, .int r14, .int r15, .int r16, .int r17, .int r18, .ref a19, .ref a20, .ref a21, .ref a22, .ref a23, .ref a24, .int r25])), (a2, .inl (nz_cI g, 8, .inl f2)), (a3, .inl (nz_cI g, 8, .inl f3)), (a4, .inl (nz_cI g, 320, .inl f4)), (a5, .inl (nz_cI g, 94, .inl f5)), (a6, .inl (nz_cI g, 94, .inl f6)), (a7, .inl (nz_cI g, 168, .inl f7)), (a9, .inl (nz_cI g, 400, .inl f9)), (a19, .inl (nz_cI g, 6, .inl f19)), (a20, .inl (nz_cI g, 49, .inl f20)), (a21, .inl (nz_cI g, 6, .inl f21)), (a22, .inl (nz_cZ g, 2, .inl f22)), (a23, .inl (nz_cI g, 188, .inl f23)), (a24, .inl (nz_cI g, 16, .inl f24))]) (rfl) (fun q1 h => ?_)
  refine nz_if_eq (tgt := 50) F dX8_isTime_5 (by decide) (fun c2 => ?_) (fun c2 => ?_)
  · have h := h.1 c2
    refine nz_iconst (v := 0) F dX8_isTime_50 (by decide) ?_
    exact nz_zret F hQ () h rfl (by decide) dX8_isTime_51
  · have h := h.2 c2
    refine nz_aload_n F dX8_isTime_8 rfl 0 rfl ?_
    refine nz_iload_n F dX8_isTime_9 rfl 2 rfl ?_
    refine k_X8_isStone o a2 a3 a4 a5 a6 a7 a9 a19 a20 a21 a22 a23 a24 r0 r1 r8 r10 r11 r12 r13 r14 r15 r16 r17 r18 r25 f2 f3 f4 f5 f6 f7 f9 f19 f20 f21 f22 f23 f24 v2 (fun hM => nz_runV F gX8_isTime_X8_isStone rfl hd_X8_isStone rfl hM dX8_isTime_10 [0, 1, 2, 3, 4, 5, 6, 7, 8, 9, 10, 11, 12, 13] rfl rfl 0 rfl rfl rfl (Nat.le_of_ble_eq_true rfl) rfl) h ([(o, .inr (8, [.int r0, .int r1, .ref a2, .ref a3, .ref a4, .ref a5, .ref a6, .ref a7, .int r8, .ref a9, .int r10, .int r11, .int r12, .int r13, .int r14, .int r15, .int r16, .int r17, .int r18, .ref a19, .ref a20, .ref a21, .ref a22, .ref a23, .ref a24, .int r25])), (a2, .inl (nz_cI g, 8, .inl f2)), (a3, .inl (nz_cI g, 8, .inl f3)), (a4, .inl (nz_cI g, 320, .inl f4)), (a5, .inl (nz_cI g, 94, .inl f5)), (a6, .inl (nz_cI g, 94, .inl f6)), (a7, .inl (nz_cI g, 168, .inl f7)), (a9, .inl (nz_cI g, 400, .inl f9)), (a19, .inl (nz_cI g, 6, .inl f19)), (a20, .inl (nz_cI g, 49, .inl f20)), (a21, .inl (nz_cI g, 6, .inl f21)), (a22, .inl (nz_cZ g, 2, .inl f22)), (a23, .inl (nz_cI g, 188, .inl f23)), (a24, .inl (nz_cI g, 16, .inl f24))]) (rfl) (fun q3 h => ?_)
    refine nz_if_eq (tgt := 50) F dX8_isTime_13 (by decide) (fun c4 => ?_) (fun c4 => ?_)
    · have h := h.1 c4
      refine nz_iconst (v := 0) F dX8_isTime_50 (by decide) ?_
      exact nz_zret F hQ () h rfl (by decide) dX8_isTime_51
    · have h := h.2 c4
      refine nz_iload_n F dX8_isTime_16 rfl 1 rfl ?_
      refine nz_iload_n F dX8_isTime_17 rfl 2 rfl ?_
      refine nz_icmp_ge (tgt := 50) F dX8_isTime_18 (by decide) (fun c5 => ?_) (fun c5 => ?_)
      · have h := h.1 c5
        refine nz_iconst (v := 0) F dX8_isTime_50 (by decide) ?_
        exact nz_zret F hQ () h rfl (by decide) dX8_isTime_51
      · have h := h.2 c5
        refine nz_iload_n F dX8_isTime_21 rfl 3 rfl ?_
        refine nz_i2l (v := ((v3 : Int32).toInt64)) F dX8_isTime_22 rfl ?_
        refine nz_lconst (v := 1) F dX8_isTime_23 (by decide) ?_
        refine nz_ldc2 (v := 20) F wd_X8_isTime_c212 dX8_isTime_24 ?_
        refine k_X8_in ((v3 : Int32).toInt64) 1 20 (fun hM => nz_runS F gX8_isTime_X8_in rfl hd_X8_in.2 rfl hM dX8_isTime_27 [] rfl rfl rfl (Nat.le_of_ble_eq_true rfl) rfl) h ([(o, .inr (8, [.int r0, .int r1, .ref a2, .ref a3, .ref a4, .ref a5, .ref a6, .ref a7, .int r8, .ref a9, .int r10, .int r11, .int r12, .int r13, .int r14, .int r15, .int r16, .int r17, .int r18, .ref a19, .ref a20, .ref a21, .ref a22, .ref a23, .ref a24, .int r25])), (a2, .inl (nz_cI g, 8, .inl f2)), (a3, .inl (nz_cI g, 8, .inl f3)), (a4, .inl (nz_cI g, 320, .inl f4)), (a5, .inl (nz_cI g, 94, .inl f5)), (a6, .inl (nz_cI g, 94, .inl f6)), (a7, .inl (nz_cI g, 168, .inl f7)), (a9, .inl (nz_cI g, 400, .inl f9)), (a19, .inl (nz_cI g, 6, .inl f19)), (a20, .inl (nz_cI g, 49, .inl f20)), (a21, .inl (nz_cI g, 6, .inl f21)), (a22, .inl (nz_cZ g, 2, .inl f22)), (a23, .inl (nz_cI g, 188, .inl f23)), (a24, .inl (nz_cI g, 16, .inl f24))]) (rfl) (fun q6 h => ?_)
        refine nz_if_eq (tgt := 50) F dX8_isTime_30 (by decide) (fun c7 => ?_) (fun c7 => ?_)
        · have h := h.1 c7
          refine nz_iconst (v := 0) F dX8_isTime_50 (by decide) ?_
          exact nz_zret F hQ () h rfl (by decide) dX8_isTime_51
        · have h := h.2 c7
          refine nz_iload F dX8_isTime_33 4 rfl ?_
          refine nz_i2l (v := ((v4 : Int32).toInt64)) F dX8_isTime_35 rfl ?_
          refine nz_lconst (v := 0) F dX8_isTime_36 (by decide) ?_
          refine nz_ldc2 (v := 99) F wd_X8_isTime_c214 dX8_isTime_37 ?_
          refine k_X8_in ((v4 : Int32).toInt64) 0 99 (fun hM => nz_runS F gX8_isTime_X8_in rfl hd_X8_in.2 rfl hM dX8_isTime_40 [] rfl rfl rfl (Nat.le_of_ble_eq_true rfl) rfl) h ([(o, .inr (8, [.int r0, .int r1, .ref a2, .ref a3, .ref a4, .ref a5, .ref a6, .ref a7, .int r8, .ref a9, .int r10, .int r11, .int r12, .int r13, .int r14, .int r15, .int r16, .int r17, .int r18, .ref a19, .ref a20, .ref a21, .ref a22, .ref a23, .ref a24, .int r25])), (a2, .inl (nz_cI g, 8, .inl f2)), (a3, .inl (nz_cI g, 8, .inl f3)), (a4, .inl (nz_cI g, 320, .inl f4)), (a5, .inl (nz_cI g, 94, .inl f5)), (a6, .inl (nz_cI g, 94, .inl f6)), (a7, .inl (nz_cI g, 168, .inl f7)), (a9, .inl (nz_cI g, 400, .inl f9)), (a19, .inl (nz_cI g, 6, .inl f19)), (a20, .inl (nz_cI g, 49, .inl f20)), (a21, .inl (nz_cI g, 6, .inl f21)), (a22, .inl (nz_cZ g, 2, .inl f22)), (a23, .inl (nz_cI g, 188, .inl f23)), (a24, .inl (nz_cI g, 16, .inl f24))]) (rfl) (fun q8 h => ?_)
          refine nz_if_eq (tgt := 50) F dX8_isTime_43 (by decide) (fun c9 => ?_) (fun c9 => ?_)
          · have h := h.1 c9
            refine nz_iconst (v := 0) F dX8_isTime_50 (by decide) ?_
            exact nz_zret F hQ () h rfl (by decide) dX8_isTime_51
          · have h := h.2 c9
            refine nz_iconst (v := 1) F dX8_isTime_46 (by decide) ?_
            refine nz_goto (tgt := 51) F dX8_isTime_47 (by decide) ?_
            exact nz_zret F hQ () h rfl (by decide) dX8_isTime_51
theorem k_X8_isTime {y : nz_Y} {g : nz_G} {k n : Nat} {ws : va_W} {pc : Nat} {ls : List (Nat × Value)} {st rest : List Value} {av : Array Value} {isC : List Nat} {K : Int32 → Prop} (o : Nat) (a2 : Nat) (a3 : Nat) (a4 : Nat) (a5 : Nat) (a6 : Nat) (a7 : Nat) (a9 : Nat) (a19 : Nat) (a20 : Nat) (a21 : Nat) (a22 : Nat) (a23 : Nat) (a24 : Nat) (r0 : Int32) (r1 : Int32) (r8 : Int32) (r10 : Int32) (r11 : Int32) (r12 : Int32) (r13 : Int32) (r14 : Int32) (r15 : Int32) (r16 : Int32) (r17 : Int32) (r18 : Int32) (r25 : Int32) (f2 : Nat → Int32) (f3 : Nat → Int32) (f4 : Nat → Int32) (f5 : Nat → Int32) (f6 : Nat → Int32) (f7 : Nat → Int32) (f9 : Nat → Int32) (f19 : Nat → Int32) (f20 : Nat → Int32) (f21 : Nat → Int32) (f22 : Nat → Int32) (f23 : Nat → Int32) (f24 : Nat → Int32) (v1 : Int32) (v2 : Int32) (v3 : Int32) (v4 : Int32) (run : nz_M (yz_l y) yX8_isTime wsX8_isTime rm_X8_isTime g [.ref o, .int v1, .int v2, .int v3, .int v4] [(o, .inr (8, [.int r0, .int r1, .ref a2, .ref a3, .ref a4, .ref a5, .ref a6, .ref a7, .int r8, .ref a9, .int r10, .int r11, .int r12, .int r13, .int r14, .int r15, .int r16, .int r17, .int r18, .ref a19, .ref a20, .ref a21, .ref a22, .ref a23, .ref a24, .int r25])), (a2, .inl (nz_cI g, 8, .inl f2)), (a3, .inl (nz_cI g, 8, .inl f3)), (a4, .inl (nz_cI g, 320, .inl f4)), (a5, .inl (nz_cI g, 94, .inl f5)), (a6, .inl (nz_cI g, 94, .inl f6)), (a7, .inl (nz_cI g, 168, .inl f7)), (a9, .inl (nz_cI g, 400, .inl f9)), (a19, .inl (nz_cI g, 6, .inl f19)), (a20, .inl (nz_cI g, 49, .inl f20)), (a21, .inl (nz_cI g, 6, .inl f21)), (a22, .inl (nz_cZ g, 2, .inl f22)), (a23, .inl (nz_cI g, 188, .inl f23)), (a24, .inl (nz_cI g, 16, .inl f24))] (nz_Qi g [(o, .inr (8, [.int r0, .int r1, .ref a2, .ref a3, .ref a4, .ref a5, .ref a6, .ref a7, .int r8, .ref a9, .int r10, .int r11, .int r12, .int r13, .int r14, .int r15, .int r16, .int r17, .int r18, .ref a19, .ref a20, .ref a21, .ref a22, .ref a23, .ref a24, .int r25])), (a2, .inl (nz_cI g, 8, .inl f2)), (a3, .inl (nz_cI g, 8, .inl f3)), (a4, .inl (nz_cI g, 320, .inl f4)), (a5, .inl (nz_cI g, 94, .inl f5)), (a6, .inl (nz_cI g, 94, .inl f6)), (a7, .inl (nz_cI g, 168, .inl f7)), (a9, .inl (nz_cI g, 400, .inl f9)), (a19, .inl (nz_cI g, 6, .inl f19)), (a20, .inl (nz_cI g, 49, .inl f20)), (a21, .inl (nz_cI g, 6, .inl f21)), (a22, .inl (nz_cZ g, 2, .inl f22)), (a23, .inl (nz_cI g, 188, .inl f23)), (a24, .inl (nz_cI g, 16, .inl f24))] (fun r (u : Unit) => K r) (fun u => [(o, .inr (8, [.int r0, .int r1, .ref a2, .ref a3, .ref a4, .ref a5, .ref a6, .ref a7, .int r8, .ref a9, .int r10, .int r11, .int r12, .int r13, .int r14, .int r15, .int r16, .int r17, .int r18, .ref a19, .ref a20, .ref a21, .ref a22, .ref a23, .ref a24, .int r25])), (a2, .inl (nz_cI g, 8, .inl f2)), (a3, .inl (nz_cI g, 8, .inl f3)), (a4, .inl (nz_cI g, 320, .inl f4)), (a5, .inl (nz_cI g, 94, .inl f5)), (a6, .inl (nz_cI g, 94, .inl f6)), (a7, .inl (nz_cI g, 168, .inl f7)), (a9, .inl (nz_cI g, 400, .inl f9)), (a19, .inl (nz_cI g, 6, .inl f19)), (a20, .inl (nz_cI g, 49, .inl f20)), (a21, .inl (nz_cI g, 6, .inl f21)), (a22, .inl (nz_cZ g, 2, .inl f22)), (a23, .inl (nz_cI g, 188, .inl f23)), (a24, .inl (nz_cI g, 16, .inl f24))])) → nz_C y g k n ws pc ls st rest [(o, .inr (8, [.int r0, .int r1, .ref a2, .ref a3, .ref a4, .ref a5, .ref a6, .ref a7, .int r8, .ref a9, .int r10, .int r11, .int r12, .int r13, .int r14, .int r15, .int r16, .int r17, .int r18, .ref a19, .ref a20, .ref a21, .ref a22, .ref a23, .ref a24, .int r25])), (a2, .inl (nz_cI g, 8, .inl f2)), (a3, .inl (nz_cI g, 8, .inl f3)), (a4, .inl (nz_cI g, 320, .inl f4)), (a5, .inl (nz_cI g, 94, .inl f5)), (a6, .inl (nz_cI g, 94, .inl f6)), (a7, .inl (nz_cI g, 168, .inl f7)), (a9, .inl (nz_cI g, 400, .inl f9)), (a19, .inl (nz_cI g, 6, .inl f19)), (a20, .inl (nz_cI g, 49, .inl f20)), (a21, .inl (nz_cI g, 6, .inl f21)), (a22, .inl (nz_cZ g, 2, .inl f22)), (a23, .inl (nz_cI g, 188, .inl f23)), (a24, .inl (nz_cI g, 16, .inl f24))] (nz_Qi g [(o, .inr (8, [.int r0, .int r1, .ref a2, .ref a3, .ref a4, .ref a5, .ref a6, .ref a7, .int r8, .ref a9, .int r10, .int r11, .int r12, .int r13, .int r14, .int r15, .int r16, .int r17, .int r18, .ref a19, .ref a20, .ref a21, .ref a22, .ref a23, .ref a24, .int r25])), (a2, .inl (nz_cI g, 8, .inl f2)), (a3, .inl (nz_cI g, 8, .inl f3)), (a4, .inl (nz_cI g, 320, .inl f4)), (a5, .inl (nz_cI g, 94, .inl f5)), (a6, .inl (nz_cI g, 94, .inl f6)), (a7, .inl (nz_cI g, 168, .inl f7)), (a9, .inl (nz_cI g, 400, .inl f9)), (a19, .inl (nz_cI g, 6, .inl f19)), (a20, .inl (nz_cI g, 49, .inl f20)), (a21, .inl (nz_cI g, 6, .inl f21)), (a22, .inl (nz_cZ g, 2, .inl f22)), (a23, .inl (nz_cI g, 188, .inl f23)), (a24, .inl (nz_cI g, 16, .inl f24))] (fun r (u : Unit) => K r) (fun u => [(o, .inr (8, [.int r0, .int r1, .ref a2, .ref a3, .ref a4, .ref a5, .ref a6, .ref a7, .int r8, .ref a9, .int r10, .int r11, .int r12, .int r13, .int r14, .int r15, .int r16, .int r17, .int r18, .ref a19, .ref a20, .ref a21, .ref a22, .ref a23, .ref a24, .int r25])), (a2, .inl (nz_cI g, 8, .inl f2)), (a3, .inl (nz_cI g, 8, .inl f3)), (a4, .inl (nz_cI g, 320, .inl f4)), (a5, .inl (nz_cI g, 94, .inl f5)), (a6, .inl (nz_cI g, 94, .inl f6)), (a7, .inl (nz_cI g, 168, .inl f7)), (a9, .inl (nz_cI g, 400, .inl f9)), (a19, .inl (nz_cI g, 6, .inl f19)), (a20, .inl (nz_cI g, 49, .inl f20)), (a21, .inl (nz_cI g, 6, .inl f21)), (a22, .inl (nz_cZ g, 2, .inl f22)), (a23, .inl (nz_cI g, 188, .inl f23)), (a24, .inl (nz_cI g, 16, .inl f24))])) av isC) (h : wp_X8_isTime f5 v1 v2 v3 v4 K) (ws' : va_W) (hm : nz_mrg ws isC [(o, .inr (8, [.int r0, .int r1, .ref a2, .ref a3, .ref a4, .ref a5, .ref a6, .ref a7, .int r8, .ref a9, .int r10, .int r11, .int r12, .int r13, .int r14, .int r15, .int r16, .int r17, .int r18, .ref a19, .ref a20, .ref a21, .ref a22, .ref a23, .ref a24, .int r25])), (a2, .inl (nz_cI g, 8, .inl f2)), (a3, .inl (nz_cI g, 8, .inl f3)), (a4, .inl (nz_cI g, 320, .inl f4)), (a5, .inl (nz_cI g, 94, .inl f5)), (a6, .inl (nz_cI g, 94, .inl f6)), (a7, .inl (nz_cI g, 168, .inl f7)), (a9, .inl (nz_cI g, 400, .inl f9)), (a19, .inl (nz_cI g, 6, .inl f19)), (a20, .inl (nz_cI g, 49, .inl f20)), (a21, .inl (nz_cI g, 6, .inl f21)), (a22, .inl (nz_cZ g, 2, .inl f22)), (a23, .inl (nz_cI g, 188, .inl f23)), (a24, .inl (nz_cI g, 16, .inl f24))] = ws' ) (kk : ∀ (r : Int32), K r → nz_V y g k n ws' (pc + 3) ls (.int r :: rest)) : nz_V y g k n ws pc ls st :=
  nz_ci (ws' := fun _ => ws') (run (c_X8_isTime (yz_l y) g o a2 a3 a4 a5 a6 a7 a9 a19 a20 a21 a22 a23 a24 r0 r1 r8 r10 r11 r12 r13 r14 r15 r16 r17 r18 r25 f2 f3 f4 f5 f6 f7 f9 f19 f20 f21 f22 f23 f24 v1 v2 v3 v4 K h)) (fun _ => rfl) (fun _ => hm) (fun r u h => kk r h)
theorem dX8_addTime_0 : decode cX8_addTime 0 = .ok (.bipush 46, 2) := by decide +kernel
theorem dX8_addTime_2 : decode cX8_addTime 2 = .ok (.iconst 4, 1) := by decide +kernel
theorem dX8_addTime_3 : decode cX8_addTime 3 = .ok (.aload_n 0, 1) := by decide +kernel
theorem dX8_addTime_4 : decode cX8_addTime 4 = .ok (.getfield 19, 3) := by decide +kernel
theorem dX8_addTime_7 : decode cX8_addTime 7 = .ok (.bipush 7, 2) := by decide +kernel
theorem dX8_addTime_9 : decode cX8_addTime 9 = .ok (.iaload, 1) := by decide +kernel
theorem dX8_addTime_10 : decode cX8_addTime 10 = .ok (.imul, 1) := by decide +kernel
theorem dX8_addTime_11 : decode cX8_addTime 11 = .ok (.iadd, 1) := by decide +kernel
theorem dX8_addTime_12 : decode cX8_addTime 12 = .ok (.istore 5, 2) := by decide +kernel
theorem dX8_addTime_14 : decode cX8_addTime 14 = .ok (.aload_n 0, 1) := by decide +kernel
theorem dX8_addTime_15 : decode cX8_addTime 15 = .ok (.getfield 19, 3) := by decide +kernel
theorem dX8_addTime_18 : decode cX8_addTime 18 = .ok (.iload 5, 2) := by decide +kernel
theorem dX8_addTime_20 : decode cX8_addTime 20 = .ok (.iload_n 1, 1) := by decide +kernel
theorem dX8_addTime_21 : decode cX8_addTime 21 = .ok (.iastore, 1) := by decide +kernel
theorem dX8_addTime_22 : decode cX8_addTime 22 = .ok (.aload_n 0, 1) := by decide +kernel
theorem dX8_addTime_23 : decode cX8_addTime 23 = .ok (.getfield 19, 3) := by decide +kernel
theorem dX8_addTime_26 : decode cX8_addTime 26 = .ok (.iload 5, 2) := by decide +kernel
theorem dX8_addTime_28 : decode cX8_addTime 28 = .ok (.iconst 1, 1) := by decide +kernel
theorem dX8_addTime_29 : decode cX8_addTime 29 = .ok (.iadd, 1) := by decide +kernel
theorem dX8_addTime_30 : decode cX8_addTime 30 = .ok (.iload_n 2, 1) := by decide +kernel
theorem dX8_addTime_31 : decode cX8_addTime 31 = .ok (.iastore, 1) := by decide +kernel
theorem dX8_addTime_32 : decode cX8_addTime 32 = .ok (.aload_n 0, 1) := by decide +kernel
theorem dX8_addTime_33 : decode cX8_addTime 33 = .ok (.getfield 19, 3) := by decide +kernel
theorem dX8_addTime_36 : decode cX8_addTime 36 = .ok (.iload 5, 2) := by decide +kernel
theorem dX8_addTime_38 : decode cX8_addTime 38 = .ok (.iconst 2, 1) := by decide +kernel
theorem dX8_addTime_39 : decode cX8_addTime 39 = .ok (.iadd, 1) := by decide +kernel
theorem dX8_addTime_40 : decode cX8_addTime 40 = .ok (.iload_n 3, 1) := by decide +kernel
theorem dX8_addTime_41 : decode cX8_addTime 41 = .ok (.iastore, 1) := by decide +kernel
theorem dX8_addTime_42 : decode cX8_addTime 42 = .ok (.aload_n 0, 1) := by decide +kernel
theorem dX8_addTime_43 : decode cX8_addTime 43 = .ok (.getfield 19, 3) := by decide +kernel
theorem dX8_addTime_46 : decode cX8_addTime 46 = .ok (.iload 5, 2) := by decide +kernel
theorem dX8_addTime_48 : decode cX8_addTime 48 = .ok (.iconst 3, 1) := by decide +kernel
theorem dX8_addTime_49 : decode cX8_addTime 49 = .ok (.iadd, 1) := by decide +kernel
theorem dX8_addTime_50 : decode cX8_addTime 50 = .ok (.iload 4, 2) := by decide +kernel
theorem dX8_addTime_52 : decode cX8_addTime 52 = .ok (.iastore, 1) := by decide +kernel
theorem dX8_addTime_53 : decode cX8_addTime 53 = .ok (.aload_n 0, 1) := by decide +kernel
theorem dX8_addTime_54 : decode cX8_addTime 54 = .ok (.getfield 19, 3) := by decide +kernel
theorem dX8_addTime_57 : decode cX8_addTime 57 = .ok (.bipush 7, 2) := by decide +kernel
theorem dX8_addTime_59 : decode cX8_addTime 59 = .ok (.dup2, 1) := by decide +kernel
theorem dX8_addTime_60 : decode cX8_addTime 60 = .ok (.iaload, 1) := by decide +kernel
theorem dX8_addTime_61 : decode cX8_addTime 61 = .ok (.iconst 1, 1) := by decide +kernel
theorem dX8_addTime_62 : decode cX8_addTime 62 = .ok (.iadd, 1) := by decide +kernel
theorem dX8_addTime_63 : decode cX8_addTime 63 = .ok (.iastore, 1) := by decide +kernel
theorem dX8_addTime_64 : decode cX8_addTime 64 = .ok (.return_, 1) := by decide +kernel
/-! X8_addTime -/
abbrev rm_X8_addTime : Room := { frames := 0, cells := 0, slots := 0, locals := 0 }
theorem iw_X8_addTime_8 : ∀ w ∈ wsX80, w ∈ wsX8_addTime := fun _ h => List.mem_cons_of_mem _ (List.mem_append_right _ h)
theorem fl_X8_addTime_19 : Cond.fieldLink RX8 19 "NightStonesModel" "road" "[I" ∈ wsX8_addTime := List.mem_of_getElem? (i := 1) rfl
def wp_X8_addTime (f5 : Nat → Int32) (v1 : Int32) (v2 : Int32) (v3 : Int32) (v4 : Int32) (K : (Nat → Int32) → Prop) : Prop := (vp_in (46 + (4 * (f5 7))) 94 ∧ (vp_in ((46 + (4 * (f5 7))) + 1) 94 ∧ (vp_in ((46 + (4 * (f5 7))) + 2) 94 ∧ (vp_in ((46 + (4 * (f5 7))) + 3) 94 ∧ K (upd (upd (upd (upd (upd f5 (46 + (4 * (f5 7))).toNatClampNeg v1) ((46 + (4 * (f5 7))) + 1).toNatClampNeg v2) ((46 + (4 * (f5 7))) + 2).toNatClampNeg v3) ((46 + (4 * (f5 7))) + 3).toNatClampNeg v4) 7 (((upd (upd (upd (upd f5 (46 + (4 * (f5 7))).toNatClampNeg v1) ((46 + (4 * (f5 7))) + 1).toNatClampNeg v2) ((46 + (4 * (f5 7))) + 2).toNatClampNeg v3) ((46 + (4 * (f5 7))) + 3).toNatClampNeg v4) 7) + 1))))))
set_option maxHeartbeats 4000000 in
set_option maxRecDepth 100000 in
theorem c_X8_addTime (l : Launch) (g : nz_G) (o : Nat) (a2 : Nat) (a3 : Nat) (a4 : Nat) (a5 : Nat) (a6 : Nat) (a7 : Nat) (a9 : Nat) (a19 : Nat) (a20 : Nat) (a21 : Nat) (a22 : Nat) (a23 : Nat) (a24 : Nat) (r0 : Int32) (r1 : Int32) (r8 : Int32) (r10 : Int32) (r11 : Int32) (r12 : Int32) (r13 : Int32) (r14 : Int32) (r15 : Int32) (r16 : Int32) (r17 : Int32) (r18 : Int32) (r25 : Int32) (f2 : Nat → Int32) (f3 : Nat → Int32) (f4 : Nat → Int32) (f5 : Nat → Int32) (f6 : Nat → Int32) (f7 : Nat → Int32) (f9 : Nat → Int32) (f19 : Nat → Int32) (f20 : Nat → Int32) (f21 : Nat → Int32) (f22 : Nat → Int32) (f23 : Nat → Int32) (f24 : Nat → Int32) (v1 : Int32) (v2 : Int32) (v3 : Int32) (v4 : Int32) (K : (Nat → Int32) → Prop) (h : wp_X8_addTime f5 v1 v2 v3 v4 K) : nz_M l yX8_addTime wsX8_addTime rm_X8_addTime g [.ref o, .int v1, .int v2, .int v3, .int v4] [(o, .inr (8, [.int r0, .int r1, .ref a2, .ref a3, .ref a4, .ref a5, .ref a6, .ref a7, .int r8, .ref a9, .int r10, .int r11, .int r12, .int r13, .int r14, .int r15, .int r16, .int r17, .int r18, .ref a19, .ref a20, .ref a21, .ref a22, .ref a23, .ref a24, .int r25])), (a2, .inl (nz_cI g, 8, .inl f2)), (a3, .inl (nz_cI g, 8, .inl f3)), (a4, .inl (nz_cI g, 320, .inl f4)), (a5, .inl (nz_cI g, 94, .inl f5)), (a6, .inl (nz_cI g, 94, .inl f6)), (a7, .inl (nz_cI g, 168, .inl f7)), (a9, .inl (nz_cI g, 400, .inl f9)), (a19, .inl (nz_cI g, 6, .inl f19)), (a20, .inl (nz_cI g, 49, .inl f20)), (a21, .inl (nz_cI g, 6, .inl f21)), (a22, .inl (nz_cZ g, 2, .inl f22)), (a23, .inl (nz_cI g, 188, .inl f23)), (a24, .inl (nz_cI g, 16, .inl f24))] (nz_Qv g [(o, .inr (8, [.int r0, .int r1, .ref a2, .ref a3, .ref a4, .ref a5, .ref a6, .ref a7, .int r8, .ref a9, .int r10, .int r11, .int r12, .int r13, .int r14, .int r15, .int r16, .int r17, .int r18, .ref a19, .ref a20, .ref a21, .ref a22, .ref a23, .ref a24, .int r25])), (a2, .inl (nz_cI g, 8, .inl f2)), (a3, .inl (nz_cI g, 8, .inl f3)), (a4, .inl (nz_cI g, 320, .inl f4)), (a5, .inl (nz_cI g, 94, .inl f5)), (a6, .inl (nz_cI g, 94, .inl f6)), (a7, .inl (nz_cI g, 168, .inl f7)), (a9, .inl (nz_cI g, 400, .inl f9)), (a19, .inl (nz_cI g, 6, .inl f19)), (a20, .inl (nz_cI g, 49, .inl f20)), (a21, .inl (nz_cI g, 6, .inl f21)), (a22, .inl (nz_cZ g, 2, .inl f22)), (a23, .inl (nz_cI g, 188, .inl f23)), (a24, .inl (nz_cI g, 16, .inl f24))] (fun (u : (Nat → Int32)) => K u) (fun u => [(o, .inr (8, [.int r0, .int r1, .ref a2, .ref a3, .ref a4, .ref a5, .ref a6, .ref a7, .int r8, .ref a9, .int r10, .int r11, .int r12, .int r13, .int r14, .int r15, .int r16, .int r17, .int r18, .ref a19, .ref a20, .ref a21, .ref a22, .ref a23, .ref a24, .int r25])), (a2, .inl (nz_cI g, 8, .inl f2)), (a3, .inl (nz_cI g, 8, .inl f3)), (a4, .inl (nz_cI g, 320, .inl f4)), (a5, .inl (nz_cI g, 94, .inl u)), (a6, .inl (nz_cI g, 94, .inl f6)), (a7, .inl (nz_cI g, 168, .inl f7)), (a9, .inl (nz_cI g, 400, .inl f9)), (a19, .inl (nz_cI g, 6, .inl f19)), (a20, .inl (nz_cI g, 49, .inl f20)), (a21, .inl (nz_cI g, 6, .inl f21)), (a22, .inl (nz_cZ g, 2, .inl f22)), (a23, .inl (nz_cI g, 188, .inl f23)), (a24, .inl (nz_cI g, 16, .inl f24))])) := by
  refine nz_M.of (bytes := cX8_addTime) (nL := 6) (ret := none) (own := RX8) (by decide) rfl rfl ⟨rfl, rfl⟩ rfl ?_
  intro y F hl hQ
  obtain ⟨sz, hQ⟩ := hQ
  refine nz_ent (lv' := [(0, .ref o), (1, .int v1), (2, .int v2), (3, .int v3), (4, .int v4)]) rfl ?_
  unfold wp_X8_addTime at h
  refine nz_bipush (v := 46) F dX8_addTime_0 (by decide) ?_
  refine nz_iconst (v := 4) F dX8_addTime_2 (by decide) ?_
  refine nz_aload_n F dX8_addTime_3 rfl 0 rfl ?_
  refine nz_get F iw_X8_addTime_8 0 rfl rfl 5 (by decide) rfl fl_X8_addTime_19 rfl dX8_addTime_4 ?_
  refine nz_bipush (v := 7) F dX8_addTime_7 (by decide) ?_
  refine nz_iald F 4 rfl (nz_inC rfl) dX8_addTime_9 ?_
  refine nz_vi (z := (f5 7)) rfl ?_
  refine nz_imul F dX8_addTime_10 ?_
  refine nz_iadd F dX8_addTime_11 ?_
  refine nz_istore (lv' := [(5, .int (46 + (4 * (f5 7)))), (0, .ref o), (1, .int v1), (2, .int v2), (3, .int v3), (4, .int v4)]) F dX8_addTime_12 (by decide) rfl ?_
  refine nz_aload_n F dX8_addTime_14 rfl 1 rfl ?_
  refine nz_get F iw_X8_addTime_8 0 rfl rfl 5 (by decide) rfl fl_X8_addTime_19 rfl dX8_addTime_15 ?_
  refine nz_iload F dX8_addTime_18 0 rfl ?_
  refine nz_iload_n F dX8_addTime_20 rfl 2 rfl ?_
  obtain ⟨i1, h⟩ := h
  refine nz_iast (ws' := [(o, .inr (8, [.int r0, .int r1, .ref a2, .ref a3, .ref a4, .ref a5, .ref a6, .ref a7, .int r8, .ref a9, .int r10, .int r11, .int r12, .int r13, .int r14, .int r15, .int r16, .int r17, .int r18, .ref a19, .ref a20, .ref a21, .ref a22, .ref a23, .ref a24, .int r25])), (a2, .inl (nz_cI g, 8, .inl f2)), (a3, .inl (nz_cI g, 8, .inl f3)), (a4, .inl (nz_cI g, 320, .inl f4)), (a5, .inl (nz_cI g, 94, .inl (upd f5 (46 + (4 * (f5 7))).toNatClampNeg v1))), (a6, .inl (nz_cI g, 94, .inl f6)), (a7, .inl (nz_cI g, 168, .inl f7)), (a9, .inl (nz_cI g, 400, .inl f9)), (a19, .inl (nz_cI g, 6, .inl f19)), (a20, .inl (nz_cI g, 49, .inl f20)), (a21, .inl (nz_cI g, 6, .inl f21)), (a22, .inl (nz_cZ g, 2, .inl f22)), (a23, .inl (nz_cI g, 188, .inl f23)), (a24, .inl (nz_cI g, 16, .inl f24))]) F 4 rfl i1 dX8_addTime_21 rfl ?_
  refine nz_aload_n F dX8_addTime_22 rfl 1 rfl ?_
  refine nz_get F iw_X8_addTime_8 0 rfl rfl 5 (by decide) rfl fl_X8_addTime_19 rfl dX8_addTime_23 ?_
  refine nz_iload F dX8_addTime_26 0 rfl ?_
  refine nz_iconst (v := 1) F dX8_addTime_28 (by decide) ?_
  refine nz_iadd F dX8_addTime_29 ?_
  refine nz_iload_n F dX8_addTime_30 rfl 3 rfl ?_
  obtain ⟨i2, h⟩ := h
  refine nz_iast (ws' := [(o, .inr (8, [.int r0, .int r1, .ref a2, .ref a3, .ref a4, .ref a5, .ref a6, .ref a7, .int r8, .ref a9, .int r10, .int r11, .int r12, .int r13, .int r14, .int r15, .int r16, .int r17, .int r18, .ref a19, .ref a20, .ref a21, .ref a22, .ref a23, .ref a24, .int r25])), (a2, .inl (nz_cI g, 8, .inl f2)), (a3, .inl (nz_cI g, 8, .inl f3)), (a4, .inl (nz_cI g, 320, .inl f4)), (a5, .inl (nz_cI g, 94, .inl (upd (upd f5 (46 + (4 * (f5 7))).toNatClampNeg v1) ((46 + (4 * (f5 7))) + 1).toNatClampNeg v2))), (a6, .inl (nz_cI g, 94, .inl f6)), (a7, .inl (nz_cI g, 168, .inl f7)), (a9, .inl (nz_cI g, 400, .inl f9)), (a19, .inl (nz_cI g, 6, .inl f19)), (a20, .inl (nz_cI g, 49, .inl f20)), (a21, .inl (nz_cI g, 6, .inl f21)), (a22, .inl (nz_cZ g, 2, .inl f22)), (a23, .inl (nz_cI g, 188, .inl f23)), (a24, .inl (nz_cI g, 16, .inl f24))]) F 4 rfl i2 dX8_addTime_31 rfl ?_
  refine nz_aload_n F dX8_addTime_32 rfl 1 rfl ?_
  refine nz_get F iw_X8_addTime_8 0 rfl rfl 5 (by decide) rfl fl_X8_addTime_19 rfl dX8_addTime_33 ?_
  refine nz_iload F dX8_addTime_36 0 rfl ?_
  refine nz_iconst (v := 2) F dX8_addTime_38 (by decide) ?_
  refine nz_iadd F dX8_addTime_39 ?_
  refine nz_iload_n F dX8_addTime_40 rfl 4 rfl ?_
  obtain ⟨i3, h⟩ := h
  refine nz_iast (ws' := [(o, .inr (8, [.int r0, .int r1, .ref a2, .ref a3, .ref a4, .ref a5, .ref a6, .ref a7, .int r8, .ref a9, .int r10, .int r11, .int r12, .int r13, .int r14, .int r15, .int r16, .int r17, .int r18, .ref a19, .ref a20, .ref a21, .ref a22, .ref a23, .ref a24, .int r25])), (a2, .inl (nz_cI g, 8, .inl f2)), (a3, .inl (nz_cI g, 8, .inl f3)), (a4, .inl (nz_cI g, 320, .inl f4)), (a5, .inl (nz_cI g, 94, .inl (upd (upd (upd f5 (46 + (4 * (f5 7))).toNatClampNeg v1) ((46 + (4 * (f5 7))) + 1).toNatClampNeg v2) ((46 + (4 * (f5 7))) + 2).toNatClampNeg v3))), (a6, .inl (nz_cI g, 94, .inl f6)), (a7, .inl (nz_cI g, 168, .inl f7)), (a9, .inl (nz_cI g, 400, .inl f9)), (a19, .inl (nz_cI g, 6, .inl f19)), (a20, .inl (nz_cI g, 49, .inl f20)), (a21, .inl (nz_cI g, 6, .inl f21)), (a22, .inl (nz_cZ g, 2, .inl f22)), (a23, .inl (nz_cI g, 188, .inl f23)), (a24, .inl (nz_cI g, 16, .inl f24))]) F 4 rfl i3 dX8_addTime_41 rfl ?_
  refine nz_aload_n F dX8_addTime_42 rfl 1 rfl ?_
  refine nz_get F iw_X8_addTime_8 0 rfl rfl 5 (by decide) rfl fl_X8_addTime_19 rfl dX8_addTime_43 ?_
  refine nz_iload F dX8_addTime_46 0 rfl ?_
  refine nz_iconst (v := 3) F dX8_addTime_48 (by decide) ?_
  refine nz_iadd F dX8_addTime_49 ?_
  refine nz_iload F dX8_addTime_50 5 rfl ?_
  obtain ⟨i4, h⟩ := h
  refine nz_iast (ws' := [(o, .inr (8, [.int r0, .int r1, .ref a2, .ref a3, .ref a4, .ref a5, .ref a6, .ref a7, .int r8, .ref a9, .int r10, .int r11, .int r12, .int r13, .int r14, .int r15, .int r16, .int r17, .int r18, .ref a19, .ref a20, .ref a21, .ref a22, .ref a23, .ref a24, .int r25])), (a2, .inl (nz_cI g, 8, .inl f2)), (a3, .inl (nz_cI g, 8, .inl f3)), (a4, .inl (nz_cI g, 320, .inl f4)), (a5, .inl (nz_cI g, 94, .inl (upd (upd (upd (upd f5 (46 + (4 * (f5 7))).toNatClampNeg v1) ((46 + (4 * (f5 7))) + 1).toNatClampNeg v2) ((46 + (4 * (f5 7))) + 2).toNatClampNeg v3) ((46 + (4 * (f5 7))) + 3).toNatClampNeg v4))), (a6, .inl (nz_cI g, 94, .inl f6)), (a7, .inl (nz_cI g, 168, .inl f7)), (a9, .inl (nz_cI g, 400, .inl f9)), (a19, .inl (nz_cI g, 6, .inl f19)), (a20, .inl (nz_cI g, 49, .inl f20)), (a21, .inl (nz_cI g, 6, .inl f21)), (a22, .inl (nz_cZ g, 2, .inl f22)), (a23, .inl (nz_cI g, 188, .inl f23)), (a24, .inl (nz_cI g, 16, .inl f24))]) F 4 rfl i4 dX8_addTime_52 rfl ?_
  refine nz_aload_n F dX8_addTime_53 rfl 1 rfl ?_
  refine nz_get F iw_X8_addTime_8 0 rfl rfl 5 (by decide) rfl fl_X8_addTime_19 rfl dX8_addTime_54 ?_
  refine nz_bipush (v := 7) F dX8_addTime_57 (by decide) ?_
  refine nz_dup2_11 F dX8_addTime_59 rfl rfl ?_
  refine nz_iald F 4 rfl (nz_inC rfl) dX8_addTime_60 ?_
  refine nz_vi (z := ((upd (upd (upd (upd f5 (46 + (4 * (f5 7))).toNatClampNeg v1) ((46 + (4 * (f5 7))) + 1).toNatClampNeg v2) ((46 + (4 * (f5 7))) + 2).toNatClampNeg v3) ((46 + (4 * (f5 7))) + 3).toNatClampNeg v4) 7)) rfl ?_
  refine nz_iconst (v := 1) F dX8_addTime_61 (by decide) ?_
  refine nz_iadd F dX8_addTime_62 ?_
  refine nz_iast (ws' := [(o, .inr (8, [.int r0, .int r1, .ref a2, .ref a3, .ref a4, .ref a5, .ref a6, .ref a7, .int r8, .ref a9, .int r10, .int r11, .int r12, .int r13, .int r14, .int r15, .int r16, .int r17, .int r18, .ref a19, .ref a20, .ref a21, .ref a22, .ref a23, .ref a24, .int r25])), (a2, .inl (nz_cI g, 8, .inl f2)), (a3, .inl (nz_cI g, 8, .inl f3)), (a4, .inl (nz_cI g, 320, .inl f4)), (a5, .inl (nz_cI g, 94, .inl (upd (upd (upd (upd (upd f5 (46 + (4 * (f5 7))).toNatClampNeg v1) ((46 + (4 * (f5 7))) + 1).toNatClampNeg v2) ((46 + (4 * (f5 7))) + 2).toNatClampNeg v3) ((46 + (4 * (f5 7))) + 3).toNatClampNeg v4) 7 (((upd (upd (upd (upd f5 (46 + (4 * (f5 7))).toNatClampNeg v1) ((46 + (4 * (f5 7))) + 1).toNatClampNeg v2) ((46 + (4 * (f5 7))) + 2).toNatClampNeg v3) ((46 + (4 * (f5 7))) + 3).toNatClampNeg v4) 7) + 1)))), (a6, .inl (nz_cI g, 94, .inl f6)), (a7, .inl (nz_cI g, 168, .inl f7)), (a9, .inl (nz_cI g, 400, .inl f9)), (a19, .inl (nz_cI g, 6, .inl f19)), (a20, .inl (nz_cI g, 49, .inl f20)), (a21, .inl (nz_cI g, 6, .inl f21)), (a22, .inl (nz_cZ g, 2, .inl f22)), (a23, .inl (nz_cI g, 188, .inl f23)), (a24, .inl (nz_cI g, 16, .inl f24))]) F 4 rfl (nz_inC rfl) dX8_addTime_63 rfl ?_
  exact nz_vret F hQ (upd (upd (upd (upd (upd f5 (46 + (4 * (f5 7))).toNatClampNeg v1) ((46 + (4 * (f5 7))) + 1).toNatClampNeg v2) ((46 + (4 * (f5 7))) + 2).toNatClampNeg v3) ((46 + (4 * (f5 7))) + 3).toNatClampNeg v4) 7 (((upd (upd (upd (upd f5 (46 + (4 * (f5 7))).toNatClampNeg v1) ((46 + (4 * (f5 7))) + 1).toNatClampNeg v2) ((46 + (4 * (f5 7))) + 2).toNatClampNeg v3) ((46 + (4 * (f5 7))) + 3).toNatClampNeg v4) 7) + 1)) h rfl dX8_addTime_64
theorem k_X8_addTime {y : nz_Y} {g : nz_G} {k n : Nat} {ws : va_W} {pc : Nat} {ls : List (Nat × Value)} {st rest : List Value} {av : Array Value} {isC : List Nat} {K : (Nat → Int32) → Prop} (o : Nat) (a2 : Nat) (a3 : Nat) (a4 : Nat) (a5 : Nat) (a6 : Nat) (a7 : Nat) (a9 : Nat) (a19 : Nat) (a20 : Nat) (a21 : Nat) (a22 : Nat) (a23 : Nat) (a24 : Nat) (r0 : Int32) (r1 : Int32) (r8 : Int32) (r10 : Int32) (r11 : Int32) (r12 : Int32) (r13 : Int32) (r14 : Int32) (r15 : Int32) (r16 : Int32) (r17 : Int32) (r18 : Int32) (r25 : Int32) (f2 : Nat → Int32) (f3 : Nat → Int32) (f4 : Nat → Int32) (f5 : Nat → Int32) (f6 : Nat → Int32) (f7 : Nat → Int32) (f9 : Nat → Int32) (f19 : Nat → Int32) (f20 : Nat → Int32) (f21 : Nat → Int32) (f22 : Nat → Int32) (f23 : Nat → Int32) (f24 : Nat → Int32) (v1 : Int32) (v2 : Int32) (v3 : Int32) (v4 : Int32) (run : nz_M (yz_l y) yX8_addTime wsX8_addTime rm_X8_addTime g [.ref o, .int v1, .int v2, .int v3, .int v4] [(o, .inr (8, [.int r0, .int r1, .ref a2, .ref a3, .ref a4, .ref a5, .ref a6, .ref a7, .int r8, .ref a9, .int r10, .int r11, .int r12, .int r13, .int r14, .int r15, .int r16, .int r17, .int r18, .ref a19, .ref a20, .ref a21, .ref a22, .ref a23, .ref a24, .int r25])), (a2, .inl (nz_cI g, 8, .inl f2)), (a3, .inl (nz_cI g, 8, .inl f3)), (a4, .inl (nz_cI g, 320, .inl f4)), (a5, .inl (nz_cI g, 94, .inl f5)), (a6, .inl (nz_cI g, 94, .inl f6)), (a7, .inl (nz_cI g, 168, .inl f7)), (a9, .inl (nz_cI g, 400, .inl f9)), (a19, .inl (nz_cI g, 6, .inl f19)), (a20, .inl (nz_cI g, 49, .inl f20)), (a21, .inl (nz_cI g, 6, .inl f21)), (a22, .inl (nz_cZ g, 2, .inl f22)), (a23, .inl (nz_cI g, 188, .inl f23)), (a24, .inl (nz_cI g, 16, .inl f24))] (nz_Qv g [(o, .inr (8, [.int r0, .int r1, .ref a2, .ref a3, .ref a4, .ref a5, .ref a6, .ref a7, .int r8, .ref a9, .int r10, .int r11, .int r12, .int r13, .int r14, .int r15, .int r16, .int r17, .int r18, .ref a19, .ref a20, .ref a21, .ref a22, .ref a23, .ref a24, .int r25])), (a2, .inl (nz_cI g, 8, .inl f2)), (a3, .inl (nz_cI g, 8, .inl f3)), (a4, .inl (nz_cI g, 320, .inl f4)), (a5, .inl (nz_cI g, 94, .inl f5)), (a6, .inl (nz_cI g, 94, .inl f6)), (a7, .inl (nz_cI g, 168, .inl f7)), (a9, .inl (nz_cI g, 400, .inl f9)), (a19, .inl (nz_cI g, 6, .inl f19)), (a20, .inl (nz_cI g, 49, .inl f20)), (a21, .inl (nz_cI g, 6, .inl f21)), (a22, .inl (nz_cZ g, 2, .inl f22)), (a23, .inl (nz_cI g, 188, .inl f23)), (a24, .inl (nz_cI g, 16, .inl f24))] (fun (u : (Nat → Int32)) => K u) (fun u => [(o, .inr (8, [.int r0, .int r1, .ref a2, .ref a3, .ref a4, .ref a5, .ref a6, .ref a7, .int r8, .ref a9, .int r10, .int r11, .int r12, .int r13, .int r14, .int r15, .int r16, .int r17, .int r18, .ref a19, .ref a20, .ref a21, .ref a22, .ref a23, .ref a24, .int r25])), (a2, .inl (nz_cI g, 8, .inl f2)), (a3, .inl (nz_cI g, 8, .inl f3)), (a4, .inl (nz_cI g, 320, .inl f4)), (a5, .inl (nz_cI g, 94, .inl u)), (a6, .inl (nz_cI g, 94, .inl f6)), (a7, .inl (nz_cI g, 168, .inl f7)), (a9, .inl (nz_cI g, 400, .inl f9)), (a19, .inl (nz_cI g, 6, .inl f19)), (a20, .inl (nz_cI g, 49, .inl f20)), (a21, .inl (nz_cI g, 6, .inl f21)), (a22, .inl (nz_cZ g, 2, .inl f22)), (a23, .inl (nz_cI g, 188, .inl f23)), (a24, .inl (nz_cI g, 16, .inl f24))])) → nz_C y g k n ws pc ls st rest [(o, .inr (8, [.int r0, .int r1, .ref a2, .ref a3, .ref a4, .ref a5, .ref a6, .ref a7, .int r8, .ref a9, .int r10, .int r11, .int r12, .int r13, .int r14, .int r15, .int r16, .int r17, .int r18, .ref a19, .ref a20, .ref a21, .ref a22, .ref a23, .ref a24, .int r25])), (a2, .inl (nz_cI g, 8, .inl f2)), (a3, .inl (nz_cI g, 8, .inl f3)), (a4, .inl (nz_cI g, 320, .inl f4)), (a5, .inl (nz_cI g, 94, .inl f5)), (a6, .inl (nz_cI g, 94, .inl f6)), (a7, .inl (nz_cI g, 168, .inl f7)), (a9, .inl (nz_cI g, 400, .inl f9)), (a19, .inl (nz_cI g, 6, .inl f19)), (a20, .inl (nz_cI g, 49, .inl f20)), (a21, .inl (nz_cI g, 6, .inl f21)), (a22, .inl (nz_cZ g, 2, .inl f22)), (a23, .inl (nz_cI g, 188, .inl f23)), (a24, .inl (nz_cI g, 16, .inl f24))] (nz_Qv g [(o, .inr (8, [.int r0, .int r1, .ref a2, .ref a3, .ref a4, .ref a5, .ref a6, .ref a7, .int r8, .ref a9, .int r10, .int r11, .int r12, .int r13, .int r14, .int r15, .int r16, .int r17, .int r18, .ref a19, .ref a20, .ref a21, .ref a22, .ref a23, .ref a24, .int r25])), (a2, .inl (nz_cI g, 8, .inl f2)), (a3, .inl (nz_cI g, 8, .inl f3)), (a4, .inl (nz_cI g, 320, .inl f4)), (a5, .inl (nz_cI g, 94, .inl f5)), (a6, .inl (nz_cI g, 94, .inl f6)), (a7, .inl (nz_cI g, 168, .inl f7)), (a9, .inl (nz_cI g, 400, .inl f9)), (a19, .inl (nz_cI g, 6, .inl f19)), (a20, .inl (nz_cI g, 49, .inl f20)), (a21, .inl (nz_cI g, 6, .inl f21)), (a22, .inl (nz_cZ g, 2, .inl f22)), (a23, .inl (nz_cI g, 188, .inl f23)), (a24, .inl (nz_cI g, 16, .inl f24))] (fun (u : (Nat → Int32)) => K u) (fun u => [(o, .inr (8, [.int r0, .int r1, .ref a2, .ref a3, .ref a4, .ref a5, .ref a6, .ref a7, .int r8, .ref a9, .int r10, .int r11, .int r12, .int r13, .int r14, .int r15, .int r16, .int r17, .int r18, .ref a19, .ref a20, .ref a21, .ref a22, .ref a23, .ref a24, .int r25])), (a2, .inl (nz_cI g, 8, .inl f2)), (a3, .inl (nz_cI g, 8, .inl f3)), (a4, .inl (nz_cI g, 320, .inl f4)), (a5, .inl (nz_cI g, 94, .inl u)), (a6, .inl (nz_cI g, 94, .inl f6)), (a7, .inl (nz_cI g, 168, .inl f7)), (a9, .inl (nz_cI g, 400, .inl f9)), (a19, .inl (nz_cI g, 6, .inl f19)), (a20, .inl (nz_cI g, 49, .inl f20)), (a21, .inl (nz_cI g, 6, .inl f21)), (a22, .inl (nz_cZ g, 2, .inl f22)), (a23, .inl (nz_cI g, 188, .inl f23)), (a24, .inl (nz_cI g, 16, .inl f24))])) av isC) (h : wp_X8_addTime f5 v1 v2 v3 v4 K) (ws' : (Nat → Int32) → va_W) (hm : ∀ (m0 : (Nat → Int32)), nz_mrg ws isC [(o, .inr (8, [.int r0, .int r1, .ref a2, .ref a3, .ref a4, .ref a5, .ref a6, .ref a7, .int r8, .ref a9, .int r10, .int r11, .int r12, .int r13, .int r14, .int r15, .int r16, .int r17, .int r18, .ref a19, .ref a20, .ref a21, .ref a22, .ref a23, .ref a24, .int r25])), (a2, .inl (nz_cI g, 8, .inl f2)), (a3, .inl (nz_cI g, 8, .inl f3)), (a4, .inl (nz_cI g, 320, .inl f4)), (a5, .inl (nz_cI g, 94, .inl m0)), (a6, .inl (nz_cI g, 94, .inl f6)), (a7, .inl (nz_cI g, 168, .inl f7)), (a9, .inl (nz_cI g, 400, .inl f9)), (a19, .inl (nz_cI g, 6, .inl f19)), (a20, .inl (nz_cI g, 49, .inl f20)), (a21, .inl (nz_cI g, 6, .inl f21)), (a22, .inl (nz_cZ g, 2, .inl f22)), (a23, .inl (nz_cI g, 188, .inl f23)), (a24, .inl (nz_cI g, 16, .inl f24))] = ws' m0) (kk : ∀ (m0 : (Nat → Int32)), K m0 → nz_V y g k n (ws' m0) (pc + 3) ls (rest)) : nz_V y g k n ws pc ls st :=
  nz_cv (ws' := fun u => ws' u) (run (c_X8_addTime (yz_l y) g o a2 a3 a4 a5 a6 a7 a9 a19 a20 a21 a22 a23 a24 r0 r1 r8 r10 r11 r12 r13 r14 r15 r16 r17 r18 r25 f2 f3 f4 f5 f6 f7 f9 f19 f20 f21 f22 f23 f24 v1 v2 v3 v4 K h)) (fun _ => rfl) (fun u => hm u) (fun u h => kk u h)
theorem dX8_atMost_0 : decode cX8_atMost 0 = .ok (.aload_n 0, 1) := by decide +kernel
theorem dX8_atMost_1 : decode cX8_atMost 1 = .ok (.getfield 34, 3) := by decide +kernel
theorem dX8_atMost_4 : decode cX8_atMost 4 = .ok (.bipush 7, 2) := by decide +kernel
theorem dX8_atMost_6 : decode cX8_atMost 6 = .ok (.iload_n 1, 1) := by decide +kernel
theorem dX8_atMost_7 : decode cX8_atMost 7 = .ok (.imul, 1) := by decide +kernel
theorem dX8_atMost_8 : decode cX8_atMost 8 = .ok (.iload_n 2, 1) := by decide +kernel
theorem dX8_atMost_9 : decode cX8_atMost 9 = .ok (.iadd, 1) := by decide +kernel
theorem dX8_atMost_10 : decode cX8_atMost 10 = .ok (.iload_n 3, 1) := by decide +kernel
theorem dX8_atMost_11 : decode cX8_atMost 11 = .ok (.aload_n 0, 1) := by decide +kernel
theorem dX8_atMost_12 : decode cX8_atMost 12 = .ok (.getfield 34, 3) := by decide +kernel
theorem dX8_atMost_15 : decode cX8_atMost 15 = .ok (.bipush 7, 2) := by decide +kernel
theorem dX8_atMost_17 : decode cX8_atMost 17 = .ok (.iload_n 1, 1) := by decide +kernel
theorem dX8_atMost_18 : decode cX8_atMost 18 = .ok (.imul, 1) := by decide +kernel
theorem dX8_atMost_19 : decode cX8_atMost 19 = .ok (.iload_n 2, 1) := by decide +kernel
theorem dX8_atMost_20 : decode cX8_atMost 20 = .ok (.iadd, 1) := by decide +kernel
theorem dX8_atMost_21 : decode cX8_atMost 21 = .ok (.iaload, 1) := by decide +kernel
theorem dX8_atMost_22 : decode cX8_atMost 22 = .ok (.if_icmp .ge 7, 3) := by decide +kernel
theorem dX8_atMost_25 : decode cX8_atMost 25 = .ok (.iload_n 3, 1) := by decide +kernel
theorem dX8_atMost_26 : decode cX8_atMost 26 = .ok (.goto 14, 3) := by decide +kernel
theorem dX8_atMost_29 : decode cX8_atMost 29 = .ok (.aload_n 0, 1) := by decide +kernel
theorem dX8_atMost_30 : decode cX8_atMost 30 = .ok (.getfield 34, 3) := by decide +kernel
theorem dX8_atMost_33 : decode cX8_atMost 33 = .ok (.bipush 7, 2) := by decide +kernel
theorem dX8_atMost_35 : decode cX8_atMost 35 = .ok (.iload_n 1, 1) := by decide +kernel
theorem dX8_atMost_36 : decode cX8_atMost 36 = .ok (.imul, 1) := by decide +kernel
theorem dX8_atMost_37 : decode cX8_atMost 37 = .ok (.iload_n 2, 1) := by decide +kernel
theorem dX8_atMost_38 : decode cX8_atMost 38 = .ok (.iadd, 1) := by decide +kernel
theorem dX8_atMost_39 : decode cX8_atMost 39 = .ok (.iaload, 1) := by decide +kernel
theorem dX8_atMost_40 : decode cX8_atMost 40 = .ok (.iastore, 1) := by decide +kernel
theorem dX8_atMost_41 : decode cX8_atMost 41 = .ok (.return_, 1) := by decide +kernel
/-! X8_atMost -/
abbrev rm_X8_atMost : Room := { frames := 0, cells := 0, slots := 0, locals := 0 }
theorem iw_X8_atMost_8 : ∀ w ∈ wsX80, w ∈ wsX8_atMost := fun _ h => List.mem_cons_of_mem _ (List.mem_append_right _ h)
theorem fl_X8_atMost_34 : Cond.fieldLink RX8 34 "NightStonesModel" "most" "[I" ∈ wsX8_atMost := List.mem_of_getElem? (i := 1) rfl
def wp_X8_atMost (f20 : Nat → Int32) (v1 : Int32) (v2 : Int32) (v3 : Int32) (K : (Nat → Int32) → Prop) : Prop := (vp_in ((7 * v1) + v2) 49 ∧ (((f20 ((7 * v1) + v2).toNatClampNeg) ≤ v3 → (vp_in ((7 * v1) + v2) 49 ∧ (vp_in ((7 * v1) + v2) 49 ∧ K (upd f20 ((7 * v1) + v2).toNatClampNeg (f20 ((7 * v1) + v2).toNatClampNeg))))) ∧ (¬ ((f20 ((7 * v1) + v2).toNatClampNeg) ≤ v3) → (vp_in ((7 * v1) + v2) 49 ∧ K (upd f20 ((7 * v1) + v2).toNatClampNeg v3)))))
set_option maxHeartbeats 4000000 in
set_option maxRecDepth 100000 in
theorem c_X8_atMost (l : Launch) (g : nz_G) (o : Nat) (a2 : Nat) (a3 : Nat) (a4 : Nat) (a5 : Nat) (a6 : Nat) (a7 : Nat) (a9 : Nat) (a19 : Nat) (a20 : Nat) (a21 : Nat) (a22 : Nat) (a23 : Nat) (a24 : Nat) (r0 : Int32) (r1 : Int32) (r8 : Int32) (r10 : Int32) (r11 : Int32) (r12 : Int32) (r13 : Int32) (r14 : Int32) (r15 : Int32) (r16 : Int32) (r17 : Int32) (r18 : Int32) (r25 : Int32) (f2 : Nat → Int32) (f3 : Nat → Int32) (f4 : Nat → Int32) (f5 : Nat → Int32) (f6 : Nat → Int32) (f7 : Nat → Int32) (f9 : Nat → Int32) (f19 : Nat → Int32) (f20 : Nat → Int32) (f21 : Nat → Int32) (f22 : Nat → Int32) (f23 : Nat → Int32) (f24 : Nat → Int32) (v1 : Int32) (v2 : Int32) (v3 : Int32) (K : (Nat → Int32) → Prop) (h : wp_X8_atMost f20 v1 v2 v3 K) : nz_M l yX8_atMost wsX8_atMost rm_X8_atMost g [.ref o, .int v1, .int v2, .int v3] [(o, .inr (8, [.int r0, .int r1, .ref a2, .ref a3, .ref a4, .ref a5, .ref a6, .ref a7, .int r8, .ref a9, .int r10, .int r11, .int r12, .int r13, .int r14, .int r15, .int r16, .int r17, .int r18, .ref a19, .ref a20, .ref a21, .ref a22, .ref a23, .ref a24, .int r25])), (a2, .inl (nz_cI g, 8, .inl f2)), (a3, .inl (nz_cI g, 8, .inl f3)), (a4, .inl (nz_cI g, 320, .inl f4)), (a5, .inl (nz_cI g, 94, .inl f5)), (a6, .inl (nz_cI g, 94, .inl f6)), (a7, .inl (nz_cI g, 168, .inl f7)), (a9, .inl (nz_cI g, 400, .inl f9)), (a19, .inl (nz_cI g, 6, .inl f19)), (a20, .inl (nz_cI g, 49, .inl f20)), (a21, .inl (nz_cI g, 6, .inl f21)), (a22, .inl (nz_cZ g, 2, .inl f22)), (a23, .inl (nz_cI g, 188, .inl f23)), (a24, .inl (nz_cI g, 16, .inl f24))] (nz_Qv g [(o, .inr (8, [.int r0, .int r1, .ref a2, .ref a3, .ref a4, .ref a5, .ref a6, .ref a7, .int r8, .ref a9, .int r10, .int r11, .int r12, .int r13, .int r14, .int r15, .int r16, .int r17, .int r18, .ref a19, .ref a20, .ref a21, .ref a22, .ref a23, .ref a24, .int r25])), (a2, .inl (nz_cI g, 8, .inl f2)), (a3, .inl (nz_cI g, 8, .inl f3)), (a4, .inl (nz_cI g, 320, .inl f4)), (a5, .inl (nz_cI g, 94, .inl f5)), (a6, .inl (nz_cI g, 94, .inl f6)), (a7, .inl (nz_cI g, 168, .inl f7)), (a9, .inl (nz_cI g, 400, .inl f9)), (a19, .inl (nz_cI g, 6, .inl f19)), (a20, .inl (nz_cI g, 49, .inl f20)), (a21, .inl (nz_cI g, 6, .inl f21)), (a22, .inl (nz_cZ g, 2, .inl f22)), (a23, .inl (nz_cI g, 188, .inl f23)), (a24, .inl (nz_cI g, 16, .inl f24))] (fun (u : (Nat → Int32)) => K u) (fun u => [(o, .inr (8, [.int r0, .int r1, .ref a2, .ref a3, .ref a4, .ref a5, .ref a6, .ref a7, .int r8, .ref a9, .int r10, .int r11, .int r12, .int r13, .int r14, .int r15, .int r16, .int r17, .int r18, .ref a19, .ref a20, .ref a21, .ref a22, .ref a23, .ref a24, .int r25])), (a2, .inl (nz_cI g, 8, .inl f2)), (a3, .inl (nz_cI g, 8, .inl f3)), (a4, .inl (nz_cI g, 320, .inl f4)), (a5, .inl (nz_cI g, 94, .inl f5)), (a6, .inl (nz_cI g, 94, .inl f6)), (a7, .inl (nz_cI g, 168, .inl f7)), (a9, .inl (nz_cI g, 400, .inl f9)), (a19, .inl (nz_cI g, 6, .inl f19)), (a20, .inl (nz_cI g, 49, .inl u)), (a21, .inl (nz_cI g, 6, .inl f21)), (a22, .inl (nz_cZ g, 2, .inl f22)), (a23, .inl (nz_cI g, 188, .inl f23)), (a24, .inl (nz_cI g, 16, .inl f24))])) := by
  refine nz_M.of (bytes := cX8_atMost) (nL := 4) (ret := none) (own := RX8) (by decide) rfl rfl ⟨rfl, rfl⟩ rfl ?_
  intro y F hl hQ
  obtain ⟨sz, hQ⟩ := hQ
  refine nz_ent (lv' := [(0, .ref o), (1, .int v1), (2, .int v2), (3, .int v3)]) rfl ?_
  unfold wp_X8_atMost at h
  refine nz_aload_n F dX8_atMost_0 rfl 0 rfl ?_
  refine nz_get F iw_X8_atMost_8 0 rfl rfl 20 (by decide) rfl fl_X8_atMost_34 rfl dX8_atMost_1 ?_
  refine nz_bipush (v := 7) F dX8_atMost_4 (by decide) ?_
  refine nz_iload_n F dX8_atMost_6 rfl 1 rfl ?_
  refine nz_imul F dX8_atMost_7 ?_
  refine nz_iload_n F dX8_atMost_8 rfl 2 rfl ?_
  refine nz_iadd F dX8_atMost_9 ?_
  refine nz_iload_n F dX8_atMost_10 rfl 3 rfl ?_
  refine nz_aload_n F dX8_atMost_11 rfl 0 rfl ?_
  refine nz_get F iw_X8_atMost_8 0 rfl rfl 20 (by decide) rfl fl_X8_atMost_34 rfl dX8_atMost_12 ?_
  refine nz_bipush (v := 7) F dX8_atMost_15 (by decide) ?_
  refine nz_iload_n F dX8_atMost_17 rfl 1 rfl ?_
  refine nz_imul F dX8_atMost_18 ?_
  refine nz_iload_n F dX8_atMost_19 rfl 2 rfl ?_
  refine nz_iadd F dX8_atMost_20 ?_
  obtain ⟨i1, h⟩ := h
  refine nz_iald F 9 rfl i1 dX8_atMost_21 ?_
  refine nz_icmp_ge (tgt := 29) F dX8_atMost_22 (by decide) (fun c2 => ?_) (fun c2 => ?_)
  · have h := h.1 c2
    refine nz_aload_n F dX8_atMost_29 rfl 0 rfl ?_
    refine nz_get F iw_X8_atMost_8 0 rfl rfl 20 (by decide) rfl fl_X8_atMost_34 rfl dX8_atMost_30 ?_
    refine nz_bipush (v := 7) F dX8_atMost_33 (by decide) ?_
    refine nz_iload_n F dX8_atMost_35 rfl 1 rfl ?_
    refine nz_imul F dX8_atMost_36 ?_
    refine nz_iload_n F dX8_atMost_37 rfl 2 rfl ?_
    refine nz_iadd F dX8_atMost_38 ?_
    obtain ⟨i3, h⟩ := h
    refine nz_iald F 9 rfl i3 dX8_atMost_39 ?_
    obtain ⟨i4, h⟩ := h
    refine nz_iast (ws' := [(o, .inr (8, [.int r0, .int r1, .ref a2, .ref a3, .ref a4, .ref a5, .ref a6, .ref a7, .int r8, .ref a9, .int r10, .int r11, .int r12, .int r13, .int r14, .int r15, .int r16, .int r17, .int r18, .ref a19, .ref a20, .ref a21, .ref a22, .ref a23, .ref a24, .int r25])), (a2, .inl (nz_cI g, 8, .inl f2)), (a3, .inl (nz_cI g, 8, .inl f3)), (a4, .inl (nz_cI g, 320, .inl f4)), (a5, .inl (nz_cI g, 94, .inl f5)), (a6, .inl (nz_cI g, 94, .inl f6)), (a7, .inl (nz_cI g, 168, .inl f7)), (a9, .inl (nz_cI g, 400, .inl f9)), (a19, .inl (nz_cI g, 6, .inl f19)), (a20, .inl (nz_cI g, 49, .inl (upd f20 ((7 * v1) + v2).toNatClampNeg (f20 ((7 * v1) + v2).toNatClampNeg)))), (a21, .inl (nz_cI g, 6, .inl f21)), (a22, .inl (nz_cZ g, 2, .inl f22)), (a23, .inl (nz_cI g, 188, .inl f23)), (a24, .inl (nz_cI g, 16, .inl f24))]) F 9 rfl i4 dX8_atMost_40 rfl ?_
    exact nz_vret F hQ (upd f20 ((7 * v1) + v2).toNatClampNeg (f20 ((7 * v1) + v2).toNatClampNeg)) h rfl dX8_atMost_41
  · have h := h.2 c2
    refine nz_iload_n F dX8_atMost_25 rfl 3 rfl ?_
    refine nz_goto (tgt := 40) F dX8_atMost_26 (by decide) ?_
    obtain ⟨i5, h⟩ := h
    refine nz_iast (ws' := [(o, .inr (8, [.int r0, .int r1, .ref a2, .ref a3, .ref a4, .ref a5, .ref a6, .ref a7, .int r8, .ref a9, .int r10, .int r11, .int r12, .int r13, .int r14, .int r15, .int r16, .int r17, .int r18, .ref a19, .ref a20, .ref a21, .ref a22, .ref a23, .ref a24, .int r25])), (a2, .inl (nz_cI g, 8, .inl f2)), (a3, .inl (nz_cI g, 8, .inl f3)), (a4, .inl (nz_cI g, 320, .inl f4)), (a5, .inl (nz_cI g, 94, .inl f5)), (a6, .inl (nz_cI g, 94, .inl f6)), (a7, .inl (nz_cI g, 168, .inl f7)), (a9, .inl (nz_cI g, 400, .inl f9)), (a19, .inl (nz_cI g, 6, .inl f19)), (a20, .inl (nz_cI g, 49, .inl (upd f20 ((7 * v1) + v2).toNatClampNeg v3))), (a21, .inl (nz_cI g, 6, .inl f21)), (a22, .inl (nz_cZ g, 2, .inl f22)), (a23, .inl (nz_cI g, 188, .inl f23)), (a24, .inl (nz_cI g, 16, .inl f24))]) F 9 rfl i5 dX8_atMost_40 rfl ?_
    exact nz_vret F hQ (upd f20 ((7 * v1) + v2).toNatClampNeg v3) h rfl dX8_atMost_41
theorem k_X8_atMost {y : nz_Y} {g : nz_G} {k n : Nat} {ws : va_W} {pc : Nat} {ls : List (Nat × Value)} {st rest : List Value} {av : Array Value} {isC : List Nat} {K : (Nat → Int32) → Prop} (o : Nat) (a2 : Nat) (a3 : Nat) (a4 : Nat) (a5 : Nat) (a6 : Nat) (a7 : Nat) (a9 : Nat) (a19 : Nat) (a20 : Nat) (a21 : Nat) (a22 : Nat) (a23 : Nat) (a24 : Nat) (r0 : Int32) (r1 : Int32) (r8 : Int32) (r10 : Int32) (r11 : Int32) (r12 : Int32) (r13 : Int32) (r14 : Int32) (r15 : Int32) (r16 : Int32) (r17 : Int32) (r18 : Int32) (r25 : Int32) (f2 : Nat → Int32) (f3 : Nat → Int32) (f4 : Nat → Int32) (f5 : Nat → Int32) (f6 : Nat → Int32) (f7 : Nat → Int32) (f9 : Nat → Int32) (f19 : Nat → Int32) (f20 : Nat → Int32) (f21 : Nat → Int32) (f22 : Nat → Int32) (f23 : Nat → Int32) (f24 : Nat → Int32) (v1 : Int32) (v2 : Int32) (v3 : Int32) (run : nz_M (yz_l y) yX8_atMost wsX8_atMost rm_X8_atMost g [.ref o, .int v1, .int v2, .int v3] [(o, .inr (8, [.int r0, .int r1, .ref a2, .ref a3, .ref a4, .ref a5, .ref a6, .ref a7, .int r8, .ref a9, .int r10, .int r11, .int r12, .int r13, .int r14, .int r15, .int r16, .int r17, .int r18, .ref a19, .ref a20, .ref a21, .ref a22, .ref a23, .ref a24, .int r25])), (a2, .inl (nz_cI g, 8, .inl f2)), (a3, .inl (nz_cI g, 8, .inl f3)), (a4, .inl (nz_cI g, 320, .inl f4)), (a5, .inl (nz_cI g, 94, .inl f5)), (a6, .inl (nz_cI g, 94, .inl f6)), (a7, .inl (nz_cI g, 168, .inl f7)), (a9, .inl (nz_cI g, 400, .inl f9)), (a19, .inl (nz_cI g, 6, .inl f19)), (a20, .inl (nz_cI g, 49, .inl f20)), (a21, .inl (nz_cI g, 6, .inl f21)), (a22, .inl (nz_cZ g, 2, .inl f22)), (a23, .inl (nz_cI g, 188, .inl f23)), (a24, .inl (nz_cI g, 16, .inl f24))] (nz_Qv g [(o, .inr (8, [.int r0, .int r1, .ref a2, .ref a3, .ref a4, .ref a5, .ref a6, .ref a7, .int r8, .ref a9, .int r10, .int r11, .int r12, .int r13, .int r14, .int r15, .int r16, .int r17, .int r18, .ref a19, .ref a20, .ref a21, .ref a22, .ref a23, .ref a24, .int r25])), (a2, .inl (nz_cI g, 8, .inl f2)), (a3, .inl (nz_cI g, 8, .inl f3)), (a4, .inl (nz_cI g, 320, .inl f4)), (a5, .inl (nz_cI g, 94, .inl f5)), (a6, .inl (nz_cI g, 94, .inl f6)), (a7, .inl (nz_cI g, 168, .inl f7)), (a9, .inl (nz_cI g, 400, .inl f9)), (a19, .inl (nz_cI g, 6, .inl f19)), (a20, .inl (nz_cI g, 49, .inl f20)), (a21, .inl (nz_cI g, 6, .inl f21)), (a22, .inl (nz_cZ g, 2, .inl f22)), (a23, .inl (nz_cI g, 188, .inl f23)), (a24, .inl (nz_cI g, 16, .inl f24))] (fun (u : (Nat → Int32)) => K u) (fun u => [(o, .inr (8, [.int r0, .int r1, .ref a2, .ref a3, .ref a4, .ref a5, .ref a6, .ref a7, .int r8, .ref a9, .int r10, .int r11, .int r12, .int r13, .int r14, .int r15, .int r16, .int r17, .int r18, .ref a19, .ref a20, .ref a21, .ref a22, .ref a23, .ref a24, .int r25])), (a2, .inl (nz_cI g, 8, .inl f2)), (a3, .inl (nz_cI g, 8, .inl f3)), (a4, .inl (nz_cI g, 320, .inl f4)), (a5, .inl (nz_cI g, 94, .inl f5)), (a6, .inl (nz_cI g, 94, .inl f6)), (a7, .inl (nz_cI g, 168, .inl f7)), (a9, .inl (nz_cI g, 400, .inl f9)), (a19, .inl (nz_cI g, 6, .inl f19)), (a20, .inl (nz_cI g, 49, .inl u)), (a21, .inl (nz_cI g, 6, .inl f21)), (a22, .inl (nz_cZ g, 2, .inl f22)), (a23, .inl (nz_cI g, 188, .inl f23)), (a24, .inl (nz_cI g, 16, .inl f24))])) → nz_C y g k n ws pc ls st rest [(o, .inr (8, [.int r0, .int r1, .ref a2, .ref a3, .ref a4, .ref a5, .ref a6, .ref a7, .int r8, .ref a9, .int r10, .int r11, .int r12, .int r13, .int r14, .int r15, .int r16, .int r17, .int r18, .ref a19, .ref a20, .ref a21, .ref a22, .ref a23, .ref a24, .int r25])), (a2, .inl (nz_cI g, 8, .inl f2)), (a3, .inl (nz_cI g, 8, .inl f3)), (a4, .inl (nz_cI g, 320, .inl f4)), (a5, .inl (nz_cI g, 94, .inl f5)), (a6, .inl (nz_cI g, 94, .inl f6)), (a7, .inl (nz_cI g, 168, .inl f7)), (a9, .inl (nz_cI g, 400, .inl f9)), (a19, .inl (nz_cI g, 6, .inl f19)), (a20, .inl (nz_cI g, 49, .inl f20)), (a21, .inl (nz_cI g, 6, .inl f21)), (a22, .inl (nz_cZ g, 2, .inl f22)), (a23, .inl (nz_cI g, 188, .inl f23)), (a24, .inl (nz_cI g, 16, .inl f24))] (nz_Qv g [(o, .inr (8, [.int r0, .int r1, .ref a2, .ref a3, .ref a4, .ref a5, .ref a6, .ref a7, .int r8, .ref a9, .int r10, .int r11, .int r12, .int r13, .int r14, .int r15, .int r16, .int r17, .int r18, .ref a19, .ref a20, .ref a21, .ref a22, .ref a23, .ref a24, .int r25])), (a2, .inl (nz_cI g, 8, .inl f2)), (a3, .inl (nz_cI g, 8, .inl f3)), (a4, .inl (nz_cI g, 320, .inl f4)), (a5, .inl (nz_cI g, 94, .inl f5)), (a6, .inl (nz_cI g, 94, .inl f6)), (a7, .inl (nz_cI g, 168, .inl f7)), (a9, .inl (nz_cI g, 400, .inl f9)), (a19, .inl (nz_cI g, 6, .inl f19)), (a20, .inl (nz_cI g, 49, .inl f20)), (a21, .inl (nz_cI g, 6, .inl f21)), (a22, .inl (nz_cZ g, 2, .inl f22)), (a23, .inl (nz_cI g, 188, .inl f23)), (a24, .inl (nz_cI g, 16, .inl f24))] (fun (u : (Nat → Int32)) => K u) (fun u => [(o, .inr (8, [.int r0, .int r1, .ref a2, .ref a3, .ref a4, .ref a5, .ref a6, .ref a7, .int r8, .ref a9, .int r10, .int r11, .int r12, .int r13, .int r14, .int r15, .int r16, .int r17, .int r18, .ref a19, .ref a20, .ref a21, .ref a22, .ref a23, .ref a24, .int r25])), (a2, .inl (nz_cI g, 8, .inl f2)), (a3, .inl (nz_cI g, 8, .inl f3)), (a4, .inl (nz_cI g, 320, .inl f4)), (a5, .inl (nz_cI g, 94, .inl f5)), (a6, .inl (nz_cI g, 94, .inl f6)), (a7, .inl (nz_cI g, 168, .inl f7)), (a9, .inl (nz_cI g, 400, .inl f9)), (a19, .inl (nz_cI g, 6, .inl f19)), (a20, .inl (nz_cI g, 49, .inl u)), (a21, .inl (nz_cI g, 6, .inl f21)), (a22, .inl (nz_cZ g, 2, .inl f22)), (a23, .inl (nz_cI g, 188, .inl f23)), (a24, .inl (nz_cI g, 16, .inl f24))])) av isC) (h : wp_X8_atMost f20 v1 v2 v3 K) (ws' : (Nat → Int32) → va_W) (hm : ∀ (m0 : (Nat → Int32)), nz_mrg ws isC [(o, .inr (8, [.int r0, .int r1, .ref a2, .ref a3, .ref a4, .ref a5, .ref a6, .ref a7, .int r8, .ref a9, .int r10, .int r11, .int r12, .int r13, .int r14, .int r15, .int r16, .int r17, .int r18, .ref a19, .ref a20, .ref a21, .ref a22, .ref a23, .ref a24, .int r25])), (a2, .inl (nz_cI g, 8, .inl f2)), (a3, .inl (nz_cI g, 8, .inl f3)), (a4, .inl (nz_cI g, 320, .inl f4)), (a5, .inl (nz_cI g, 94, .inl f5)), (a6, .inl (nz_cI g, 94, .inl f6)), (a7, .inl (nz_cI g, 168, .inl f7)), (a9, .inl (nz_cI g, 400, .inl f9)), (a19, .inl (nz_cI g, 6, .inl f19)), (a20, .inl (nz_cI g, 49, .inl m0)), (a21, .inl (nz_cI g, 6, .inl f21)), (a22, .inl (nz_cZ g, 2, .inl f22)), (a23, .inl (nz_cI g, 188, .inl f23)), (a24, .inl (nz_cI g, 16, .inl f24))] = ws' m0) (kk : ∀ (m0 : (Nat → Int32)), K m0 → nz_V y g k n (ws' m0) (pc + 3) ls (rest)) : nz_V y g k n ws pc ls st :=
  nz_cv (ws' := fun u => ws' u) (run (c_X8_atMost (yz_l y) g o a2 a3 a4 a5 a6 a7 a9 a19 a20 a21 a22 a23 a24 r0 r1 r8 r10 r11 r12 r13 r14 r15 r16 r17 r18 r25 f2 f3 f4 f5 f6 f7 f9 f19 f20 f21 f22 f23 f24 v1 v2 v3 K h)) (fun _ => rfl) (fun u => hm u) (fun u h => kk u h)
theorem dX8_layMost_0 : decode cX8_layMost 0 = .ok (.iconst 0, 1) := by decide +kernel
theorem dX8_layMost_1 : decode cX8_layMost 1 = .ok (.istore_n 1, 1) := by decide +kernel
theorem dX8_layMost_2 : decode cX8_layMost 2 = .ok (.iload_n 1, 1) := by decide +kernel
theorem dX8_layMost_3 : decode cX8_layMost 3 = .ok (.bipush 49, 2) := by decide +kernel
theorem dX8_layMost_5 : decode cX8_layMost 5 = .ok (.if_icmp .ge 28, 3) := by decide +kernel
theorem dX8_layMost_8 : decode cX8_layMost 8 = .ok (.aload_n 0, 1) := by decide +kernel
theorem dX8_layMost_9 : decode cX8_layMost 9 = .ok (.getfield 34, 3) := by decide +kernel
theorem dX8_layMost_12 : decode cX8_layMost 12 = .ok (.iload_n 1, 1) := by decide +kernel
theorem dX8_layMost_13 : decode cX8_layMost 13 = .ok (.iload_n 1, 1) := by decide +kernel
theorem dX8_layMost_14 : decode cX8_layMost 14 = .ok (.bipush 8, 2) := by decide +kernel
theorem dX8_layMost_16 : decode cX8_layMost 16 = .ok (.irem, 1) := by decide +kernel
theorem dX8_layMost_17 : decode cX8_layMost 17 = .ok (.ifCond .ne 7, 3) := by decide +kernel
theorem dX8_layMost_20 : decode cX8_layMost 20 = .ok (.iconst 0, 1) := by decide +kernel
theorem dX8_layMost_21 : decode cX8_layMost 21 = .ok (.goto 5, 3) := by decide +kernel
theorem dX8_layMost_24 : decode cX8_layMost 24 = .ok (.ldc 226, 2) := by decide +kernel
theorem dX8_layMost_26 : decode cX8_layMost 26 = .ok (.iastore, 1) := by decide +kernel
theorem dX8_layMost_27 : decode cX8_layMost 27 = .ok (.iinc 1 1, 3) := by decide +kernel
theorem dX8_layMost_30 : decode cX8_layMost 30 = .ok (.goto (-28), 3) := by decide +kernel
theorem dX8_layMost_33 : decode cX8_layMost 33 = .ok (.aload_n 0, 1) := by decide +kernel
theorem dX8_layMost_34 : decode cX8_layMost 34 = .ok (.getfield 19, 3) := by decide +kernel
theorem dX8_layMost_37 : decode cX8_layMost 37 = .ok (.iconst 4, 1) := by decide +kernel
theorem dX8_layMost_38 : decode cX8_layMost 38 = .ok (.iaload, 1) := by decide +kernel
theorem dX8_layMost_39 : decode cX8_layMost 39 = .ok (.istore_n 1, 1) := by decide +kernel
theorem dX8_layMost_40 : decode cX8_layMost 40 = .ok (.iconst 0, 1) := by decide +kernel
theorem dX8_layMost_41 : decode cX8_layMost 41 = .ok (.istore_n 2, 1) := by decide +kernel
theorem dX8_layMost_42 : decode cX8_layMost 42 = .ok (.iload_n 2, 1) := by decide +kernel
theorem dX8_layMost_43 : decode cX8_layMost 43 = .ok (.iload_n 1, 1) := by decide +kernel
theorem dX8_layMost_44 : decode cX8_layMost 44 = .ok (.if_icmp .ge 43, 3) := by decide +kernel
theorem dX8_layMost_47 : decode cX8_layMost 47 = .ok (.aload_n 0, 1) := by decide +kernel
theorem dX8_layMost_48 : decode cX8_layMost 48 = .ok (.bipush 6, 2) := by decide +kernel
theorem dX8_layMost_50 : decode cX8_layMost 50 = .ok (.iload_n 2, 1) := by decide +kernel
theorem dX8_layMost_51 : decode cX8_layMost 51 = .ok (.aload_n 0, 1) := by decide +kernel
theorem dX8_layMost_52 : decode cX8_layMost 52 = .ok (.getfield 19, 3) := by decide +kernel
theorem dX8_layMost_55 : decode cX8_layMost 55 = .ok (.iconst 0, 1) := by decide +kernel
theorem dX8_layMost_56 : decode cX8_layMost 56 = .ok (.iaload, 1) := by decide +kernel
theorem dX8_layMost_57 : decode cX8_layMost 57 = .ok (.invokevirtual 227, 3) := by decide +kernel
theorem dX8_layMost_60 : decode cX8_layMost 60 = .ok (.aload_n 0, 1) := by decide +kernel
theorem dX8_layMost_61 : decode cX8_layMost 61 = .ok (.iload_n 2, 1) := by decide +kernel
theorem dX8_layMost_62 : decode cX8_layMost 62 = .ok (.bipush 6, 2) := by decide +kernel
theorem dX8_layMost_64 : decode cX8_layMost 64 = .ok (.iconst 0, 1) := by decide +kernel
theorem dX8_layMost_65 : decode cX8_layMost 65 = .ok (.invokevirtual 227, 3) := by decide +kernel
theorem dX8_layMost_68 : decode cX8_layMost 68 = .ok (.iload_n 2, 1) := by decide +kernel
theorem dX8_layMost_69 : decode cX8_layMost 69 = .ok (.ifCond .le 12, 3) := by decide +kernel
theorem dX8_layMost_72 : decode cX8_layMost 72 = .ok (.aload_n 0, 1) := by decide +kernel
theorem dX8_layMost_73 : decode cX8_layMost 73 = .ok (.iload_n 2, 1) := by decide +kernel
theorem dX8_layMost_74 : decode cX8_layMost 74 = .ok (.iload_n 2, 1) := by decide +kernel
theorem dX8_layMost_75 : decode cX8_layMost 75 = .ok (.iconst 1, 1) := by decide +kernel
theorem dX8_layMost_76 : decode cX8_layMost 76 = .ok (.isub, 1) := by decide +kernel
theorem dX8_layMost_77 : decode cX8_layMost 77 = .ok (.iconst (-1), 1) := by decide +kernel
theorem dX8_layMost_78 : decode cX8_layMost 78 = .ok (.invokevirtual 227, 3) := by decide +kernel
theorem dX8_layMost_81 : decode cX8_layMost 81 = .ok (.iinc 2 1, 3) := by decide +kernel
theorem dX8_layMost_84 : decode cX8_layMost 84 = .ok (.goto (-42), 3) := by decide +kernel
theorem dX8_layMost_87 : decode cX8_layMost 87 = .ok (.iconst 0, 1) := by decide +kernel
theorem dX8_layMost_88 : decode cX8_layMost 88 = .ok (.istore_n 2, 1) := by decide +kernel
theorem dX8_layMost_89 : decode cX8_layMost 89 = .ok (.iload_n 2, 1) := by decide +kernel
theorem dX8_layMost_90 : decode cX8_layMost 90 = .ok (.aload_n 0, 1) := by decide +kernel
theorem dX8_layMost_91 : decode cX8_layMost 91 = .ok (.getfield 19, 3) := by decide +kernel
theorem dX8_layMost_94 : decode cX8_layMost 94 = .ok (.bipush 7, 2) := by decide +kernel
theorem dX8_layMost_96 : decode cX8_layMost 96 = .ok (.iaload, 1) := by decide +kernel
theorem dX8_layMost_97 : decode cX8_layMost 97 = .ok (.if_icmp .ge 88, 3) := by decide +kernel
theorem dX8_layMost_100 : decode cX8_layMost 100 = .ok (.bipush 46, 2) := by decide +kernel
theorem dX8_layMost_102 : decode cX8_layMost 102 = .ok (.iconst 4, 1) := by decide +kernel
theorem dX8_layMost_103 : decode cX8_layMost 103 = .ok (.iload_n 2, 1) := by decide +kernel
theorem dX8_layMost_104 : decode cX8_layMost 104 = .ok (.imul, 1) := by decide +kernel
theorem dX8_layMost_105 : decode cX8_layMost 105 = .ok (.iadd, 1) := by decide +kernel
theorem dX8_layMost_106 : decode cX8_layMost 106 = .ok (.istore_n 3, 1) := by decide +kernel
theorem dX8_layMost_107 : decode cX8_layMost 107 = .ok (.aload_n 0, 1) := by decide +kernel
theorem dX8_layMost_108 : decode cX8_layMost 108 = .ok (.getfield 19, 3) := by decide +kernel
theorem dX8_layMost_111 : decode cX8_layMost 111 = .ok (.iload_n 3, 1) := by decide +kernel
theorem dX8_layMost_112 : decode cX8_layMost 112 = .ok (.iconst 2, 1) := by decide +kernel
theorem dX8_layMost_113 : decode cX8_layMost 113 = .ok (.iadd, 1) := by decide +kernel
theorem dX8_layMost_114 : decode cX8_layMost 114 = .ok (.iaload, 1) := by decide +kernel
theorem dX8_layMost_115 : decode cX8_layMost 115 = .ok (.istore 4, 2) := by decide +kernel
theorem dX8_layMost_117 : decode cX8_layMost 117 = .ok (.aload_n 0, 1) := by decide +kernel
theorem dX8_layMost_118 : decode cX8_layMost 118 = .ok (.getfield 19, 3) := by decide +kernel
theorem dX8_layMost_121 : decode cX8_layMost 121 = .ok (.iload_n 3, 1) := by decide +kernel
theorem dX8_layMost_122 : decode cX8_layMost 122 = .ok (.iconst 3, 1) := by decide +kernel
theorem dX8_layMost_123 : decode cX8_layMost 123 = .ok (.iadd, 1) := by decide +kernel
theorem dX8_layMost_124 : decode cX8_layMost 124 = .ok (.iaload, 1) := by decide +kernel
theorem dX8_layMost_125 : decode cX8_layMost 125 = .ok (.istore 5, 2) := by decide +kernel
theorem dX8_layMost_127 : decode cX8_layMost 127 = .ok (.aload_n 0, 1) := by decide +kernel
theorem dX8_layMost_128 : decode cX8_layMost 128 = .ok (.aload_n 0, 1) := by decide +kernel
theorem dX8_layMost_129 : decode cX8_layMost 129 = .ok (.getfield 19, 3) := by decide +kernel
theorem dX8_layMost_132 : decode cX8_layMost 132 = .ok (.iload_n 3, 1) := by decide +kernel
theorem dX8_layMost_133 : decode cX8_layMost 133 = .ok (.iaload, 1) := by decide +kernel
theorem dX8_layMost_134 : decode cX8_layMost 134 = .ok (.aload_n 0, 1) := by decide +kernel
theorem dX8_layMost_135 : decode cX8_layMost 135 = .ok (.getfield 19, 3) := by decide +kernel
theorem dX8_layMost_138 : decode cX8_layMost 138 = .ok (.iload_n 3, 1) := by decide +kernel
theorem dX8_layMost_139 : decode cX8_layMost 139 = .ok (.iconst 1, 1) := by decide +kernel
theorem dX8_layMost_140 : decode cX8_layMost 140 = .ok (.iadd, 1) := by decide +kernel
theorem dX8_layMost_141 : decode cX8_layMost 141 = .ok (.iaload, 1) := by decide +kernel
theorem dX8_layMost_142 : decode cX8_layMost 142 = .ok (.iload 4, 2) := by decide +kernel
theorem dX8_layMost_144 : decode cX8_layMost 144 = .ok (.iload 5, 2) := by decide +kernel
theorem dX8_layMost_146 : decode cX8_layMost 146 = .ok (.imul, 1) := by decide +kernel
theorem dX8_layMost_147 : decode cX8_layMost 147 = .ok (.iload 4, 2) := by decide +kernel
theorem dX8_layMost_149 : decode cX8_layMost 149 = .ok (.iadd, 1) := by decide +kernel
theorem dX8_layMost_150 : decode cX8_layMost 150 = .ok (.iconst 1, 1) := by decide +kernel
theorem dX8_layMost_151 : decode cX8_layMost 151 = .ok (.isub, 1) := by decide +kernel
theorem dX8_layMost_152 : decode cX8_layMost 152 = .ok (.invokevirtual 227, 3) := by decide +kernel
theorem dX8_layMost_155 : decode cX8_layMost 155 = .ok (.aload_n 0, 1) := by decide +kernel
theorem dX8_layMost_156 : decode cX8_layMost 156 = .ok (.aload_n 0, 1) := by decide +kernel
theorem dX8_layMost_157 : decode cX8_layMost 157 = .ok (.getfield 19, 3) := by decide +kernel
theorem dX8_layMost_160 : decode cX8_layMost 160 = .ok (.iload_n 3, 1) := by decide +kernel
theorem dX8_layMost_161 : decode cX8_layMost 161 = .ok (.iconst 1, 1) := by decide +kernel
theorem dX8_layMost_162 : decode cX8_layMost 162 = .ok (.iadd, 1) := by decide +kernel
theorem dX8_layMost_163 : decode cX8_layMost 163 = .ok (.iaload, 1) := by decide +kernel
theorem dX8_layMost_164 : decode cX8_layMost 164 = .ok (.aload_n 0, 1) := by decide +kernel
theorem dX8_layMost_165 : decode cX8_layMost 165 = .ok (.getfield 19, 3) := by decide +kernel
theorem dX8_layMost_168 : decode cX8_layMost 168 = .ok (.iload_n 3, 1) := by decide +kernel
theorem dX8_layMost_169 : decode cX8_layMost 169 = .ok (.iaload, 1) := by decide +kernel
theorem dX8_layMost_170 : decode cX8_layMost 170 = .ok (.iload 4, 2) := by decide +kernel
theorem dX8_layMost_172 : decode cX8_layMost 172 = .ok (.ineg, 1) := by decide +kernel
theorem dX8_layMost_173 : decode cX8_layMost 173 = .ok (.iload 5, 2) := by decide +kernel
theorem dX8_layMost_175 : decode cX8_layMost 175 = .ok (.imul, 1) := by decide +kernel
theorem dX8_layMost_176 : decode cX8_layMost 176 = .ok (.invokevirtual 227, 3) := by decide +kernel
theorem dX8_layMost_179 : decode cX8_layMost 179 = .ok (.iinc 2 1, 3) := by decide +kernel
theorem dX8_layMost_182 : decode cX8_layMost 182 = .ok (.goto (-93), 3) := by decide +kernel
theorem dX8_layMost_185 : decode cX8_layMost 185 = .ok (.iconst 0, 1) := by decide +kernel
theorem dX8_layMost_186 : decode cX8_layMost 186 = .ok (.istore_n 2, 1) := by decide +kernel
theorem dX8_layMost_187 : decode cX8_layMost 187 = .ok (.iload_n 2, 1) := by decide +kernel
theorem dX8_layMost_188 : decode cX8_layMost 188 = .ok (.bipush 7, 2) := by decide +kernel
theorem dX8_layMost_190 : decode cX8_layMost 190 = .ok (.if_icmp .ge 103, 3) := by decide +kernel
theorem dX8_layMost_193 : decode cX8_layMost 193 = .ok (.iconst 0, 1) := by decide +kernel
theorem dX8_layMost_194 : decode cX8_layMost 194 = .ok (.istore_n 3, 1) := by decide +kernel
theorem dX8_layMost_195 : decode cX8_layMost 195 = .ok (.iload_n 3, 1) := by decide +kernel
theorem dX8_layMost_196 : decode cX8_layMost 196 = .ok (.bipush 7, 2) := by decide +kernel
theorem dX8_layMost_198 : decode cX8_layMost 198 = .ok (.if_icmp .ge 89, 3) := by decide +kernel
theorem dX8_layMost_201 : decode cX8_layMost 201 = .ok (.iconst 0, 1) := by decide +kernel
theorem dX8_layMost_202 : decode cX8_layMost 202 = .ok (.istore 4, 2) := by decide +kernel
theorem dX8_layMost_204 : decode cX8_layMost 204 = .ok (.iload 4, 2) := by decide +kernel
theorem dX8_layMost_206 : decode cX8_layMost 206 = .ok (.bipush 7, 2) := by decide +kernel
theorem dX8_layMost_208 : decode cX8_layMost 208 = .ok (.if_icmp .ge 73, 3) := by decide +kernel
theorem dX8_layMost_211 : decode cX8_layMost 211 = .ok (.aload_n 0, 1) := by decide +kernel
theorem dX8_layMost_212 : decode cX8_layMost 212 = .ok (.getfield 34, 3) := by decide +kernel
theorem dX8_layMost_215 : decode cX8_layMost 215 = .ok (.bipush 7, 2) := by decide +kernel
theorem dX8_layMost_217 : decode cX8_layMost 217 = .ok (.iload_n 3, 1) := by decide +kernel
theorem dX8_layMost_218 : decode cX8_layMost 218 = .ok (.imul, 1) := by decide +kernel
theorem dX8_layMost_219 : decode cX8_layMost 219 = .ok (.iload_n 2, 1) := by decide +kernel
theorem dX8_layMost_220 : decode cX8_layMost 220 = .ok (.iadd, 1) := by decide +kernel
theorem dX8_layMost_221 : decode cX8_layMost 221 = .ok (.iaload, 1) := by decide +kernel
theorem dX8_layMost_222 : decode cX8_layMost 222 = .ok (.ldc 226, 2) := by decide +kernel
theorem dX8_layMost_224 : decode cX8_layMost 224 = .ok (.if_icmp .ge 51, 3) := by decide +kernel
theorem dX8_layMost_227 : decode cX8_layMost 227 = .ok (.aload_n 0, 1) := by decide +kernel
theorem dX8_layMost_228 : decode cX8_layMost 228 = .ok (.getfield 34, 3) := by decide +kernel
theorem dX8_layMost_231 : decode cX8_layMost 231 = .ok (.bipush 7, 2) := by decide +kernel
theorem dX8_layMost_233 : decode cX8_layMost 233 = .ok (.iload_n 2, 1) := by decide +kernel
theorem dX8_layMost_234 : decode cX8_layMost 234 = .ok (.imul, 1) := by decide +kernel
theorem dX8_layMost_235 : decode cX8_layMost 235 = .ok (.iload 4, 2) := by decide +kernel
theorem dX8_layMost_237 : decode cX8_layMost 237 = .ok (.iadd, 1) := by decide +kernel
theorem dX8_layMost_238 : decode cX8_layMost 238 = .ok (.iaload, 1) := by decide +kernel
theorem dX8_layMost_239 : decode cX8_layMost 239 = .ok (.ldc 226, 2) := by decide +kernel
theorem dX8_layMost_241 : decode cX8_layMost 241 = .ok (.if_icmp .ge 34, 3) := by decide +kernel
theorem dX8_layMost_244 : decode cX8_layMost 244 = .ok (.aload_n 0, 1) := by decide +kernel
theorem dX8_layMost_245 : decode cX8_layMost 245 = .ok (.iload_n 3, 1) := by decide +kernel
theorem dX8_layMost_246 : decode cX8_layMost 246 = .ok (.iload 4, 2) := by decide +kernel
theorem dX8_layMost_248 : decode cX8_layMost 248 = .ok (.aload_n 0, 1) := by decide +kernel
theorem dX8_layMost_249 : decode cX8_layMost 249 = .ok (.getfield 34, 3) := by decide +kernel
theorem dX8_layMost_252 : decode cX8_layMost 252 = .ok (.bipush 7, 2) := by decide +kernel
theorem dX8_layMost_254 : decode cX8_layMost 254 = .ok (.iload_n 3, 1) := by decide +kernel
theorem dX8_layMost_255 : decode cX8_layMost 255 = .ok (.imul, 1) := by decide +kernel
theorem dX8_layMost_256 : decode cX8_layMost 256 = .ok (.iload_n 2, 1) := by decide +kernel
theorem dX8_layMost_257 : decode cX8_layMost 257 = .ok (.iadd, 1) := by decide +kernel
theorem dX8_layMost_258 : decode cX8_layMost 258 = .ok (.iaload, 1) := by decide +kernel
theorem dX8_layMost_259 : decode cX8_layMost 259 = .ok (.aload_n 0, 1) := by decide +kernel
theorem dX8_layMost_260 : decode cX8_layMost 260 = .ok (.getfield 34, 3) := by decide +kernel
theorem dX8_layMost_263 : decode cX8_layMost 263 = .ok (.bipush 7, 2) := by decide +kernel
theorem dX8_layMost_265 : decode cX8_layMost 265 = .ok (.iload_n 2, 1) := by decide +kernel
theorem dX8_layMost_266 : decode cX8_layMost 266 = .ok (.imul, 1) := by decide +kernel
theorem dX8_layMost_267 : decode cX8_layMost 267 = .ok (.iload 4, 2) := by decide +kernel
theorem dX8_layMost_269 : decode cX8_layMost 269 = .ok (.iadd, 1) := by decide +kernel
theorem dX8_layMost_270 : decode cX8_layMost 270 = .ok (.iaload, 1) := by decide +kernel
theorem dX8_layMost_271 : decode cX8_layMost 271 = .ok (.iadd, 1) := by decide +kernel
theorem dX8_layMost_272 : decode cX8_layMost 272 = .ok (.invokevirtual 227, 3) := by decide +kernel
theorem dX8_layMost_275 : decode cX8_layMost 275 = .ok (.iinc 4 1, 3) := by decide +kernel
theorem dX8_layMost_278 : decode cX8_layMost 278 = .ok (.goto (-74), 3) := by decide +kernel
theorem dX8_layMost_281 : decode cX8_layMost 281 = .ok (.iinc 3 1, 3) := by decide +kernel
theorem dX8_layMost_284 : decode cX8_layMost 284 = .ok (.goto (-89), 3) := by decide +kernel
theorem dX8_layMost_287 : decode cX8_layMost 287 = .ok (.iinc 2 1, 3) := by decide +kernel
theorem dX8_layMost_290 : decode cX8_layMost 290 = .ok (.goto (-103), 3) := by decide +kernel
theorem dX8_layMost_293 : decode cX8_layMost 293 = .ok (.iconst 1, 1) := by decide +kernel
theorem dX8_layMost_294 : decode cX8_layMost 294 = .ok (.istore_n 2, 1) := by decide +kernel
theorem dX8_layMost_295 : decode cX8_layMost 295 = .ok (.iconst 0, 1) := by decide +kernel
theorem dX8_layMost_296 : decode cX8_layMost 296 = .ok (.istore_n 3, 1) := by decide +kernel
theorem dX8_layMost_297 : decode cX8_layMost 297 = .ok (.iload_n 3, 1) := by decide +kernel
theorem dX8_layMost_298 : decode cX8_layMost 298 = .ok (.bipush 7, 2) := by decide +kernel
theorem dX8_layMost_300 : decode cX8_layMost 300 = .ok (.if_icmp .ge 31, 3) := by decide +kernel
theorem dX8_layMost_303 : decode cX8_layMost 303 = .ok (.iload_n 2, 1) := by decide +kernel
theorem dX8_layMost_304 : decode cX8_layMost 304 = .ok (.ifCond .eq 19, 3) := by decide +kernel
theorem dX8_layMost_307 : decode cX8_layMost 307 = .ok (.aload_n 0, 1) := by decide +kernel
theorem dX8_layMost_308 : decode cX8_layMost 308 = .ok (.getfield 34, 3) := by decide +kernel
theorem dX8_layMost_311 : decode cX8_layMost 311 = .ok (.bipush 8, 2) := by decide +kernel
theorem dX8_layMost_313 : decode cX8_layMost 313 = .ok (.iload_n 3, 1) := by decide +kernel
theorem dX8_layMost_314 : decode cX8_layMost 314 = .ok (.imul, 1) := by decide +kernel
theorem dX8_layMost_315 : decode cX8_layMost 315 = .ok (.iaload, 1) := by decide +kernel
theorem dX8_layMost_316 : decode cX8_layMost 316 = .ok (.ifCond .lt 7, 3) := by decide +kernel
theorem dX8_layMost_319 : decode cX8_layMost 319 = .ok (.iconst 1, 1) := by decide +kernel
theorem dX8_layMost_320 : decode cX8_layMost 320 = .ok (.goto 4, 3) := by decide +kernel
theorem dX8_layMost_323 : decode cX8_layMost 323 = .ok (.iconst 0, 1) := by decide +kernel
theorem dX8_layMost_324 : decode cX8_layMost 324 = .ok (.istore_n 2, 1) := by decide +kernel
theorem dX8_layMost_325 : decode cX8_layMost 325 = .ok (.iinc 3 1, 3) := by decide +kernel
theorem dX8_layMost_328 : decode cX8_layMost 328 = .ok (.goto (-31), 3) := by decide +kernel
theorem dX8_layMost_331 : decode cX8_layMost 331 = .ok (.iload_n 2, 1) := by decide +kernel
theorem dX8_layMost_332 : decode cX8_layMost 332 = .ok (.ireturn, 1) := by decide +kernel
set_option maxRecDepth 20000 in
theorem ggX8_layMost_X8_atMost : GoodIn wsX8_layMost wsX8_atMost := goodIn_r _ [8, 1, 9, 10, 11, 12, 13, 14, 15, 16, 17, 18, 19, 20, 21, 22, 23, 24, 25, 26, 27, 28, 29, 30, 31, 32, 33, 34] rfl (by decide +kernel)
set_option maxRecDepth 20000 in
theorem gX8_layMost_X8_atMost : GoodIn wsX8_layMost (wsV RX8 227 RX8 yX8_atMost wsX8_atMost) := goodIn_app (goodIn_r _ [4, 5, 6, 7] rfl (by decide +kernel)) ggX8_layMost_X8_atMost
theorem hd_X8_atMost : yX8_atMost.cls = RX8 ∧ yX8_atMost.cls ≠ "java/lang/invoke/MethodHandle" ∧ yX8_atMost.cls ≠ "java/lang/invoke/VarHandle" ∧ (parseMethodDescriptor yX8_atMost.desc).map (fun d => d.parameters.length) = some 3 := by decide +kernel
/-! X8_layMost -/
abbrev rm_X8_layMost : Room := { frames := 1, cells := 0, slots := 0, locals := 23 }
theorem iw_X8_layMost_8 : ∀ w ∈ wsX80, w ∈ wsX8_layMost := fun _ h => List.mem_cons_of_mem _ (List.mem_append_right _ h)
theorem fl_X8_layMost_19 : Cond.fieldLink RX8 19 "NightStonesModel" "road" "[I" ∈ wsX8_layMost := List.mem_of_getElem? (i := 3) rfl
theorem fl_X8_layMost_34 : Cond.fieldLink RX8 34 "NightStonesModel" "most" "[I" ∈ wsX8_layMost := List.mem_of_getElem? (i := 1) rfl
theorem wd_X8_layMost_c226 : Cond.constant RX8 226 (100000) ∈ wsX8_layMost := List.mem_of_getElem? (i := 2) rfl
def S_X8_layMost_297 (f20 : Nat → Int32) (K : Int32 → (Nat → Int32) → Prop) (R297 : Int32 → Int32 → Prop) (x2 : Int32) (x3 : Int32) : Prop := ((7 ≤ x3 → (fits .boolean (.int x2) = true ∧ K x2 f20)) ∧ (¬ (7 ≤ x3) → ((x2 = 0 → R297 0 (x3 + 1)) ∧ (¬ (x2 = 0) → (vp_in (8 * x3) 49 ∧ (((f20 (8 * x3).toNatClampNeg) < 0 → R297 0 (x3 + 1)) ∧ (¬ ((f20 (8 * x3).toNatClampNeg) < 0) → R297 1 (x3 + 1))))))))
set_option maxHeartbeats 4000000 in
set_option maxRecDepth 100000 in
theorem t_X8_layMost_297 {y : nz_Y} {g : nz_G} (F : nz_F y g cX8_layMost 6 wsX8_layMost RX8 (some .boolean) rm_X8_layMost) {wc0 : va_W} {sz : Nat} {K : Int32 → (Nat → Int32) → Prop} (o : Nat) (a2 : Nat) (a3 : Nat) (a4 : Nat) (a5 : Nat) (a6 : Nat) (a7 : Nat) (a9 : Nat) (a19 : Nat) (a20 : Nat) (a21 : Nat) (a22 : Nat) (a23 : Nat) (a24 : Nat) (r0 : Int32) (r1 : Int32) (r8 : Int32) (r10 : Int32) (r11 : Int32) (r12 : Int32) (r13 : Int32) (r14 : Int32) (r15 : Int32) (r16 : Int32) (r17 : Int32) (r18 : Int32) (r25 : Int32) (f2 : Nat → Int32) (f3 : Nat → Int32) (f4 : Nat → Int32) (f5 : Nat → Int32) (f6 : Nat → Int32) (f7 : Nat → Int32) (f9 : Nat → Int32) (f19 : Nat → Int32) (f21 : Nat → Int32) (f22 : Nat → Int32) (f23 : Nat → Int32) (f24 : Nat → Int32) (f20 : Nat → Int32) (hQ : yz_A y = va_A wc0 sz ∧ yz_Q y = MQ (yz_b y) ((nz_Qi g wc0 (fun r (u : (Nat → Int32)) => K r u) (fun u => [(o, .inr (8, [.int r0, .int r1, .ref a2, .ref a3, .ref a4, .ref a5, .ref a6, .ref a7, .int r8, .ref a9, .int r10, .int r11, .int r12, .int r13, .int r14, .int r15, .int r16, .int r17, .int r18, .ref a19, .ref a20, .ref a21, .ref a22, .ref a23, .ref a24, .int r25])), (a2, .inl (nz_cI g, 8, .inl f2)), (a3, .inl (nz_cI g, 8, .inl f3)), (a4, .inl (nz_cI g, 320, .inl f4)), (a5, .inl (nz_cI g, 94, .inl f5)), (a6, .inl (nz_cI g, 94, .inl f6)), (a7, .inl (nz_cI g, 168, .inl f7)), (a9, .inl (nz_cI g, 400, .inl f9)), (a19, .inl (nz_cI g, 6, .inl f19)), (a20, .inl (nz_cI g, 49, .inl u)), (a21, .inl (nz_cI g, 6, .inl f21)), (a22, .inl (nz_cZ g, 2, .inl f22)), (a23, .inl (nz_cI g, 188, .inl f23)), (a24, .inl (nz_cI g, 16, .inl f24))])) sz) (yz_a y) (yz_s y) 0 0 (va_A wc0 sz)) : ∀ (n1 : Nat) (x2 : Int32) (x3 : Int32), nz_it (fun _ _ => False) (S_X8_layMost_297 f20 K) n1 x2 x3 → nz_V y g 0 0 [(o, .inr (8, [.int r0, .int r1, .ref a2, .ref a3, .ref a4, .ref a5, .ref a6, .ref a7, .int r8, .ref a9, .int r10, .int r11, .int r12, .int r13, .int r14, .int r15, .int r16, .int r17, .int r18, .ref a19, .ref a20, .ref a21, .ref a22, .ref a23, .ref a24, .int r25])), (a2, .inl (nz_cI g, 8, .inl f2)), (a3, .inl (nz_cI g, 8, .inl f3)), (a4, .inl (nz_cI g, 320, .inl f4)), (a5, .inl (nz_cI g, 94, .inl f5)), (a6, .inl (nz_cI g, 94, .inl f6)), (a7, .inl (nz_cI g, 168, .inl f7)), (a9, .inl (nz_cI g, 400, .inl f9)), (a19, .inl (nz_cI g, 6, .inl f19)), (a20, .inl (nz_cI g, 49, .inl f20)), (a21, .inl (nz_cI g, 6, .inl f21)), (a22, .inl (nz_cZ g, 2, .inl f22)), (a23, .inl (nz_cI g, 188, .inl f23)), (a24, .inl (nz_cI g, 16, .inl f24))] 297 [(0, .ref o), (2, .int x2), (3, .int x3)] [] := by
  intro n1
  induction n1 with
  | zero =>
    intro x2 x3 h
    exact h.elim
  | succ n1 hR297 =>
    intro x2 x3 h
    have h : S_X8_layMost_297 f20 K (nz_it (fun _ _ => False) (S_X8_layMost_297 f20 K) n1) x2 x3 := h
    unfold S_X8_layMost_297 at h
    refine nz_iload_n F dX8_layMost_297 rfl 2 rfl ?_
    refine nz_bipush (v := 7) F dX8_layMost_298 (by decide) ?_
    refine nz_icmp_ge (tgt := 331) F dX8_layMost_300 (by decide) (fun c5 => ?_) (fun c5 => ?_)
    · have h := h.1 c5
      refine nz_iload_n F dX8_layMost_331 rfl 1 rfl ?_
      obtain ⟨b6, h⟩ := h
      exact nz_zret F hQ f20 h rfl (nz_nar b6) dX8_layMost_332
    · have h := h.2 c5
      refine nz_iload_n F dX8_layMost_303 rfl 1 rfl ?_
      refine nz_if_eq (tgt := 323) F dX8_layMost_304 (by decide) (fun c7 => ?_) (fun c7 => ?_)
      · have h := h.1 c7
        refine nz_iconst (v := 0) F dX8_layMost_323 (by decide) ?_
        refine nz_istore_n (lv' := [(2, .int 0), (0, .ref o), (3, .int x3)]) F dX8_layMost_324 rfl (by decide) rfl ?_
        refine nz_iinc (v := (x3 + 1)) (j := 2) (lv' := [(3, .int (x3 + 1)), (2, .int 0), (0, .ref o)]) F dX8_layMost_325 rfl rfl (by decide) rfl ?_
        refine nz_goto (tgt := 297) F dX8_layMost_328 (by decide) ?_
        refine nz_ls (lv' := [(0, .ref o), (2, .int 0), (3, .int (x3 + 1))]) [2, 1, 0] rfl ?_
        exact hR297 0 (x3 + 1) h
      · have h := h.2 c7
        refine nz_aload_n F dX8_layMost_307 rfl 0 rfl ?_
        refine nz_get F iw_X8_layMost_8 0 rfl rfl 20 (by decide) rfl fl_X8_layMost_34 rfl dX8_layMost_308 ?_
        refine nz_bipush (v := 8) F dX8_layMost_311 (by decide) ?_
        refine nz_iload_n F dX8_layMost_313 rfl 2 rfl ?_
        refine nz_imul F dX8_layMost_314 ?_
        obtain ⟨i8, h⟩ := h
        refine nz_iald F 9 rfl i8 dX8_layMost_315 ?_
        refine nz_if_lt (tgt := 323) F dX8_layMost_316 (by decide) (fun c9 => ?_) (fun c9 => ?_)
        · have h := h.1 c9
          refine nz_iconst (v := 0) F dX8_layMost_323 (by decide) ?_
          refine nz_istore_n (lv' := [(2, .int 0), (0, .ref o), (3, .int x3)]) F dX8_layMost_324 rfl (by decide) rfl ?_
          refine nz_iinc (v := (x3 + 1)) (j := 2) (lv' := [(3, .int (x3 + 1)), (2, .int 0), (0, .ref o)]) F dX8_layMost_325 rfl rfl (by decide) rfl ?_
          refine nz_goto (tgt := 297) F dX8_layMost_328 (by decide) ?_
          refine nz_ls (lv' := [(0, .ref o), (2, .int 0), (3, .int (x3 + 1))]) [2, 1, 0] rfl ?_
          exact hR297 0 (x3 + 1) h
        · have h := h.2 c9
          refine nz_iconst (v := 1) F dX8_layMost_319 (by decide) ?_
          refine nz_goto (tgt := 324) F dX8_layMost_320 (by decide) ?_
          refine nz_istore_n (lv' := [(2, .int 1), (0, .ref o), (3, .int x3)]) F dX8_layMost_324 rfl (by decide) rfl ?_
          refine nz_iinc (v := (x3 + 1)) (j := 2) (lv' := [(3, .int (x3 + 1)), (2, .int 1), (0, .ref o)]) F dX8_layMost_325 rfl rfl (by decide) rfl ?_
          refine nz_goto (tgt := 297) F dX8_layMost_328 (by decide) ?_
          refine nz_ls (lv' := [(0, .ref o), (2, .int 1), (3, .int (x3 + 1))]) [2, 1, 0] rfl ?_
          exact hR297 1 (x3 + 1) h
def S_X8_layMost_204 (x2 : Int32) (x3 : Int32) (R195 : Int32 → (Nat → Int32) → Prop) (K : Int32 → (Nat → Int32) → Prop) (R204 : Int32 → (Nat → Int32) → Prop) (x4 : Int32) (f20 : Nat → Int32) : Prop := ((7 ≤ x4 → R195 (x3 + 1) f20) ∧ (¬ (7 ≤ x4) → (vp_in ((7 * x3) + x2) 49 ∧ ((100000 ≤ (f20 ((7 * x3) + x2).toNatClampNeg) → R204 (x4 + 1) f20) ∧ (¬ (100000 ≤ (f20 ((7 * x3) + x2).toNatClampNeg)) → (vp_in ((7 * x2) + x4) 49 ∧ ((100000 ≤ (f20 ((7 * x2) + x4).toNatClampNeg) → R204 (x4 + 1) f20) ∧ (¬ (100000 ≤ (f20 ((7 * x2) + x4).toNatClampNeg)) → (vp_in ((7 * x3) + x2) 49 ∧ (vp_in ((7 * x2) + x4) 49 ∧ wp_X8_atMost f20 x3 x4 ((f20 ((7 * x3) + x2).toNatClampNeg) + (f20 ((7 * x2) + x4).toNatClampNeg)) (fun m18 => R204 (x4 + 1) m18)))))))))))
set_option maxHeartbeats 4000000 in
set_option maxRecDepth 100000 in
theorem t_X8_layMost_204 {y : nz_Y} {g : nz_G} (F : nz_F y g cX8_layMost 6 wsX8_layMost RX8 (some .boolean) rm_X8_layMost) {wc0 : va_W} {sz : Nat} {K : Int32 → (Nat → Int32) → Prop} {R195 : Int32 → (Nat → Int32) → Prop} (o : Nat) (a2 : Nat) (a3 : Nat) (a4 : Nat) (a5 : Nat) (a6 : Nat) (a7 : Nat) (a9 : Nat) (a19 : Nat) (a20 : Nat) (a21 : Nat) (a22 : Nat) (a23 : Nat) (a24 : Nat) (r0 : Int32) (r1 : Int32) (r8 : Int32) (r10 : Int32) (r11 : Int32) (r12 : Int32) (r13 : Int32) (r14 : Int32) (r15 : Int32) (r16 : Int32) (r17 : Int32) (r18 : Int32) (r25 : Int32) (f2 : Nat → Int32) (f3 : Nat → Int32) (f4 : Nat → Int32) (f5 : Nat → Int32) (f6 : Nat → Int32) (f7 : Nat → Int32) (f9 : Nat → Int32) (f19 : Nat → Int32) (f21 : Nat → Int32) (f22 : Nat → Int32) (f23 : Nat → Int32) (f24 : Nat → Int32) (x2 : Int32) (x3 : Int32) (hQ : yz_A y = va_A wc0 sz ∧ yz_Q y = MQ (yz_b y) ((nz_Qi g wc0 (fun r (u : (Nat → Int32)) => K r u) (fun u => [(o, .inr (8, [.int r0, .int r1, .ref a2, .ref a3, .ref a4, .ref a5, .ref a6, .ref a7, .int r8, .ref a9, .int r10, .int r11, .int r12, .int r13, .int r14, .int r15, .int r16, .int r17, .int r18, .ref a19, .ref a20, .ref a21, .ref a22, .ref a23, .ref a24, .int r25])), (a2, .inl (nz_cI g, 8, .inl f2)), (a3, .inl (nz_cI g, 8, .inl f3)), (a4, .inl (nz_cI g, 320, .inl f4)), (a5, .inl (nz_cI g, 94, .inl f5)), (a6, .inl (nz_cI g, 94, .inl f6)), (a7, .inl (nz_cI g, 168, .inl f7)), (a9, .inl (nz_cI g, 400, .inl f9)), (a19, .inl (nz_cI g, 6, .inl f19)), (a20, .inl (nz_cI g, 49, .inl u)), (a21, .inl (nz_cI g, 6, .inl f21)), (a22, .inl (nz_cZ g, 2, .inl f22)), (a23, .inl (nz_cI g, 188, .inl f23)), (a24, .inl (nz_cI g, 16, .inl f24))])) sz) (yz_a y) (yz_s y) 0 0 (va_A wc0 sz)) (hR195 : ∀ (x3 : Int32) (f20 : Nat → Int32), R195 x3 f20 → nz_V y g 0 0 [(o, .inr (8, [.int r0, .int r1, .ref a2, .ref a3, .ref a4, .ref a5, .ref a6, .ref a7, .int r8, .ref a9, .int r10, .int r11, .int r12, .int r13, .int r14, .int r15, .int r16, .int r17, .int r18, .ref a19, .ref a20, .ref a21, .ref a22, .ref a23, .ref a24, .int r25])), (a2, .inl (nz_cI g, 8, .inl f2)), (a3, .inl (nz_cI g, 8, .inl f3)), (a4, .inl (nz_cI g, 320, .inl f4)), (a5, .inl (nz_cI g, 94, .inl f5)), (a6, .inl (nz_cI g, 94, .inl f6)), (a7, .inl (nz_cI g, 168, .inl f7)), (a9, .inl (nz_cI g, 400, .inl f9)), (a19, .inl (nz_cI g, 6, .inl f19)), (a20, .inl (nz_cI g, 49, .inl f20)), (a21, .inl (nz_cI g, 6, .inl f21)), (a22, .inl (nz_cZ g, 2, .inl f22)), (a23, .inl (nz_cI g, 188, .inl f23)), (a24, .inl (nz_cI g, 16, .inl f24))] 195 [(0, .ref o), (2, .int x2), (3, .int x3)] []) : ∀ (n1 : Nat) (x4 : Int32) (f20 : Nat → Int32), nz_it (fun _ _ => False) (S_X8_layMost_204 x2 x3 R195 K) n1 x4 f20 → nz_V y g 0 0 [(o, .inr (8, [.int r0, .int r1, .ref a2, .ref a3, .ref a4, .ref a5, .ref a6, .ref a7, .int r8, .ref a9, .int r10, .int r11, .int r12, .int r13, .int r14, .int r15, .int r16, .int r17, .int r18, .ref a19, .ref a20, .ref a21, .ref a22, .ref a23, .ref a24, .int r25])), (a2, .inl (nz_cI g, 8, .inl f2)), (a3, .inl (nz_cI g, 8, .inl f3)), (a4, .inl (nz_cI g, 320, .inl f4)), (a5, .inl (nz_cI g, 94, .inl f5)), (a6, .inl (nz_cI g, 94, .inl f6)), (a7, .inl (nz_cI g, 168, .inl f7)), (a9, .inl (nz_cI g, 400, .inl f9)), (a19, .inl (nz_cI g, 6, .inl f19)), (a20, .inl (nz_cI g, 49, .inl f20)), (a21, .inl (nz_cI g, 6, .inl f21)), (a22, .inl (nz_cZ g, 2, .inl f22)), (a23, .inl (nz_cI g, 188, .inl f23)), (a24, .inl (nz_cI g, 16, .inl f24))] 204 [(0, .ref o), (2, .int x2), (3, .int x3), (4, .int x4)] [] := by
  intro n1
  induction n1 with
  | zero =>
    intro x4 f20 h
    exact h.elim
  | succ n1 hR204 =>
    intro x4 f20 h
    have h : S_X8_layMost_204 x2 x3 R195 K (nz_it (fun _ _ => False) (S_X8_layMost_204 x2 x3 R195 K) n1) x4 f20 := h
    unfold S_X8_layMost_204 at h
    refine nz_iload F dX8_layMost_204 3 rfl ?_
    refine nz_bipush (v := 7) F dX8_layMost_206 (by decide) ?_
    refine nz_icmp_ge (tgt := 281) F dX8_layMost_208 (by decide) (fun c11 => ?_) (fun c11 => ?_)
    · have h := h.1 c11
      refine nz_iinc (v := (x3 + 1)) (j := 2) (lv' := [(3, .int (x3 + 1)), (0, .ref o), (2, .int x2), (4, .int x4)]) F dX8_layMost_281 rfl rfl (by decide) rfl ?_
      refine nz_goto (tgt := 195) F dX8_layMost_284 (by decide) ?_
      refine nz_ls (lv' := [(0, .ref o), (2, .int x2), (3, .int (x3 + 1))]) [1, 2, 0] rfl ?_
      exact hR195 (x3 + 1) f20 h
    · have h := h.2 c11
      refine nz_aload_n F dX8_layMost_211 rfl 0 rfl ?_
      refine nz_get F iw_X8_layMost_8 0 rfl rfl 20 (by decide) rfl fl_X8_layMost_34 rfl dX8_layMost_212 ?_
      refine nz_bipush (v := 7) F dX8_layMost_215 (by decide) ?_
      refine nz_iload_n F dX8_layMost_217 rfl 2 rfl ?_
      refine nz_imul F dX8_layMost_218 ?_
      refine nz_iload_n F dX8_layMost_219 rfl 1 rfl ?_
      refine nz_iadd F dX8_layMost_220 ?_
      obtain ⟨i12, h⟩ := h
      refine nz_iald F 9 rfl i12 dX8_layMost_221 ?_
      refine nz_ldc (v := 100000) F wd_X8_layMost_c226 dX8_layMost_222 ?_
      refine nz_icmp_ge (tgt := 275) F dX8_layMost_224 (by decide) (fun c13 => ?_) (fun c13 => ?_)
      · have h := h.1 c13
        refine nz_iinc (v := (x4 + 1)) (j := 3) (lv' := [(4, .int (x4 + 1)), (0, .ref o), (2, .int x2), (3, .int x3)]) F dX8_layMost_275 rfl rfl (by decide) rfl ?_
        refine nz_goto (tgt := 204) F dX8_layMost_278 (by decide) ?_
        refine nz_ls (lv' := [(0, .ref o), (2, .int x2), (3, .int x3), (4, .int (x4 + 1))]) [1, 2, 3, 0] rfl ?_
        exact hR204 (x4 + 1) f20 h
      · have h := h.2 c13
        refine nz_aload_n F dX8_layMost_227 rfl 0 rfl ?_
        refine nz_get F iw_X8_layMost_8 0 rfl rfl 20 (by decide) rfl fl_X8_layMost_34 rfl dX8_layMost_228 ?_
        refine nz_bipush (v := 7) F dX8_layMost_231 (by decide) ?_
        refine nz_iload_n F dX8_layMost_233 rfl 1 rfl ?_
        refine nz_imul F dX8_layMost_234 ?_
        refine nz_iload F dX8_layMost_235 3 rfl ?_
        refine nz_iadd F dX8_layMost_237 ?_
        obtain ⟨i14, h⟩ := h
        refine nz_iald F 9 rfl i14 dX8_layMost_238 ?_
        refine nz_ldc (v := 100000) F wd_X8_layMost_c226 dX8_layMost_239 ?_
        refine nz_icmp_ge (tgt := 275) F dX8_layMost_241 (by decide) (fun c15 => ?_) (fun c15 => ?_)
        · have h := h.1 c15
          refine nz_iinc (v := (x4 + 1)) (j := 3) (lv' := [(4, .int (x4 + 1)), (0, .ref o), (2, .int x2), (3, .int x3)]) F dX8_layMost_275 rfl rfl (by decide) rfl ?_
          refine nz_goto (tgt := 204) F dX8_layMost_278 (by decide) ?_
          refine nz_ls (lv' := [(0, .ref o), (2, .int x2), (3, .int x3), (4, .int (x4 + 1))]) [1, 2, 3, 0] rfl ?_
          exact hR204 (x4 + 1) f20 h
        · have h := h.2 c15
          refine nz_aload_n F dX8_layMost_244 rfl 0 rfl ?_
          refine nz_iload_n F dX8_layMost_245 rfl 2 rfl ?_
          refine nz_iload F dX8_layMost_246 3 rfl ?_
          refine nz_aload_n F dX8_layMost_248 rfl 0 rfl ?_
          refine nz_get F iw_X8_layMost_8 0 rfl rfl 20 (by decide) rfl fl_X8_layMost_34 rfl dX8_layMost_249 ?_
          refine nz_bipush (v := 7) F dX8_layMost_252 (by decide) ?_
          refine nz_iload_n F dX8_layMost_254 rfl 2 rfl ?_
          refine nz_imul F dX8_layMost_255 ?_
          refine nz_iload_n F dX8_layMost_256 rfl 1 rfl ?_
          refine nz_iadd F dX8_layMost_257 ?_
          obtain ⟨i16, h⟩ := h
          refine nz_iald F 9 rfl i16 dX8_layMost_258 ?_
          refine nz_aload_n F dX8_layMost_259 rfl 0 rfl ?_
          refine nz_get F iw_X8_layMost_8 0 rfl rfl 20 (by decide) rfl fl_X8_layMost_34 rfl dX8_layMost_260 ?_
          refine nz_bipush (v := 7) F dX8_layMost_263 (by decide) ?_
          refine nz_iload_n F dX8_layMost_265 rfl 1 rfl ?_
          refine nz_imul F dX8_layMost_266 ?_
          refine nz_iload F dX8_layMost_267 3 rfl ?_
          refine nz_iadd F dX8_layMost_269 ?_
          obtain ⟨i17, h⟩ := h
          refine nz_iald F 9 rfl i17 dX8_layMost_270 ?_
          refine nz_iadd F dX8_layMost_271 ?_
          refine k_X8_atMost o a2 a3 a4 a5 a6 a7 a9 a19 a20 a21 a22 a23 a24 r0 r1 r8 r10 r11 r12 r13 r14 r15 r16 r17 r18 r25 f2 f3 f4 f5 f6 f7 f9 f19 f20 f21 f22 f23 f24 x3 x4 ((f20 ((7 * x3) + x2).toNatClampNeg) + (f20 ((7 * x2) + x4).toNatClampNeg)) (fun hM => nz_runV F gX8_layMost_X8_atMost rfl hd_X8_atMost rfl hM dX8_layMost_272 [0, 1, 2, 3, 4, 5, 6, 7, 8, 9, 10, 11, 12, 13] rfl rfl 0 rfl rfl rfl (Nat.le_of_ble_eq_true rfl) rfl) h (fun m18 => [(o, .inr (8, [.int r0, .int r1, .ref a2, .ref a3, .ref a4, .ref a5, .ref a6, .ref a7, .int r8, .ref a9, .int r10, .int r11, .int r12, .int r13, .int r14, .int r15, .int r16, .int r17, .int r18, .ref a19, .ref a20, .ref a21, .ref a22, .ref a23, .ref a24, .int r25])), (a2, .inl (nz_cI g, 8, .inl f2)), (a3, .inl (nz_cI g, 8, .inl f3)), (a4, .inl (nz_cI g, 320, .inl f4)), (a5, .inl (nz_cI g, 94, .inl f5)), (a6, .inl (nz_cI g, 94, .inl f6)), (a7, .inl (nz_cI g, 168, .inl f7)), (a9, .inl (nz_cI g, 400, .inl f9)), (a19, .inl (nz_cI g, 6, .inl f19)), (a20, .inl (nz_cI g, 49, .inl m18)), (a21, .inl (nz_cI g, 6, .inl f21)), (a22, .inl (nz_cZ g, 2, .inl f22)), (a23, .inl (nz_cI g, 188, .inl f23)), (a24, .inl (nz_cI g, 16, .inl f24))]) (fun _ => rfl) (fun m18 h => ?_)
          refine nz_iinc (v := (x4 + 1)) (j := 3) (lv' := [(4, .int (x4 + 1)), (0, .ref o), (2, .int x2), (3, .int x3)]) F dX8_layMost_275 rfl rfl (by decide) rfl ?_
          refine nz_goto (tgt := 204) F dX8_layMost_278 (by decide) ?_
          refine nz_ls (lv' := [(0, .ref o), (2, .int x2), (3, .int x3), (4, .int (x4 + 1))]) [1, 2, 3, 0] rfl ?_
          exact hR204 (x4 + 1) m18 h
def S_X8_layMost_195 (x2 : Int32) (R187 : Int32 → (Nat → Int32) → Prop) (K : Int32 → (Nat → Int32) → Prop) (R195 : Int32 → (Nat → Int32) → Prop) (x3 : Int32) (f20 : Nat → Int32) : Prop := ((7 ≤ x3 → R187 (x2 + 1) f20) ∧ (¬ (7 ≤ x3) → (∃ n, nz_it (fun _ _ => False) (S_X8_layMost_204 x2 x3 R195 K) n 0 f20)))
set_option maxHeartbeats 4000000 in
set_option maxRecDepth 100000 in
theorem t_X8_layMost_195 {y : nz_Y} {g : nz_G} (F : nz_F y g cX8_layMost 6 wsX8_layMost RX8 (some .boolean) rm_X8_layMost) {wc0 : va_W} {sz : Nat} {K : Int32 → (Nat → Int32) → Prop} {R187 : Int32 → (Nat → Int32) → Prop} (o : Nat) (a2 : Nat) (a3 : Nat) (a4 : Nat) (a5 : Nat) (a6 : Nat) (a7 : Nat) (a9 : Nat) (a19 : Nat) (a20 : Nat) (a21 : Nat) (a22 : Nat) (a23 : Nat) (a24 : Nat) (r0 : Int32) (r1 : Int32) (r8 : Int32) (r10 : Int32) (r11 : Int32) (r12 : Int32) (r13 : Int32) (r14 : Int32) (r15 : Int32) (r16 : Int32) (r17 : Int32) (r18 : Int32) (r25 : Int32) (f2 : Nat → Int32) (f3 : Nat → Int32) (f4 : Nat → Int32) (f5 : Nat → Int32) (f6 : Nat → Int32) (f7 : Nat → Int32) (f9 : Nat → Int32) (f19 : Nat → Int32) (f21 : Nat → Int32) (f22 : Nat → Int32) (f23 : Nat → Int32) (f24 : Nat → Int32) (x2 : Int32) (hQ : yz_A y = va_A wc0 sz ∧ yz_Q y = MQ (yz_b y) ((nz_Qi g wc0 (fun r (u : (Nat → Int32)) => K r u) (fun u => [(o, .inr (8, [.int r0, .int r1, .ref a2, .ref a3, .ref a4, .ref a5, .ref a6, .ref a7, .int r8, .ref a9, .int r10, .int r11, .int r12, .int r13, .int r14, .int r15, .int r16, .int r17, .int r18, .ref a19, .ref a20, .ref a21, .ref a22, .ref a23, .ref a24, .int r25])), (a2, .inl (nz_cI g, 8, .inl f2)), (a3, .inl (nz_cI g, 8, .inl f3)), (a4, .inl (nz_cI g, 320, .inl f4)), (a5, .inl (nz_cI g, 94, .inl f5)), (a6, .inl (nz_cI g, 94, .inl f6)), (a7, .inl (nz_cI g, 168, .inl f7)), (a9, .inl (nz_cI g, 400, .inl f9)), (a19, .inl (nz_cI g, 6, .inl f19)), (a20, .inl (nz_cI g, 49, .inl u)), (a21, .inl (nz_cI g, 6, .inl f21)), (a22, .inl (nz_cZ g, 2, .inl f22)), (a23, .inl (nz_cI g, 188, .inl f23)), (a24, .inl (nz_cI g, 16, .inl f24))])) sz) (yz_a y) (yz_s y) 0 0 (va_A wc0 sz)) (hR187 : ∀ (x2 : Int32) (f20 : Nat → Int32), R187 x2 f20 → nz_V y g 0 0 [(o, .inr (8, [.int r0, .int r1, .ref a2, .ref a3, .ref a4, .ref a5, .ref a6, .ref a7, .int r8, .ref a9, .int r10, .int r11, .int r12, .int r13, .int r14, .int r15, .int r16, .int r17, .int r18, .ref a19, .ref a20, .ref a21, .ref a22, .ref a23, .ref a24, .int r25])), (a2, .inl (nz_cI g, 8, .inl f2)), (a3, .inl (nz_cI g, 8, .inl f3)), (a4, .inl (nz_cI g, 320, .inl f4)), (a5, .inl (nz_cI g, 94, .inl f5)), (a6, .inl (nz_cI g, 94, .inl f6)), (a7, .inl (nz_cI g, 168, .inl f7)), (a9, .inl (nz_cI g, 400, .inl f9)), (a19, .inl (nz_cI g, 6, .inl f19)), (a20, .inl (nz_cI g, 49, .inl f20)), (a21, .inl (nz_cI g, 6, .inl f21)), (a22, .inl (nz_cZ g, 2, .inl f22)), (a23, .inl (nz_cI g, 188, .inl f23)), (a24, .inl (nz_cI g, 16, .inl f24))] 187 [(0, .ref o), (2, .int x2)] []) : ∀ (n1 : Nat) (x3 : Int32) (f20 : Nat → Int32), nz_it (fun _ _ => False) (S_X8_layMost_195 x2 R187 K) n1 x3 f20 → nz_V y g 0 0 [(o, .inr (8, [.int r0, .int r1, .ref a2, .ref a3, .ref a4, .ref a5, .ref a6, .ref a7, .int r8, .ref a9, .int r10, .int r11, .int r12, .int r13, .int r14, .int r15, .int r16, .int r17, .int r18, .ref a19, .ref a20, .ref a21, .ref a22, .ref a23, .ref a24, .int r25])), (a2, .inl (nz_cI g, 8, .inl f2)), (a3, .inl (nz_cI g, 8, .inl f3)), (a4, .inl (nz_cI g, 320, .inl f4)), (a5, .inl (nz_cI g, 94, .inl f5)), (a6, .inl (nz_cI g, 94, .inl f6)), (a7, .inl (nz_cI g, 168, .inl f7)), (a9, .inl (nz_cI g, 400, .inl f9)), (a19, .inl (nz_cI g, 6, .inl f19)), (a20, .inl (nz_cI g, 49, .inl f20)), (a21, .inl (nz_cI g, 6, .inl f21)), (a22, .inl (nz_cZ g, 2, .inl f22)), (a23, .inl (nz_cI g, 188, .inl f23)), (a24, .inl (nz_cI g, 16, .inl f24))] 195 [(0, .ref o), (2, .int x2), (3, .int x3)] [] := by
  intro n1
  induction n1 with
  | zero =>
    intro x3 f20 h
    exact h.elim
  | succ n1 hR195 =>
    intro x3 f20 h
    have h : S_X8_layMost_195 x2 R187 K (nz_it (fun _ _ => False) (S_X8_layMost_195 x2 R187 K) n1) x3 f20 := h
    unfold S_X8_layMost_195 at h
    refine nz_iload_n F dX8_layMost_195 rfl 2 rfl ?_
    refine nz_bipush (v := 7) F dX8_layMost_196 (by decide) ?_
    refine nz_icmp_ge (tgt := 287) F dX8_layMost_198 (by decide) (fun c10 => ?_) (fun c10 => ?_)
    · have h := h.1 c10
      refine nz_iinc (v := (x2 + 1)) (j := 1) (lv' := [(2, .int (x2 + 1)), (0, .ref o), (3, .int x3)]) F dX8_layMost_287 rfl rfl (by decide) rfl ?_
      refine nz_goto (tgt := 187) F dX8_layMost_290 (by decide) ?_
      refine nz_ls (lv' := [(0, .ref o), (2, .int (x2 + 1))]) [1, 0] rfl ?_
      exact hR187 (x2 + 1) f20 h
    · have h := h.2 c10
      refine nz_iconst (v := 0) F dX8_layMost_201 (by decide) ?_
      refine nz_istore (lv' := [(4, .int 0), (0, .ref o), (2, .int x2), (3, .int x3)]) F dX8_layMost_202 (by decide) rfl ?_
      refine nz_ls (lv' := [(0, .ref o), (2, .int x2), (3, .int x3), (4, .int 0)]) [1, 2, 3, 0] rfl ?_
      obtain ⟨n1, h⟩ := h
      exact t_X8_layMost_204 F o a2 a3 a4 a5 a6 a7 a9 a19 a20 a21 a22 a23 a24 r0 r1 r8 r10 r11 r12 r13 r14 r15 r16 r17 r18 r25 f2 f3 f4 f5 f6 f7 f9 f19 f21 f22 f23 f24 x2 x3 hQ hR195 n1 0 f20 h
def S_X8_layMost_187  (K : Int32 → (Nat → Int32) → Prop) (R187 : Int32 → (Nat → Int32) → Prop) (x2 : Int32) (f20 : Nat → Int32) : Prop := ((7 ≤ x2 → (∃ n, nz_it (fun _ _ => False) (S_X8_layMost_297 f20 K) n 1 0)) ∧ (¬ (7 ≤ x2) → (∃ n, nz_it (fun _ _ => False) (S_X8_layMost_195 x2 R187 K) n 0 f20)))
set_option maxHeartbeats 4000000 in
set_option maxRecDepth 100000 in
theorem t_X8_layMost_187 {y : nz_Y} {g : nz_G} (F : nz_F y g cX8_layMost 6 wsX8_layMost RX8 (some .boolean) rm_X8_layMost) {wc0 : va_W} {sz : Nat} {K : Int32 → (Nat → Int32) → Prop} (o : Nat) (a2 : Nat) (a3 : Nat) (a4 : Nat) (a5 : Nat) (a6 : Nat) (a7 : Nat) (a9 : Nat) (a19 : Nat) (a20 : Nat) (a21 : Nat) (a22 : Nat) (a23 : Nat) (a24 : Nat) (r0 : Int32) (r1 : Int32) (r8 : Int32) (r10 : Int32) (r11 : Int32) (r12 : Int32) (r13 : Int32) (r14 : Int32) (r15 : Int32) (r16 : Int32) (r17 : Int32) (r18 : Int32) (r25 : Int32) (f2 : Nat → Int32) (f3 : Nat → Int32) (f4 : Nat → Int32) (f5 : Nat → Int32) (f6 : Nat → Int32) (f7 : Nat → Int32) (f9 : Nat → Int32) (f19 : Nat → Int32) (f21 : Nat → Int32) (f22 : Nat → Int32) (f23 : Nat → Int32) (f24 : Nat → Int32) (hQ : yz_A y = va_A wc0 sz ∧ yz_Q y = MQ (yz_b y) ((nz_Qi g wc0 (fun r (u : (Nat → Int32)) => K r u) (fun u => [(o, .inr (8, [.int r0, .int r1, .ref a2, .ref a3, .ref a4, .ref a5, .ref a6, .ref a7, .int r8, .ref a9, .int r10, .int r11, .int r12, .int r13, .int r14, .int r15, .int r16, .int r17, .int r18, .ref a19, .ref a20, .ref a21, .ref a22, .ref a23, .ref a24, .int r25])), (a2, .inl (nz_cI g, 8, .inl f2)), (a3, .inl (nz_cI g, 8, .inl f3)), (a4, .inl (nz_cI g, 320, .inl f4)), (a5, .inl (nz_cI g, 94, .inl f5)), (a6, .inl (nz_cI g, 94, .inl f6)), (a7, .inl (nz_cI g, 168, .inl f7)), (a9, .inl (nz_cI g, 400, .inl f9)), (a19, .inl (nz_cI g, 6, .inl f19)), (a20, .inl (nz_cI g, 49, .inl u)), (a21, .inl (nz_cI g, 6, .inl f21)), (a22, .inl (nz_cZ g, 2, .inl f22)), (a23, .inl (nz_cI g, 188, .inl f23)), (a24, .inl (nz_cI g, 16, .inl f24))])) sz) (yz_a y) (yz_s y) 0 0 (va_A wc0 sz)) : ∀ (n1 : Nat) (x2 : Int32) (f20 : Nat → Int32), nz_it (fun _ _ => False) (S_X8_layMost_187 K) n1 x2 f20 → nz_V y g 0 0 [(o, .inr (8, [.int r0, .int r1, .ref a2, .ref a3, .ref a4, .ref a5, .ref a6, .ref a7, .int r8, .ref a9, .int r10, .int r11, .int r12, .int r13, .int r14, .int r15, .int r16, .int r17, .int r18, .ref a19, .ref a20, .ref a21, .ref a22, .ref a23, .ref a24, .int r25])), (a2, .inl (nz_cI g, 8, .inl f2)), (a3, .inl (nz_cI g, 8, .inl f3)), (a4, .inl (nz_cI g, 320, .inl f4)), (a5, .inl (nz_cI g, 94, .inl f5)), (a6, .inl (nz_cI g, 94, .inl f6)), (a7, .inl (nz_cI g, 168, .inl f7)), (a9, .inl (nz_cI g, 400, .inl f9)), (a19, .inl (nz_cI g, 6, .inl f19)), (a20, .inl (nz_cI g, 49, .inl f20)), (a21, .inl (nz_cI g, 6, .inl f21)), (a22, .inl (nz_cZ g, 2, .inl f22)), (a23, .inl (nz_cI g, 188, .inl f23)), (a24, .inl (nz_cI g, 16, .inl f24))] 187 [(0, .ref o), (2, .int x2)] [] := by
  intro n1
  induction n1 with
  | zero =>
    intro x2 f20 h
    exact h.elim
  | succ n1 hR187 =>
    intro x2 f20 h
    have h : S_X8_layMost_187 K (nz_it (fun _ _ => False) (S_X8_layMost_187 K) n1) x2 f20 := h
    unfold S_X8_layMost_187 at h
    refine nz_iload_n F dX8_layMost_187 rfl 1 rfl ?_
    refine nz_bipush (v := 7) F dX8_layMost_188 (by decide) ?_
    refine nz_icmp_ge (tgt := 293) F dX8_layMost_190 (by decide) (fun c4 => ?_) (fun c4 => ?_)
    · have h := h.1 c4
      refine nz_iconst (v := 1) F dX8_layMost_293 (by decide) ?_
      refine nz_istore_n (lv' := [(2, .int 1), (0, .ref o)]) F dX8_layMost_294 rfl (by decide) rfl ?_
      refine nz_iconst (v := 0) F dX8_layMost_295 (by decide) ?_
      refine nz_istore_n (lv' := [(3, .int 0), (2, .int 1), (0, .ref o)]) F dX8_layMost_296 rfl (by decide) rfl ?_
      refine nz_ls (lv' := [(0, .ref o), (2, .int 1), (3, .int 0)]) [2, 1, 0] rfl ?_
      obtain ⟨n1, h⟩ := h
      exact t_X8_layMost_297 F o a2 a3 a4 a5 a6 a7 a9 a19 a20 a21 a22 a23 a24 r0 r1 r8 r10 r11 r12 r13 r14 r15 r16 r17 r18 r25 f2 f3 f4 f5 f6 f7 f9 f19 f21 f22 f23 f24 f20 hQ n1 1 0 h
    · have h := h.2 c4
      refine nz_iconst (v := 0) F dX8_layMost_193 (by decide) ?_
      refine nz_istore_n (lv' := [(3, .int 0), (0, .ref o), (2, .int x2)]) F dX8_layMost_194 rfl (by decide) rfl ?_
      refine nz_ls (lv' := [(0, .ref o), (2, .int x2), (3, .int 0)]) [1, 2, 0] rfl ?_
      obtain ⟨n1, h⟩ := h
      exact t_X8_layMost_195 F o a2 a3 a4 a5 a6 a7 a9 a19 a20 a21 a22 a23 a24 r0 r1 r8 r10 r11 r12 r13 r14 r15 r16 r17 r18 r25 f2 f3 f4 f5 f6 f7 f9 f19 f21 f22 f23 f24 x2 hQ hR187 n1 0 f20 h
def S_X8_layMost_89 (f5 : Nat → Int32) (K : Int32 → (Nat → Int32) → Prop) (R89 : Int32 → (Nat → Int32) → Prop) (x2 : Int32) (f20 : Nat → Int32) : Prop := (((f5 7) ≤ x2 → (∃ n, nz_it (fun _ _ => False) (S_X8_layMost_187 K) n 0 f20)) ∧ (¬ ((f5 7) ≤ x2) → (vp_in ((46 + (4 * x2)) + 2) 94 ∧ (vp_in ((46 + (4 * x2)) + 3) 94 ∧ (vp_in (46 + (4 * x2)) 94 ∧ (vp_in ((46 + (4 * x2)) + 1) 94 ∧ wp_X8_atMost f20 (f5 (46 + (4 * x2)).toNatClampNeg) (f5 ((46 + (4 * x2)) + 1).toNatClampNeg) ((((f5 ((46 + (4 * x2)) + 2).toNatClampNeg) * (f5 ((46 + (4 * x2)) + 3).toNatClampNeg)) + (f5 ((46 + (4 * x2)) + 2).toNatClampNeg)) - 1) (fun m23 => (vp_in ((46 + (4 * x2)) + 1) 94 ∧ (vp_in (46 + (4 * x2)) 94 ∧ wp_X8_atMost m23 (f5 ((46 + (4 * x2)) + 1).toNatClampNeg) (f5 (46 + (4 * x2)).toNatClampNeg) ((-(f5 ((46 + (4 * x2)) + 2).toNatClampNeg)) * (f5 ((46 + (4 * x2)) + 3).toNatClampNeg)) (fun m26 => R89 (x2 + 1) m26))))))))))
set_option maxHeartbeats 4000000 in
set_option maxRecDepth 100000 in
theorem t_X8_layMost_89 {y : nz_Y} {g : nz_G} (F : nz_F y g cX8_layMost 6 wsX8_layMost RX8 (some .boolean) rm_X8_layMost) {wc0 : va_W} {sz : Nat} {K : Int32 → (Nat → Int32) → Prop} (o : Nat) (a2 : Nat) (a3 : Nat) (a4 : Nat) (a5 : Nat) (a6 : Nat) (a7 : Nat) (a9 : Nat) (a19 : Nat) (a20 : Nat) (a21 : Nat) (a22 : Nat) (a23 : Nat) (a24 : Nat) (r0 : Int32) (r1 : Int32) (r8 : Int32) (r10 : Int32) (r11 : Int32) (r12 : Int32) (r13 : Int32) (r14 : Int32) (r15 : Int32) (r16 : Int32) (r17 : Int32) (r18 : Int32) (r25 : Int32) (f2 : Nat → Int32) (f3 : Nat → Int32) (f4 : Nat → Int32) (f5 : Nat → Int32) (f6 : Nat → Int32) (f7 : Nat → Int32) (f9 : Nat → Int32) (f19 : Nat → Int32) (f21 : Nat → Int32) (f22 : Nat → Int32) (f23 : Nat → Int32) (f24 : Nat → Int32) (hQ : yz_A y = va_A wc0 sz ∧ yz_Q y = MQ (yz_b y) ((nz_Qi g wc0 (fun r (u : (Nat → Int32)) => K r u) (fun u => [(o, .inr (8, [.int r0, .int r1, .ref a2, .ref a3, .ref a4, .ref a5, .ref a6, .ref a7, .int r8, .ref a9, .int r10, .int r11, .int r12, .int r13, .int r14, .int r15, .int r16, .int r17, .int r18, .ref a19, .ref a20, .ref a21, .ref a22, .ref a23, .ref a24, .int r25])), (a2, .inl (nz_cI g, 8, .inl f2)), (a3, .inl (nz_cI g, 8, .inl f3)), (a4, .inl (nz_cI g, 320, .inl f4)), (a5, .inl (nz_cI g, 94, .inl f5)), (a6, .inl (nz_cI g, 94, .inl f6)), (a7, .inl (nz_cI g, 168, .inl f7)), (a9, .inl (nz_cI g, 400, .inl f9)), (a19, .inl (nz_cI g, 6, .inl f19)), (a20, .inl (nz_cI g, 49, .inl u)), (a21, .inl (nz_cI g, 6, .inl f21)), (a22, .inl (nz_cZ g, 2, .inl f22)), (a23, .inl (nz_cI g, 188, .inl f23)), (a24, .inl (nz_cI g, 16, .inl f24))])) sz) (yz_a y) (yz_s y) 0 0 (va_A wc0 sz)) : ∀ (n1 : Nat) (x2 : Int32) (f20 : Nat → Int32), nz_it (fun _ _ => False) (S_X8_layMost_89 f5 K) n1 x2 f20 → nz_V y g 0 0 [(o, .inr (8, [.int r0, .int r1, .ref a2, .ref a3, .ref a4, .ref a5, .ref a6, .ref a7, .int r8, .ref a9, .int r10, .int r11, .int r12, .int r13, .int r14, .int r15, .int r16, .int r17, .int r18, .ref a19, .ref a20, .ref a21, .ref a22, .ref a23, .ref a24, .int r25])), (a2, .inl (nz_cI g, 8, .inl f2)), (a3, .inl (nz_cI g, 8, .inl f3)), (a4, .inl (nz_cI g, 320, .inl f4)), (a5, .inl (nz_cI g, 94, .inl f5)), (a6, .inl (nz_cI g, 94, .inl f6)), (a7, .inl (nz_cI g, 168, .inl f7)), (a9, .inl (nz_cI g, 400, .inl f9)), (a19, .inl (nz_cI g, 6, .inl f19)), (a20, .inl (nz_cI g, 49, .inl f20)), (a21, .inl (nz_cI g, 6, .inl f21)), (a22, .inl (nz_cZ g, 2, .inl f22)), (a23, .inl (nz_cI g, 188, .inl f23)), (a24, .inl (nz_cI g, 16, .inl f24))] 89 [(0, .ref o), (2, .int x2)] [] := by
  intro n1
  induction n1 with
  | zero =>
    intro x2 f20 h
    exact h.elim
  | succ n1 hR89 =>
    intro x2 f20 h
    have h : S_X8_layMost_89 f5 K (nz_it (fun _ _ => False) (S_X8_layMost_89 f5 K) n1) x2 f20 := h
    unfold S_X8_layMost_89 at h
    refine nz_iload_n F dX8_layMost_89 rfl 1 rfl ?_
    refine nz_aload_n F dX8_layMost_90 rfl 0 rfl ?_
    refine nz_get F iw_X8_layMost_8 0 rfl rfl 5 (by decide) rfl fl_X8_layMost_19 rfl dX8_layMost_91 ?_
    refine nz_bipush (v := 7) F dX8_layMost_94 (by decide) ?_
    refine nz_iald F 4 rfl (nz_inC rfl) dX8_layMost_96 ?_
    refine nz_vi (z := (f5 7)) rfl ?_
    refine nz_icmp_ge (tgt := 185) F dX8_layMost_97 (by decide) (fun c3 => ?_) (fun c3 => ?_)
    · have h := h.1 c3
      refine nz_iconst (v := 0) F dX8_layMost_185 (by decide) ?_
      refine nz_istore_n (lv' := [(2, .int 0), (0, .ref o)]) F dX8_layMost_186 rfl (by decide) rfl ?_
      refine nz_ls (lv' := [(0, .ref o), (2, .int 0)]) [1, 0] rfl ?_
      obtain ⟨n1, h⟩ := h
      exact t_X8_layMost_187 F o a2 a3 a4 a5 a6 a7 a9 a19 a20 a21 a22 a23 a24 r0 r1 r8 r10 r11 r12 r13 r14 r15 r16 r17 r18 r25 f2 f3 f4 f5 f6 f7 f9 f19 f21 f22 f23 f24 hQ n1 0 f20 h
    · have h := h.2 c3
      refine nz_bipush (v := 46) F dX8_layMost_100 (by decide) ?_
      refine nz_iconst (v := 4) F dX8_layMost_102 (by decide) ?_
      refine nz_iload_n F dX8_layMost_103 rfl 1 rfl ?_
      refine nz_imul F dX8_layMost_104 ?_
      refine nz_iadd F dX8_layMost_105 ?_
      refine nz_istore_n (lv' := [(3, .int (46 + (4 * x2))), (0, .ref o), (2, .int x2)]) F dX8_layMost_106 rfl (by decide) rfl ?_
      refine nz_aload_n F dX8_layMost_107 rfl 1 rfl ?_
      refine nz_get F iw_X8_layMost_8 0 rfl rfl 5 (by decide) rfl fl_X8_layMost_19 rfl dX8_layMost_108 ?_
      refine nz_iload_n F dX8_layMost_111 rfl 0 rfl ?_
      refine nz_iconst (v := 2) F dX8_layMost_112 (by decide) ?_
      refine nz_iadd F dX8_layMost_113 ?_
      obtain ⟨i19, h⟩ := h
      refine nz_iald F 4 rfl i19 dX8_layMost_114 ?_
      refine nz_istore (lv' := [(4, .int (f5 ((46 + (4 * x2)) + 2).toNatClampNeg)), (3, .int (46 + (4 * x2))), (0, .ref o), (2, .int x2)]) F dX8_layMost_115 (by decide) rfl ?_
      refine nz_aload_n F dX8_layMost_117 rfl 2 rfl ?_
      refine nz_get F iw_X8_layMost_8 0 rfl rfl 5 (by decide) rfl fl_X8_layMost_19 rfl dX8_layMost_118 ?_
      refine nz_iload_n F dX8_layMost_121 rfl 1 rfl ?_
      refine nz_iconst (v := 3) F dX8_layMost_122 (by decide) ?_
      refine nz_iadd F dX8_layMost_123 ?_
      obtain ⟨i20, h⟩ := h
      refine nz_iald F 4 rfl i20 dX8_layMost_124 ?_
      refine nz_istore (lv' := [(5, .int (f5 ((46 + (4 * x2)) + 3).toNatClampNeg)), (4, .int (f5 ((46 + (4 * x2)) + 2).toNatClampNeg)), (3, .int (46 + (4 * x2))), (0, .ref o), (2, .int x2)]) F dX8_layMost_125 (by decide) rfl ?_
      refine nz_aload_n F dX8_layMost_127 rfl 3 rfl ?_
      refine nz_aload_n F dX8_layMost_128 rfl 3 rfl ?_
      refine nz_get F iw_X8_layMost_8 0 rfl rfl 5 (by decide) rfl fl_X8_layMost_19 rfl dX8_layMost_129 ?_
      refine nz_iload_n F dX8_layMost_132 rfl 2 rfl ?_
      obtain ⟨i21, h⟩ := h
      refine nz_iald F 4 rfl i21 dX8_layMost_133 ?_
      refine nz_aload_n F dX8_layMost_134 rfl 3 rfl ?_
      refine nz_get F iw_X8_layMost_8 0 rfl rfl 5 (by decide) rfl fl_X8_layMost_19 rfl dX8_layMost_135 ?_
      refine nz_iload_n F dX8_layMost_138 rfl 2 rfl ?_
      refine nz_iconst (v := 1) F dX8_layMost_139 (by decide) ?_
      refine nz_iadd F dX8_layMost_140 ?_
      obtain ⟨i22, h⟩ := h
      refine nz_iald F 4 rfl i22 dX8_layMost_141 ?_
      refine nz_iload F dX8_layMost_142 1 rfl ?_
      refine nz_iload F dX8_layMost_144 0 rfl ?_
      refine nz_imul F dX8_layMost_146 ?_
      refine nz_iload F dX8_layMost_147 1 rfl ?_
      refine nz_iadd F dX8_layMost_149 ?_
      refine nz_iconst (v := 1) F dX8_layMost_150 (by decide) ?_
      refine nz_isub F dX8_layMost_151 ?_
      refine k_X8_atMost o a2 a3 a4 a5 a6 a7 a9 a19 a20 a21 a22 a23 a24 r0 r1 r8 r10 r11 r12 r13 r14 r15 r16 r17 r18 r25 f2 f3 f4 f5 f6 f7 f9 f19 f20 f21 f22 f23 f24 (f5 (46 + (4 * x2)).toNatClampNeg) (f5 ((46 + (4 * x2)) + 1).toNatClampNeg) ((((f5 ((46 + (4 * x2)) + 2).toNatClampNeg) * (f5 ((46 + (4 * x2)) + 3).toNatClampNeg)) + (f5 ((46 + (4 * x2)) + 2).toNatClampNeg)) - 1) (fun hM => nz_runV F gX8_layMost_X8_atMost rfl hd_X8_atMost rfl hM dX8_layMost_152 [0, 1, 2, 3, 4, 5, 6, 7, 8, 9, 10, 11, 12, 13] rfl rfl 0 rfl rfl rfl (Nat.le_of_ble_eq_true rfl) rfl) h (fun m23 => [(o, .inr (8, [.int r0, .int r1, .ref a2, .ref a3, .ref a4, .ref a5, .ref a6, .ref a7, .int r8, .ref a9, .int r10, .int r11, .int r12, .int r13, .int r14, .int r15, .int r16, .int r17, .int r18, .ref a19, .ref a20, .ref a21, .ref a22, .ref a23, .ref a24, .int r25])), (a2, .inl (nz_cI g, 8, .inl f2)), (a3, .inl (nz_cI g, 8, .inl f3)), (a4, .inl (nz_cI g, 320, .inl f4)), (a5, .inl (nz_cI g, 94, .inl f5)), (a6, .inl (nz_cI g, 94, .inl f6)), (a7, .inl (nz_cI g, 168, .inl f7)), (a9, .inl (nz_cI g, 400, .inl f9)), (a19, .inl (nz_cI g, 6, .inl f19)), (a20, .inl (nz_cI g, 49, .inl m23)), (a21, .inl (nz_cI g, 6, .inl f21)), (a22, .inl (nz_cZ g, 2, .inl f22)), (a23, .inl (nz_cI g, 188, .inl f23)), (a24, .inl (nz_cI g, 16, .inl f24))]) (fun _ => rfl) (fun m23 h => ?_)
      refine nz_aload_n F dX8_layMost_155 rfl 3 rfl ?_
      refine nz_aload_n F dX8_layMost_156 rfl 3 rfl ?_
      refine nz_get F iw_X8_layMost_8 0 rfl rfl 5 (by decide) rfl fl_X8_layMost_19 rfl dX8_layMost_157 ?_
      refine nz_iload_n F dX8_layMost_160 rfl 2 rfl ?_
      refine nz_iconst (v := 1) F dX8_layMost_161 (by decide) ?_
      refine nz_iadd F dX8_layMost_162 ?_
      obtain ⟨i24, h⟩ := h
      refine nz_iald F 4 rfl i24 dX8_layMost_163 ?_
      refine nz_aload_n F dX8_layMost_164 rfl 3 rfl ?_
      refine nz_get F iw_X8_layMost_8 0 rfl rfl 5 (by decide) rfl fl_X8_layMost_19 rfl dX8_layMost_165 ?_
      refine nz_iload_n F dX8_layMost_168 rfl 2 rfl ?_
      obtain ⟨i25, h⟩ := h
      refine nz_iald F 4 rfl i25 dX8_layMost_169 ?_
      refine nz_iload F dX8_layMost_170 1 rfl ?_
      refine nz_ineg F dX8_layMost_172 ?_
      refine nz_iload F dX8_layMost_173 0 rfl ?_
      refine nz_imul F dX8_layMost_175 ?_
      refine k_X8_atMost o a2 a3 a4 a5 a6 a7 a9 a19 a20 a21 a22 a23 a24 r0 r1 r8 r10 r11 r12 r13 r14 r15 r16 r17 r18 r25 f2 f3 f4 f5 f6 f7 f9 f19 m23 f21 f22 f23 f24 (f5 ((46 + (4 * x2)) + 1).toNatClampNeg) (f5 (46 + (4 * x2)).toNatClampNeg) ((-(f5 ((46 + (4 * x2)) + 2).toNatClampNeg)) * (f5 ((46 + (4 * x2)) + 3).toNatClampNeg)) (fun hM => nz_runV F gX8_layMost_X8_atMost rfl hd_X8_atMost rfl hM dX8_layMost_176 [0, 1, 2, 3, 4, 5, 6, 7, 8, 9, 10, 11, 12, 13] rfl rfl 0 rfl rfl rfl (Nat.le_of_ble_eq_true rfl) rfl) h (fun m26 => [(o, .inr (8, [.int r0, .int r1, .ref a2, .ref a3, .ref a4, .ref a5, .ref a6, .ref a7, .int r8, .ref a9, .int r10, .int r11, .int r12, .int r13, .int r14, .int r15, .int r16, .int r17, .int r18, .ref a19, .ref a20, .ref a21, .ref a22, .ref a23, .ref a24, .int r25])), (a2, .inl (nz_cI g, 8, .inl f2)), (a3, .inl (nz_cI g, 8, .inl f3)), (a4, .inl (nz_cI g, 320, .inl f4)), (a5, .inl (nz_cI g, 94, .inl f5)), (a6, .inl (nz_cI g, 94, .inl f6)), (a7, .inl (nz_cI g, 168, .inl f7)), (a9, .inl (nz_cI g, 400, .inl f9)), (a19, .inl (nz_cI g, 6, .inl f19)), (a20, .inl (nz_cI g, 49, .inl m26)), (a21, .inl (nz_cI g, 6, .inl f21)), (a22, .inl (nz_cZ g, 2, .inl f22)), (a23, .inl (nz_cI g, 188, .inl f23)), (a24, .inl (nz_cI g, 16, .inl f24))]) (fun _ => rfl) (fun m26 h => ?_)
      refine nz_iinc (v := (x2 + 1)) (j := 4) (lv' := [(2, .int (x2 + 1)), (5, .int (f5 ((46 + (4 * x2)) + 3).toNatClampNeg)), (4, .int (f5 ((46 + (4 * x2)) + 2).toNatClampNeg)), (3, .int (46 + (4 * x2))), (0, .ref o)]) F dX8_layMost_179 rfl rfl (by decide) rfl ?_
      refine nz_goto (tgt := 89) F dX8_layMost_182 (by decide) ?_
      refine nz_ls (lv' := [(0, .ref o), (2, .int (x2 + 1))]) [4, 0] rfl ?_
      exact hR89 (x2 + 1) m26 h
def S_X8_layMost_42 (f5 : Nat → Int32) (x1 : Int32) (K : Int32 → (Nat → Int32) → Prop) (R42 : Int32 → (Nat → Int32) → Prop) (x2 : Int32) (f20 : Nat → Int32) : Prop := ((x1 ≤ x2 → (∃ n, nz_it (fun _ _ => False) (S_X8_layMost_89 f5 K) n 0 f20)) ∧ (¬ (x1 ≤ x2) → wp_X8_atMost f20 6 x2 (f5 0) (fun m27 => wp_X8_atMost m27 x2 6 0 (fun m28 => ((x2 ≤ 0 → R42 (x2 + 1) m28) ∧ (¬ (x2 ≤ 0) → wp_X8_atMost m28 x2 (x2 - 1) (-1 : Int32) (fun m30 => R42 (x2 + 1) m30)))))))
set_option maxHeartbeats 4000000 in
set_option maxRecDepth 100000 in
theorem t_X8_layMost_42 {y : nz_Y} {g : nz_G} (F : nz_F y g cX8_layMost 6 wsX8_layMost RX8 (some .boolean) rm_X8_layMost) {wc0 : va_W} {sz : Nat} {K : Int32 → (Nat → Int32) → Prop} (o : Nat) (a2 : Nat) (a3 : Nat) (a4 : Nat) (a5 : Nat) (a6 : Nat) (a7 : Nat) (a9 : Nat) (a19 : Nat) (a20 : Nat) (a21 : Nat) (a22 : Nat) (a23 : Nat) (a24 : Nat) (r0 : Int32) (r1 : Int32) (r8 : Int32) (r10 : Int32) (r11 : Int32) (r12 : Int32) (r13 : Int32) (r14 : Int32) (r15 : Int32) (r16 : Int32) (r17 : Int32) (r18 : Int32) (r25 : Int32) (f2 : Nat → Int32) (f3 : Nat → Int32) (f4 : Nat → Int32) (f5 : Nat → Int32) (f6 : Nat → Int32) (f7 : Nat → Int32) (f9 : Nat → Int32) (f19 : Nat → Int32) (f21 : Nat → Int32) (f22 : Nat → Int32) (f23 : Nat → Int32) (f24 : Nat → Int32) (x1 : Int32) (hQ : yz_A y = va_A wc0 sz ∧ yz_Q y = MQ (yz_b y) ((nz_Qi g wc0 (fun r (u : (Nat → Int32)) => K r u) (fun u => [(o, .inr (8, [.int r0, .int r1, .ref a2, .ref a3, .ref a4, .ref a5, .ref a6, .ref a7, .int r8, .ref a9, .int r10, .int r11, .int r12, .int r13, .int r14, .int r15, .int r16, .int r17, .int r18, .ref a19, .ref a20, .ref a21, .ref a22, .ref a23, .ref a24, .int r25])), (a2, .inl (nz_cI g, 8, .inl f2)), (a3, .inl (nz_cI g, 8, .inl f3)), (a4, .inl (nz_cI g, 320, .inl f4)), (a5, .inl (nz_cI g, 94, .inl f5)), (a6, .inl (nz_cI g, 94, .inl f6)), (a7, .inl (nz_cI g, 168, .inl f7)), (a9, .inl (nz_cI g, 400, .inl f9)), (a19, .inl (nz_cI g, 6, .inl f19)), (a20, .inl (nz_cI g, 49, .inl u)), (a21, .inl (nz_cI g, 6, .inl f21)), (a22, .inl (nz_cZ g, 2, .inl f22)), (a23, .inl (nz_cI g, 188, .inl f23)), (a24, .inl (nz_cI g, 16, .inl f24))])) sz) (yz_a y) (yz_s y) 0 0 (va_A wc0 sz)) : ∀ (n1 : Nat) (x2 : Int32) (f20 : Nat → Int32), nz_it (fun _ _ => False) (S_X8_layMost_42 f5 x1 K) n1 x2 f20 → nz_V y g 0 0 [(o, .inr (8, [.int r0, .int r1, .ref a2, .ref a3, .ref a4, .ref a5, .ref a6, .ref a7, .int r8, .ref a9, .int r10, .int r11, .int r12, .int r13, .int r14, .int r15, .int r16, .int r17, .int r18, .ref a19, .ref a20, .ref a21, .ref a22, .ref a23, .ref a24, .int r25])), (a2, .inl (nz_cI g, 8, .inl f2)), (a3, .inl (nz_cI g, 8, .inl f3)), (a4, .inl (nz_cI g, 320, .inl f4)), (a5, .inl (nz_cI g, 94, .inl f5)), (a6, .inl (nz_cI g, 94, .inl f6)), (a7, .inl (nz_cI g, 168, .inl f7)), (a9, .inl (nz_cI g, 400, .inl f9)), (a19, .inl (nz_cI g, 6, .inl f19)), (a20, .inl (nz_cI g, 49, .inl f20)), (a21, .inl (nz_cI g, 6, .inl f21)), (a22, .inl (nz_cZ g, 2, .inl f22)), (a23, .inl (nz_cI g, 188, .inl f23)), (a24, .inl (nz_cI g, 16, .inl f24))] 42 [(0, .ref o), (1, .int x1), (2, .int x2)] [] := by
  intro n1
  induction n1 with
  | zero =>
    intro x2 f20 h
    exact h.elim
  | succ n1 hR42 =>
    intro x2 f20 h
    have h : S_X8_layMost_42 f5 x1 K (nz_it (fun _ _ => False) (S_X8_layMost_42 f5 x1 K) n1) x2 f20 := h
    unfold S_X8_layMost_42 at h
    refine nz_iload_n F dX8_layMost_42 rfl 2 rfl ?_
    refine nz_iload_n F dX8_layMost_43 rfl 1 rfl ?_
    refine nz_icmp_ge (tgt := 87) F dX8_layMost_44 (by decide) (fun c2 => ?_) (fun c2 => ?_)
    · have h := h.1 c2
      refine nz_iconst (v := 0) F dX8_layMost_87 (by decide) ?_
      refine nz_istore_n (lv' := [(2, .int 0), (0, .ref o), (1, .int x1)]) F dX8_layMost_88 rfl (by decide) rfl ?_
      refine nz_ls (lv' := [(0, .ref o), (2, .int 0)]) [1, 0] rfl ?_
      obtain ⟨n1, h⟩ := h
      exact t_X8_layMost_89 F o a2 a3 a4 a5 a6 a7 a9 a19 a20 a21 a22 a23 a24 r0 r1 r8 r10 r11 r12 r13 r14 r15 r16 r17 r18 r25 f2 f3 f4 f5 f6 f7 f9 f19 f21 f22 f23 f24 hQ n1 0 f20 h
    · have h := h.2 c2
      refine nz_aload_n F dX8_layMost_47 rfl 0 rfl ?_
      refine nz_bipush (v := 6) F dX8_layMost_48 (by decide) ?_
      refine nz_iload_n F dX8_layMost_50 rfl 2 rfl ?_
      refine nz_aload_n F dX8_layMost_51 rfl 0 rfl ?_
      refine nz_get F iw_X8_layMost_8 0 rfl rfl 5 (by decide) rfl fl_X8_layMost_19 rfl dX8_layMost_52 ?_
      refine nz_iconst (v := 0) F dX8_layMost_55 (by decide) ?_
      refine nz_iald F 4 rfl (nz_inC rfl) dX8_layMost_56 ?_
      refine nz_vi (z := (f5 0)) rfl ?_
      refine k_X8_atMost o a2 a3 a4 a5 a6 a7 a9 a19 a20 a21 a22 a23 a24 r0 r1 r8 r10 r11 r12 r13 r14 r15 r16 r17 r18 r25 f2 f3 f4 f5 f6 f7 f9 f19 f20 f21 f22 f23 f24 6 x2 (f5 0) (fun hM => nz_runV F gX8_layMost_X8_atMost rfl hd_X8_atMost rfl hM dX8_layMost_57 [0, 1, 2, 3, 4, 5, 6, 7, 8, 9, 10, 11, 12, 13] rfl rfl 0 rfl rfl rfl (Nat.le_of_ble_eq_true rfl) rfl) h (fun m27 => [(o, .inr (8, [.int r0, .int r1, .ref a2, .ref a3, .ref a4, .ref a5, .ref a6, .ref a7, .int r8, .ref a9, .int r10, .int r11, .int r12, .int r13, .int r14, .int r15, .int r16, .int r17, .int r18, .ref a19, .ref a20, .ref a21, .ref a22, .ref a23, .ref a24, .int r25])), (a2, .inl (nz_cI g, 8, .inl f2)), (a3, .inl (nz_cI g, 8, .inl f3)), (a4, .inl (nz_cI g, 320, .inl f4)), (a5, .inl (nz_cI g, 94, .inl f5)), (a6, .inl (nz_cI g, 94, .inl f6)), (a7, .inl (nz_cI g, 168, .inl f7)), (a9, .inl (nz_cI g, 400, .inl f9)), (a19, .inl (nz_cI g, 6, .inl f19)), (a20, .inl (nz_cI g, 49, .inl m27)), (a21, .inl (nz_cI g, 6, .inl f21)), (a22, .inl (nz_cZ g, 2, .inl f22)), (a23, .inl (nz_cI g, 188, .inl f23)), (a24, .inl (nz_cI g, 16, .inl f24))]) (fun _ => rfl) (fun m27 h => ?_)
      refine nz_aload_n F dX8_layMost_60 rfl 0 rfl ?_
      refine nz_iload_n F dX8_layMost_61 rfl 2 rfl ?_
      refine nz_bipush (v := 6) F dX8_layMost_62 (by decide) ?_
      refine nz_iconst (v := 0) F dX8_layMost_64 (by decide) ?_
      refine k_X8_atMost o a2 a3 a4 a5 a6 a7 a9 a19 a20 a21 a22 a23 a24 r0 r1 r8 r10 r11 r12 r13 r14 r15 r16 r17 r18 r25 f2 f3 f4 f5 f6 f7 f9 f19 m27 f21 f22 f23 f24 x2 6 0 (fun hM => nz_runV F gX8_layMost_X8_atMost rfl hd_X8_atMost rfl hM dX8_layMost_65 [0, 1, 2, 3, 4, 5, 6, 7, 8, 9, 10, 11, 12, 13] rfl rfl 0 rfl rfl rfl (Nat.le_of_ble_eq_true rfl) rfl) h (fun m28 => [(o, .inr (8, [.int r0, .int r1, .ref a2, .ref a3, .ref a4, .ref a5, .ref a6, .ref a7, .int r8, .ref a9, .int r10, .int r11, .int r12, .int r13, .int r14, .int r15, .int r16, .int r17, .int r18, .ref a19, .ref a20, .ref a21, .ref a22, .ref a23, .ref a24, .int r25])), (a2, .inl (nz_cI g, 8, .inl f2)), (a3, .inl (nz_cI g, 8, .inl f3)), (a4, .inl (nz_cI g, 320, .inl f4)), (a5, .inl (nz_cI g, 94, .inl f5)), (a6, .inl (nz_cI g, 94, .inl f6)), (a7, .inl (nz_cI g, 168, .inl f7)), (a9, .inl (nz_cI g, 400, .inl f9)), (a19, .inl (nz_cI g, 6, .inl f19)), (a20, .inl (nz_cI g, 49, .inl m28)), (a21, .inl (nz_cI g, 6, .inl f21)), (a22, .inl (nz_cZ g, 2, .inl f22)), (a23, .inl (nz_cI g, 188, .inl f23)), (a24, .inl (nz_cI g, 16, .inl f24))]) (fun _ => rfl) (fun m28 h => ?_)
      refine nz_iload_n F dX8_layMost_68 rfl 2 rfl ?_
      refine nz_if_le (tgt := 81) F dX8_layMost_69 (by decide) (fun c29 => ?_) (fun c29 => ?_)
      · have h := h.1 c29
        refine nz_iinc (v := (x2 + 1)) (j := 2) (lv' := [(2, .int (x2 + 1)), (0, .ref o), (1, .int x1)]) F dX8_layMost_81 rfl rfl (by decide) rfl ?_
        refine nz_goto (tgt := 42) F dX8_layMost_84 (by decide) ?_
        refine nz_ls (lv' := [(0, .ref o), (1, .int x1), (2, .int (x2 + 1))]) [1, 2, 0] rfl ?_
        exact hR42 (x2 + 1) m28 h
      · have h := h.2 c29
        refine nz_aload_n F dX8_layMost_72 rfl 0 rfl ?_
        refine nz_iload_n F dX8_layMost_73 rfl 2 rfl ?_
        refine nz_iload_n F dX8_layMost_74 rfl 2 rfl ?_
        refine nz_iconst (v := 1) F dX8_layMost_75 (by decide) ?_
        refine nz_isub F dX8_layMost_76 ?_
        refine nz_iconst (v := (-1 : Int32)) F dX8_layMost_77 (by decide) ?_
        refine k_X8_atMost o a2 a3 a4 a5 a6 a7 a9 a19 a20 a21 a22 a23 a24 r0 r1 r8 r10 r11 r12 r13 r14 r15 r16 r17 r18 r25 f2 f3 f4 f5 f6 f7 f9 f19 m28 f21 f22 f23 f24 x2 (x2 - 1) (-1 : Int32) (fun hM => nz_runV F gX8_layMost_X8_atMost rfl hd_X8_atMost rfl hM dX8_layMost_78 [0, 1, 2, 3, 4, 5, 6, 7, 8, 9, 10, 11, 12, 13] rfl rfl 0 rfl rfl rfl (Nat.le_of_ble_eq_true rfl) rfl) h (fun m30 => [(o, .inr (8, [.int r0, .int r1, .ref a2, .ref a3, .ref a4, .ref a5, .ref a6, .ref a7, .int r8, .ref a9, .int r10, .int r11, .int r12, .int r13, .int r14, .int r15, .int r16, .int r17, .int r18, .ref a19, .ref a20, .ref a21, .ref a22, .ref a23, .ref a24, .int r25])), (a2, .inl (nz_cI g, 8, .inl f2)), (a3, .inl (nz_cI g, 8, .inl f3)), (a4, .inl (nz_cI g, 320, .inl f4)), (a5, .inl (nz_cI g, 94, .inl f5)), (a6, .inl (nz_cI g, 94, .inl f6)), (a7, .inl (nz_cI g, 168, .inl f7)), (a9, .inl (nz_cI g, 400, .inl f9)), (a19, .inl (nz_cI g, 6, .inl f19)), (a20, .inl (nz_cI g, 49, .inl m30)), (a21, .inl (nz_cI g, 6, .inl f21)), (a22, .inl (nz_cZ g, 2, .inl f22)), (a23, .inl (nz_cI g, 188, .inl f23)), (a24, .inl (nz_cI g, 16, .inl f24))]) (fun _ => rfl) (fun m30 h => ?_)
        refine nz_iinc (v := (x2 + 1)) (j := 2) (lv' := [(2, .int (x2 + 1)), (0, .ref o), (1, .int x1)]) F dX8_layMost_81 rfl rfl (by decide) rfl ?_
        refine nz_goto (tgt := 42) F dX8_layMost_84 (by decide) ?_
        refine nz_ls (lv' := [(0, .ref o), (1, .int x1), (2, .int (x2 + 1))]) [1, 2, 0] rfl ?_
        exact hR42 (x2 + 1) m30 h
def S_X8_layMost_2 (f5 : Nat → Int32) (K : Int32 → (Nat → Int32) → Prop) (R2 : Int32 → (Nat → Int32) → Prop) (x1 : Int32) (f20 : Nat → Int32) : Prop := ((49 ≤ x1 → (∃ n, nz_it (fun _ _ => False) (S_X8_layMost_42 f5 (f5 4) K) n 0 f20)) ∧ (¬ (49 ≤ x1) → ((¬ (x1 - x1 / 8 * 8) = 0 → (vp_in x1 49 ∧ R2 (x1 + 1) (upd f20 x1.toNatClampNeg 100000))) ∧ ((x1 - x1 / 8 * 8) = 0 → (vp_in x1 49 ∧ R2 (x1 + 1) (upd f20 x1.toNatClampNeg 0))))))
set_option maxHeartbeats 4000000 in
set_option maxRecDepth 100000 in
theorem t_X8_layMost_2 {y : nz_Y} {g : nz_G} (F : nz_F y g cX8_layMost 6 wsX8_layMost RX8 (some .boolean) rm_X8_layMost) {wc0 : va_W} {sz : Nat} {K : Int32 → (Nat → Int32) → Prop} (o : Nat) (a2 : Nat) (a3 : Nat) (a4 : Nat) (a5 : Nat) (a6 : Nat) (a7 : Nat) (a9 : Nat) (a19 : Nat) (a20 : Nat) (a21 : Nat) (a22 : Nat) (a23 : Nat) (a24 : Nat) (r0 : Int32) (r1 : Int32) (r8 : Int32) (r10 : Int32) (r11 : Int32) (r12 : Int32) (r13 : Int32) (r14 : Int32) (r15 : Int32) (r16 : Int32) (r17 : Int32) (r18 : Int32) (r25 : Int32) (f2 : Nat → Int32) (f3 : Nat → Int32) (f4 : Nat → Int32) (f5 : Nat → Int32) (f6 : Nat → Int32) (f7 : Nat → Int32) (f9 : Nat → Int32) (f19 : Nat → Int32) (f21 : Nat → Int32) (f22 : Nat → Int32) (f23 : Nat → Int32) (f24 : Nat → Int32) (hQ : yz_A y = va_A wc0 sz ∧ yz_Q y = MQ (yz_b y) ((nz_Qi g wc0 (fun r (u : (Nat → Int32)) => K r u) (fun u => [(o, .inr (8, [.int r0, .int r1, .ref a2, .ref a3, .ref a4, .ref a5, .ref a6, .ref a7, .int r8, .ref a9, .int r10, .int r11, .int r12, .int r13, .int r14, .int r15, .int r16, .int r17, .int r18, .ref a19, .ref a20, .ref a21, .ref a22, .ref a23, .ref a24, .int r25])), (a2, .inl (nz_cI g, 8, .inl f2)), (a3, .inl (nz_cI g, 8, .inl f3)), (a4, .inl (nz_cI g, 320, .inl f4)), (a5, .inl (nz_cI g, 94, .inl f5)), (a6, .inl (nz_cI g, 94, .inl f6)), (a7, .inl (nz_cI g, 168, .inl f7)), (a9, .inl (nz_cI g, 400, .inl f9)), (a19, .inl (nz_cI g, 6, .inl f19)), (a20, .inl (nz_cI g, 49, .inl u)), (a21, .inl (nz_cI g, 6, .inl f21)), (a22, .inl (nz_cZ g, 2, .inl f22)), (a23, .inl (nz_cI g, 188, .inl f23)), (a24, .inl (nz_cI g, 16, .inl f24))])) sz) (yz_a y) (yz_s y) 0 0 (va_A wc0 sz)) : ∀ (n1 : Nat) (x1 : Int32) (f20 : Nat → Int32), nz_it (fun _ _ => False) (S_X8_layMost_2 f5 K) n1 x1 f20 → nz_V y g 0 0 [(o, .inr (8, [.int r0, .int r1, .ref a2, .ref a3, .ref a4, .ref a5, .ref a6, .ref a7, .int r8, .ref a9, .int r10, .int r11, .int r12, .int r13, .int r14, .int r15, .int r16, .int r17, .int r18, .ref a19, .ref a20, .ref a21, .ref a22, .ref a23, .ref a24, .int r25])), (a2, .inl (nz_cI g, 8, .inl f2)), (a3, .inl (nz_cI g, 8, .inl f3)), (a4, .inl (nz_cI g, 320, .inl f4)), (a5, .inl (nz_cI g, 94, .inl f5)), (a6, .inl (nz_cI g, 94, .inl f6)), (a7, .inl (nz_cI g, 168, .inl f7)), (a9, .inl (nz_cI g, 400, .inl f9)), (a19, .inl (nz_cI g, 6, .inl f19)), (a20, .inl (nz_cI g, 49, .inl f20)), (a21, .inl (nz_cI g, 6, .inl f21)), (a22, .inl (nz_cZ g, 2, .inl f22)), (a23, .inl (nz_cI g, 188, .inl f23)), (a24, .inl (nz_cI g, 16, .inl f24))] 2 [(0, .ref o), (1, .int x1)] [] := by
  intro n1
  induction n1 with
  | zero =>
    intro x1 f20 h
    exact h.elim
  | succ n1 hR2 =>
    intro x1 f20 h
    have h : S_X8_layMost_2 f5 K (nz_it (fun _ _ => False) (S_X8_layMost_2 f5 K) n1) x1 f20 := h
    unfold S_X8_layMost_2 at h
    refine nz_iload_n F dX8_layMost_2 rfl 1 rfl ?_
    refine nz_bipush (v := 49) F dX8_layMost_3 (by decide) ?_
    refine nz_icmp_ge (tgt := 33) F dX8_layMost_5 (by decide) (fun c1 => ?_) (fun c1 => ?_)
    · have h := h.1 c1
      refine nz_aload_n F dX8_layMost_33 rfl 0 rfl ?_
      refine nz_get F iw_X8_layMost_8 0 rfl rfl 5 (by decide) rfl fl_X8_layMost_19 rfl dX8_layMost_34 ?_
      refine nz_iconst (v := 4) F dX8_layMost_37 (by decide) ?_
      refine nz_iald F 4 rfl (nz_inC rfl) dX8_layMost_38 ?_
      refine nz_vi (z := (f5 4)) rfl ?_
      refine nz_istore_n (lv' := [(1, .int (f5 4)), (0, .ref o)]) F dX8_layMost_39 rfl (by decide) rfl ?_
      refine nz_iconst (v := 0) F dX8_layMost_40 (by decide) ?_
      refine nz_istore_n (lv' := [(2, .int 0), (1, .int (f5 4)), (0, .ref o)]) F dX8_layMost_41 rfl (by decide) rfl ?_
      refine nz_ls (lv' := [(0, .ref o), (1, .int (f5 4)), (2, .int 0)]) [2, 1, 0] rfl ?_
      obtain ⟨n1, h⟩ := h
      exact t_X8_layMost_42 F o a2 a3 a4 a5 a6 a7 a9 a19 a20 a21 a22 a23 a24 r0 r1 r8 r10 r11 r12 r13 r14 r15 r16 r17 r18 r25 f2 f3 f4 f5 f6 f7 f9 f19 f21 f22 f23 f24 (f5 4) hQ n1 0 f20 h
    · have h := h.2 c1
      refine nz_aload_n F dX8_layMost_8 rfl 0 rfl ?_
      refine nz_get F iw_X8_layMost_8 0 rfl rfl 20 (by decide) rfl fl_X8_layMost_34 rfl dX8_layMost_9 ?_
      refine nz_iload_n F dX8_layMost_12 rfl 1 rfl ?_
      refine nz_iload_n F dX8_layMost_13 rfl 1 rfl ?_
      refine nz_bipush (v := 8) F dX8_layMost_14 (by decide) ?_
      refine nz_irem F dX8_layMost_16 (by decide) ?_
      refine nz_if_ne (tgt := 24) F dX8_layMost_17 (by decide) (fun c31 => ?_) (fun c31 => ?_)
      · have h := h.1 c31
        refine nz_ldc (v := 100000) F wd_X8_layMost_c226 dX8_layMost_24 ?_
        obtain ⟨i32, h⟩ := h
        refine nz_iast (ws' := [(o, .inr (8, [.int r0, .int r1, .ref a2, .ref a3, .ref a4, .ref a5, .ref a6, .ref a7, .int r8, .ref a9, .int r10, .int r11, .int r12, .int r13, .int r14, .int r15, .int r16, .int r17, .int r18, .ref a19, .ref a20, .ref a21, .ref a22, .ref a23, .ref a24, .int r25])), (a2, .inl (nz_cI g, 8, .inl f2)), (a3, .inl (nz_cI g, 8, .inl f3)), (a4, .inl (nz_cI g, 320, .inl f4)), (a5, .inl (nz_cI g, 94, .inl f5)), (a6, .inl (nz_cI g, 94, .inl f6)), (a7, .inl (nz_cI g, 168, .inl f7)), (a9, .inl (nz_cI g, 400, .inl f9)), (a19, .inl (nz_cI g, 6, .inl f19)), (a20, .inl (nz_cI g, 49, .inl (upd f20 x1.toNatClampNeg 100000))), (a21, .inl (nz_cI g, 6, .inl f21)), (a22, .inl (nz_cZ g, 2, .inl f22)), (a23, .inl (nz_cI g, 188, .inl f23)), (a24, .inl (nz_cI g, 16, .inl f24))]) F 9 rfl i32 dX8_layMost_26 rfl ?_
        refine nz_iinc (v := (x1 + 1)) (j := 1) (lv' := [(1, .int (x1 + 1)), (0, .ref o)]) F dX8_layMost_27 rfl rfl (by decide) rfl ?_
        refine nz_goto (tgt := 2) F dX8_layMost_30 (by decide) ?_
        refine nz_ls (lv' := [(0, .ref o), (1, .int (x1 + 1))]) [1, 0] rfl ?_
        exact hR2 (x1 + 1) (upd f20 x1.toNatClampNeg 100000) h
      · have h := h.2 c31
        refine nz_iconst (v := 0) F dX8_layMost_20 (by decide) ?_
        refine nz_goto (tgt := 26) F dX8_layMost_21 (by decide) ?_
        obtain ⟨i33, h⟩ := h
        refine nz_iast (ws' := [(o, .inr (8, [.int r0, .int r1, .ref a2, .ref a3, .ref a4, .ref a5, .ref a6, .ref a7, .int r8, .ref a9, .int r10, .int r11, .int r12, .int r13, .int r14, .int r15, .int r16, .int r17, .int r18, .ref a19, .ref a20, .ref a21, .ref a22, .ref a23, .ref a24, .int r25])), (a2, .inl (nz_cI g, 8, .inl f2)), (a3, .inl (nz_cI g, 8, .inl f3)), (a4, .inl (nz_cI g, 320, .inl f4)), (a5, .inl (nz_cI g, 94, .inl f5)), (a6, .inl (nz_cI g, 94, .inl f6)), (a7, .inl (nz_cI g, 168, .inl f7)), (a9, .inl (nz_cI g, 400, .inl f9)), (a19, .inl (nz_cI g, 6, .inl f19)), (a20, .inl (nz_cI g, 49, .inl (upd f20 x1.toNatClampNeg 0))), (a21, .inl (nz_cI g, 6, .inl f21)), (a22, .inl (nz_cZ g, 2, .inl f22)), (a23, .inl (nz_cI g, 188, .inl f23)), (a24, .inl (nz_cI g, 16, .inl f24))]) F 9 rfl i33 dX8_layMost_26 rfl ?_
        refine nz_iinc (v := (x1 + 1)) (j := 1) (lv' := [(1, .int (x1 + 1)), (0, .ref o)]) F dX8_layMost_27 rfl rfl (by decide) rfl ?_
        refine nz_goto (tgt := 2) F dX8_layMost_30 (by decide) ?_
        refine nz_ls (lv' := [(0, .ref o), (1, .int (x1 + 1))]) [1, 0] rfl ?_
        exact hR2 (x1 + 1) (upd f20 x1.toNatClampNeg 0) h
def wp_X8_layMost (f5 : Nat → Int32) (f20 : Nat → Int32) (K : Int32 → (Nat → Int32) → Prop) : Prop := (∃ n, nz_it (fun _ _ => False) (S_X8_layMost_2 f5 K) n 0 f20)
set_option maxHeartbeats 4000000 in
set_option maxRecDepth 100000 in
theorem c_X8_layMost (l : Launch) (g : nz_G) (o : Nat) (a2 : Nat) (a3 : Nat) (a4 : Nat) (a5 : Nat) (a6 : Nat) (a7 : Nat) (a9 : Nat) (a19 : Nat) (a20 : Nat) (a21 : Nat) (a22 : Nat) (a23 : Nat) (a24 : Nat) (r0 : Int32) (r1 : Int32) (r8 : Int32) (r10 : Int32) (r11 : Int32) (r12 : Int32) (r13 : Int32) (r14 : Int32) (r15 : Int32) (r16 : Int32) (r17 : Int32) (r18 : Int32) (r25 : Int32) (f2 : Nat → Int32) (f3 : Nat → Int32) (f4 : Nat → Int32) (f5 : Nat → Int32) (f6 : Nat → Int32) (f7 : Nat → Int32) (f9 : Nat → Int32) (f19 : Nat → Int32) (f20 : Nat → Int32) (f21 : Nat → Int32) (f22 : Nat → Int32) (f23 : Nat → Int32) (f24 : Nat → Int32) (K : Int32 → (Nat → Int32) → Prop) (h : wp_X8_layMost f5 f20 K) : nz_M l yX8_layMost wsX8_layMost rm_X8_layMost g [.ref o] [(o, .inr (8, [.int r0, .int r1, .ref a2, .ref a3, .ref a4, .ref a5, .ref a6, .ref a7, .int r8, .ref a9, .int r10, .int r11, .int r12, .int r13, .int r14, .int r15, .int r16, .int r17, .int r18, .ref a19, .ref a20, .ref a21, .ref a22, .ref a23, .ref a24, .int r25])), (a2, .inl (nz_cI g, 8, .inl f2)), (a3, .inl (nz_cI g, 8, .inl f3)), (a4, .inl (nz_cI g, 320, .inl f4)), (a5, .inl (nz_cI g, 94, .inl f5)), (a6, .inl (nz_cI g, 94, .inl f6)), (a7, .inl (nz_cI g, 168, .inl f7)), (a9, .inl (nz_cI g, 400, .inl f9)), (a19, .inl (nz_cI g, 6, .inl f19)), (a20, .inl (nz_cI g, 49, .inl f20)), (a21, .inl (nz_cI g, 6, .inl f21)), (a22, .inl (nz_cZ g, 2, .inl f22)), (a23, .inl (nz_cI g, 188, .inl f23)), (a24, .inl (nz_cI g, 16, .inl f24))] (nz_Qi g [(o, .inr (8, [.int r0, .int r1, .ref a2, .ref a3, .ref a4, .ref a5, .ref a6, .ref a7, .int r8, .ref a9, .int r10, .int r11, .int r12, .int r13, .int r14, .int r15, .int r16, .int r17, .int r18, .ref a19, .ref a20, .ref a21, .ref a22, .ref a23, .ref a24, .int r25])), (a2, .inl (nz_cI g, 8, .inl f2)), (a3, .inl (nz_cI g, 8, .inl f3)), (a4, .inl (nz_cI g, 320, .inl f4)), (a5, .inl (nz_cI g, 94, .inl f5)), (a6, .inl (nz_cI g, 94, .inl f6)), (a7, .inl (nz_cI g, 168, .inl f7)), (a9, .inl (nz_cI g, 400, .inl f9)), (a19, .inl (nz_cI g, 6, .inl f19)), (a20, .inl (nz_cI g, 49, .inl f20)), (a21, .inl (nz_cI g, 6, .inl f21)), (a22, .inl (nz_cZ g, 2, .inl f22)), (a23, .inl (nz_cI g, 188, .inl f23)), (a24, .inl (nz_cI g, 16, .inl f24))] (fun r (u : (Nat → Int32)) => K r u) (fun u => [(o, .inr (8, [.int r0, .int r1, .ref a2, .ref a3, .ref a4, .ref a5, .ref a6, .ref a7, .int r8, .ref a9, .int r10, .int r11, .int r12, .int r13, .int r14, .int r15, .int r16, .int r17, .int r18, .ref a19, .ref a20, .ref a21, .ref a22, .ref a23, .ref a24, .int r25])), (a2, .inl (nz_cI g, 8, .inl f2)), (a3, .inl (nz_cI g, 8, .inl f3)), (a4, .inl (nz_cI g, 320, .inl f4)), (a5, .inl (nz_cI g, 94, .inl f5)), (a6, .inl (nz_cI g, 94, .inl f6)), (a7, .inl (nz_cI g, 168, .inl f7)), (a9, .inl (nz_cI g, 400, .inl f9)), (a19, .inl (nz_cI g, 6, .inl f19)), (a20, .inl (nz_cI g, 49, .inl u)), (a21, .inl (nz_cI g, 6, .inl f21)), (a22, .inl (nz_cZ g, 2, .inl f22)), (a23, .inl (nz_cI g, 188, .inl f23)), (a24, .inl (nz_cI g, 16, .inl f24))])) := by
  refine nz_M.of (bytes := cX8_layMost) (nL := 6) (ret := (some .boolean)) (own := RX8) (by decide) rfl rfl ⟨rfl, rfl⟩ rfl ?_
  intro y F hl hQ
  obtain ⟨sz, hQ⟩ := hQ
  refine nz_ent (lv' := [(0, .ref o)]) rfl ?_
  unfold wp_X8_layMost at h
  refine nz_iconst (v := 0) F dX8_layMost_0 (by decide) ?_
  refine nz_istore_n (lv' := [(1, .int 0), (0, .ref o)]) F dX8_layMost_1 rfl (by decide) rfl ?_
  refine nz_ls (lv' := [(0, .ref o), (1, .int 0)]) [1, 0] rfl ?_
  obtain ⟨n1, h⟩ := h
  exact t_X8_layMost_2 F o a2 a3 a4 a5 a6 a7 a9 a19 a20 a21 a22 a23 a24 r0 r1 r8 r10 r11 r12 r13 r14 r15 r16 r17 r18 r25 f2 f3 f4 f5 f6 f7 f9 f19 f21 f22 f23 f24 hQ n1 0 f20 h
theorem k_X8_layMost {y : nz_Y} {g : nz_G} {k n : Nat} {ws : va_W} {pc : Nat} {ls : List (Nat × Value)} {st rest : List Value} {av : Array Value} {isC : List Nat} {K : Int32 → (Nat → Int32) → Prop} (o : Nat) (a2 : Nat) (a3 : Nat) (a4 : Nat) (a5 : Nat) (a6 : Nat) (a7 : Nat) (a9 : Nat) (a19 : Nat) (a20 : Nat) (a21 : Nat) (a22 : Nat) (a23 : Nat) (a24 : Nat) (r0 : Int32) (r1 : Int32) (r8 : Int32) (r10 : Int32) (r11 : Int32) (r12 : Int32) (r13 : Int32) (r14 : Int32) (r15 : Int32) (r16 : Int32) (r17 : Int32) (r18 : Int32) (r25 : Int32) (f2 : Nat → Int32) (f3 : Nat → Int32) (f4 : Nat → Int32) (f5 : Nat → Int32) (f6 : Nat → Int32) (f7 : Nat → Int32) (f9 : Nat → Int32) (f19 : Nat → Int32) (f20 : Nat → Int32) (f21 : Nat → Int32) (f22 : Nat → Int32) (f23 : Nat → Int32) (f24 : Nat → Int32) (run : nz_M (yz_l y) yX8_layMost wsX8_layMost rm_X8_layMost g [.ref o] [(o, .inr (8, [.int r0, .int r1, .ref a2, .ref a3, .ref a4, .ref a5, .ref a6, .ref a7, .int r8, .ref a9, .int r10, .int r11, .int r12, .int r13, .int r14, .int r15, .int r16, .int r17, .int r18, .ref a19, .ref a20, .ref a21, .ref a22, .ref a23, .ref a24, .int r25])), (a2, .inl (nz_cI g, 8, .inl f2)), (a3, .inl (nz_cI g, 8, .inl f3)), (a4, .inl (nz_cI g, 320, .inl f4)), (a5, .inl (nz_cI g, 94, .inl f5)), (a6, .inl (nz_cI g, 94, .inl f6)), (a7, .inl (nz_cI g, 168, .inl f7)), (a9, .inl (nz_cI g, 400, .inl f9)), (a19, .inl (nz_cI g, 6, .inl f19)), (a20, .inl (nz_cI g, 49, .inl f20)), (a21, .inl (nz_cI g, 6, .inl f21)), (a22, .inl (nz_cZ g, 2, .inl f22)), (a23, .inl (nz_cI g, 188, .inl f23)), (a24, .inl (nz_cI g, 16, .inl f24))] (nz_Qi g [(o, .inr (8, [.int r0, .int r1, .ref a2, .ref a3, .ref a4, .ref a5, .ref a6, .ref a7, .int r8, .ref a9, .int r10, .int r11, .int r12, .int r13, .int r14, .int r15, .int r16, .int r17, .int r18, .ref a19, .ref a20, .ref a21, .ref a22, .ref a23, .ref a24, .int r25])), (a2, .inl (nz_cI g, 8, .inl f2)), (a3, .inl (nz_cI g, 8, .inl f3)), (a4, .inl (nz_cI g, 320, .inl f4)), (a5, .inl (nz_cI g, 94, .inl f5)), (a6, .inl (nz_cI g, 94, .inl f6)), (a7, .inl (nz_cI g, 168, .inl f7)), (a9, .inl (nz_cI g, 400, .inl f9)), (a19, .inl (nz_cI g, 6, .inl f19)), (a20, .inl (nz_cI g, 49, .inl f20)), (a21, .inl (nz_cI g, 6, .inl f21)), (a22, .inl (nz_cZ g, 2, .inl f22)), (a23, .inl (nz_cI g, 188, .inl f23)), (a24, .inl (nz_cI g, 16, .inl f24))] (fun r (u : (Nat → Int32)) => K r u) (fun u => [(o, .inr (8, [.int r0, .int r1, .ref a2, .ref a3, .ref a4, .ref a5, .ref a6, .ref a7, .int r8, .ref a9, .int r10, .int r11, .int r12, .int r13, .int r14, .int r15, .int r16, .int r17, .int r18, .ref a19, .ref a20, .ref a21, .ref a22, .ref a23, .ref a24, .int r25])), (a2, .inl (nz_cI g, 8, .inl f2)), (a3, .inl (nz_cI g, 8, .inl f3)), (a4, .inl (nz_cI g, 320, .inl f4)), (a5, .inl (nz_cI g, 94, .inl f5)), (a6, .inl (nz_cI g, 94, .inl f6)), (a7, .inl (nz_cI g, 168, .inl f7)), (a9, .inl (nz_cI g, 400, .inl f9)), (a19, .inl (nz_cI g, 6, .inl f19)), (a20, .inl (nz_cI g, 49, .inl u)), (a21, .inl (nz_cI g, 6, .inl f21)), (a22, .inl (nz_cZ g, 2, .inl f22)), (a23, .inl (nz_cI g, 188, .inl f23)), (a24, .inl (nz_cI g, 16, .inl f24))])) → nz_C y g k n ws pc ls st rest [(o, .inr (8, [.int r0, .int r1, .ref a2, .ref a3, .ref a4, .ref a5, .ref a6, .ref a7, .int r8, .ref a9, .int r10, .int r11, .int r12, .int r13, .int r14, .int r15, .int r16, .int r17, .int r18, .ref a19, .ref a20, .ref a21, .ref a22, .ref a23, .ref a24, .int r25])), (a2, .inl (nz_cI g, 8, .inl f2)), (a3, .inl (nz_cI g, 8, .inl f3)), (a4, .inl (nz_cI g, 320, .inl f4)), (a5, .inl (nz_cI g, 94, .inl f5)), (a6, .inl (nz_cI g, 94, .inl f6)), (a7, .inl (nz_cI g, 168, .inl f7)), (a9, .inl (nz_cI g, 400, .inl f9)), (a19, .inl (nz_cI g, 6, .inl f19)), (a20, .inl (nz_cI g, 49, .inl f20)), (a21, .inl (nz_cI g, 6, .inl f21)), (a22, .inl (nz_cZ g, 2, .inl f22)), (a23, .inl (nz_cI g, 188, .inl f23)), (a24, .inl (nz_cI g, 16, .inl f24))] (nz_Qi g [(o, .inr (8, [.int r0, .int r1, .ref a2, .ref a3, .ref a4, .ref a5, .ref a6, .ref a7, .int r8, .ref a9, .int r10, .int r11, .int r12, .int r13, .int r14, .int r15, .int r16, .int r17, .int r18, .ref a19, .ref a20, .ref a21, .ref a22, .ref a23, .ref a24, .int r25])), (a2, .inl (nz_cI g, 8, .inl f2)), (a3, .inl (nz_cI g, 8, .inl f3)), (a4, .inl (nz_cI g, 320, .inl f4)), (a5, .inl (nz_cI g, 94, .inl f5)), (a6, .inl (nz_cI g, 94, .inl f6)), (a7, .inl (nz_cI g, 168, .inl f7)), (a9, .inl (nz_cI g, 400, .inl f9)), (a19, .inl (nz_cI g, 6, .inl f19)), (a20, .inl (nz_cI g, 49, .inl f20)), (a21, .inl (nz_cI g, 6, .inl f21)), (a22, .inl (nz_cZ g, 2, .inl f22)), (a23, .inl (nz_cI g, 188, .inl f23)), (a24, .inl (nz_cI g, 16, .inl f24))] (fun r (u : (Nat → Int32)) => K r u) (fun u => [(o, .inr (8, [.int r0, .int r1, .ref a2, .ref a3, .ref a4, .ref a5, .ref a6, .ref a7, .int r8, .ref a9, .int r10, .int r11, .int r12, .int r13, .int r14, .int r15, .int r16, .int r17, .int r18, .ref a19, .ref a20, .ref a21, .ref a22, .ref a23, .ref a24, .int r25])), (a2, .inl (nz_cI g, 8, .inl f2)), (a3, .inl (nz_cI g, 8, .inl f3)), (a4, .inl (nz_cI g, 320, .inl f4)), (a5, .inl (nz_cI g, 94, .inl f5)), (a6, .inl (nz_cI g, 94, .inl f6)), (a7, .inl (nz_cI g, 168, .inl f7)), (a9, .inl (nz_cI g, 400, .inl f9)), (a19, .inl (nz_cI g, 6, .inl f19)), (a20, .inl (nz_cI g, 49, .inl u)), (a21, .inl (nz_cI g, 6, .inl f21)), (a22, .inl (nz_cZ g, 2, .inl f22)), (a23, .inl (nz_cI g, 188, .inl f23)), (a24, .inl (nz_cI g, 16, .inl f24))])) av isC) (h : wp_X8_layMost f5 f20 K) (ws' : (Nat → Int32) → va_W) (hm : ∀ (m0 : (Nat → Int32)), nz_mrg ws isC [(o, .inr (8, [.int r0, .int r1, .ref a2, .ref a3, .ref a4, .ref a5, .ref a6, .ref a7, .int r8, .ref a9, .int r10, .int r11, .int r12, .int r13, .int r14, .int r15, .int r16, .int r17, .int r18, .ref a19, .ref a20, .ref a21, .ref a22, .ref a23, .ref a24, .int r25])), (a2, .inl (nz_cI g, 8, .inl f2)), (a3, .inl (nz_cI g, 8, .inl f3)), (a4, .inl (nz_cI g, 320, .inl f4)), (a5, .inl (nz_cI g, 94, .inl f5)), (a6, .inl (nz_cI g, 94, .inl f6)), (a7, .inl (nz_cI g, 168, .inl f7)), (a9, .inl (nz_cI g, 400, .inl f9)), (a19, .inl (nz_cI g, 6, .inl f19)), (a20, .inl (nz_cI g, 49, .inl m0)), (a21, .inl (nz_cI g, 6, .inl f21)), (a22, .inl (nz_cZ g, 2, .inl f22)), (a23, .inl (nz_cI g, 188, .inl f23)), (a24, .inl (nz_cI g, 16, .inl f24))] = ws' m0) (kk : ∀ (r : Int32) (m0 : (Nat → Int32)), K r m0 → nz_V y g k n (ws' m0) (pc + 3) ls (.int r :: rest)) : nz_V y g k n ws pc ls st :=
  nz_ci (ws' := fun u => ws' u) (run (c_X8_layMost (yz_l y) g o a2 a3 a4 a5 a6 a7 a9 a19 a20 a21 a22 a23 a24 r0 r1 r8 r10 r11 r12 r13 r14 r15 r16 r17 r18 r25 f2 f3 f4 f5 f6 f7 f9 f19 f20 f21 f22 f23 f24 K h)) (fun _ => rfl) (fun u => hm u) (fun r u h => kk r u h)
