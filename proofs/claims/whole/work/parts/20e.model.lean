theorem dX8_rests_0 : decode cX8_rests 0 = .ok (.iconst 0, 1) := by decide +kernel
theorem dX8_rests_1 : decode cX8_rests 1 = .ok (.istore_n 2, 1) := by decide +kernel
theorem dX8_rests_2 : decode cX8_rests 2 = .ok (.iload_n 2, 1) := by decide +kernel
theorem dX8_rests_3 : decode cX8_rests 3 = .ok (.bipush 6, 2) := by decide +kernel
theorem dX8_rests_5 : decode cX8_rests 5 = .ok (.if_icmp .ge 21, 3) := by decide +kernel
theorem dX8_rests_8 : decode cX8_rests 8 = .ok (.aload_n 0, 1) := by decide +kernel
theorem dX8_rests_9 : decode cX8_rests 9 = .ok (.getfield 37, 3) := by decide +kernel
theorem dX8_rests_12 : decode cX8_rests 12 = .ok (.iload_n 2, 1) := by decide +kernel
theorem dX8_rests_13 : decode cX8_rests 13 = .ok (.aload_n 0, 1) := by decide +kernel
theorem dX8_rests_14 : decode cX8_rests 14 = .ok (.getfield 31, 3) := by decide +kernel
theorem dX8_rests_17 : decode cX8_rests 17 = .ok (.iload_n 2, 1) := by decide +kernel
theorem dX8_rests_18 : decode cX8_rests 18 = .ok (.iaload, 1) := by decide +kernel
theorem dX8_rests_19 : decode cX8_rests 19 = .ok (.iastore, 1) := by decide +kernel
theorem dX8_rests_20 : decode cX8_rests 20 = .ok (.iinc 2 1, 3) := by decide +kernel
theorem dX8_rests_23 : decode cX8_rests 23 = .ok (.goto (-21), 3) := by decide +kernel
theorem dX8_rests_26 : decode cX8_rests 26 = .ok (.aload_n 0, 1) := by decide +kernel
theorem dX8_rests_27 : decode cX8_rests 27 = .ok (.iload_n 1, 1) := by decide +kernel
theorem dX8_rests_28 : decode cX8_rests 28 = .ok (.bipush 31, 2) := by decide +kernel
theorem dX8_rests_30 : decode cX8_rests 30 = .ok (.invokevirtual 203, 3) := by decide +kernel
theorem dX8_rests_33 : decode cX8_rests 33 = .ok (.iconst 1, 1) := by decide +kernel
theorem dX8_rests_34 : decode cX8_rests 34 = .ok (.istore_n 2, 1) := by decide +kernel
theorem dX8_rests_35 : decode cX8_rests 35 = .ok (.iconst 0, 1) := by decide +kernel
theorem dX8_rests_36 : decode cX8_rests 36 = .ok (.istore_n 3, 1) := by decide +kernel
theorem dX8_rests_37 : decode cX8_rests 37 = .ok (.iload_n 3, 1) := by decide +kernel
theorem dX8_rests_38 : decode cX8_rests 38 = .ok (.aload_n 0, 1) := by decide +kernel
theorem dX8_rests_39 : decode cX8_rests 39 = .ok (.getfield 19, 3) := by decide +kernel
theorem dX8_rests_42 : decode cX8_rests 42 = .ok (.iconst 4, 1) := by decide +kernel
theorem dX8_rests_43 : decode cX8_rests 43 = .ok (.iaload, 1) := by decide +kernel
theorem dX8_rests_44 : decode cX8_rests 44 = .ok (.if_icmp .ge 34, 3) := by decide +kernel
theorem dX8_rests_47 : decode cX8_rests 47 = .ok (.iload_n 2, 1) := by decide +kernel
theorem dX8_rests_48 : decode cX8_rests 48 = .ok (.ifCond .eq 22, 3) := by decide +kernel
theorem dX8_rests_51 : decode cX8_rests 51 = .ok (.aload_n 0, 1) := by decide +kernel
theorem dX8_rests_52 : decode cX8_rests 52 = .ok (.getfield 31, 3) := by decide +kernel
theorem dX8_rests_55 : decode cX8_rests 55 = .ok (.iload_n 3, 1) := by decide +kernel
theorem dX8_rests_56 : decode cX8_rests 56 = .ok (.iaload, 1) := by decide +kernel
theorem dX8_rests_57 : decode cX8_rests 57 = .ok (.aload_n 0, 1) := by decide +kernel
theorem dX8_rests_58 : decode cX8_rests 58 = .ok (.getfield 37, 3) := by decide +kernel
theorem dX8_rests_61 : decode cX8_rests 61 = .ok (.iload_n 3, 1) := by decide +kernel
theorem dX8_rests_62 : decode cX8_rests 62 = .ok (.iaload, 1) := by decide +kernel
theorem dX8_rests_63 : decode cX8_rests 63 = .ok (.if_icmp .ne 7, 3) := by decide +kernel
theorem dX8_rests_66 : decode cX8_rests 66 = .ok (.iconst 1, 1) := by decide +kernel
theorem dX8_rests_67 : decode cX8_rests 67 = .ok (.goto 4, 3) := by decide +kernel
theorem dX8_rests_70 : decode cX8_rests 70 = .ok (.iconst 0, 1) := by decide +kernel
theorem dX8_rests_71 : decode cX8_rests 71 = .ok (.istore_n 2, 1) := by decide +kernel
theorem dX8_rests_72 : decode cX8_rests 72 = .ok (.iinc 3 1, 3) := by decide +kernel
theorem dX8_rests_75 : decode cX8_rests 75 = .ok (.goto (-38), 3) := by decide +kernel
theorem dX8_rests_78 : decode cX8_rests 78 = .ok (.iload_n 2, 1) := by decide +kernel
theorem dX8_rests_79 : decode cX8_rests 79 = .ok (.ireturn, 1) := by decide +kernel
set_option maxRecDepth 20000 in
theorem ggX8_rests_X8_goNight : GoodIn wsX8_rests wsX8_goNight := goodIn_r _ [8, 3, 9, 10, 11, 7, 12, 2, 13, 14, 15, 16, 17, 18, 19, 20, 21, 22, 23, 24, 25, 26, 27, 28, 29, 30, 31, 32, 33, 34, 35, 36, 37, 38, 39, 40, 41, 42, 43, 44, 45, 46, 47, 48, 49, 50] rfl (by decide +kernel)
set_option maxRecDepth 20000 in
theorem gX8_rests_X8_goNight : GoodIn wsX8_rests (wsV RX8 203 RX8 yX8_goNight wsX8_goNight) := goodIn_app (goodIn_r _ [4, 5, 6, 7] rfl (by decide +kernel)) ggX8_rests_X8_goNight
theorem hd_X8_goNight : yX8_goNight.cls = RX8 ∧ yX8_goNight.cls ≠ "java/lang/invoke/MethodHandle" ∧ yX8_goNight.cls ≠ "java/lang/invoke/VarHandle" ∧ (parseMethodDescriptor yX8_goNight.desc).map (fun d => d.parameters.length) = some 2 := by decide +kernel
/-! X8_rests -/
abbrev rm_X8_rests : Room := { frames := 3, cells := 0, slots := 0, locals := 74 }
theorem iw_X8_rests_8 : ∀ w ∈ wsX80, w ∈ wsX8_rests := fun _ h => List.mem_cons_of_mem _ (List.mem_append_right _ h)
theorem fl_X8_rests_19 : Cond.fieldLink RX8 19 "NightStonesModel" "road" "[I" ∈ wsX8_rests := List.mem_of_getElem? (i := 3) rfl
theorem fl_X8_rests_31 : Cond.fieldLink RX8 31 "NightStonesModel" "where" "[I" ∈ wsX8_rests := List.mem_of_getElem? (i := 2) rfl
theorem fl_X8_rests_37 : Cond.fieldLink RX8 37 "NightStonesModel" "before" "[I" ∈ wsX8_rests := List.mem_of_getElem? (i := 1) rfl
def S_X8_rests_37 (f5 : Nat → Int32) (f19 : Nat → Int32) (f21 : Nat → Int32) (K : Int32 → (Nat → Int32) → (Nat → Int32) → Prop) (R37 : Int32 → Int32 → Prop) (x2 : Int32) (x3 : Int32) : Prop := (((f5 4) ≤ x3 → (fits .boolean (.int x2) = true ∧ K x2 f19 f21)) ∧ (¬ ((f5 4) ≤ x3) → ((x2 = 0 → R37 0 (x3 + 1)) ∧ (¬ (x2 = 0) → (vp_in x3 6 ∧ (vp_in x3 6 ∧ ((¬ (f19 x3.toNatClampNeg) = (f21 x3.toNatClampNeg) → R37 0 (x3 + 1)) ∧ ((f19 x3.toNatClampNeg) = (f21 x3.toNatClampNeg) → R37 1 (x3 + 1)))))))))
set_option maxHeartbeats 4000000 in
set_option maxRecDepth 100000 in
theorem t_X8_rests_37 {y : nz_Y} {g : nz_G} (F : nz_F y g cX8_rests 4 wsX8_rests RX8 (some .boolean) rm_X8_rests) {wc0 : va_W} {sz : Nat} {K : Int32 → (Nat → Int32) → (Nat → Int32) → Prop} (o : Nat) (a2 : Nat) (a3 : Nat) (a4 : Nat) (a5 : Nat) (a6 : Nat) (a7 : Nat) (a9 : Nat) (a19 : Nat) (a20 : Nat) (a21 : Nat) (a22 : Nat) (a23 : Nat) (a24 : Nat) (r0 : Int32) (r1 : Int32) (r8 : Int32) (r10 : Int32) (r11 : Int32) (r12 : Int32) (r13 : Int32) (r14 : Int32) (r15 : Int32) (r16 : Int32) (r17 : Int32) (r18 : Int32) (r25 : Int32) (f2 : Nat → Int32) (f3 : Nat → Int32) (f4 : Nat → Int32) (f5 : Nat → Int32) (f6 : Nat → Int32) (f7 : Nat → Int32) (f9 : Nat → Int32) (f20 : Nat → Int32) (f22 : Nat → Int32) (f23 : Nat → Int32) (f24 : Nat → Int32) (v1 : Int32) (f19 : Nat → Int32) (f21 : Nat → Int32) (hQ : yz_A y = va_A wc0 sz ∧ yz_Q y = MQ (yz_b y) ((nz_Qi g wc0 (fun r (u : (Nat → Int32) × (Nat → Int32)) => K r u.1 u.2) (fun u => [(o, .inr (8, [.int r0, .int r1, .ref a2, .ref a3, .ref a4, .ref a5, .ref a6, .ref a7, .int r8, .ref a9, .int r10, .int r11, .int r12, .int r13, .int r14, .int r15, .int r16, .int r17, .int r18, .ref a19, .ref a20, .ref a21, .ref a22, .ref a23, .ref a24, .int r25])), (a2, .inl (nz_cI g, 8, .inl f2)), (a3, .inl (nz_cI g, 8, .inl f3)), (a4, .inl (nz_cI g, 320, .inl f4)), (a5, .inl (nz_cI g, 94, .inl f5)), (a6, .inl (nz_cI g, 94, .inl f6)), (a7, .inl (nz_cI g, 168, .inl f7)), (a9, .inl (nz_cI g, 400, .inl f9)), (a19, .inl (nz_cI g, 6, .inl u.1)), (a20, .inl (nz_cI g, 49, .inl f20)), (a21, .inl (nz_cI g, 6, .inl u.2)), (a22, .inl (nz_cZ g, 2, .inl f22)), (a23, .inl (nz_cI g, 188, .inl f23)), (a24, .inl (nz_cI g, 16, .inl f24))])) sz) (yz_a y) (yz_s y) 0 0 (va_A wc0 sz)) : ∀ (n1 : Nat) (x2 : Int32) (x3 : Int32), nz_it (fun _ _ => False) (S_X8_rests_37 f5 f19 f21 K) n1 x2 x3 → nz_V y g 0 0 [(o, .inr (8, [.int r0, .int r1, .ref a2, .ref a3, .ref a4, .ref a5, .ref a6, .ref a7, .int r8, .ref a9, .int r10, .int r11, .int r12, .int r13, .int r14, .int r15, .int r16, .int r17, .int r18, .ref a19, .ref a20, .ref a21, .ref a22, .ref a23, .ref a24, .int r25])), (a2, .inl (nz_cI g, 8, .inl f2)), (a3, .inl (nz_cI g, 8, .inl f3)), (a4, .inl (nz_cI g, 320, .inl f4)), (a5, .inl (nz_cI g, 94, .inl f5)), (a6, .inl (nz_cI g, 94, .inl f6)), (a7, .inl (nz_cI g, 168, .inl f7)), (a9, .inl (nz_cI g, 400, .inl f9)), (a19, .inl (nz_cI g, 6, .inl f19)), (a20, .inl (nz_cI g, 49, .inl f20)), (a21, .inl (nz_cI g, 6, .inl f21)), (a22, .inl (nz_cZ g, 2, .inl f22)), (a23, .inl (nz_cI g, 188, .inl f23)), (a24, .inl (nz_cI g, 16, .inl f24))] 37 [(0, .ref o), (2, .int x2), (3, .int x3)] [] := by
  intro n1
  induction n1 with
  | zero =>
    intro x2 x3 h
    exact h.elim
  | succ n1 hR37 =>
    intro x2 x3 h
    have h : S_X8_rests_37 f5 f19 f21 K (nz_it (fun _ _ => False) (S_X8_rests_37 f5 f19 f21 K) n1) x2 x3 := h
    unfold S_X8_rests_37 at h
    refine nz_iload_n F dX8_rests_37 rfl 2 rfl ?_
    refine nz_aload_n F dX8_rests_38 rfl 0 rfl ?_
    refine nz_get F iw_X8_rests_8 0 rfl rfl 5 (by decide) rfl fl_X8_rests_19 rfl dX8_rests_39 ?_
    refine nz_iconst (v := 4) F dX8_rests_42 (by decide) ?_
    refine nz_iald F 4 rfl (nz_inC rfl) dX8_rests_43 ?_
    refine nz_vi (z := (f5 4)) rfl ?_
    refine nz_icmp_ge (tgt := 78) F dX8_rests_44 (by decide) (fun c3 => ?_) (fun c3 => ?_)
    · have h := h.1 c3
      refine nz_iload_n F dX8_rests_78 rfl 1 rfl ?_
      obtain ⟨b4, h⟩ := h
      exact nz_zret F hQ (f19, f21) h rfl (nz_nar b4) dX8_rests_79
    · have h := h.2 c3
      refine nz_iload_n F dX8_rests_47 rfl 1 rfl ?_
      refine nz_if_eq (tgt := 70) F dX8_rests_48 (by decide) (fun c5 => ?_) (fun c5 => ?_)
      · have h := h.1 c5
        refine nz_iconst (v := 0) F dX8_rests_70 (by decide) ?_
        refine nz_istore_n (lv' := [(2, .int 0), (0, .ref o), (3, .int x3)]) F dX8_rests_71 rfl (by decide) rfl ?_
        refine nz_iinc (v := (x3 + 1)) (j := 2) (lv' := [(3, .int (x3 + 1)), (2, .int 0), (0, .ref o)]) F dX8_rests_72 rfl rfl (by decide) rfl ?_
        refine nz_goto (tgt := 37) F dX8_rests_75 (by decide) ?_
        refine nz_ls (lv' := [(0, .ref o), (2, .int 0), (3, .int (x3 + 1))]) [2, 1, 0] rfl ?_
        exact hR37 0 (x3 + 1) h
      · have h := h.2 c5
        refine nz_aload_n F dX8_rests_51 rfl 0 rfl ?_
        refine nz_get F iw_X8_rests_8 0 rfl rfl 19 (by decide) rfl fl_X8_rests_31 rfl dX8_rests_52 ?_
        refine nz_iload_n F dX8_rests_55 rfl 2 rfl ?_
        obtain ⟨i6, h⟩ := h
        refine nz_iald F 8 rfl i6 dX8_rests_56 ?_
        refine nz_aload_n F dX8_rests_57 rfl 0 rfl ?_
        refine nz_get F iw_X8_rests_8 0 rfl rfl 21 (by decide) rfl fl_X8_rests_37 rfl dX8_rests_58 ?_
        refine nz_iload_n F dX8_rests_61 rfl 2 rfl ?_
        obtain ⟨i7, h⟩ := h
        refine nz_iald F 10 rfl i7 dX8_rests_62 ?_
        refine nz_icmp_ne (tgt := 70) F dX8_rests_63 (by decide) (fun c8 => ?_) (fun c8 => ?_)
        · have h := h.1 c8
          refine nz_iconst (v := 0) F dX8_rests_70 (by decide) ?_
          refine nz_istore_n (lv' := [(2, .int 0), (0, .ref o), (3, .int x3)]) F dX8_rests_71 rfl (by decide) rfl ?_
          refine nz_iinc (v := (x3 + 1)) (j := 2) (lv' := [(3, .int (x3 + 1)), (2, .int 0), (0, .ref o)]) F dX8_rests_72 rfl rfl (by decide) rfl ?_
          refine nz_goto (tgt := 37) F dX8_rests_75 (by decide) ?_
          refine nz_ls (lv' := [(0, .ref o), (2, .int 0), (3, .int (x3 + 1))]) [2, 1, 0] rfl ?_
          exact hR37 0 (x3 + 1) h
        · have h := h.2 c8
          refine nz_iconst (v := 1) F dX8_rests_66 (by decide) ?_
          refine nz_goto (tgt := 71) F dX8_rests_67 (by decide) ?_
          refine nz_istore_n (lv' := [(2, .int 1), (0, .ref o), (3, .int x3)]) F dX8_rests_71 rfl (by decide) rfl ?_
          refine nz_iinc (v := (x3 + 1)) (j := 2) (lv' := [(3, .int (x3 + 1)), (2, .int 1), (0, .ref o)]) F dX8_rests_72 rfl rfl (by decide) rfl ?_
          refine nz_goto (tgt := 37) F dX8_rests_75 (by decide) ?_
          refine nz_ls (lv' := [(0, .ref o), (2, .int 1), (3, .int (x3 + 1))]) [2, 1, 0] rfl ?_
          exact hR37 1 (x3 + 1) h
def S_X8_rests_2 (f5 : Nat → Int32) (v1 : Int32) (f19 : Nat → Int32) (K : Int32 → (Nat → Int32) → (Nat → Int32) → Prop) (R2 : Int32 → (Nat → Int32) → Prop) (x2 : Int32) (f21 : Nat → Int32) : Prop := ((6 ≤ x2 → wp_X8_goNight f5 f19 v1 31 (fun m2 => (∃ n, nz_it (fun _ _ => False) (S_X8_rests_37 f5 m2 f21 K) n 1 0))) ∧ (¬ (6 ≤ x2) → (vp_in x2 6 ∧ (vp_in x2 6 ∧ R2 (x2 + 1) (upd f21 x2.toNatClampNeg (f19 x2.toNatClampNeg))))))
set_option maxHeartbeats 4000000 in
set_option maxRecDepth 100000 in
theorem t_X8_rests_2 {y : nz_Y} {g : nz_G} (F : nz_F y g cX8_rests 4 wsX8_rests RX8 (some .boolean) rm_X8_rests) {wc0 : va_W} {sz : Nat} {K : Int32 → (Nat → Int32) → (Nat → Int32) → Prop} (o : Nat) (a2 : Nat) (a3 : Nat) (a4 : Nat) (a5 : Nat) (a6 : Nat) (a7 : Nat) (a9 : Nat) (a19 : Nat) (a20 : Nat) (a21 : Nat) (a22 : Nat) (a23 : Nat) (a24 : Nat) (r0 : Int32) (r1 : Int32) (r8 : Int32) (r10 : Int32) (r11 : Int32) (r12 : Int32) (r13 : Int32) (r14 : Int32) (r15 : Int32) (r16 : Int32) (r17 : Int32) (r18 : Int32) (r25 : Int32) (f2 : Nat → Int32) (f3 : Nat → Int32) (f4 : Nat → Int32) (f5 : Nat → Int32) (f6 : Nat → Int32) (f7 : Nat → Int32) (f9 : Nat → Int32) (f20 : Nat → Int32) (f22 : Nat → Int32) (f23 : Nat → Int32) (f24 : Nat → Int32) (v1 : Int32) (f19 : Nat → Int32) (hQ : yz_A y = va_A wc0 sz ∧ yz_Q y = MQ (yz_b y) ((nz_Qi g wc0 (fun r (u : (Nat → Int32) × (Nat → Int32)) => K r u.1 u.2) (fun u => [(o, .inr (8, [.int r0, .int r1, .ref a2, .ref a3, .ref a4, .ref a5, .ref a6, .ref a7, .int r8, .ref a9, .int r10, .int r11, .int r12, .int r13, .int r14, .int r15, .int r16, .int r17, .int r18, .ref a19, .ref a20, .ref a21, .ref a22, .ref a23, .ref a24, .int r25])), (a2, .inl (nz_cI g, 8, .inl f2)), (a3, .inl (nz_cI g, 8, .inl f3)), (a4, .inl (nz_cI g, 320, .inl f4)), (a5, .inl (nz_cI g, 94, .inl f5)), (a6, .inl (nz_cI g, 94, .inl f6)), (a7, .inl (nz_cI g, 168, .inl f7)), (a9, .inl (nz_cI g, 400, .inl f9)), (a19, .inl (nz_cI g, 6, .inl u.1)), (a20, .inl (nz_cI g, 49, .inl f20)), (a21, .inl (nz_cI g, 6, .inl u.2)), (a22, .inl (nz_cZ g, 2, .inl f22)), (a23, .inl (nz_cI g, 188, .inl f23)), (a24, .inl (nz_cI g, 16, .inl f24))])) sz) (yz_a y) (yz_s y) 0 0 (va_A wc0 sz)) : ∀ (n1 : Nat) (x2 : Int32) (f21 : Nat → Int32), nz_it (fun _ _ => False) (S_X8_rests_2 f5 v1 f19 K) n1 x2 f21 → nz_V y g 0 0 [(o, .inr (8, [.int r0, .int r1, .ref a2, .ref a3, .ref a4, .ref a5, .ref a6, .ref a7, .int r8, .ref a9, .int r10, .int r11, .int r12, .int r13, .int r14, .int r15, .int r16, .int r17, .int r18, .ref a19, .ref a20, .ref a21, .ref a22, .ref a23, .ref a24, .int r25])), (a2, .inl (nz_cI g, 8, .inl f2)), (a3, .inl (nz_cI g, 8, .inl f3)), (a4, .inl (nz_cI g, 320, .inl f4)), (a5, .inl (nz_cI g, 94, .inl f5)), (a6, .inl (nz_cI g, 94, .inl f6)), (a7, .inl (nz_cI g, 168, .inl f7)), (a9, .inl (nz_cI g, 400, .inl f9)), (a19, .inl (nz_cI g, 6, .inl f19)), (a20, .inl (nz_cI g, 49, .inl f20)), (a21, .inl (nz_cI g, 6, .inl f21)), (a22, .inl (nz_cZ g, 2, .inl f22)), (a23, .inl (nz_cI g, 188, .inl f23)), (a24, .inl (nz_cI g, 16, .inl f24))] 2 [(0, .ref o), (1, .int v1), (2, .int x2)] [] := by
  intro n1
  induction n1 with
  | zero =>
    intro x2 f21 h
    exact h.elim
  | succ n1 hR2 =>
    intro x2 f21 h
    have h : S_X8_rests_2 f5 v1 f19 K (nz_it (fun _ _ => False) (S_X8_rests_2 f5 v1 f19 K) n1) x2 f21 := h
    unfold S_X8_rests_2 at h
    refine nz_iload_n F dX8_rests_2 rfl 2 rfl ?_
    refine nz_bipush (v := 6) F dX8_rests_3 (by decide) ?_
    refine nz_icmp_ge (tgt := 26) F dX8_rests_5 (by decide) (fun c1 => ?_) (fun c1 => ?_)
    · have h := h.1 c1
      refine nz_aload_n F dX8_rests_26 rfl 0 rfl ?_
      refine nz_iload_n F dX8_rests_27 rfl 1 rfl ?_
      refine nz_bipush (v := 31) F dX8_rests_28 (by decide) ?_
      refine k_X8_goNight o a2 a3 a4 a5 a6 a7 a9 a19 a20 a21 a22 a23 a24 r0 r1 r8 r10 r11 r12 r13 r14 r15 r16 r17 r18 r25 f2 f3 f4 f5 f6 f7 f9 f19 f20 f21 f22 f23 f24 v1 31 (fun hM => nz_runV F gX8_rests_X8_goNight rfl hd_X8_goNight rfl hM dX8_rests_30 [0, 1, 2, 3, 4, 5, 6, 7, 8, 9, 10, 11, 12, 13] rfl rfl 0 rfl rfl rfl (Nat.le_of_ble_eq_true rfl) rfl) h (fun m2 => [(o, .inr (8, [.int r0, .int r1, .ref a2, .ref a3, .ref a4, .ref a5, .ref a6, .ref a7, .int r8, .ref a9, .int r10, .int r11, .int r12, .int r13, .int r14, .int r15, .int r16, .int r17, .int r18, .ref a19, .ref a20, .ref a21, .ref a22, .ref a23, .ref a24, .int r25])), (a2, .inl (nz_cI g, 8, .inl f2)), (a3, .inl (nz_cI g, 8, .inl f3)), (a4, .inl (nz_cI g, 320, .inl f4)), (a5, .inl (nz_cI g, 94, .inl f5)), (a6, .inl (nz_cI g, 94, .inl f6)), (a7, .inl (nz_cI g, 168, .inl f7)), (a9, .inl (nz_cI g, 400, .inl f9)), (a19, .inl (nz_cI g, 6, .inl m2)), (a20, .inl (nz_cI g, 49, .inl f20)), (a21, .inl (nz_cI g, 6, .inl f21)), (a22, .inl (nz_cZ g, 2, .inl f22)), (a23, .inl (nz_cI g, 188, .inl f23)), (a24, .inl (nz_cI g, 16, .inl f24))]) (fun _ => rfl) (fun m2 h => ?_)
      refine nz_iconst (v := 1) F dX8_rests_33 (by decide) ?_
      refine nz_istore_n (lv' := [(2, .int 1), (0, .ref o), (1, .int v1)]) F dX8_rests_34 rfl (by decide) rfl ?_
      refine nz_iconst (v := 0) F dX8_rests_35 (by decide) ?_
      refine nz_istore_n (lv' := [(3, .int 0), (2, .int 1), (0, .ref o), (1, .int v1)]) F dX8_rests_36 rfl (by decide) rfl ?_
      refine nz_ls (lv' := [(0, .ref o), (2, .int 1), (3, .int 0)]) [2, 1, 0] rfl ?_
      obtain ⟨n1, h⟩ := h
      exact t_X8_rests_37 F o a2 a3 a4 a5 a6 a7 a9 a19 a20 a21 a22 a23 a24 r0 r1 r8 r10 r11 r12 r13 r14 r15 r16 r17 r18 r25 f2 f3 f4 f5 f6 f7 f9 f20 f22 f23 f24 v1 m2 f21 hQ n1 1 0 h
    · have h := h.2 c1
      refine nz_aload_n F dX8_rests_8 rfl 0 rfl ?_
      refine nz_get F iw_X8_rests_8 0 rfl rfl 21 (by decide) rfl fl_X8_rests_37 rfl dX8_rests_9 ?_
      refine nz_iload_n F dX8_rests_12 rfl 2 rfl ?_
      refine nz_aload_n F dX8_rests_13 rfl 0 rfl ?_
      refine nz_get F iw_X8_rests_8 0 rfl rfl 19 (by decide) rfl fl_X8_rests_31 rfl dX8_rests_14 ?_
      refine nz_iload_n F dX8_rests_17 rfl 2 rfl ?_
      obtain ⟨i9, h⟩ := h
      refine nz_iald F 8 rfl i9 dX8_rests_18 ?_
      obtain ⟨i10, h⟩ := h
      refine nz_iast (ws' := [(o, .inr (8, [.int r0, .int r1, .ref a2, .ref a3, .ref a4, .ref a5, .ref a6, .ref a7, .int r8, .ref a9, .int r10, .int r11, .int r12, .int r13, .int r14, .int r15, .int r16, .int r17, .int r18, .ref a19, .ref a20, .ref a21, .ref a22, .ref a23, .ref a24, .int r25])), (a2, .inl (nz_cI g, 8, .inl f2)), (a3, .inl (nz_cI g, 8, .inl f3)), (a4, .inl (nz_cI g, 320, .inl f4)), (a5, .inl (nz_cI g, 94, .inl f5)), (a6, .inl (nz_cI g, 94, .inl f6)), (a7, .inl (nz_cI g, 168, .inl f7)), (a9, .inl (nz_cI g, 400, .inl f9)), (a19, .inl (nz_cI g, 6, .inl f19)), (a20, .inl (nz_cI g, 49, .inl f20)), (a21, .inl (nz_cI g, 6, .inl (upd f21 x2.toNatClampNeg (f19 x2.toNatClampNeg)))), (a22, .inl (nz_cZ g, 2, .inl f22)), (a23, .inl (nz_cI g, 188, .inl f23)), (a24, .inl (nz_cI g, 16, .inl f24))]) F 10 rfl i10 dX8_rests_19 rfl ?_
      refine nz_iinc (v := (x2 + 1)) (j := 2) (lv' := [(2, .int (x2 + 1)), (0, .ref o), (1, .int v1)]) F dX8_rests_20 rfl rfl (by decide) rfl ?_
      refine nz_goto (tgt := 2) F dX8_rests_23 (by decide) ?_
      refine nz_ls (lv' := [(0, .ref o), (1, .int v1), (2, .int (x2 + 1))]) [1, 2, 0] rfl ?_
      exact hR2 (x2 + 1) (upd f21 x2.toNatClampNeg (f19 x2.toNatClampNeg)) h
def wp_X8_rests (f5 : Nat → Int32) (f19 : Nat → Int32) (f21 : Nat → Int32) (v1 : Int32) (K : Int32 → (Nat → Int32) → (Nat → Int32) → Prop) : Prop := (∃ n, nz_it (fun _ _ => False) (S_X8_rests_2 f5 v1 f19 K) n 0 f21)
set_option maxHeartbeats 4000000 in
set_option maxRecDepth 100000 in
theorem c_X8_rests (l : Launch) (g : nz_G) (o : Nat) (a2 : Nat) (a3 : Nat) (a4 : Nat) (a5 : Nat) (a6 : Nat) (a7 : Nat) (a9 : Nat) (a19 : Nat) (a20 : Nat) (a21 : Nat) (a22 : Nat) (a23 : Nat) (a24 : Nat) (r0 : Int32) (r1 : Int32) (r8 : Int32) (r10 : Int32) (r11 : Int32) (r12 : Int32) (r13 : Int32) (r14 : Int32) (r15 : Int32) (r16 : Int32) (r17 : Int32) (r18 : Int32) (r25 : Int32) (f2 : Nat → Int32) (f3 : Nat → Int32) (f4 : Nat → Int32) (f5 : Nat → Int32) (f6 : Nat → Int32) (f7 : Nat → Int32) (f9 : Nat → Int32) (f19 : Nat → Int32) (f20 : Nat → Int32) (f21 : Nat → Int32) (f22 : Nat → Int32) (f23 : Nat → Int32) (f24 : Nat → Int32) (v1 : Int32) (K : Int32 → (Nat → Int32) → (Nat → Int32) → Prop) (h : wp_X8_rests f5 f19 f21 v1 K) : nz_M l yX8_rests wsX8_rests rm_X8_rests g [.ref o, .int v1] [(o, .inr (8, [.int r0, .int r1, .ref a2, .ref a3, .ref a4, .ref a5, .ref a6, .ref a7, .int r8, .ref a9, .int r10, .int r11, .int r12, .int r13, .int r14, .int r15, .int r16, .int r17, .int r18, .ref a19, .ref a20, .ref a21, .ref a22, .ref a23, .ref a24, .int r25])), (a2, .inl (nz_cI g, 8, .inl f2)), (a3, .inl (nz_cI g, 8, .inl f3)), (a4, .inl (nz_cI g, 320, .inl f4)), (a5, .inl (nz_cI g, 94, .inl f5)), (a6, .inl (nz_cI g, 94, .inl f6)), (a7, .inl (nz_cI g, 168, .inl f7)), (a9, .inl (nz_cI g, 400, .inl f9)), (a19, .inl (nz_cI g, 6, .inl f19)), (a20, .inl (nz_cI g, 49, .inl f20)), (a21, .inl (nz_cI g, 6, .inl f21)), (a22, .inl (nz_cZ g, 2, .inl f22)), (a23, .inl (nz_cI g, 188, .inl f23)), (a24, .inl (nz_cI g, 16, .inl f24))] (nz_Qi g [(o, .inr (8, [.int r0, .int r1, .ref a2, .ref a3, .ref a4, .ref a5, .ref a6, .ref a7, .int r8, .ref a9, .int r10, .int r11, .int r12, .int r13, .int r14, .int r15, .int r16, .int r17, .int r18, .ref a19, .ref a20, .ref a21, .ref a22, .ref a23, .ref a24, .int r25])), (a2, .inl (nz_cI g, 8, .inl f2)), (a3, .inl (nz_cI g, 8, .inl f3)), (a4, .inl (nz_cI g, 320, .inl f4)), (a5, .inl (nz_cI g, 94, .inl f5)), (a6, .inl (nz_cI g, 94, .inl f6)), (a7, .inl (nz_cI g, 168, .inl f7)), (a9, .inl (nz_cI g, 400, .inl f9)), (a19, .inl (nz_cI g, 6, .inl f19)), (a20, .inl (nz_cI g, 49, .inl f20)), (a21, .inl (nz_cI g, 6, .inl f21)), (a22, .inl (nz_cZ g, 2, .inl f22)), (a23, .inl (nz_cI g, 188, .inl f23)), (a24, .inl (nz_cI g, 16, .inl f24))] (fun r (u : (Nat → Int32) × (Nat → Int32)) => K r u.1 u.2) (fun u => [(o, .inr (8, [.int r0, .int r1, .ref a2, .ref a3, .ref a4, .ref a5, .ref a6, .ref a7, .int r8, .ref a9, .int r10, .int r11, .int r12, .int r13, .int r14, .int r15, .int r16, .int r17, .int r18, .ref a19, .ref a20, .ref a21, .ref a22, .ref a23, .ref a24, .int r25])), (a2, .inl (nz_cI g, 8, .inl f2)), (a3, .inl (nz_cI g, 8, .inl f3)), (a4, .inl (nz_cI g, 320, .inl f4)), (a5, .inl (nz_cI g, 94, .inl f5)), (a6, .inl (nz_cI g, 94, .inl f6)), (a7, .inl (nz_cI g, 168, .inl f7)), (a9, .inl (nz_cI g, 400, .inl f9)), (a19, .inl (nz_cI g, 6, .inl u.1)), (a20, .inl (nz_cI g, 49, .inl f20)), (a21, .inl (nz_cI g, 6, .inl u.2)), (a22, .inl (nz_cZ g, 2, .inl f22)), (a23, .inl (nz_cI g, 188, .inl f23)), (a24, .inl (nz_cI g, 16, .inl f24))])) := by
  refine nz_M.of (bytes := cX8_rests) (nL := 4) (ret := (some .boolean)) (own := RX8) (by decide) rfl rfl ⟨rfl, rfl⟩ rfl ?_
  intro y F hl hQ
  obtain ⟨sz, hQ⟩ := hQ
  refine nz_ent (lv' := [(0, .ref o), (1, .int v1)]) rfl ?_
  unfold wp_X8_rests at h
  refine nz_iconst (v := 0) F dX8_rests_0 (by decide) ?_
  refine nz_istore_n (lv' := [(2, .int 0), (0, .ref o), (1, .int v1)]) F dX8_rests_1 rfl (by decide) rfl ?_
  refine nz_ls (lv' := [(0, .ref o), (1, .int v1), (2, .int 0)]) [1, 2, 0] rfl ?_
  obtain ⟨n1, h⟩ := h
  exact t_X8_rests_2 F o a2 a3 a4 a5 a6 a7 a9 a19 a20 a21 a22 a23 a24 r0 r1 r8 r10 r11 r12 r13 r14 r15 r16 r17 r18 r25 f2 f3 f4 f5 f6 f7 f9 f20 f22 f23 f24 v1 f19 hQ n1 0 f21 h
theorem k_X8_rests {y : nz_Y} {g : nz_G} {k n : Nat} {ws : va_W} {pc : Nat} {ls : List (Nat × Value)} {st rest : List Value} {av : Array Value} {isC : List Nat} {K : Int32 → (Nat → Int32) → (Nat → Int32) → Prop} (o : Nat) (a2 : Nat) (a3 : Nat) (a4 : Nat) (a5 : Nat) (a6 : Nat) (a7 : Nat) (a9 : Nat) (a19 : Nat) (a20 : Nat) (a21 : Nat) (a22 : Nat) (a23 : Nat) (a24 : Nat) (r0 : Int32) (r1 : Int32) (r8 : Int32) (r10 : Int32) (r11 : Int32) (r12 : Int32) (r13 : Int32) (r14 : Int32) (r15 : Int32) (r16 : Int32) (r17 : Int32) (r18 : Int32) (r25 : Int32) (f2 : Nat → Int32) (f3 : Nat → Int32) (f4 : Nat → Int32) (f5 : Nat → Int32) (f6 : Nat → Int32) (f7 : Nat → Int32) (f9 : Nat → Int32) (f19 : Nat → Int32) (f20 : Nat → Int32) (f21 : Nat → Int32) (f22 : Nat → Int32) (f23 : Nat → Int32) (f24 : Nat → Int32) (v1 : Int32) (run : nz_M (yz_l y) yX8_rests wsX8_rests rm_X8_rests g [.ref o, .int v1] [(o, .inr (8, [.int r0, .int r1, .ref a2, .ref a3, .ref a4, .ref a5, .ref a6, .ref a7, .int r8, .ref a9, .int r10, .int r11, .int r12, .int r13, .int r14, .int r15, .int r16, .int r17, .int r18, .ref a19, .ref a20, .ref a21, .ref a22, .ref a23, .ref a24, .int r25])), (a2, .inl (nz_cI g, 8, .inl f2)), (a3, .inl (nz_cI g, 8, .inl f3)), (a4, .inl (nz_cI g, 320, .inl f4)), (a5, .inl (nz_cI g, 94, .inl f5)), (a6, .inl (nz_cI g, 94, .inl f6)), (a7, .inl (nz_cI g, 168, .inl f7)), (a9, .inl (nz_cI g, 400, .inl f9)), (a19, .inl (nz_cI g, 6, .inl f19)), (a20, .inl (nz_cI g, 49, .inl f20)), (a21, .inl (nz_cI g, 6, .inl f21)), (a22, .inl (nz_cZ g, 2, .inl f22)), (a23, .inl (nz_cI g, 188, .inl f23)), (a24, .inl (nz_cI g, 16, .inl f24))] (nz_Qi g [(o, .inr (8, [.int r0, .int r1, .ref a2, .ref a3, .ref a4, .ref a5, .ref a6, .ref a7, .int r8, .ref a9, .int r10, .int r11, .int r12, .int r13, .int r14, .int r15, .int r16, .int r17, .int r18, .ref a19, .ref a20, .ref a21, .ref a22, .ref a23, .ref a24, .int r25])), (a2, .inl (nz_cI g, 8, .inl f2)), (a3, .inl (nz_cI g, 8, .inl f3)), (a4, .inl (nz_cI g, 320, .inl f4)), (a5, .inl (nz_cI g, 94, .inl f5)), (a6, .inl (nz_cI g, 94, .inl f6)), (a7, .inl (nz_cI g, 168, .inl f7)), (a9, .inl (nz_cI g, 400, .inl f9)), (a19, .inl (nz_cI g, 6, .inl f19)), (a20, .inl (nz_cI g, 49, .inl f20)), (a21, .inl (nz_cI g, 6, .inl f21)), (a22, .inl (nz_cZ g, 2, .inl f22)), (a23, .inl (nz_cI g, 188, .inl f23)), (a24, .inl (nz_cI g, 16, .inl f24))] (fun r (u : (Nat → Int32) × (Nat → Int32)) => K r u.1 u.2) (fun u => [(o, .inr (8, [.int r0, .int r1, .ref a2, .ref a3, .ref a4, .ref a5, .ref a6, .ref a7, .int r8, .ref a9, .int r10, .int r11, .int r12, .int r13, .int r14, .int r15, .int r16, .int r17, .int r18, .ref a19, .ref a20, .ref a21, .ref a22, .ref a23, .ref a24, .int r25])), (a2, .inl (nz_cI g, 8, .inl f2)), (a3, .inl (nz_cI g, 8, .inl f3)), (a4, .inl (nz_cI g, 320, .inl f4)), (a5, .inl (nz_cI g, 94, .inl f5)), (a6, .inl (nz_cI g, 94, .inl f6)), (a7, .inl (nz_cI g, 168, .inl f7)), (a9, .inl (nz_cI g, 400, .inl f9)), (a19, .inl (nz_cI g, 6, .inl u.1)), (a20, .inl (nz_cI g, 49, .inl f20)), (a21, .inl (nz_cI g, 6, .inl u.2)), (a22, .inl (nz_cZ g, 2, .inl f22)), (a23, .inl (nz_cI g, 188, .inl f23)), (a24, .inl (nz_cI g, 16, .inl f24))])) → nz_C y g k n ws pc ls st rest [(o, .inr (8, [.int r0, .int r1, .ref a2, .ref a3, .ref a4, .ref a5, .ref a6, .ref a7, .int r8, .ref a9, .int r10, .int r11, .int r12, .int r13, .int r14, .int r15, .int r16, .int r17, .int r18, .ref a19, .ref a20, .ref a21, .ref a22, .ref a23, .ref a24, .int r25])), (a2, .inl (nz_cI g, 8, .inl f2)), (a3, .inl (nz_cI g, 8, .inl f3)), (a4, .inl (nz_cI g, 320, .inl f4)), (a5, .inl (nz_cI g, 94, .inl f5)), (a6, .inl (nz_cI g, 94, .inl f6)), (a7, .inl (nz_cI g, 168, .inl f7)), (a9, .inl (nz_cI g, 400, .inl f9)), (a19, .inl (nz_cI g, 6, .inl f19)), (a20, .inl (nz_cI g, 49, .inl f20)), (a21, .inl (nz_cI g, 6, .inl f21)), (a22, .inl (nz_cZ g, 2, .inl f22)), (a23, .inl (nz_cI g, 188, .inl f23)), (a24, .inl (nz_cI g, 16, .inl f24))] (nz_Qi g [(o, .inr (8, [.int r0, .int r1, .ref a2, .ref a3, .ref a4, .ref a5, .ref a6, .ref a7, .int r8, .ref a9, .int r10, .int r11, .int r12, .int r13, .int r14, .int r15, .int r16, .int r17, .int r18, .ref a19, .ref a20, .ref a21, .ref a22, .ref a23, .ref a24, .int r25])), (a2, .inl (nz_cI g, 8, .inl f2)), (a3, .inl (nz_cI g, 8, .inl f3)), (a4, .inl (nz_cI g, 320, .inl f4)), (a5, .inl (nz_cI g, 94, .inl f5)), (a6, .inl (nz_cI g, 94, .inl f6)), (a7, .inl (nz_cI g, 168, .inl f7)), (a9, .inl (nz_cI g, 400, .inl f9)), (a19, .inl (nz_cI g, 6, .inl f19)), (a20, .inl (nz_cI g, 49, .inl f20)), (a21, .inl (nz_cI g, 6, .inl f21)), (a22, .inl (nz_cZ g, 2, .inl f22)), (a23, .inl (nz_cI g, 188, .inl f23)), (a24, .inl (nz_cI g, 16, .inl f24))] (fun r (u : (Nat → Int32) × (Nat → Int32)) => K r u.1 u.2) (fun u => [(o, .inr (8, [.int r0, .int r1, .ref a2, .ref a3, .ref a4, .ref a5, .ref a6, .ref a7, .int r8, .ref a9, .int r10, .int r11, .int r12, .int r13, .int r14, .int r15, .int r16, .int r17, .int r18, .ref a19, .ref a20, .ref a21, .ref a22, .ref a23, .ref a24, .int r25])), (a2, .inl (nz_cI g, 8, .inl f2)), (a3, .inl (nz_cI g, 8, .inl f3)), (a4, .inl (nz_cI g, 320, .inl f4)), (a5, .inl (nz_cI g, 94, .inl f5)), (a6, .inl (nz_cI g, 94, .inl f6)), (a7, .inl (nz_cI g, 168, .inl f7)), (a9, .inl (nz_cI g, 400, .inl f9)), (a19, .inl (nz_cI g, 6, .inl u.1)), (a20, .inl (nz_cI g, 49, .inl f20)), (a21, .inl (nz_cI g, 6, .inl u.2)), (a22, .inl (nz_cZ g, 2, .inl f22)), (a23, .inl (nz_cI g, 188, .inl f23)), (a24, .inl (nz_cI g, 16, .inl f24))])) av isC) (h : wp_X8_rests f5 f19 f21 v1 K) (ws' : (Nat → Int32) → (Nat → Int32) → va_W) (hm : ∀ (m0 : (Nat → Int32)) (m1 : (Nat → Int32)), nz_mrg ws isC [(o, .inr (8, [.int r0, .int r1, .ref a2, .ref a3, .ref a4, .ref a5, .ref a6, .ref a7, .int r8, .ref a9, .int r10, .int r11, .int r12, .int r13, .int r14, .int r15, .int r16, .int r17, .int r18, .ref a19, .ref a20, .ref a21, .ref a22, .ref a23, .ref a24, .int r25])), (a2, .inl (nz_cI g, 8, .inl f2)), (a3, .inl (nz_cI g, 8, .inl f3)), (a4, .inl (nz_cI g, 320, .inl f4)), (a5, .inl (nz_cI g, 94, .inl f5)), (a6, .inl (nz_cI g, 94, .inl f6)), (a7, .inl (nz_cI g, 168, .inl f7)), (a9, .inl (nz_cI g, 400, .inl f9)), (a19, .inl (nz_cI g, 6, .inl m0)), (a20, .inl (nz_cI g, 49, .inl f20)), (a21, .inl (nz_cI g, 6, .inl m1)), (a22, .inl (nz_cZ g, 2, .inl f22)), (a23, .inl (nz_cI g, 188, .inl f23)), (a24, .inl (nz_cI g, 16, .inl f24))] = ws' m0 m1) (kk : ∀ (r : Int32) (m0 : (Nat → Int32)) (m1 : (Nat → Int32)), K r m0 m1 → nz_V y g k n (ws' m0 m1) (pc + 3) ls (.int r :: rest)) : nz_V y g k n ws pc ls st :=
  nz_ci (ws' := fun u => ws' u.1 u.2) (run (c_X8_rests (yz_l y) g o a2 a3 a4 a5 a6 a7 a9 a19 a20 a21 a22 a23 a24 r0 r1 r8 r10 r11 r12 r13 r14 r15 r16 r17 r18 r25 f2 f3 f4 f5 f6 f7 f9 f19 f20 f21 f22 f23 f24 v1 K h)) (fun _ => rfl) (fun u => hm u.1 u.2) (fun r u h => kk r u.1 u.2 h)
theorem dX8_standsBy_0 : decode cX8_standsBy 0 = .ok (.aload_n 0, 1) := by decide +kernel
theorem dX8_standsBy_1 : decode cX8_standsBy 1 = .ok (.iconst 2, 1) := by decide +kernel
theorem dX8_standsBy_2 : decode cX8_standsBy 2 = .ok (.invokevirtual 200, 3) := by decide +kernel
theorem dX8_standsBy_5 : decode cX8_standsBy 5 = .ok (.iconst 0, 1) := by decide +kernel
theorem dX8_standsBy_6 : decode cX8_standsBy 6 = .ok (.istore_n 3, 1) := by decide +kernel
theorem dX8_standsBy_7 : decode cX8_standsBy 7 = .ok (.iload_n 3, 1) := by decide +kernel
theorem dX8_standsBy_8 : decode cX8_standsBy 8 = .ok (.iload_n 1, 1) := by decide +kernel
theorem dX8_standsBy_9 : decode cX8_standsBy 9 = .ok (.if_icmp .ge 15, 3) := by decide +kernel
theorem dX8_standsBy_12 : decode cX8_standsBy 12 = .ok (.aload_n 0, 1) := by decide +kernel
theorem dX8_standsBy_13 : decode cX8_standsBy 13 = .ok (.iload_n 3, 1) := by decide +kernel
theorem dX8_standsBy_14 : decode cX8_standsBy 14 = .ok (.iload_n 2, 1) := by decide +kernel
theorem dX8_standsBy_15 : decode cX8_standsBy 15 = .ok (.invokevirtual 203, 3) := by decide +kernel
theorem dX8_standsBy_18 : decode cX8_standsBy 18 = .ok (.iinc 3 1, 3) := by decide +kernel
theorem dX8_standsBy_21 : decode cX8_standsBy 21 = .ok (.goto (-14), 3) := by decide +kernel
theorem dX8_standsBy_24 : decode cX8_standsBy 24 = .ok (.iconst 1, 1) := by decide +kernel
theorem dX8_standsBy_25 : decode cX8_standsBy 25 = .ok (.istore_n 3, 1) := by decide +kernel
theorem dX8_standsBy_26 : decode cX8_standsBy 26 = .ok (.iconst 0, 1) := by decide +kernel
theorem dX8_standsBy_27 : decode cX8_standsBy 27 = .ok (.istore 4, 2) := by decide +kernel
theorem dX8_standsBy_29 : decode cX8_standsBy 29 = .ok (.iload 4, 2) := by decide +kernel
theorem dX8_standsBy_31 : decode cX8_standsBy 31 = .ok (.aload_n 0, 1) := by decide +kernel
theorem dX8_standsBy_32 : decode cX8_standsBy 32 = .ok (.getfield 19, 3) := by decide +kernel
theorem dX8_standsBy_35 : decode cX8_standsBy 35 = .ok (.iconst 4, 1) := by decide +kernel
theorem dX8_standsBy_36 : decode cX8_standsBy 36 = .ok (.iaload, 1) := by decide +kernel
theorem dX8_standsBy_37 : decode cX8_standsBy 37 = .ok (.if_icmp .ge 36, 3) := by decide +kernel
theorem dX8_standsBy_40 : decode cX8_standsBy 40 = .ok (.iload_n 3, 1) := by decide +kernel
theorem dX8_standsBy_41 : decode cX8_standsBy 41 = .ok (.ifCond .eq 24, 3) := by decide +kernel
theorem dX8_standsBy_44 : decode cX8_standsBy 44 = .ok (.aload_n 0, 1) := by decide +kernel
theorem dX8_standsBy_45 : decode cX8_standsBy 45 = .ok (.getfield 31, 3) := by decide +kernel
theorem dX8_standsBy_48 : decode cX8_standsBy 48 = .ok (.iload 4, 2) := by decide +kernel
theorem dX8_standsBy_50 : decode cX8_standsBy 50 = .ok (.iaload, 1) := by decide +kernel
theorem dX8_standsBy_51 : decode cX8_standsBy 51 = .ok (.aload_n 0, 1) := by decide +kernel
theorem dX8_standsBy_52 : decode cX8_standsBy 52 = .ok (.iload 4, 2) := by decide +kernel
theorem dX8_standsBy_54 : decode cX8_standsBy 54 = .ok (.iconst 1, 1) := by decide +kernel
theorem dX8_standsBy_55 : decode cX8_standsBy 55 = .ok (.invokevirtual 180, 3) := by decide +kernel
theorem dX8_standsBy_58 : decode cX8_standsBy 58 = .ok (.if_icmp .ne 7, 3) := by decide +kernel
theorem dX8_standsBy_61 : decode cX8_standsBy 61 = .ok (.iconst 1, 1) := by decide +kernel
theorem dX8_standsBy_62 : decode cX8_standsBy 62 = .ok (.goto 4, 3) := by decide +kernel
theorem dX8_standsBy_65 : decode cX8_standsBy 65 = .ok (.iconst 0, 1) := by decide +kernel
theorem dX8_standsBy_66 : decode cX8_standsBy 66 = .ok (.istore_n 3, 1) := by decide +kernel
theorem dX8_standsBy_67 : decode cX8_standsBy 67 = .ok (.iinc 4 1, 3) := by decide +kernel
theorem dX8_standsBy_70 : decode cX8_standsBy 70 = .ok (.goto (-41), 3) := by decide +kernel
theorem dX8_standsBy_73 : decode cX8_standsBy 73 = .ok (.iload_n 3, 1) := by decide +kernel
theorem dX8_standsBy_74 : decode cX8_standsBy 74 = .ok (.ireturn, 1) := by decide +kernel
set_option maxRecDepth 20000 in
theorem ggX8_standsBy_X8_goNight : GoodIn wsX8_standsBy wsX8_goNight := goodIn_r _ [15, 1, 16, 17, 18, 6, 19, 2, 20, 21, 22, 23, 8, 9, 10, 11, 24, 25, 26, 27, 28, 29, 30, 31, 32, 33, 34, 35, 36, 37, 38, 39, 40, 41, 42, 43, 44, 45, 46, 47, 48, 49, 50, 51, 52, 53] rfl (by decide +kernel)
set_option maxRecDepth 20000 in
theorem gX8_standsBy_X8_goNight : GoodIn wsX8_standsBy (wsV RX8 203 RX8 yX8_goNight wsX8_goNight) := goodIn_app (goodIn_r _ [12, 13, 14, 6] rfl (by decide +kernel)) ggX8_standsBy_X8_goNight
set_option maxRecDepth 20000 in
theorem ggX8_standsBy_X8_layNow : GoodIn wsX8_standsBy wsX8_layNow := goodIn_r _ [7, 1, 2, 8, 9, 10, 6, 11, 28, 29, 30, 31, 32, 33, 34, 35, 36, 37, 38, 39, 40, 41, 42, 43, 44, 45, 46, 47, 48, 49, 50, 51, 52, 53] rfl (by decide +kernel)
set_option maxRecDepth 20000 in
theorem gX8_standsBy_X8_layNow : GoodIn wsX8_standsBy (wsV RX8 200 RX8 yX8_layNow wsX8_layNow) := goodIn_app (goodIn_r _ [3, 4, 5, 6] rfl (by decide +kernel)) ggX8_standsBy_X8_layNow
set_option maxRecDepth 20000 in
theorem ggX8_standsBy_X8_stoneOf : GoodIn wsX8_standsBy wsX8_stoneOf := goodIn_r _ [11, 1, 28, 29, 30, 31, 32, 33, 34, 35, 36, 37, 38, 39, 40, 41, 42, 43, 44, 45, 46, 47, 48, 49, 50, 51, 52, 53] rfl (by decide +kernel)
set_option maxRecDepth 20000 in
theorem gX8_standsBy_X8_stoneOf : GoodIn wsX8_standsBy (wsV RX8 180 RX8 yX8_stoneOf wsX8_stoneOf) := goodIn_app (goodIn_r _ [8, 9, 10, 6] rfl (by decide +kernel)) ggX8_standsBy_X8_stoneOf
theorem hd_X8_layNow : yX8_layNow.cls = RX8 ∧ yX8_layNow.cls ≠ "java/lang/invoke/MethodHandle" ∧ yX8_layNow.cls ≠ "java/lang/invoke/VarHandle" ∧ (parseMethodDescriptor yX8_layNow.desc).map (fun d => d.parameters.length) = some 1 := by decide +kernel
/-! X8_standsBy -/
abbrev rm_X8_standsBy : Room := { frames := 3, cells := 0, slots := 0, locals := 74 }
theorem iw_X8_standsBy_8 : ∀ w ∈ wsX80, w ∈ wsX8_standsBy := fun _ h => List.mem_cons_of_mem _ (List.mem_append_right _ h)
theorem fl_X8_standsBy_19 : Cond.fieldLink RX8 19 "NightStonesModel" "road" "[I" ∈ wsX8_standsBy := List.mem_of_getElem? (i := 1) rfl
theorem fl_X8_standsBy_31 : Cond.fieldLink RX8 31 "NightStonesModel" "where" "[I" ∈ wsX8_standsBy := List.mem_of_getElem? (i := 2) rfl
def S_X8_standsBy_29 (f5 : Nat → Int32) (f19 : Nat → Int32) (K : Int32 → (Nat → Int32) → Prop) (R29 : Int32 → Int32 → Prop) (x3 : Int32) (x4 : Int32) : Prop := (((f5 4) ≤ x4 → (fits .boolean (.int x3) = true ∧ K x3 f19)) ∧ (¬ ((f5 4) ≤ x4) → ((x3 = 0 → R29 0 (x4 + 1)) ∧ (¬ (x3 = 0) → (vp_in x4 6 ∧ wp_X8_stoneOf f5 x4 1 (fun q7 => ((¬ (f19 x4.toNatClampNeg) = q7 → R29 0 (x4 + 1)) ∧ ((f19 x4.toNatClampNeg) = q7 → R29 1 (x4 + 1)))))))))
set_option maxHeartbeats 4000000 in
set_option maxRecDepth 100000 in
theorem t_X8_standsBy_29 {y : nz_Y} {g : nz_G} (F : nz_F y g cX8_standsBy 5 wsX8_standsBy RX8 (some .boolean) rm_X8_standsBy) {wc0 : va_W} {sz : Nat} {K : Int32 → (Nat → Int32) → Prop} (o : Nat) (a2 : Nat) (a3 : Nat) (a4 : Nat) (a5 : Nat) (a6 : Nat) (a7 : Nat) (a9 : Nat) (a19 : Nat) (a20 : Nat) (a21 : Nat) (a22 : Nat) (a23 : Nat) (a24 : Nat) (r0 : Int32) (r1 : Int32) (r8 : Int32) (r10 : Int32) (r11 : Int32) (r12 : Int32) (r13 : Int32) (r14 : Int32) (r15 : Int32) (r16 : Int32) (r17 : Int32) (r18 : Int32) (r25 : Int32) (f2 : Nat → Int32) (f3 : Nat → Int32) (f4 : Nat → Int32) (f5 : Nat → Int32) (f6 : Nat → Int32) (f7 : Nat → Int32) (f9 : Nat → Int32) (f20 : Nat → Int32) (f21 : Nat → Int32) (f22 : Nat → Int32) (f23 : Nat → Int32) (f24 : Nat → Int32) (v1 : Int32) (v2 : Int32) (f19 : Nat → Int32) (hQ : yz_A y = va_A wc0 sz ∧ yz_Q y = MQ (yz_b y) ((nz_Qi g wc0 (fun r (u : (Nat → Int32)) => K r u) (fun u => [(o, .inr (8, [.int r0, .int r1, .ref a2, .ref a3, .ref a4, .ref a5, .ref a6, .ref a7, .int r8, .ref a9, .int r10, .int r11, .int r12, .int r13, .int r14, .int r15, .int r16, .int r17, .int r18, .ref a19, .ref a20, .ref a21, .ref a22, .ref a23, .ref a24, .int r25])), (a2, .inl (nz_cI g, 8, .inl f2)), (a3, .inl (nz_cI g, 8, .inl f3)), (a4, .inl (nz_cI g, 320, .inl f4)), (a5, .inl (nz_cI g, 94, .inl f5)), (a6, .inl (nz_cI g, 94, .inl f6)), (a7, .inl (nz_cI g, 168, .inl f7)), (a9, .inl (nz_cI g, 400, .inl f9)), (a19, .inl (nz_cI g, 6, .inl u)), (a20, .inl (nz_cI g, 49, .inl f20)), (a21, .inl (nz_cI g, 6, .inl f21)), (a22, .inl (nz_cZ g, 2, .inl f22)), (a23, .inl (nz_cI g, 188, .inl f23)), (a24, .inl (nz_cI g, 16, .inl f24))])) sz) (yz_a y) (yz_s y) 0 0 (va_A wc0 sz)) : ∀ (n1 : Nat) (x3 : Int32) (x4 : Int32), nz_it (fun _ _ => False) (S_X8_standsBy_29 f5 f19 K) n1 x3 x4 → nz_V y g 0 0 [(o, .inr (8, [.int r0, .int r1, .ref a2, .ref a3, .ref a4, .ref a5, .ref a6, .ref a7, .int r8, .ref a9, .int r10, .int r11, .int r12, .int r13, .int r14, .int r15, .int r16, .int r17, .int r18, .ref a19, .ref a20, .ref a21, .ref a22, .ref a23, .ref a24, .int r25])), (a2, .inl (nz_cI g, 8, .inl f2)), (a3, .inl (nz_cI g, 8, .inl f3)), (a4, .inl (nz_cI g, 320, .inl f4)), (a5, .inl (nz_cI g, 94, .inl f5)), (a6, .inl (nz_cI g, 94, .inl f6)), (a7, .inl (nz_cI g, 168, .inl f7)), (a9, .inl (nz_cI g, 400, .inl f9)), (a19, .inl (nz_cI g, 6, .inl f19)), (a20, .inl (nz_cI g, 49, .inl f20)), (a21, .inl (nz_cI g, 6, .inl f21)), (a22, .inl (nz_cZ g, 2, .inl f22)), (a23, .inl (nz_cI g, 188, .inl f23)), (a24, .inl (nz_cI g, 16, .inl f24))] 29 [(0, .ref o), (3, .int x3), (4, .int x4)] [] := by
  intro n1
  induction n1 with
  | zero =>
    intro x3 x4 h
    exact h.elim
  | succ n1 hR29 =>
    intro x3 x4 h
    have h : S_X8_standsBy_29 f5 f19 K (nz_it (fun _ _ => False) (S_X8_standsBy_29 f5 f19 K) n1) x3 x4 := h
    unfold S_X8_standsBy_29 at h
    refine nz_iload F dX8_standsBy_29 2 rfl ?_
    refine nz_aload_n F dX8_standsBy_31 rfl 0 rfl ?_
    refine nz_get F iw_X8_standsBy_8 0 rfl rfl 5 (by decide) rfl fl_X8_standsBy_19 rfl dX8_standsBy_32 ?_
    refine nz_iconst (v := 4) F dX8_standsBy_35 (by decide) ?_
    refine nz_iald F 4 rfl (nz_inC rfl) dX8_standsBy_36 ?_
    refine nz_vi (z := (f5 4)) rfl ?_
    refine nz_icmp_ge (tgt := 73) F dX8_standsBy_37 (by decide) (fun c3 => ?_) (fun c3 => ?_)
    · have h := h.1 c3
      refine nz_iload_n F dX8_standsBy_73 rfl 1 rfl ?_
      obtain ⟨b4, h⟩ := h
      exact nz_zret F hQ f19 h rfl (nz_nar b4) dX8_standsBy_74
    · have h := h.2 c3
      refine nz_iload_n F dX8_standsBy_40 rfl 1 rfl ?_
      refine nz_if_eq (tgt := 65) F dX8_standsBy_41 (by decide) (fun c5 => ?_) (fun c5 => ?_)
      · have h := h.1 c5
        refine nz_iconst (v := 0) F dX8_standsBy_65 (by decide) ?_
        refine nz_istore_n (lv' := [(3, .int 0), (0, .ref o), (4, .int x4)]) F dX8_standsBy_66 rfl (by decide) rfl ?_
        refine nz_iinc (v := (x4 + 1)) (j := 2) (lv' := [(4, .int (x4 + 1)), (3, .int 0), (0, .ref o)]) F dX8_standsBy_67 rfl rfl (by decide) rfl ?_
        refine nz_goto (tgt := 29) F dX8_standsBy_70 (by decide) ?_
        refine nz_ls (lv' := [(0, .ref o), (3, .int 0), (4, .int (x4 + 1))]) [2, 1, 0] rfl ?_
        exact hR29 0 (x4 + 1) h
      · have h := h.2 c5
        refine nz_aload_n F dX8_standsBy_44 rfl 0 rfl ?_
        refine nz_get F iw_X8_standsBy_8 0 rfl rfl 19 (by decide) rfl fl_X8_standsBy_31 rfl dX8_standsBy_45 ?_
        refine nz_iload F dX8_standsBy_48 2 rfl ?_
        obtain ⟨i6, h⟩ := h
        refine nz_iald F 8 rfl i6 dX8_standsBy_50 ?_
        refine nz_aload_n F dX8_standsBy_51 rfl 0 rfl ?_
        refine nz_iload F dX8_standsBy_52 2 rfl ?_
        refine nz_iconst (v := 1) F dX8_standsBy_54 (by decide) ?_
        refine k_X8_stoneOf o a2 a3 a4 a5 a6 a7 a9 a19 a20 a21 a22 a23 a24 r0 r1 r8 r10 r11 r12 r13 r14 r15 r16 r17 r18 r25 f2 f3 f4 f5 f6 f7 f9 f19 f20 f21 f22 f23 f24 x4 1 (fun hM => nz_runV F gX8_standsBy_X8_stoneOf rfl hd_X8_stoneOf rfl hM dX8_standsBy_55 [0, 1, 2, 3, 4, 5, 6, 7, 8, 9, 10, 11, 12, 13] rfl rfl 0 rfl rfl rfl (Nat.le_of_ble_eq_true rfl) rfl) h ([(o, .inr (8, [.int r0, .int r1, .ref a2, .ref a3, .ref a4, .ref a5, .ref a6, .ref a7, .int r8, .ref a9, .int r10, .int r11, .int r12, .int r13, .int r14, .int r15, .int r16, .int r17, .int r18, .ref a19, .ref a20, .ref a21, .ref a22, .ref a23, .ref a24, .int r25])), (a2, .inl (nz_cI g, 8, .inl f2)), (a3, .inl (nz_cI g, 8, .inl f3)), (a4, .inl (nz_cI g, 320, .inl f4)), (a5, .inl (nz_cI g, 94, .inl f5)), (a6, .inl (nz_cI g, 94, .inl f6)), (a7, .inl (nz_cI g, 168, .inl f7)), (a9, .inl (nz_cI g, 400, .inl f9)), (a19, .inl (nz_cI g, 6, .inl f19)), (a20, .inl (nz_cI g, 49, .inl f20)), (a21, .inl (nz_cI g, 6, .inl f21)), (a22, .inl (nz_cZ g, 2, .inl f22)), (a23, .inl (nz_cI g, 188, .inl f23)), (a24, .inl (nz_cI g, 16, .inl f24))]) (rfl) (fun q7 h => ?_)
        refine nz_icmp_ne (tgt := 65) F dX8_standsBy_58 (by decide) (fun c8 => ?_) (fun c8 => ?_)
        · have h := h.1 c8
          refine nz_iconst (v := 0) F dX8_standsBy_65 (by decide) ?_
          refine nz_istore_n (lv' := [(3, .int 0), (0, .ref o), (4, .int x4)]) F dX8_standsBy_66 rfl (by decide) rfl ?_
          refine nz_iinc (v := (x4 + 1)) (j := 2) (lv' := [(4, .int (x4 + 1)), (3, .int 0), (0, .ref o)]) F dX8_standsBy_67 rfl rfl (by decide) rfl ?_
          refine nz_goto (tgt := 29) F dX8_standsBy_70 (by decide) ?_
          refine nz_ls (lv' := [(0, .ref o), (3, .int 0), (4, .int (x4 + 1))]) [2, 1, 0] rfl ?_
          exact hR29 0 (x4 + 1) h
        · have h := h.2 c8
          refine nz_iconst (v := 1) F dX8_standsBy_61 (by decide) ?_
          refine nz_goto (tgt := 66) F dX8_standsBy_62 (by decide) ?_
          refine nz_istore_n (lv' := [(3, .int 1), (0, .ref o), (4, .int x4)]) F dX8_standsBy_66 rfl (by decide) rfl ?_
          refine nz_iinc (v := (x4 + 1)) (j := 2) (lv' := [(4, .int (x4 + 1)), (3, .int 1), (0, .ref o)]) F dX8_standsBy_67 rfl rfl (by decide) rfl ?_
          refine nz_goto (tgt := 29) F dX8_standsBy_70 (by decide) ?_
          refine nz_ls (lv' := [(0, .ref o), (3, .int 1), (4, .int (x4 + 1))]) [2, 1, 0] rfl ?_
          exact hR29 1 (x4 + 1) h
def S_X8_standsBy_7 (f5 : Nat → Int32) (v1 : Int32) (v2 : Int32) (K : Int32 → (Nat → Int32) → Prop) (R7 : Int32 → (Nat → Int32) → Prop) (x3 : Int32) (f19 : Nat → Int32) : Prop := ((v1 ≤ x3 → (∃ n, nz_it (fun _ _ => False) (S_X8_standsBy_29 f5 f19 K) n 1 0)) ∧ (¬ (v1 ≤ x3) → wp_X8_goNight f5 f19 x3 v2 (fun m9 => R7 (x3 + 1) m9)))
set_option maxHeartbeats 4000000 in
set_option maxRecDepth 100000 in
theorem t_X8_standsBy_7 {y : nz_Y} {g : nz_G} (F : nz_F y g cX8_standsBy 5 wsX8_standsBy RX8 (some .boolean) rm_X8_standsBy) {wc0 : va_W} {sz : Nat} {K : Int32 → (Nat → Int32) → Prop} (o : Nat) (a2 : Nat) (a3 : Nat) (a4 : Nat) (a5 : Nat) (a6 : Nat) (a7 : Nat) (a9 : Nat) (a19 : Nat) (a20 : Nat) (a21 : Nat) (a22 : Nat) (a23 : Nat) (a24 : Nat) (r0 : Int32) (r1 : Int32) (r8 : Int32) (r10 : Int32) (r11 : Int32) (r12 : Int32) (r13 : Int32) (r14 : Int32) (r15 : Int32) (r16 : Int32) (r17 : Int32) (r18 : Int32) (r25 : Int32) (f2 : Nat → Int32) (f3 : Nat → Int32) (f4 : Nat → Int32) (f5 : Nat → Int32) (f6 : Nat → Int32) (f7 : Nat → Int32) (f9 : Nat → Int32) (f20 : Nat → Int32) (f21 : Nat → Int32) (f22 : Nat → Int32) (f23 : Nat → Int32) (f24 : Nat → Int32) (v1 : Int32) (v2 : Int32) (hQ : yz_A y = va_A wc0 sz ∧ yz_Q y = MQ (yz_b y) ((nz_Qi g wc0 (fun r (u : (Nat → Int32)) => K r u) (fun u => [(o, .inr (8, [.int r0, .int r1, .ref a2, .ref a3, .ref a4, .ref a5, .ref a6, .ref a7, .int r8, .ref a9, .int r10, .int r11, .int r12, .int r13, .int r14, .int r15, .int r16, .int r17, .int r18, .ref a19, .ref a20, .ref a21, .ref a22, .ref a23, .ref a24, .int r25])), (a2, .inl (nz_cI g, 8, .inl f2)), (a3, .inl (nz_cI g, 8, .inl f3)), (a4, .inl (nz_cI g, 320, .inl f4)), (a5, .inl (nz_cI g, 94, .inl f5)), (a6, .inl (nz_cI g, 94, .inl f6)), (a7, .inl (nz_cI g, 168, .inl f7)), (a9, .inl (nz_cI g, 400, .inl f9)), (a19, .inl (nz_cI g, 6, .inl u)), (a20, .inl (nz_cI g, 49, .inl f20)), (a21, .inl (nz_cI g, 6, .inl f21)), (a22, .inl (nz_cZ g, 2, .inl f22)), (a23, .inl (nz_cI g, 188, .inl f23)), (a24, .inl (nz_cI g, 16, .inl f24))])) sz) (yz_a y) (yz_s y) 0 0 (va_A wc0 sz)) : ∀ (n1 : Nat) (x3 : Int32) (f19 : Nat → Int32), nz_it (fun _ _ => False) (S_X8_standsBy_7 f5 v1 v2 K) n1 x3 f19 → nz_V y g 0 0 [(o, .inr (8, [.int r0, .int r1, .ref a2, .ref a3, .ref a4, .ref a5, .ref a6, .ref a7, .int r8, .ref a9, .int r10, .int r11, .int r12, .int r13, .int r14, .int r15, .int r16, .int r17, .int r18, .ref a19, .ref a20, .ref a21, .ref a22, .ref a23, .ref a24, .int r25])), (a2, .inl (nz_cI g, 8, .inl f2)), (a3, .inl (nz_cI g, 8, .inl f3)), (a4, .inl (nz_cI g, 320, .inl f4)), (a5, .inl (nz_cI g, 94, .inl f5)), (a6, .inl (nz_cI g, 94, .inl f6)), (a7, .inl (nz_cI g, 168, .inl f7)), (a9, .inl (nz_cI g, 400, .inl f9)), (a19, .inl (nz_cI g, 6, .inl f19)), (a20, .inl (nz_cI g, 49, .inl f20)), (a21, .inl (nz_cI g, 6, .inl f21)), (a22, .inl (nz_cZ g, 2, .inl f22)), (a23, .inl (nz_cI g, 188, .inl f23)), (a24, .inl (nz_cI g, 16, .inl f24))] 7 [(0, .ref o), (1, .int v1), (2, .int v2), (3, .int x3)] [] := by
  intro n1
  induction n1 with
  | zero =>
    intro x3 f19 h
    exact h.elim
  | succ n1 hR7 =>
    intro x3 f19 h
    have h : S_X8_standsBy_7 f5 v1 v2 K (nz_it (fun _ _ => False) (S_X8_standsBy_7 f5 v1 v2 K) n1) x3 f19 := h
    unfold S_X8_standsBy_7 at h
    refine nz_iload_n F dX8_standsBy_7 rfl 3 rfl ?_
    refine nz_iload_n F dX8_standsBy_8 rfl 1 rfl ?_
    refine nz_icmp_ge (tgt := 24) F dX8_standsBy_9 (by decide) (fun c2 => ?_) (fun c2 => ?_)
    · have h := h.1 c2
      refine nz_iconst (v := 1) F dX8_standsBy_24 (by decide) ?_
      refine nz_istore_n (lv' := [(3, .int 1), (0, .ref o), (1, .int v1), (2, .int v2)]) F dX8_standsBy_25 rfl (by decide) rfl ?_
      refine nz_iconst (v := 0) F dX8_standsBy_26 (by decide) ?_
      refine nz_istore (lv' := [(4, .int 0), (3, .int 1), (0, .ref o), (1, .int v1), (2, .int v2)]) F dX8_standsBy_27 (by decide) rfl ?_
      refine nz_ls (lv' := [(0, .ref o), (3, .int 1), (4, .int 0)]) [2, 1, 0] rfl ?_
      obtain ⟨n1, h⟩ := h
      exact t_X8_standsBy_29 F o a2 a3 a4 a5 a6 a7 a9 a19 a20 a21 a22 a23 a24 r0 r1 r8 r10 r11 r12 r13 r14 r15 r16 r17 r18 r25 f2 f3 f4 f5 f6 f7 f9 f20 f21 f22 f23 f24 v1 v2 f19 hQ n1 1 0 h
    · have h := h.2 c2
      refine nz_aload_n F dX8_standsBy_12 rfl 0 rfl ?_
      refine nz_iload_n F dX8_standsBy_13 rfl 3 rfl ?_
      refine nz_iload_n F dX8_standsBy_14 rfl 2 rfl ?_
      refine k_X8_goNight o a2 a3 a4 a5 a6 a7 a9 a19 a20 a21 a22 a23 a24 r0 r1 r8 r10 r11 r12 r13 r14 r15 r16 r17 r18 r25 f2 f3 f4 f5 f6 f7 f9 f19 f20 f21 f22 f23 f24 x3 v2 (fun hM => nz_runV F gX8_standsBy_X8_goNight rfl hd_X8_goNight rfl hM dX8_standsBy_15 [0, 1, 2, 3, 4, 5, 6, 7, 8, 9, 10, 11, 12, 13] rfl rfl 0 rfl rfl rfl (Nat.le_of_ble_eq_true rfl) rfl) h (fun m9 => [(o, .inr (8, [.int r0, .int r1, .ref a2, .ref a3, .ref a4, .ref a5, .ref a6, .ref a7, .int r8, .ref a9, .int r10, .int r11, .int r12, .int r13, .int r14, .int r15, .int r16, .int r17, .int r18, .ref a19, .ref a20, .ref a21, .ref a22, .ref a23, .ref a24, .int r25])), (a2, .inl (nz_cI g, 8, .inl f2)), (a3, .inl (nz_cI g, 8, .inl f3)), (a4, .inl (nz_cI g, 320, .inl f4)), (a5, .inl (nz_cI g, 94, .inl f5)), (a6, .inl (nz_cI g, 94, .inl f6)), (a7, .inl (nz_cI g, 168, .inl f7)), (a9, .inl (nz_cI g, 400, .inl f9)), (a19, .inl (nz_cI g, 6, .inl m9)), (a20, .inl (nz_cI g, 49, .inl f20)), (a21, .inl (nz_cI g, 6, .inl f21)), (a22, .inl (nz_cZ g, 2, .inl f22)), (a23, .inl (nz_cI g, 188, .inl f23)), (a24, .inl (nz_cI g, 16, .inl f24))]) (fun _ => rfl) (fun m9 h => ?_)
      refine nz_iinc (v := (x3 + 1)) (j := 3) (lv' := [(3, .int (x3 + 1)), (0, .ref o), (1, .int v1), (2, .int v2)]) F dX8_standsBy_18 rfl rfl (by decide) rfl ?_
      refine nz_goto (tgt := 7) F dX8_standsBy_21 (by decide) ?_
      refine nz_ls (lv' := [(0, .ref o), (1, .int v1), (2, .int v2), (3, .int (x3 + 1))]) [1, 2, 3, 0] rfl ?_
      exact hR7 (x3 + 1) m9 h
def wp_X8_standsBy (f5 : Nat → Int32) (f19 : Nat → Int32) (v1 : Int32) (v2 : Int32) (K : Int32 → (Nat → Int32) → Prop) : Prop := wp_X8_layNow f5 f19 2 (fun m1 => (∃ n, nz_it (fun _ _ => False) (S_X8_standsBy_7 f5 v1 v2 K) n 0 m1))
set_option maxHeartbeats 4000000 in
set_option maxRecDepth 100000 in
theorem c_X8_standsBy (l : Launch) (g : nz_G) (o : Nat) (a2 : Nat) (a3 : Nat) (a4 : Nat) (a5 : Nat) (a6 : Nat) (a7 : Nat) (a9 : Nat) (a19 : Nat) (a20 : Nat) (a21 : Nat) (a22 : Nat) (a23 : Nat) (a24 : Nat) (r0 : Int32) (r1 : Int32) (r8 : Int32) (r10 : Int32) (r11 : Int32) (r12 : Int32) (r13 : Int32) (r14 : Int32) (r15 : Int32) (r16 : Int32) (r17 : Int32) (r18 : Int32) (r25 : Int32) (f2 : Nat → Int32) (f3 : Nat → Int32) (f4 : Nat → Int32) (f5 : Nat → Int32) (f6 : Nat → Int32) (f7 : Nat → Int32) (f9 : Nat → Int32) (f19 : Nat → Int32) (f20 : Nat → Int32) (f21 : Nat → Int32) (f22 : Nat → Int32) (f23 : Nat → Int32) (f24 : Nat → Int32) (v1 : Int32) (v2 : Int32) (K : Int32 → (Nat → Int32) → Prop) (h : wp_X8_standsBy f5 f19 v1 v2 K) : nz_M l yX8_standsBy wsX8_standsBy rm_X8_standsBy g [.ref o, .int v1, .int v2] [(o, .inr (8, [.int r0, .int r1, .ref a2, .ref a3, .ref a4, .ref a5, .ref a6, .ref a7, .int r8, .ref a9, .int r10, .int r11, .int r12, .int r13, .int r14, .int r15, .int r16, .int r17, .int r18, .ref a19, .ref a20, .ref a21, .ref a22, .ref a23, .ref a24, .int r25])), (a2, .inl (nz_cI g, 8, .inl f2)), (a3, .inl (nz_cI g, 8, .inl f3)), (a4, .inl (nz_cI g, 320, .inl f4)), (a5, .inl (nz_cI g, 94, .inl f5)), (a6, .inl (nz_cI g, 94, .inl f6)), (a7, .inl (nz_cI g, 168, .inl f7)), (a9, .inl (nz_cI g, 400, .inl f9)), (a19, .inl (nz_cI g, 6, .inl f19)), (a20, .inl (nz_cI g, 49, .inl f20)), (a21, .inl (nz_cI g, 6, .inl f21)), (a22, .inl (nz_cZ g, 2, .inl f22)), (a23, .inl (nz_cI g, 188, .inl f23)), (a24, .inl (nz_cI g, 16, .inl f24))] (nz_Qi g [(o, .inr (8, [.int r0, .int r1, .ref a2, .ref a3, .ref a4, .ref a5, .ref a6, .ref a7, .int r8, .ref a9, .int r10, .int r11, .int r12, .int r13, .int r14, .int r15, .int r16, .int r17, .int r18, .ref a19, .ref a20, .ref a21, .ref a22, .ref a23, .ref a24, .int r25])), (a2, .inl (nz_cI g, 8, .inl f2)), (a3, .inl (nz_cI g, 8, .inl f3)), (a4, .inl (nz_cI g, 320, .inl f4)), (a5, .inl (nz_cI g, 94, .inl f5)), (a6, .inl (nz_cI g, 94, .inl f6)), (a7, .inl (nz_cI g, 168, .inl f7)), (a9, .inl (nz_cI g, 400, .inl f9)), (a19, .inl (nz_cI g, 6, .inl f19)), (a20, .inl (nz_cI g, 49, .inl f20)), (a21, .inl (nz_cI g, 6, .inl f21)), (a22, .inl (nz_cZ g, 2, .inl f22)), (a23, .inl (nz_cI g, 188, .inl f23)), (a24, .inl (nz_cI g, 16, .inl f24))] (fun r (u : (Nat → Int32)) => K r u) (fun u => [(o, .inr (8, [.int r0, .int r1, .ref a2, .ref a3, .ref a4, .ref a5, .ref a6, .ref a7, .int r8, .ref a9, .int r10, .int r11, .int r12, .int r13, .int r14, .int r15, .int r16, .int r17, .int r18, .ref a19, .ref a20, .ref a21, .ref a22, .ref a23, .ref a24, .int r25])), (a2, .inl (nz_cI g, 8, .inl f2)), (a3, .inl (nz_cI g, 8, .inl f3)), (a4, .inl (nz_cI g, 320, .inl f4)), (a5, .inl (nz_cI g, 94, .inl f5)), (a6, .inl (nz_cI g, 94, .inl f6)), (a7, .inl (nz_cI g, 168, .inl f7)), (a9, .inl (nz_cI g, 400, .inl f9)), (a19, .inl (nz_cI g, 6, .inl u)), (a20, .inl (nz_cI g, 49, .inl f20)), (a21, .inl (nz_cI g, 6, .inl f21)), (a22, .inl (nz_cZ g, 2, .inl f22)), (a23, .inl (nz_cI g, 188, .inl f23)), (a24, .inl (nz_cI g, 16, .inl f24))])) := by
  refine nz_M.of (bytes := cX8_standsBy) (nL := 5) (ret := (some .boolean)) (own := RX8) (by decide) rfl rfl ⟨rfl, rfl⟩ rfl ?_
  intro y F hl hQ
  obtain ⟨sz, hQ⟩ := hQ
  refine nz_ent (lv' := [(0, .ref o), (1, .int v1), (2, .int v2)]) rfl ?_
  unfold wp_X8_standsBy at h
  refine nz_aload_n F dX8_standsBy_0 rfl 0 rfl ?_
  refine nz_iconst (v := 2) F dX8_standsBy_1 (by decide) ?_
  refine k_X8_layNow o a2 a3 a4 a5 a6 a7 a9 a19 a20 a21 a22 a23 a24 r0 r1 r8 r10 r11 r12 r13 r14 r15 r16 r17 r18 r25 f2 f3 f4 f5 f6 f7 f9 f19 f20 f21 f22 f23 f24 2 (fun hM => nz_runV F gX8_standsBy_X8_layNow rfl hd_X8_layNow rfl hM dX8_standsBy_2 [0, 1, 2, 3, 4, 5, 6, 7, 8, 9, 10, 11, 12, 13] rfl rfl 0 rfl rfl rfl (Nat.le_of_ble_eq_true rfl) rfl) h (fun m1 => [(o, .inr (8, [.int r0, .int r1, .ref a2, .ref a3, .ref a4, .ref a5, .ref a6, .ref a7, .int r8, .ref a9, .int r10, .int r11, .int r12, .int r13, .int r14, .int r15, .int r16, .int r17, .int r18, .ref a19, .ref a20, .ref a21, .ref a22, .ref a23, .ref a24, .int r25])), (a2, .inl (nz_cI g, 8, .inl f2)), (a3, .inl (nz_cI g, 8, .inl f3)), (a4, .inl (nz_cI g, 320, .inl f4)), (a5, .inl (nz_cI g, 94, .inl f5)), (a6, .inl (nz_cI g, 94, .inl f6)), (a7, .inl (nz_cI g, 168, .inl f7)), (a9, .inl (nz_cI g, 400, .inl f9)), (a19, .inl (nz_cI g, 6, .inl m1)), (a20, .inl (nz_cI g, 49, .inl f20)), (a21, .inl (nz_cI g, 6, .inl f21)), (a22, .inl (nz_cZ g, 2, .inl f22)), (a23, .inl (nz_cI g, 188, .inl f23)), (a24, .inl (nz_cI g, 16, .inl f24))]) (fun _ => rfl) (fun m1 h => ?_)
  refine nz_iconst (v := 0) F dX8_standsBy_5 (by decide) ?_
  refine nz_istore_n (lv' := [(3, .int 0), (0, .ref o), (1, .int v1), (2, .int v2)]) F dX8_standsBy_6 rfl (by decide) rfl ?_
  refine nz_ls (lv' := [(0, .ref o), (1, .int v1), (2, .int v2), (3, .int 0)]) [1, 2, 3, 0] rfl ?_
  obtain ⟨n1, h⟩ := h
  exact t_X8_standsBy_7 F o a2 a3 a4 a5 a6 a7 a9 a19 a20 a21 a22 a23 a24 r0 r1 r8 r10 r11 r12 r13 r14 r15 r16 r17 r18 r25 f2 f3 f4 f5 f6 f7 f9 f20 f21 f22 f23 f24 v1 v2 hQ n1 0 m1 h
theorem k_X8_standsBy {y : nz_Y} {g : nz_G} {k n : Nat} {ws : va_W} {pc : Nat} {ls : List (Nat × Value)} {st rest : List Value} {av : Array Value} {isC : List Nat} {K : Int32 → (Nat → Int32) → Prop} (o : Nat) (a2 : Nat) (a3 : Nat) (a4 : Nat) (a5 : Nat) (a6 : Nat) (a7 : Nat) (a9 : Nat) (a19 : Nat) (a20 : Nat) (a21 : Nat) (a22 : Nat) (a23 : Nat) (a24 : Nat) (r0 : Int32) (r1 : Int32) (r8 : Int32) (r10 : Int32) (r11 : Int32) (r12 : Int32) (r13 : Int32) (r14 : Int32) (r15 : Int32) (r16 : Int32) (r17 : Int32) (r18 : Int32) (r25 : Int32) (f2 : Nat → Int32) (f3 : Nat → Int32) (f4 : Nat → Int32) (f5 : Nat → Int32) (f6 : Nat → Int32) (f7 : Nat → Int32) (f9 : Nat → Int32) (f19 : Nat → Int32) (f20 : Nat → Int32) (f21 : Nat → Int32) (f22 : Nat → Int32) (f23 : Nat → Int32) (f24 : Nat → Int32) (v1 : Int32) (v2 : Int32) (run : nz_M (yz_l y) yX8_standsBy wsX8_standsBy rm_X8_standsBy g [.ref o, .int v1, .int v2] [(o, .inr (8, [.int r0, .int r1, .ref a2, .ref a3, .ref a4, .ref a5, .ref a6, .ref a7, .int r8, .ref a9, .int r10, .int r11, .int r12, .int r13, .int r14, .int r15, .int r16, .int r17, .int r18, .ref a19, .ref a20, .ref a21, .ref a22, .ref a23, .ref a24, .int r25])), (a2, .inl (nz_cI g, 8, .inl f2)), (a3, .inl (nz_cI g, 8, .inl f3)), (a4, .inl (nz_cI g, 320, .inl f4)), (a5, .inl (nz_cI g, 94, .inl f5)), (a6, .inl (nz_cI g, 94, .inl f6)), (a7, .inl (nz_cI g, 168, .inl f7)), (a9, .inl (nz_cI g, 400, .inl f9)), (a19, .inl (nz_cI g, 6, .inl f19)), (a20, .inl (nz_cI g, 49, .inl f20)), (a21, .inl (nz_cI g, 6, .inl f21)), (a22, .inl (nz_cZ g, 2, .inl f22)), (a23, .inl (nz_cI g, 188, .inl f23)), (a24, .inl (nz_cI g, 16, .inl f24))] (nz_Qi g [(o, .inr (8, [.int r0, .int r1, .ref a2, .ref a3, .ref a4, .ref a5, .ref a6, .ref a7, .int r8, .ref a9, .int r10, .int r11, .int r12, .int r13, .int r14, .int r15, .int r16, .int r17, .int r18, .ref a19, .ref a20, .ref a21, .ref a22, .ref a23, .ref a24, .int r25])), (a2, .inl (nz_cI g, 8, .inl f2)), (a3, .inl (nz_cI g, 8, .inl f3)), (a4, .inl (nz_cI g, 320, .inl f4)), (a5, .inl (nz_cI g, 94, .inl f5)), (a6, .inl (nz_cI g, 94, .inl f6)), (a7, .inl (nz_cI g, 168, .inl f7)), (a9, .inl (nz_cI g, 400, .inl f9)), (a19, .inl (nz_cI g, 6, .inl f19)), (a20, .inl (nz_cI g, 49, .inl f20)), (a21, .inl (nz_cI g, 6, .inl f21)), (a22, .inl (nz_cZ g, 2, .inl f22)), (a23, .inl (nz_cI g, 188, .inl f23)), (a24, .inl (nz_cI g, 16, .inl f24))] (fun r (u : (Nat → Int32)) => K r u) (fun u => [(o, .inr (8, [.int r0, .int r1, .ref a2, .ref a3, .ref a4, .ref a5, .ref a6, .ref a7, .int r8, .ref a9, .int r10, .int r11, .int r12, .int r13, .int r14, .int r15, .int r16, .int r17, .int r18, .ref a19, .ref a20, .ref a21, .ref a22, .ref a23, .ref a24, .int r25])), (a2, .inl (nz_cI g, 8, .inl f2)), (a3, .inl (nz_cI g, 8, .inl f3)), (a4, .inl (nz_cI g, 320, .inl f4)), (a5, .inl (nz_cI g, 94, .inl f5)), (a6, .inl (nz_cI g, 94, .inl f6)), (a7, .inl (nz_cI g, 168, .inl f7)), (a9, .inl (nz_cI g, 400, .inl f9)), (a19, .inl (nz_cI g, 6, .inl u)), (a20, .inl (nz_cI g, 49, .inl f20)), (a21, .inl (nz_cI g, 6, .inl f21)), (a22, .inl (nz_cZ g, 2, .inl f22)), (a23, .inl (nz_cI g, 188, .inl f23)), (a24, .inl (nz_cI g, 16, .inl f24))])) → nz_C y g k n ws pc ls st rest [(o, .inr (8, [.int r0, .int r1, .ref a2, .ref a3, .ref a4, .ref a5, .ref a6, .ref a7, .int r8, .ref a9, .int r10, .int r11, .int r12, .int r13, .int r14, .int r15, .int r16, .int r17, .int r18, .ref a19, .ref a20, .ref a21, .ref a22, .ref a23, .ref a24, .int r25])), (a2, .inl (nz_cI g, 8, .inl f2)), (a3, .inl (nz_cI g, 8, .inl f3)), (a4, .inl (nz_cI g, 320, .inl f4)), (a5, .inl (nz_cI g, 94, .inl f5)), (a6, .inl (nz_cI g, 94, .inl f6)), (a7, .inl (nz_cI g, 168, .inl f7)), (a9, .inl (nz_cI g, 400, .inl f9)), (a19, .inl (nz_cI g, 6, .inl f19)), (a20, .inl (nz_cI g, 49, .inl f20)), (a21, .inl (nz_cI g, 6, .inl f21)), (a22, .inl (nz_cZ g, 2, .inl f22)), (a23, .inl (nz_cI g, 188, .inl f23)), (a24, .inl (nz_cI g, 16, .inl f24))] (nz_Qi g [(o, .inr (8, [.int r0, .int r1, .ref a2, .ref a3, .ref a4, .ref a5, .ref a6, .ref a7, .int r8, .ref a9, .int r10, .int r11, .int r12, .int r13, .int r14, .int r15, .int r16, .int r17, .int r18, .ref a19, .ref a20, .ref a21, .ref a22, .ref a23, .ref a24, .int r25])), (a2, .inl (nz_cI g, 8, .inl f2)), (a3, .inl (nz_cI g, 8, .inl f3)), (a4, .inl (nz_cI g, 320, .inl f4)), (a5, .inl (nz_cI g, 94, .inl f5)), (a6, .inl (nz_cI g, 94, .inl f6)), (a7, .inl (nz_cI g, 168, .inl f7)), (a9, .inl (nz_cI g, 400, .inl f9)), (a19, .inl (nz_cI g, 6, .inl f19)), (a20, .inl (nz_cI g, 49, .inl f20)), (a21, .inl (nz_cI g, 6, .inl f21)), (a22, .inl (nz_cZ g, 2, .inl f22)), (a23, .inl (nz_cI g, 188, .inl f23)), (a24, .inl (nz_cI g, 16, .inl f24))] (fun r (u : (Nat → Int32)) => K r u) (fun u => [(o, .inr (8, [.int r0, .int r1, .ref a2, .ref a3, .ref a4, .ref a5, .ref a6, .ref a7, .int r8, .ref a9, .int r10, .int r11, .int r12, .int r13, .int r14, .int r15, .int r16, .int r17, .int r18, .ref a19, .ref a20, .ref a21, .ref a22, .ref a23, .ref a24, .int r25])), (a2, .inl (nz_cI g, 8, .inl f2)), (a3, .inl (nz_cI g, 8, .inl f3)), (a4, .inl (nz_cI g, 320, .inl f4)), (a5, .inl (nz_cI g, 94, .inl f5)), (a6, .inl (nz_cI g, 94, .inl f6)), (a7, .inl (nz_cI g, 168, .inl f7)), (a9, .inl (nz_cI g, 400, .inl f9)), (a19, .inl (nz_cI g, 6, .inl u)), (a20, .inl (nz_cI g, 49, .inl f20)), (a21, .inl (nz_cI g, 6, .inl f21)), (a22, .inl (nz_cZ g, 2, .inl f22)), (a23, .inl (nz_cI g, 188, .inl f23)), (a24, .inl (nz_cI g, 16, .inl f24))])) av isC) (h : wp_X8_standsBy f5 f19 v1 v2 K) (ws' : (Nat → Int32) → va_W) (hm : ∀ (m0 : (Nat → Int32)), nz_mrg ws isC [(o, .inr (8, [.int r0, .int r1, .ref a2, .ref a3, .ref a4, .ref a5, .ref a6, .ref a7, .int r8, .ref a9, .int r10, .int r11, .int r12, .int r13, .int r14, .int r15, .int r16, .int r17, .int r18, .ref a19, .ref a20, .ref a21, .ref a22, .ref a23, .ref a24, .int r25])), (a2, .inl (nz_cI g, 8, .inl f2)), (a3, .inl (nz_cI g, 8, .inl f3)), (a4, .inl (nz_cI g, 320, .inl f4)), (a5, .inl (nz_cI g, 94, .inl f5)), (a6, .inl (nz_cI g, 94, .inl f6)), (a7, .inl (nz_cI g, 168, .inl f7)), (a9, .inl (nz_cI g, 400, .inl f9)), (a19, .inl (nz_cI g, 6, .inl m0)), (a20, .inl (nz_cI g, 49, .inl f20)), (a21, .inl (nz_cI g, 6, .inl f21)), (a22, .inl (nz_cZ g, 2, .inl f22)), (a23, .inl (nz_cI g, 188, .inl f23)), (a24, .inl (nz_cI g, 16, .inl f24))] = ws' m0) (kk : ∀ (r : Int32) (m0 : (Nat → Int32)), K r m0 → nz_V y g k n (ws' m0) (pc + 3) ls (.int r :: rest)) : nz_V y g k n ws pc ls st :=
  nz_ci (ws' := fun u => ws' u) (run (c_X8_standsBy (yz_l y) g o a2 a3 a4 a5 a6 a7 a9 a19 a20 a21 a22 a23 a24 r0 r1 r8 r10 r11 r12 r13 r14 r15 r16 r17 r18 r25 f2 f3 f4 f5 f6 f7 f9 f19 f20 f21 f22 f23 f24 v1 v2 K h)) (fun _ => rfl) (fun u => hm u) (fun r u h => kk r u h)
theorem dX8_timesOf_0 : decode cX8_timesOf 0 = .ok (.iconst 1, 1) := by decide +kernel
theorem dX8_timesOf_1 : decode cX8_timesOf 1 = .ok (.istore_n 2, 1) := by decide +kernel
theorem dX8_timesOf_2 : decode cX8_timesOf 2 = .ok (.iconst 0, 1) := by decide +kernel
theorem dX8_timesOf_3 : decode cX8_timesOf 3 = .ok (.istore_n 3, 1) := by decide +kernel
theorem dX8_timesOf_4 : decode cX8_timesOf 4 = .ok (.iload_n 3, 1) := by decide +kernel
theorem dX8_timesOf_5 : decode cX8_timesOf 5 = .ok (.iload_n 1, 1) := by decide +kernel
theorem dX8_timesOf_6 : decode cX8_timesOf 6 = .ok (.if_icmp .ge 13, 3) := by decide +kernel
theorem dX8_timesOf_9 : decode cX8_timesOf 9 = .ok (.iload_n 2, 1) := by decide +kernel
theorem dX8_timesOf_10 : decode cX8_timesOf 10 = .ok (.iload_n 0, 1) := by decide +kernel
theorem dX8_timesOf_11 : decode cX8_timesOf 11 = .ok (.imul, 1) := by decide +kernel
theorem dX8_timesOf_12 : decode cX8_timesOf 12 = .ok (.istore_n 2, 1) := by decide +kernel
theorem dX8_timesOf_13 : decode cX8_timesOf 13 = .ok (.iinc 3 1, 3) := by decide +kernel
theorem dX8_timesOf_16 : decode cX8_timesOf 16 = .ok (.goto (-12), 3) := by decide +kernel
theorem dX8_timesOf_19 : decode cX8_timesOf 19 = .ok (.iload_n 2, 1) := by decide +kernel
theorem dX8_timesOf_20 : decode cX8_timesOf 20 = .ok (.ireturn, 1) := by decide +kernel
/-! X8_timesOf -/
abbrev rm_X8_timesOf : Room := { frames := 0, cells := 0, slots := 0, locals := 0 }
def S_X8_timesOf_4 (v0 : Int32) (v1 : Int32) (K : Int32 → Prop) (R4 : Int32 → Int32 → Prop) (x2 : Int32) (x3 : Int32) : Prop := ((v1 ≤ x3 → K x2) ∧ (¬ (v1 ≤ x3) → R4 (x2 * v0) (x3 + 1)))
set_option maxHeartbeats 4000000 in
set_option maxRecDepth 100000 in
theorem t_X8_timesOf_4 {y : nz_Y} {g : nz_G} (F : nz_F y g cX8_timesOf 4 wsX8_timesOf RX8 (some .int) rm_X8_timesOf) {wc0 : va_W} {sz : Nat} {K : Int32 → Prop} (v0 : Int32) (v1 : Int32) (hQ : yz_A y = va_A wc0 sz ∧ yz_Q y = MQ (yz_b y) ((nz_Qi g wc0 (fun r (u : Unit) => K r) (fun u => [])) sz) (yz_a y) (yz_s y) 0 0 (va_A wc0 sz)) : ∀ (n1 : Nat) (x2 : Int32) (x3 : Int32), nz_it (fun _ _ => False) (S_X8_timesOf_4 v0 v1 K) n1 x2 x3 → nz_V y g 0 0 [] 4 [(0, .int v0), (1, .int v1), (2, .int x2), (3, .int x3)] [] := by
  intro n1
  induction n1 with
  | zero =>
    intro x2 x3 h
    exact h.elim
  | succ n1 hR4 =>
    intro x2 x3 h
    have h : S_X8_timesOf_4 v0 v1 K (nz_it (fun _ _ => False) (S_X8_timesOf_4 v0 v1 K) n1) x2 x3 := h
    unfold S_X8_timesOf_4 at h
    refine nz_iload_n F dX8_timesOf_4 rfl 3 rfl ?_
    refine nz_iload_n F dX8_timesOf_5 rfl 1 rfl ?_
    refine nz_icmp_ge (tgt := 19) F dX8_timesOf_6 (by decide) (fun c1 => ?_) (fun c1 => ?_)
    · have h := h.1 c1
      refine nz_iload_n F dX8_timesOf_19 rfl 2 rfl ?_
      exact nz_iret F hQ () h rfl dX8_timesOf_20
    · have h := h.2 c1
      refine nz_iload_n F dX8_timesOf_9 rfl 2 rfl ?_
      refine nz_iload_n F dX8_timesOf_10 rfl 0 rfl ?_
      refine nz_imul F dX8_timesOf_11 ?_
      refine nz_istore_n (lv' := [(2, .int (x2 * v0)), (0, .int v0), (1, .int v1), (3, .int x3)]) F dX8_timesOf_12 rfl (by decide) rfl ?_
      refine nz_iinc (v := (x3 + 1)) (j := 3) (lv' := [(3, .int (x3 + 1)), (2, .int (x2 * v0)), (0, .int v0), (1, .int v1)]) F dX8_timesOf_13 rfl rfl (by decide) rfl ?_
      refine nz_goto (tgt := 4) F dX8_timesOf_16 (by decide) ?_
      refine nz_ls (lv' := [(0, .int v0), (1, .int v1), (2, .int (x2 * v0)), (3, .int (x3 + 1))]) [2, 3, 1, 0] rfl ?_
      exact hR4 (x2 * v0) (x3 + 1) h
def wp_X8_timesOf (v0 : Int32) (v1 : Int32) (K : Int32 → Prop) : Prop := (∃ n, nz_it (fun _ _ => False) (S_X8_timesOf_4 v0 v1 K) n 1 0)
set_option maxHeartbeats 4000000 in
set_option maxRecDepth 100000 in
theorem c_X8_timesOf (l : Launch) (g : nz_G) (v0 : Int32) (v1 : Int32) (K : Int32 → Prop) (h : wp_X8_timesOf v0 v1 K) : nz_M l yX8_timesOf wsX8_timesOf rm_X8_timesOf g [.int v0, .int v1] [] (nz_Qi g [] (fun r (u : Unit) => K r) (fun u => [])) := by
  refine nz_M.of (bytes := cX8_timesOf) (nL := 4) (ret := (some .int)) (own := RX8) (by decide) rfl rfl ⟨rfl, rfl⟩ rfl ?_
  intro y F hl hQ
  obtain ⟨sz, hQ⟩ := hQ
  refine nz_ent (lv' := [(0, .int v0), (1, .int v1)]) rfl ?_
  unfold wp_X8_timesOf at h
  refine nz_iconst (v := 1) F dX8_timesOf_0 (by decide) ?_
  refine nz_istore_n (lv' := [(2, .int 1), (0, .int v0), (1, .int v1)]) F dX8_timesOf_1 rfl (by decide) rfl ?_
  refine nz_iconst (v := 0) F dX8_timesOf_2 (by decide) ?_
  refine nz_istore_n (lv' := [(3, .int 0), (2, .int 1), (0, .int v0), (1, .int v1)]) F dX8_timesOf_3 rfl (by decide) rfl ?_
  refine nz_ls (lv' := [(0, .int v0), (1, .int v1), (2, .int 1), (3, .int 0)]) [2, 3, 1, 0] rfl ?_
  obtain ⟨n1, h⟩ := h
  exact t_X8_timesOf_4 F v0 v1 hQ n1 1 0 h
theorem k_X8_timesOf {y : nz_Y} {g : nz_G} {k n : Nat} {ws : va_W} {pc : Nat} {ls : List (Nat × Value)} {st rest : List Value} {av : Array Value} {isC : List Nat} {K : Int32 → Prop} (v0 : Int32) (v1 : Int32) (run : nz_M (yz_l y) yX8_timesOf wsX8_timesOf rm_X8_timesOf g [.int v0, .int v1] [] (nz_Qi g [] (fun r (u : Unit) => K r) (fun u => [])) → nz_C y g k n ws pc ls st rest [] (nz_Qi g [] (fun r (u : Unit) => K r) (fun u => [])) av isC) (h : wp_X8_timesOf v0 v1 K) (ws' : va_W) (hm : nz_mrg ws isC [] = ws' ) (kk : ∀ (r : Int32), K r → nz_V y g k n ws' (pc + 3) ls (.int r :: rest)) : nz_V y g k n ws pc ls st :=
  nz_ci (ws' := fun _ => ws') (run (c_X8_timesOf (yz_l y) g v0 v1 K h)) (fun _ => rfl) (fun _ => hm) (fun r u h => kk r h)
theorem dX8_brings_0 : decode cX8_brings 0 = .ok (.bipush 100, 2) := by decide +kernel
theorem dX8_brings_2 : decode cX8_brings 2 = .ok (.aload_n 0, 1) := by decide +kernel
theorem dX8_brings_3 : decode cX8_brings 3 = .ok (.getfield 19, 3) := by decide +kernel
theorem dX8_brings_6 : decode cX8_brings 6 = .ok (.iconst 2, 1) := by decide +kernel
theorem dX8_brings_7 : decode cX8_brings 7 = .ok (.iaload, 1) := by decide +kernel
theorem dX8_brings_8 : decode cX8_brings 8 = .ok (.isub, 1) := by decide +kernel
theorem dX8_brings_9 : decode cX8_brings 9 = .ok (.iload_n 1, 1) := by decide +kernel
theorem dX8_brings_10 : decode cX8_brings 10 = .ok (.invokestatic 243, 3) := by decide +kernel
theorem dX8_brings_13 : decode cX8_brings 13 = .ok (.bipush 100, 2) := by decide +kernel
theorem dX8_brings_15 : decode cX8_brings 15 = .ok (.iconst 3, 1) := by decide +kernel
theorem dX8_brings_16 : decode cX8_brings 16 = .ok (.iload_n 1, 1) := by decide +kernel
theorem dX8_brings_17 : decode cX8_brings 17 = .ok (.isub, 1) := by decide +kernel
theorem dX8_brings_18 : decode cX8_brings 18 = .ok (.invokestatic 243, 3) := by decide +kernel
theorem dX8_brings_21 : decode cX8_brings 21 = .ok (.imul, 1) := by decide +kernel
theorem dX8_brings_22 : decode cX8_brings 22 = .ok (.istore_n 3, 1) := by decide +kernel
theorem dX8_brings_23 : decode cX8_brings 23 = .ok (.iload_n 3, 1) := by decide +kernel
theorem dX8_brings_24 : decode cX8_brings 24 = .ok (.iload_n 2, 1) := by decide +kernel
theorem dX8_brings_25 : decode cX8_brings 25 = .ok (.imul, 1) := by decide +kernel
theorem dX8_brings_26 : decode cX8_brings 26 = .ok (.iload_n 1, 1) := by decide +kernel
theorem dX8_brings_27 : decode cX8_brings 27 = .ok (.imul, 1) := by decide +kernel
theorem dX8_brings_28 : decode cX8_brings 28 = .ok (.ldc 246, 2) := by decide +kernel
theorem dX8_brings_30 : decode cX8_brings 30 = .ok (.iload_n 3, 1) := by decide +kernel
theorem dX8_brings_31 : decode cX8_brings 31 = .ok (.isub, 1) := by decide +kernel
theorem dX8_brings_32 : decode cX8_brings 32 = .ok (.aload_n 0, 1) := by decide +kernel
theorem dX8_brings_33 : decode cX8_brings 33 = .ok (.getfield 19, 3) := by decide +kernel
theorem dX8_brings_36 : decode cX8_brings 36 = .ok (.iconst 3, 1) := by decide +kernel
theorem dX8_brings_37 : decode cX8_brings 37 = .ok (.iaload, 1) := by decide +kernel
theorem dX8_brings_38 : decode cX8_brings 38 = .ok (.imul, 1) := by decide +kernel
theorem dX8_brings_39 : decode cX8_brings 39 = .ok (.isub, 1) := by decide +kernel
theorem dX8_brings_40 : decode cX8_brings 40 = .ok (.ireturn, 1) := by decide +kernel
set_option maxRecDepth 20000 in
theorem ggX8_brings_X8_timesOf : GoodIn wsX8_brings wsX8_timesOf := goodIn_r _ [6] rfl (by decide +kernel)
set_option maxRecDepth 20000 in
theorem gX8_brings_X8_timesOf : GoodIn wsX8_brings (va_wsS RX8 243 yX8_timesOf wsX8_timesOf) := goodIn_app (goodIn_r _ [3, 4, 5] rfl (by decide +kernel)) ggX8_brings_X8_timesOf
theorem hd_X8_timesOf : yX8_timesOf.cls = RX8 ∧ yX8_timesOf.cls ≠ "java/lang/invoke/MethodHandle" ∧ yX8_timesOf.cls ≠ "java/lang/invoke/VarHandle" ∧ (parseMethodDescriptor yX8_timesOf.desc).map (fun d => d.parameters.length) = some 2 := by decide +kernel
/-! X8_brings -/
abbrev rm_X8_brings : Room := { frames := 1, cells := 0, slots := 0, locals := 23 }
theorem iw_X8_brings_8 : ∀ w ∈ wsX80, w ∈ wsX8_brings := fun _ h => List.mem_cons_of_mem _ (List.mem_append_right _ h)
theorem fl_X8_brings_19 : Cond.fieldLink RX8 19 "NightStonesModel" "road" "[I" ∈ wsX8_brings := List.mem_of_getElem? (i := 1) rfl
theorem wd_X8_brings_c246 : Cond.constant RX8 246 (1000000) ∈ wsX8_brings := List.mem_of_getElem? (i := 2) rfl
def wp_X8_brings (f5 : Nat → Int32) (v1 : Int32) (v2 : Int32) (K : Int32 → Prop) : Prop := wp_X8_timesOf (100 - (f5 2)) v1 (fun q1 => wp_X8_timesOf 100 (3 - v1) (fun q2 => K ((((q1 * q2) * v2) * v1) - ((1000000 - (q1 * q2)) * (f5 3)))))
set_option maxHeartbeats 4000000 in
set_option maxRecDepth 100000 in
theorem c_X8_brings (l : Launch) (g : nz_G) (o : Nat) (a2 : Nat) (a3 : Nat) (a4 : Nat) (a5 : Nat) (a6 : Nat) (a7 : Nat) (a9 : Nat) (a19 : Nat) (a20 : Nat) (a21 : Nat) (a22 : Nat) (a23 : Nat) (a24 : Nat) (r0 : Int32) (r1 : Int32) (r8 : Int32) (r10 : Int32) (r11 : Int32) (r12 : Int32) (r13 : Int32) (r14 : Int32) (r15 : Int32) (r16 : Int32) (r17 : Int32) (r18 : Int32) (r25 : Int32) (f2 : Nat → Int32) (f3 : Nat → Int32) (f4 : Nat → Int32) (f5 : Nat → Int32) (f6 : Nat → Int32) (f7 : Nat → Int32) (f9 : Nat → Int32) (f19 : Nat → Int32) (f20 : Nat → Int32) (f21 : Nat → Int32) (f22 : Nat → Int32) (f23 : Nat → Int32) (f24 : Nat → Int32) (v1 : Int32) (v2 : Int32) (K : Int32 → Prop) (h : wp_X8_brings f5 v1 v2 K) : nz_M l yX8_brings wsX8_brings rm_X8_brings g [.ref o, .int v1, .int v2] [(o, .inr (8, [.int r0, .int r1, .ref a2, .ref a3, .ref a4, .ref a5, .ref a6, .ref a7, .int r8, .ref a9, .int r10, .int r11, .int r12, .int r13, .int r14, .int r15, .int r16, .int r17, .int r18, .ref a19, .ref a20, .ref a21, .ref a22, .ref a23, .ref a24, .int r25])), (a2, .inl (nz_cI g, 8, .inl f2)), (a3, .inl (nz_cI g, 8, .inl f3)), (a4, .inl (nz_cI g, 320, .inl f4)), (a5, .inl (nz_cI g, 94, .inl f5)), (a6, .inl (nz_cI g, 94, .inl f6)), (a7, .inl (nz_cI g, 168, .inl f7)), (a9, .inl (nz_cI g, 400, .inl f9)), (a19, .inl (nz_cI g, 6, .inl f19)), (a20, .inl (nz_cI g, 49, .inl f20)), (a21, .inl (nz_cI g, 6, .inl f21)), (a22, .inl (nz_cZ g, 2, .inl f22)), (a23, .inl (nz_cI g, 188, .inl f23)), (a24, .inl (nz_cI g, 16, .inl f24))] (nz_Qi g [(o, .inr (8, [.int r0, .int r1, .ref a2, .ref a3, .ref a4, .ref a5, .ref a6, .ref a7, .int r8, .ref a9, .int r10, .int r11, .int r12, .int r13, .int r14, .int r15, .int r16, .int r17, .int r18, .ref a19, .ref a20, .ref a21, .ref a22, .ref a23, .ref a24, .int r25])), (a2, .inl (nz_cI g, 8, .inl f2)), (a3, .inl (nz_cI g, 8, .inl f3)), (a4, .inl (nz_cI g, 320, .inl f4)), (a5, .inl (nz_cI g, 94, .inl f5)), (a6, .inl (nz_cI g, 94, .inl f6)), (a7, .inl (nz_cI g, 168, .inl f7)), (a9, .inl (nz_cI g, 400, .inl f9)), (a19, .inl (nz_cI g, 6, .inl f19)), (a20, .inl (nz_cI g, 49, .inl f20)), (a21, .inl (nz_cI g, 6, .inl f21)), (a22, .inl (nz_cZ g, 2, .inl f22)), (a23, .inl (nz_cI g, 188, .inl f23)), (a24, .inl (nz_cI g, 16, .inl f24))] (fun r (u : Unit) => K r) (fun u => [(o, .inr (8, [.int r0, .int r1, .ref a2, .ref a3, .ref a4, .ref a5, .ref a6, .ref a7, .int r8, .ref a9, .int r10, .int r11, .int r12, .int r13, .int r14, .int r15, .int r16, .int r17, .int r18, .ref a19, .ref a20, .ref a21, .ref a22, .ref a23, .ref a24, .int r25])), (a2, .inl (nz_cI g, 8, .inl f2)), (a3, .inl (nz_cI g, 8, .inl f3)), (a4, .inl (nz_cI g, 320, .inl f4)), (a5, .inl (nz_cI g, 94, .inl f5)), (a6, .inl (nz_cI g, 94, .inl f6)), (a7, .inl (nz_cI g, 168, .inl f7)), (a9, .inl (nz_cI g, 400, .inl f9)), (a19, .inl (nz_cI g, 6, .inl f19)), (a20, .inl (nz_cI g, 49, .inl f20)), (a21, .inl (nz_cI g, 6, .inl f21)), (a22, .inl (nz_cZ g, 2, .inl f22)), (a23, .inl (nz_cI g, 188, .inl f23)), (a24, .inl (nz_cI g, 16, .inl f24))])) := by
  refine nz_M.of (bytes := cX8_brings) (nL := 4) (ret := (some .int)) (own := RX8) (by decide) rfl rfl ⟨rfl, rfl⟩ rfl ?_
  intro y F hl hQ
  obtain ⟨sz, hQ⟩ := hQ
  refine nz_ent (lv' := [(0, .ref o), (1, .int v1), (2, .int v2)]) rfl ?_
  unfold wp_X8_brings at h
  refine nz_bipush (v := 100) F dX8_brings_0 (by decide) ?_
  refine nz_aload_n F dX8_brings_2 rfl 0 rfl ?_
  refine nz_get F iw_X8_brings_8 0 rfl rfl 5 (by decide) rfl fl_X8_brings_19 rfl dX8_brings_3 ?_
  refine nz_iconst (v := 2) F dX8_brings_6 (by decide) ?_
  refine nz_iald F 4 rfl (nz_inC rfl) dX8_brings_7 ?_
  refine nz_vi (z := (f5 2)) rfl ?_
  refine nz_isub F dX8_brings_8 ?_
  refine nz_iload_n F dX8_brings_9 rfl 1 rfl ?_
  refine k_X8_timesOf (100 - (f5 2)) v1 (fun hM => nz_runS F gX8_brings_X8_timesOf rfl hd_X8_timesOf.2 rfl hM dX8_brings_10 [] rfl rfl rfl (Nat.le_of_ble_eq_true rfl) rfl) h ([(o, .inr (8, [.int r0, .int r1, .ref a2, .ref a3, .ref a4, .ref a5, .ref a6, .ref a7, .int r8, .ref a9, .int r10, .int r11, .int r12, .int r13, .int r14, .int r15, .int r16, .int r17, .int r18, .ref a19, .ref a20, .ref a21, .ref a22, .ref a23, .ref a24, .int r25])), (a2, .inl (nz_cI g, 8, .inl f2)), (a3, .inl (nz_cI g, 8, .inl f3)), (a4, .inl (nz_cI g, 320, .inl f4)), (a5, .inl (nz_cI g, 94, .inl f5)), (a6, .inl (nz_cI g, 94, .inl f6)), (a7, .inl (nz_cI g, 168, .inl f7)), (a9, .inl (nz_cI g, 400, .inl f9)), (a19, .inl (nz_cI g, 6, .inl f19)), (a20, .inl (nz_cI g, 49, .inl f20)), (a21, .inl (nz_cI g, 6, .inl f21)), (a22, .inl (nz_cZ g, 2, .inl f22)), (a23, .inl (nz_cI g, 188, .inl f23)), (a24, .inl (nz_cI g, 16, .inl f24))]) (rfl) (fun q1 h => ?_)
  refine nz_bipush (v := 100) F dX8_brings_13 (by decide) ?_
  refine nz_iconst (v := 3) F dX8_brings_15 (by decide) ?_
  refine nz_iload_n F dX8_brings_16 rfl 1 rfl ?_
  refine nz_isub F dX8_brings_17 ?_
  refine k_X8_timesOf 100 (3 - v1) (fun hM => nz_runS F gX8_brings_X8_timesOf rfl hd_X8_timesOf.2 rfl hM dX8_brings_18 [] rfl rfl rfl (Nat.le_of_ble_eq_true rfl) rfl) h ([(o, .inr (8, [.int r0, .int r1, .ref a2, .ref a3, .ref a4, .ref a5, .ref a6, .ref a7, .int r8, .ref a9, .int r10, .int r11, .int r12, .int r13, .int r14, .int r15, .int r16, .int r17, .int r18, .ref a19, .ref a20, .ref a21, .ref a22, .ref a23, .ref a24, .int r25])), (a2, .inl (nz_cI g, 8, .inl f2)), (a3, .inl (nz_cI g, 8, .inl f3)), (a4, .inl (nz_cI g, 320, .inl f4)), (a5, .inl (nz_cI g, 94, .inl f5)), (a6, .inl (nz_cI g, 94, .inl f6)), (a7, .inl (nz_cI g, 168, .inl f7)), (a9, .inl (nz_cI g, 400, .inl f9)), (a19, .inl (nz_cI g, 6, .inl f19)), (a20, .inl (nz_cI g, 49, .inl f20)), (a21, .inl (nz_cI g, 6, .inl f21)), (a22, .inl (nz_cZ g, 2, .inl f22)), (a23, .inl (nz_cI g, 188, .inl f23)), (a24, .inl (nz_cI g, 16, .inl f24))]) (rfl) (fun q2 h => ?_)
  refine nz_imul F dX8_brings_21 ?_
  refine nz_istore_n (lv' := [(3, .int (q1 * q2)), (0, .ref o), (1, .int v1), (2, .int v2)]) F dX8_brings_22 rfl (by decide) rfl ?_
  refine nz_iload_n F dX8_brings_23 rfl 0 rfl ?_
  refine nz_iload_n F dX8_brings_24 rfl 3 rfl ?_
  refine nz_imul F dX8_brings_25 ?_
  refine nz_iload_n F dX8_brings_26 rfl 2 rfl ?_
  refine nz_imul F dX8_brings_27 ?_
  refine nz_ldc (v := 1000000) F wd_X8_brings_c246 dX8_brings_28 ?_
  refine nz_iload_n F dX8_brings_30 rfl 0 rfl ?_
  refine nz_isub F dX8_brings_31 ?_
  refine nz_aload_n F dX8_brings_32 rfl 1 rfl ?_
  refine nz_get F iw_X8_brings_8 0 rfl rfl 5 (by decide) rfl fl_X8_brings_19 rfl dX8_brings_33 ?_
  refine nz_iconst (v := 3) F dX8_brings_36 (by decide) ?_
  refine nz_iald F 4 rfl (nz_inC rfl) dX8_brings_37 ?_
  refine nz_vi (z := (f5 3)) rfl ?_
  refine nz_imul F dX8_brings_38 ?_
  refine nz_isub F dX8_brings_39 ?_
  exact nz_iret F hQ () h rfl dX8_brings_40
theorem k_X8_brings {y : nz_Y} {g : nz_G} {k n : Nat} {ws : va_W} {pc : Nat} {ls : List (Nat × Value)} {st rest : List Value} {av : Array Value} {isC : List Nat} {K : Int32 → Prop} (o : Nat) (a2 : Nat) (a3 : Nat) (a4 : Nat) (a5 : Nat) (a6 : Nat) (a7 : Nat) (a9 : Nat) (a19 : Nat) (a20 : Nat) (a21 : Nat) (a22 : Nat) (a23 : Nat) (a24 : Nat) (r0 : Int32) (r1 : Int32) (r8 : Int32) (r10 : Int32) (r11 : Int32) (r12 : Int32) (r13 : Int32) (r14 : Int32) (r15 : Int32) (r16 : Int32) (r17 : Int32) (r18 : Int32) (r25 : Int32) (f2 : Nat → Int32) (f3 : Nat → Int32) (f4 : Nat → Int32) (f5 : Nat → Int32) (f6 : Nat → Int32) (f7 : Nat → Int32) (f9 : Nat → Int32) (f19 : Nat → Int32) (f20 : Nat → Int32) (f21 : Nat → Int32) (f22 : Nat → Int32) (f23 : Nat → Int32) (f24 : Nat → Int32) (v1 : Int32) (v2 : Int32) (run : nz_M (yz_l y) yX8_brings wsX8_brings rm_X8_brings g [.ref o, .int v1, .int v2] [(o, .inr (8, [.int r0, .int r1, .ref a2, .ref a3, .ref a4, .ref a5, .ref a6, .ref a7, .int r8, .ref a9, .int r10, .int r11, .int r12, .int r13, .int r14, .int r15, .int r16, .int r17, .int r18, .ref a19, .ref a20, .ref a21, .ref a22, .ref a23, .ref a24, .int r25])), (a2, .inl (nz_cI g, 8, .inl f2)), (a3, .inl (nz_cI g, 8, .inl f3)), (a4, .inl (nz_cI g, 320, .inl f4)), (a5, .inl (nz_cI g, 94, .inl f5)), (a6, .inl (nz_cI g, 94, .inl f6)), (a7, .inl (nz_cI g, 168, .inl f7)), (a9, .inl (nz_cI g, 400, .inl f9)), (a19, .inl (nz_cI g, 6, .inl f19)), (a20, .inl (nz_cI g, 49, .inl f20)), (a21, .inl (nz_cI g, 6, .inl f21)), (a22, .inl (nz_cZ g, 2, .inl f22)), (a23, .inl (nz_cI g, 188, .inl f23)), (a24, .inl (nz_cI g, 16, .inl f24))] (nz_Qi g [(o, .inr (8, [.int r0, .int r1, .ref a2, .ref a3, .ref a4, .ref a5, .ref a6, .ref a7, .int r8, .ref a9, .int r10, .int r11, .int r12, .int r13, .int r14, .int r15, .int r16, .int r17, .int r18, .ref a19, .ref a20, .ref a21, .ref a22, .ref a23, .ref a24, .int r25])), (a2, .inl (nz_cI g, 8, .inl f2)), (a3, .inl (nz_cI g, 8, .inl f3)), (a4, .inl (nz_cI g, 320, .inl f4)), (a5, .inl (nz_cI g, 94, .inl f5)), (a6, .inl (nz_cI g, 94, .inl f6)), (a7, .inl (nz_cI g, 168, .inl f7)), (a9, .inl (nz_cI g, 400, .inl f9)), (a19, .inl (nz_cI g, 6, .inl f19)), (a20, .inl (nz_cI g, 49, .inl f20)), (a21, .inl (nz_cI g, 6, .inl f21)), (a22, .inl (nz_cZ g, 2, .inl f22)), (a23, .inl (nz_cI g, 188, .inl f23)), (a24, .inl (nz_cI g, 16, .inl f24))] (fun r (u : Unit) => K r) (fun u => [(o, .inr (8, [.int r0, .int r1, .ref a2, .ref a3, .ref a4, .ref a5, .ref a6, .ref a7, .int r8, .ref a9, .int r10, .int r11, .int r12, .int r13, .int r14, .int r15, .int r16, .int r17, .int r18, .ref a19, .ref a20, .ref a21, .ref a22, .ref a23, .ref a24, .int r25])), (a2, .inl (nz_cI g, 8, .inl f2)), (a3, .inl (nz_cI g, 8, .inl f3)), (a4, .inl (nz_cI g, 320, .inl f4)), (a5, .inl (nz_cI g, 94, .inl f5)), (a6, .inl (nz_cI g, 94, .inl f6)), (a7, .inl (nz_cI g, 168, .inl f7)), (a9, .inl (nz_cI g, 400, .inl f9)), (a19, .inl (nz_cI g, 6, .inl f19)), (a20, .inl (nz_cI g, 49, .inl f20)), (a21, .inl (nz_cI g, 6, .inl f21)), (a22, .inl (nz_cZ g, 2, .inl f22)), (a23, .inl (nz_cI g, 188, .inl f23)), (a24, .inl (nz_cI g, 16, .inl f24))])) → nz_C y g k n ws pc ls st rest [(o, .inr (8, [.int r0, .int r1, .ref a2, .ref a3, .ref a4, .ref a5, .ref a6, .ref a7, .int r8, .ref a9, .int r10, .int r11, .int r12, .int r13, .int r14, .int r15, .int r16, .int r17, .int r18, .ref a19, .ref a20, .ref a21, .ref a22, .ref a23, .ref a24, .int r25])), (a2, .inl (nz_cI g, 8, .inl f2)), (a3, .inl (nz_cI g, 8, .inl f3)), (a4, .inl (nz_cI g, 320, .inl f4)), (a5, .inl (nz_cI g, 94, .inl f5)), (a6, .inl (nz_cI g, 94, .inl f6)), (a7, .inl (nz_cI g, 168, .inl f7)), (a9, .inl (nz_cI g, 400, .inl f9)), (a19, .inl (nz_cI g, 6, .inl f19)), (a20, .inl (nz_cI g, 49, .inl f20)), (a21, .inl (nz_cI g, 6, .inl f21)), (a22, .inl (nz_cZ g, 2, .inl f22)), (a23, .inl (nz_cI g, 188, .inl f23)), (a24, .inl (nz_cI g, 16, .inl f24))] (nz_Qi g [(o, .inr (8, [.int r0, .int r1, .ref a2, .ref a3, .ref a4, .ref a5, .ref a6, .ref a7, .int r8, .ref a9, .int r10, .int r11, .int r12, .int r13, .int r14, .int r15, .int r16, .int r17, .int r18, .ref a19, .ref a20, .ref a21, .ref a22, .ref a23, .ref a24, .int r25])), (a2, .inl (nz_cI g, 8, .inl f2)), (a3, .inl (nz_cI g, 8, .inl f3)), (a4, .inl (nz_cI g, 320, .inl f4)), (a5, .inl (nz_cI g, 94, .inl f5)), (a6, .inl (nz_cI g, 94, .inl f6)), (a7, .inl (nz_cI g, 168, .inl f7)), (a9, .inl (nz_cI g, 400, .inl f9)), (a19, .inl (nz_cI g, 6, .inl f19)), (a20, .inl (nz_cI g, 49, .inl f20)), (a21, .inl (nz_cI g, 6, .inl f21)), (a22, .inl (nz_cZ g, 2, .inl f22)), (a23, .inl (nz_cI g, 188, .inl f23)), (a24, .inl (nz_cI g, 16, .inl f24))] (fun r (u : Unit) => K r) (fun u => [(o, .inr (8, [.int r0, .int r1, .ref a2, .ref a3, .ref a4, .ref a5, .ref a6, .ref a7, .int r8, .ref a9, .int r10, .int r11, .int r12, .int r13, .int r14, .int r15, .int r16, .int r17, .int r18, .ref a19, .ref a20, .ref a21, .ref a22, .ref a23, .ref a24, .int r25])), (a2, .inl (nz_cI g, 8, .inl f2)), (a3, .inl (nz_cI g, 8, .inl f3)), (a4, .inl (nz_cI g, 320, .inl f4)), (a5, .inl (nz_cI g, 94, .inl f5)), (a6, .inl (nz_cI g, 94, .inl f6)), (a7, .inl (nz_cI g, 168, .inl f7)), (a9, .inl (nz_cI g, 400, .inl f9)), (a19, .inl (nz_cI g, 6, .inl f19)), (a20, .inl (nz_cI g, 49, .inl f20)), (a21, .inl (nz_cI g, 6, .inl f21)), (a22, .inl (nz_cZ g, 2, .inl f22)), (a23, .inl (nz_cI g, 188, .inl f23)), (a24, .inl (nz_cI g, 16, .inl f24))])) av isC) (h : wp_X8_brings f5 v1 v2 K) (ws' : va_W) (hm : nz_mrg ws isC [(o, .inr (8, [.int r0, .int r1, .ref a2, .ref a3, .ref a4, .ref a5, .ref a6, .ref a7, .int r8, .ref a9, .int r10, .int r11, .int r12, .int r13, .int r14, .int r15, .int r16, .int r17, .int r18, .ref a19, .ref a20, .ref a21, .ref a22, .ref a23, .ref a24, .int r25])), (a2, .inl (nz_cI g, 8, .inl f2)), (a3, .inl (nz_cI g, 8, .inl f3)), (a4, .inl (nz_cI g, 320, .inl f4)), (a5, .inl (nz_cI g, 94, .inl f5)), (a6, .inl (nz_cI g, 94, .inl f6)), (a7, .inl (nz_cI g, 168, .inl f7)), (a9, .inl (nz_cI g, 400, .inl f9)), (a19, .inl (nz_cI g, 6, .inl f19)), (a20, .inl (nz_cI g, 49, .inl f20)), (a21, .inl (nz_cI g, 6, .inl f21)), (a22, .inl (nz_cZ g, 2, .inl f22)), (a23, .inl (nz_cI g, 188, .inl f23)), (a24, .inl (nz_cI g, 16, .inl f24))] = ws' ) (kk : ∀ (r : Int32), K r → nz_V y g k n ws' (pc + 3) ls (.int r :: rest)) : nz_V y g k n ws pc ls st :=
  nz_ci (ws' := fun _ => ws') (run (c_X8_brings (yz_l y) g o a2 a3 a4 a5 a6 a7 a9 a19 a20 a21 a22 a23 a24 r0 r1 r8 r10 r11 r12 r13 r14 r15 r16 r17 r18 r25 f2 f3 f4 f5 f6 f7 f9 f19 f20 f21 f22 f23 f24 v1 v2 K h)) (fun _ => rfl) (fun _ => hm) (fun r u h => kk r h)
theorem dX8_bestBy_0 : decode cX8_bestBy 0 = .ok (.iconst 0, 1) := by decide +kernel
theorem dX8_bestBy_1 : decode cX8_bestBy 1 = .ok (.istore_n 2, 1) := by decide +kernel
theorem dX8_bestBy_2 : decode cX8_bestBy 2 = .ok (.iconst 1, 1) := by decide +kernel
theorem dX8_bestBy_3 : decode cX8_bestBy 3 = .ok (.istore_n 3, 1) := by decide +kernel
theorem dX8_bestBy_4 : decode cX8_bestBy 4 = .ok (.iload_n 3, 1) := by decide +kernel
theorem dX8_bestBy_5 : decode cX8_bestBy 5 = .ok (.iconst 3, 1) := by decide +kernel
theorem dX8_bestBy_6 : decode cX8_bestBy 6 = .ok (.if_icmp .gt 30, 3) := by decide +kernel
theorem dX8_bestBy_9 : decode cX8_bestBy 9 = .ok (.aload_n 0, 1) := by decide +kernel
theorem dX8_bestBy_10 : decode cX8_bestBy 10 = .ok (.iload_n 3, 1) := by decide +kernel
theorem dX8_bestBy_11 : decode cX8_bestBy 11 = .ok (.iload_n 1, 1) := by decide +kernel
theorem dX8_bestBy_12 : decode cX8_bestBy 12 = .ok (.invokevirtual 249, 3) := by decide +kernel
theorem dX8_bestBy_15 : decode cX8_bestBy 15 = .ok (.aload_n 0, 1) := by decide +kernel
theorem dX8_bestBy_16 : decode cX8_bestBy 16 = .ok (.iload_n 2, 1) := by decide +kernel
theorem dX8_bestBy_17 : decode cX8_bestBy 17 = .ok (.iload_n 1, 1) := by decide +kernel
theorem dX8_bestBy_18 : decode cX8_bestBy 18 = .ok (.invokevirtual 249, 3) := by decide +kernel
theorem dX8_bestBy_21 : decode cX8_bestBy 21 = .ok (.if_icmp .le 7, 3) := by decide +kernel
theorem dX8_bestBy_24 : decode cX8_bestBy 24 = .ok (.iload_n 3, 1) := by decide +kernel
theorem dX8_bestBy_25 : decode cX8_bestBy 25 = .ok (.goto 4, 3) := by decide +kernel
theorem dX8_bestBy_28 : decode cX8_bestBy 28 = .ok (.iload_n 2, 1) := by decide +kernel
theorem dX8_bestBy_29 : decode cX8_bestBy 29 = .ok (.istore_n 2, 1) := by decide +kernel
theorem dX8_bestBy_30 : decode cX8_bestBy 30 = .ok (.iinc 3 1, 3) := by decide +kernel
theorem dX8_bestBy_33 : decode cX8_bestBy 33 = .ok (.goto (-29), 3) := by decide +kernel
theorem dX8_bestBy_36 : decode cX8_bestBy 36 = .ok (.iload_n 2, 1) := by decide +kernel
theorem dX8_bestBy_37 : decode cX8_bestBy 37 = .ok (.ireturn, 1) := by decide +kernel
set_option maxRecDepth 20000 in
theorem ggX8_bestBy_X8_brings : GoodIn wsX8_bestBy wsX8_brings := goodIn_r _ [5, 6, 7, 8, 9, 4, 10, 11, 12, 13, 14, 15, 16, 17, 18, 19, 20, 21, 22, 23, 24, 25, 26, 27, 28, 29, 30, 31, 32, 33, 34, 35, 36] rfl (by decide +kernel)
set_option maxRecDepth 20000 in
theorem gX8_bestBy_X8_brings : GoodIn wsX8_bestBy (wsV RX8 249 RX8 yX8_brings wsX8_brings) := goodIn_app (goodIn_r _ [1, 2, 3, 4] rfl (by decide +kernel)) ggX8_bestBy_X8_brings
theorem hd_X8_brings : yX8_brings.cls = RX8 ∧ yX8_brings.cls ≠ "java/lang/invoke/MethodHandle" ∧ yX8_brings.cls ≠ "java/lang/invoke/VarHandle" ∧ (parseMethodDescriptor yX8_brings.desc).map (fun d => d.parameters.length) = some 2 := by decide +kernel
/-! X8_bestBy -/
abbrev rm_X8_bestBy : Room := { frames := 2, cells := 0, slots := 0, locals := 46 }
def S_X8_bestBy_4 (f5 : Nat → Int32) (v1 : Int32) (K : Int32 → Prop) (R4 : Int32 → Int32 → Prop) (x2 : Int32) (x3 : Int32) : Prop := ((3 < x3 → K x2) ∧ (¬ (3 < x3) → wp_X8_brings f5 x3 v1 (fun q2 => wp_X8_brings f5 x2 v1 (fun q3 => ((q2 ≤ q3 → R4 x2 (x3 + 1)) ∧ (¬ (q2 ≤ q3) → R4 x3 (x3 + 1)))))))
set_option maxHeartbeats 4000000 in
set_option maxRecDepth 100000 in
theorem t_X8_bestBy_4 {y : nz_Y} {g : nz_G} (F : nz_F y g cX8_bestBy 4 wsX8_bestBy RX8 (some .int) rm_X8_bestBy) {wc0 : va_W} {sz : Nat} {K : Int32 → Prop} (o : Nat) (a2 : Nat) (a3 : Nat) (a4 : Nat) (a5 : Nat) (a6 : Nat) (a7 : Nat) (a9 : Nat) (a19 : Nat) (a20 : Nat) (a21 : Nat) (a22 : Nat) (a23 : Nat) (a24 : Nat) (r0 : Int32) (r1 : Int32) (r8 : Int32) (r10 : Int32) (r11 : Int32) (r12 : Int32) (r13 : Int32) (r14 : Int32) (r15 : Int32) (r16 : Int32) (r17 : Int32) (r18 : Int32) (r25 : Int32) (f2 : Nat → Int32) (f3 : Nat → Int32) (f4 : Nat → Int32) (f5 : Nat → Int32) (f6 : Nat → Int32) (f7 : Nat → Int32) (f9 : Nat → Int32) (f19 : Nat → Int32) (f20 : Nat → Int32) (f21 : Nat → Int32) (f22 : Nat → Int32) (f23 : Nat → Int32) (f24 : Nat → Int32) (v1 : Int32) (hQ : yz_A y = va_A wc0 sz ∧ yz_Q y = MQ (yz_b y) ((nz_Qi g wc0 (fun r (u : Unit) => K r) (fun u => [(o, .inr (8, [.int r0, .int r1, .ref a2, .ref a3, .ref a4, .ref a5, .ref a6, .ref a7, .int r8, .ref a9, .int r10, .int r11, .int r12, .int r13, .int r14, .int r15, .int r16, .int r17, .int r18, .ref a19, .ref a20, .ref a21, .ref a22, .ref a23, .ref a24, .int r25])), (a2, .inl (nz_cI g, 8, .inl f2)), (a3, .inl (nz_cI g, 8, .inl f3)), (a4, .inl (nz_cI g, 320, .inl f4)), (a5, .inl (nz_cI g, 94, .inl f5)), (a6, .inl (nz_cI g, 94, .inl f6)), (a7, .inl (nz_cI g, 168, .inl f7)), (a9, .inl (nz_cI g, 400, .inl f9)), (a19, .inl (nz_cI g, 6, .inl f19)), (a20, .inl (nz_cI g, 49, .inl f20)), (a21, .inl (nz_cI g, 6, .inl f21)), (a22, .inl (nz_cZ g, 2, .inl f22)), (a23, .inl (nz_cI g, 188, .inl f23)), (a24, .inl (nz_cI g, 16, .inl f24))])) sz) (yz_a y) (yz_s y) 0 0 (va_A wc0 sz)) : ∀ (n1 : Nat) (x2 : Int32) (x3 : Int32), nz_it (fun _ _ => False) (S_X8_bestBy_4 f5 v1 K) n1 x2 x3 → nz_V y g 0 0 [(o, .inr (8, [.int r0, .int r1, .ref a2, .ref a3, .ref a4, .ref a5, .ref a6, .ref a7, .int r8, .ref a9, .int r10, .int r11, .int r12, .int r13, .int r14, .int r15, .int r16, .int r17, .int r18, .ref a19, .ref a20, .ref a21, .ref a22, .ref a23, .ref a24, .int r25])), (a2, .inl (nz_cI g, 8, .inl f2)), (a3, .inl (nz_cI g, 8, .inl f3)), (a4, .inl (nz_cI g, 320, .inl f4)), (a5, .inl (nz_cI g, 94, .inl f5)), (a6, .inl (nz_cI g, 94, .inl f6)), (a7, .inl (nz_cI g, 168, .inl f7)), (a9, .inl (nz_cI g, 400, .inl f9)), (a19, .inl (nz_cI g, 6, .inl f19)), (a20, .inl (nz_cI g, 49, .inl f20)), (a21, .inl (nz_cI g, 6, .inl f21)), (a22, .inl (nz_cZ g, 2, .inl f22)), (a23, .inl (nz_cI g, 188, .inl f23)), (a24, .inl (nz_cI g, 16, .inl f24))] 4 [(0, .ref o), (1, .int v1), (2, .int x2), (3, .int x3)] [] := by
  intro n1
  induction n1 with
  | zero =>
    intro x2 x3 h
    exact h.elim
  | succ n1 hR4 =>
    intro x2 x3 h
    have h : S_X8_bestBy_4 f5 v1 K (nz_it (fun _ _ => False) (S_X8_bestBy_4 f5 v1 K) n1) x2 x3 := h
    unfold S_X8_bestBy_4 at h
    refine nz_iload_n F dX8_bestBy_4 rfl 3 rfl ?_
    refine nz_iconst (v := 3) F dX8_bestBy_5 (by decide) ?_
    refine nz_icmp_gt (tgt := 36) F dX8_bestBy_6 (by decide) (fun c1 => ?_) (fun c1 => ?_)
    · have h := h.1 c1
      refine nz_iload_n F dX8_bestBy_36 rfl 2 rfl ?_
      exact nz_iret F hQ () h rfl dX8_bestBy_37
    · have h := h.2 c1
      refine nz_aload_n F dX8_bestBy_9 rfl 0 rfl ?_
      refine nz_iload_n F dX8_bestBy_10 rfl 3 rfl ?_
      refine nz_iload_n F dX8_bestBy_11 rfl 1 rfl ?_
      refine k_X8_brings o a2 a3 a4 a5 a6 a7 a9 a19 a20 a21 a22 a23 a24 r0 r1 r8 r10 r11 r12 r13 r14 r15 r16 r17 r18 r25 f2 f3 f4 f5 f6 f7 f9 f19 f20 f21 f22 f23 f24 x3 v1 (fun hM => nz_runV F gX8_bestBy_X8_brings rfl hd_X8_brings rfl hM dX8_bestBy_12 [0, 1, 2, 3, 4, 5, 6, 7, 8, 9, 10, 11, 12, 13] rfl rfl 0 rfl rfl rfl (Nat.le_of_ble_eq_true rfl) rfl) h ([(o, .inr (8, [.int r0, .int r1, .ref a2, .ref a3, .ref a4, .ref a5, .ref a6, .ref a7, .int r8, .ref a9, .int r10, .int r11, .int r12, .int r13, .int r14, .int r15, .int r16, .int r17, .int r18, .ref a19, .ref a20, .ref a21, .ref a22, .ref a23, .ref a24, .int r25])), (a2, .inl (nz_cI g, 8, .inl f2)), (a3, .inl (nz_cI g, 8, .inl f3)), (a4, .inl (nz_cI g, 320, .inl f4)), (a5, .inl (nz_cI g, 94, .inl f5)), (a6, .inl (nz_cI g, 94, .inl f6)), (a7, .inl (nz_cI g, 168, .inl f7)), (a9, .inl (nz_cI g, 400, .inl f9)), (a19, .inl (nz_cI g, 6, .inl f19)), (a20, .inl (nz_cI g, 49, .inl f20)), (a21, .inl (nz_cI g, 6, .inl f21)), (a22, .inl (nz_cZ g, 2, .inl f22)), (a23, .inl (nz_cI g, 188, .inl f23)), (a24, .inl (nz_cI g, 16, .inl f24))]) (rfl) (fun q2 h => ?_)
      refine nz_aload_n F dX8_bestBy_15 rfl 0 rfl ?_
      refine nz_iload_n F dX8_bestBy_16 rfl 2 rfl ?_
      refine nz_iload_n F dX8_bestBy_17 rfl 1 rfl ?_
      refine k_X8_brings o a2 a3 a4 a5 a6 a7 a9 a19 a20 a21 a22 a23 a24 r0 r1 r8 r10 r11 r12 r13 r14 r15 r16 r17 r18 r25 f2 f3 f4 f5 f6 f7 f9 f19 f20 f21 f22 f23 f24 x2 v1 (fun hM => nz_runV F gX8_bestBy_X8_brings rfl hd_X8_brings rfl hM dX8_bestBy_18 [0, 1, 2, 3, 4, 5, 6, 7, 8, 9, 10, 11, 12, 13] rfl rfl 0 rfl rfl rfl (Nat.le_of_ble_eq_true rfl) rfl) h ([(o, .inr (8, [.int r0, .int r1, .ref a2, .ref a3, .ref a4, .ref a5, .ref a6, .ref a7, .int r8, .ref a9, .int r10, .int r11, .int r12, .int r13, .int r14, .int r15, .int r16, .int r17, .int r18, .ref a19, .ref a20, .ref a21, .ref a22, .ref a23, .ref a24, .int r25])), (a2, .inl (nz_cI g, 8, .inl f2)), (a3, .inl (nz_cI g, 8, .inl f3)), (a4, .inl (nz_cI g, 320, .inl f4)), (a5, .inl (nz_cI g, 94, .inl f5)), (a6, .inl (nz_cI g, 94, .inl f6)), (a7, .inl (nz_cI g, 168, .inl f7)), (a9, .inl (nz_cI g, 400, .inl f9)), (a19, .inl (nz_cI g, 6, .inl f19)), (a20, .inl (nz_cI g, 49, .inl f20)), (a21, .inl (nz_cI g, 6, .inl f21)), (a22, .inl (nz_cZ g, 2, .inl f22)), (a23, .inl (nz_cI g, 188, .inl f23)), (a24, .inl (nz_cI g, 16, .inl f24))]) (rfl) (fun q3 h => ?_)
      refine nz_icmp_le (tgt := 28) F dX8_bestBy_21 (by decide) (fun c4 => ?_) (fun c4 => ?_)
      · have h := h.1 c4
        refine nz_iload_n F dX8_bestBy_28 rfl 2 rfl ?_
        refine nz_istore_n (lv' := [(2, .int x2), (0, .ref o), (1, .int v1), (3, .int x3)]) F dX8_bestBy_29 rfl (by decide) rfl ?_
        refine nz_iinc (v := (x3 + 1)) (j := 3) (lv' := [(3, .int (x3 + 1)), (2, .int x2), (0, .ref o), (1, .int v1)]) F dX8_bestBy_30 rfl rfl (by decide) rfl ?_
        refine nz_goto (tgt := 4) F dX8_bestBy_33 (by decide) ?_
        refine nz_ls (lv' := [(0, .ref o), (1, .int v1), (2, .int x2), (3, .int (x3 + 1))]) [2, 3, 1, 0] rfl ?_
        exact hR4 x2 (x3 + 1) h
      · have h := h.2 c4
        refine nz_iload_n F dX8_bestBy_24 rfl 3 rfl ?_
        refine nz_goto (tgt := 29) F dX8_bestBy_25 (by decide) ?_
        refine nz_istore_n (lv' := [(2, .int x3), (0, .ref o), (1, .int v1), (3, .int x3)]) F dX8_bestBy_29 rfl (by decide) rfl ?_
        refine nz_iinc (v := (x3 + 1)) (j := 3) (lv' := [(3, .int (x3 + 1)), (2, .int x3), (0, .ref o), (1, .int v1)]) F dX8_bestBy_30 rfl rfl (by decide) rfl ?_
        refine nz_goto (tgt := 4) F dX8_bestBy_33 (by decide) ?_
        refine nz_ls (lv' := [(0, .ref o), (1, .int v1), (2, .int x3), (3, .int (x3 + 1))]) [2, 3, 1, 0] rfl ?_
        exact hR4 x3 (x3 + 1) h
def wp_X8_bestBy (f5 : Nat → Int32) (v1 : Int32) (K : Int32 → Prop) : Prop := (∃ n, nz_it (fun _ _ => False) (S_X8_bestBy_4 f5 v1 K) n 0 1)
set_option maxHeartbeats 4000000 in
set_option maxRecDepth 100000 in
theorem c_X8_bestBy (l : Launch) (g : nz_G) (o : Nat) (a2 : Nat) (a3 : Nat) (a4 : Nat) (a5 : Nat) (a6 : Nat) (a7 : Nat) (a9 : Nat) (a19 : Nat) (a20 : Nat) (a21 : Nat) (a22 : Nat) (a23 : Nat) (a24 : Nat) (r0 : Int32) (r1 : Int32) (r8 : Int32) (r10 : Int32) (r11 : Int32) (r12 : Int32) (r13 : Int32) (r14 : Int32) (r15 : Int32) (r16 : Int32) (r17 : Int32) (r18 : Int32) (r25 : Int32) (f2 : Nat → Int32) (f3 : Nat → Int32) (f4 : Nat → Int32) (f5 : Nat → Int32) (f6 : Nat → Int32) (f7 : Nat → Int32) (f9 : Nat → Int32) (f19 : Nat → Int32) (f20 : Nat → Int32) (f21 : Nat → Int32) (f22 : Nat → Int32) (f23 : Nat → Int32) (f24 : Nat → Int32) (v1 : Int32) (K : Int32 → Prop) (h : wp_X8_bestBy f5 v1 K) : nz_M l yX8_bestBy wsX8_bestBy rm_X8_bestBy g [.ref o, .int v1] [(o, .inr (8, [.int r0, .int r1, .ref a2, .ref a3, .ref a4, .ref a5, .ref a6, .ref a7, .int r8, .ref a9, .int r10, .int r11, .int r12, .int r13, .int r14, .int r15, .int r16, .int r17, .int r18, .ref a19, .ref a20, .ref a21, .ref a22, .ref a23, .ref a24, .int r25])), (a2, .inl (nz_cI g, 8, .inl f2)), (a3, .inl (nz_cI g, 8, .inl f3)), (a4, .inl (nz_cI g, 320, .inl f4)), (a5, .inl (nz_cI g, 94, .inl f5)), (a6, .inl (nz_cI g, 94, .inl f6)), (a7, .inl (nz_cI g, 168, .inl f7)), (a9, .inl (nz_cI g, 400, .inl f9)), (a19, .inl (nz_cI g, 6, .inl f19)), (a20, .inl (nz_cI g, 49, .inl f20)), (a21, .inl (nz_cI g, 6, .inl f21)), (a22, .inl (nz_cZ g, 2, .inl f22)), (a23, .inl (nz_cI g, 188, .inl f23)), (a24, .inl (nz_cI g, 16, .inl f24))] (nz_Qi g [(o, .inr (8, [.int r0, .int r1, .ref a2, .ref a3, .ref a4, .ref a5, .ref a6, .ref a7, .int r8, .ref a9, .int r10, .int r11, .int r12, .int r13, .int r14, .int r15, .int r16, .int r17, .int r18, .ref a19, .ref a20, .ref a21, .ref a22, .ref a23, .ref a24, .int r25])), (a2, .inl (nz_cI g, 8, .inl f2)), (a3, .inl (nz_cI g, 8, .inl f3)), (a4, .inl (nz_cI g, 320, .inl f4)), (a5, .inl (nz_cI g, 94, .inl f5)), (a6, .inl (nz_cI g, 94, .inl f6)), (a7, .inl (nz_cI g, 168, .inl f7)), (a9, .inl (nz_cI g, 400, .inl f9)), (a19, .inl (nz_cI g, 6, .inl f19)), (a20, .inl (nz_cI g, 49, .inl f20)), (a21, .inl (nz_cI g, 6, .inl f21)), (a22, .inl (nz_cZ g, 2, .inl f22)), (a23, .inl (nz_cI g, 188, .inl f23)), (a24, .inl (nz_cI g, 16, .inl f24))] (fun r (u : Unit) => K r) (fun u => [(o, .inr (8, [.int r0, .int r1, .ref a2, .ref a3, .ref a4, .ref a5, .ref a6, .ref a7, .int r8, .ref a9, .int r10, .int r11, .int r12, .int r13, .int r14, .int r15, .int r16, .int r17, .int r18, .ref a19, .ref a20, .ref a21, .ref a22, .ref a23, .ref a24, .int r25])), (a2, .inl (nz_cI g, 8, .inl f2)), (a3, .inl (nz_cI g, 8, .inl f3)), (a4, .inl (nz_cI g, 320, .inl f4)), (a5, .inl (nz_cI g, 94, .inl f5)), (a6, .inl (nz_cI g, 94, .inl f6)), (a7, .inl (nz_cI g, 168, .inl f7)), (a9, .inl (nz_cI g, 400, .inl f9)), (a19, .inl (nz_cI g, 6, .inl f19)), (a20, .inl (nz_cI g, 49, .inl f20)), (a21, .inl (nz_cI g, 6, .inl f21)), (a22, .inl (nz_cZ g, 2, .inl f22)), (a23, .inl (nz_cI g, 188, .inl f23)), (a24, .inl (nz_cI g, 16, .inl f24))])) := by
  refine nz_M.of (bytes := cX8_bestBy) (nL := 4) (ret := (some .int)) (own := RX8) (by decide) rfl rfl ⟨rfl, rfl⟩ rfl ?_
  intro y F hl hQ
  obtain ⟨sz, hQ⟩ := hQ
  refine nz_ent (lv' := [(0, .ref o), (1, .int v1)]) rfl ?_
  unfold wp_X8_bestBy at h
  refine nz_iconst (v := 0) F dX8_bestBy_0 (by decide) ?_
  refine nz_istore_n (lv' := [(2, .int 0), (0, .ref o), (1, .int v1)]) F dX8_bestBy_1 rfl (by decide) rfl ?_
  refine nz_iconst (v := 1) F dX8_bestBy_2 (by decide) ?_
  refine nz_istore_n (lv' := [(3, .int 1), (2, .int 0), (0, .ref o), (1, .int v1)]) F dX8_bestBy_3 rfl (by decide) rfl ?_
  refine nz_ls (lv' := [(0, .ref o), (1, .int v1), (2, .int 0), (3, .int 1)]) [2, 3, 1, 0] rfl ?_
  obtain ⟨n1, h⟩ := h
  exact t_X8_bestBy_4 F o a2 a3 a4 a5 a6 a7 a9 a19 a20 a21 a22 a23 a24 r0 r1 r8 r10 r11 r12 r13 r14 r15 r16 r17 r18 r25 f2 f3 f4 f5 f6 f7 f9 f19 f20 f21 f22 f23 f24 v1 hQ n1 0 1 h
theorem k_X8_bestBy {y : nz_Y} {g : nz_G} {k n : Nat} {ws : va_W} {pc : Nat} {ls : List (Nat × Value)} {st rest : List Value} {av : Array Value} {isC : List Nat} {K : Int32 → Prop} (o : Nat) (a2 : Nat) (a3 : Nat) (a4 : Nat) (a5 : Nat) (a6 : Nat) (a7 : Nat) (a9 : Nat) (a19 : Nat) (a20 : Nat) (a21 : Nat) (a22 : Nat) (a23 : Nat) (a24 : Nat) (r0 : Int32) (r1 : Int32) (r8 : Int32) (r10 : Int32) (r11 : Int32) (r12 : Int32) (r13 : Int32) (r14 : Int32) (r15 : Int32) (r16 : Int32) (r17 : Int32) (r18 : Int32) (r25 : Int32) (f2 : Nat → Int32) (f3 : Nat → Int32) (f4 : Nat → Int32) (f5 : Nat → Int32) (f6 : Nat → Int32) (f7 : Nat → Int32) (f9 : Nat → Int32) (f19 : Nat → Int32) (f20 : Nat → Int32) (f21 : Nat → Int32) (f22 : Nat → Int32) (f23 : Nat → Int32) (f24 : Nat → Int32) (v1 : Int32) (run : nz_M (yz_l y) yX8_bestBy wsX8_bestBy rm_X8_bestBy g [.ref o, .int v1] [(o, .inr (8, [.int r0, .int r1, .ref a2, .ref a3, .ref a4, .ref a5, .ref a6, .ref a7, .int r8, .ref a9, .int r10, .int r11, .int r12, .int r13, .int r14, .int r15, .int r16, .int r17, .int r18, .ref a19, .ref a20, .ref a21, .ref a22, .ref a23, .ref a24, .int r25])), (a2, .inl (nz_cI g, 8, .inl f2)), (a3, .inl (nz_cI g, 8, .inl f3)), (a4, .inl (nz_cI g, 320, .inl f4)), (a5, .inl (nz_cI g, 94, .inl f5)), (a6, .inl (nz_cI g, 94, .inl f6)), (a7, .inl (nz_cI g, 168, .inl f7)), (a9, .inl (nz_cI g, 400, .inl f9)), (a19, .inl (nz_cI g, 6, .inl f19)), (a20, .inl (nz_cI g, 49, .inl f20)), (a21, .inl (nz_cI g, 6, .inl f21)), (a22, .inl (nz_cZ g, 2, .inl f22)), (a23, .inl (nz_cI g, 188, .inl f23)), (a24, .inl (nz_cI g, 16, .inl f24))] (nz_Qi g [(o, .inr (8, [.int r0, .int r1, .ref a2, .ref a3, .ref a4, .ref a5, .ref a6, .ref a7, .int r8, .ref a9, .int r10, .int r11, .int r12, .int r13, .int r14, .int r15, .int r16, .int r17, .int r18, .ref a19, .ref a20, .ref a21, .ref a22, .ref a23, .ref a24, .int r25])), (a2, .inl (nz_cI g, 8, .inl f2)), (a3, .inl (nz_cI g, 8, .inl f3)), (a4, .inl (nz_cI g, 320, .inl f4)), (a5, .inl (nz_cI g, 94, .inl f5)), (a6, .inl (nz_cI g, 94, .inl f6)), (a7, .inl (nz_cI g, 168, .inl f7)), (a9, .inl (nz_cI g, 400, .inl f9)), (a19, .inl (nz_cI g, 6, .inl f19)), (a20, .inl (nz_cI g, 49, .inl f20)), (a21, .inl (nz_cI g, 6, .inl f21)), (a22, .inl (nz_cZ g, 2, .inl f22)), (a23, .inl (nz_cI g, 188, .inl f23)), (a24, .inl (nz_cI g, 16, .inl f24))] (fun r (u : Unit) => K r) (fun u => [(o, .inr (8, [.int r0, .int r1, .ref a2, .ref a3, .ref a4, .ref a5, .ref a6, .ref a7, .int r8, .ref a9, .int r10, .int r11, .int r12, .int r13, .int r14, .int r15, .int r16, .int r17, .int r18, .ref a19, .ref a20, .ref a21, .ref a22, .ref a23, .ref a24, .int r25])), (a2, .inl (nz_cI g, 8, .inl f2)), (a3, .inl (nz_cI g, 8, .inl f3)), (a4, .inl (nz_cI g, 320, .inl f4)), (a5, .inl (nz_cI g, 94, .inl f5)), (a6, .inl (nz_cI g, 94, .inl f6)), (a7, .inl (nz_cI g, 168, .inl f7)), (a9, .inl (nz_cI g, 400, .inl f9)), (a19, .inl (nz_cI g, 6, .inl f19)), (a20, .inl (nz_cI g, 49, .inl f20)), (a21, .inl (nz_cI g, 6, .inl f21)), (a22, .inl (nz_cZ g, 2, .inl f22)), (a23, .inl (nz_cI g, 188, .inl f23)), (a24, .inl (nz_cI g, 16, .inl f24))])) → nz_C y g k n ws pc ls st rest [(o, .inr (8, [.int r0, .int r1, .ref a2, .ref a3, .ref a4, .ref a5, .ref a6, .ref a7, .int r8, .ref a9, .int r10, .int r11, .int r12, .int r13, .int r14, .int r15, .int r16, .int r17, .int r18, .ref a19, .ref a20, .ref a21, .ref a22, .ref a23, .ref a24, .int r25])), (a2, .inl (nz_cI g, 8, .inl f2)), (a3, .inl (nz_cI g, 8, .inl f3)), (a4, .inl (nz_cI g, 320, .inl f4)), (a5, .inl (nz_cI g, 94, .inl f5)), (a6, .inl (nz_cI g, 94, .inl f6)), (a7, .inl (nz_cI g, 168, .inl f7)), (a9, .inl (nz_cI g, 400, .inl f9)), (a19, .inl (nz_cI g, 6, .inl f19)), (a20, .inl (nz_cI g, 49, .inl f20)), (a21, .inl (nz_cI g, 6, .inl f21)), (a22, .inl (nz_cZ g, 2, .inl f22)), (a23, .inl (nz_cI g, 188, .inl f23)), (a24, .inl (nz_cI g, 16, .inl f24))] (nz_Qi g [(o, .inr (8, [.int r0, .int r1, .ref a2, .ref a3, .ref a4, .ref a5, .ref a6, .ref a7, .int r8, .ref a9, .int r10, .int r11, .int r12, .int r13, .int r14, .int r15, .int r16, .int r17, .int r18, .ref a19, .ref a20, .ref a21, .ref a22, .ref a23, .ref a24, .int r25])), (a2, .inl (nz_cI g, 8, .inl f2)), (a3, .inl (nz_cI g, 8, .inl f3)), (a4, .inl (nz_cI g, 320, .inl f4)), (a5, .inl (nz_cI g, 94, .inl f5)), (a6, .inl (nz_cI g, 94, .inl f6)), (a7, .inl (nz_cI g, 168, .inl f7)), (a9, .inl (nz_cI g, 400, .inl f9)), (a19, .inl (nz_cI g, 6, .inl f19)), (a20, .inl (nz_cI g, 49, .inl f20)), (a21, .inl (nz_cI g, 6, .inl f21)), (a22, .inl (nz_cZ g, 2, .inl f22)), (a23, .inl (nz_cI g, 188, .inl f23)), (a24, .inl (nz_cI g, 16, .inl f24))] (fun r (u : Unit) => K r) (fun u => [(o, .inr (8, [.int r0, .int r1, .ref a2, .ref a3, .ref a4, .ref a5, .ref a6, .ref a7, .int r8, .ref a9, .int r10, .int r11, .int r12, .int r13, .int r14, .int r15, .int r16, .int r17, .int r18, .ref a19, .ref a20, .ref a21, .ref a22, .ref a23, .ref a24, .int r25])), (a2, .inl (nz_cI g, 8, .inl f2)), (a3, .inl (nz_cI g, 8, .inl f3)), (a4, .inl (nz_cI g, 320, .inl f4)), (a5, .inl (nz_cI g, 94, .inl f5)), (a6, .inl (nz_cI g, 94, .inl f6)), (a7, .inl (nz_cI g, 168, .inl f7)), (a9, .inl (nz_cI g, 400, .inl f9)), (a19, .inl (nz_cI g, 6, .inl f19)), (a20, .inl (nz_cI g, 49, .inl f20)), (a21, .inl (nz_cI g, 6, .inl f21)), (a22, .inl (nz_cZ g, 2, .inl f22)), (a23, .inl (nz_cI g, 188, .inl f23)), (a24, .inl (nz_cI g, 16, .inl f24))])) av isC) (h : wp_X8_bestBy f5 v1 K) (ws' : va_W) (hm : nz_mrg ws isC [(o, .inr (8, [.int r0, .int r1, .ref a2, .ref a3, .ref a4, .ref a5, .ref a6, .ref a7, .int r8, .ref a9, .int r10, .int r11, .int r12, .int r13, .int r14, .int r15, .int r16, .int r17, .int r18, .ref a19, .ref a20, .ref a21, .ref a22, .ref a23, .ref a24, .int r25])), (a2, .inl (nz_cI g, 8, .inl f2)), (a3, .inl (nz_cI g, 8, .inl f3)), (a4, .inl (nz_cI g, 320, .inl f4)), (a5, .inl (nz_cI g, 94, .inl f5)), (a6, .inl (nz_cI g, 94, .inl f6)), (a7, .inl (nz_cI g, 168, .inl f7)), (a9, .inl (nz_cI g, 400, .inl f9)), (a19, .inl (nz_cI g, 6, .inl f19)), (a20, .inl (nz_cI g, 49, .inl f20)), (a21, .inl (nz_cI g, 6, .inl f21)), (a22, .inl (nz_cZ g, 2, .inl f22)), (a23, .inl (nz_cI g, 188, .inl f23)), (a24, .inl (nz_cI g, 16, .inl f24))] = ws' ) (kk : ∀ (r : Int32), K r → nz_V y g k n ws' (pc + 3) ls (.int r :: rest)) : nz_V y g k n ws pc ls st :=
  nz_ci (ws' := fun _ => ws') (run (c_X8_bestBy (yz_l y) g o a2 a3 a4 a5 a6 a7 a9 a19 a20 a21 a22 a23 a24 r0 r1 r8 r10 r11 r12 r13 r14 r15 r16 r17 r18 r25 f2 f3 f4 f5 f6 f7 f9 f19 f20 f21 f22 f23 f24 v1 K h)) (fun _ => rfl) (fun _ => hm) (fun r u h => kk r h)
theorem dX8_isOf_0 : decode cX8_isOf 0 = .ok (.iload_n 1, 1) := by decide +kernel
theorem dX8_isOf_1 : decode cX8_isOf 1 = .ok (.ifCond .eq 28, 3) := by decide +kernel
theorem dX8_isOf_4 : decode cX8_isOf 4 = .ok (.iload_n 0, 1) := by decide +kernel
theorem dX8_isOf_5 : decode cX8_isOf 5 = .ok (.iload_n 1, 1) := by decide +kernel
theorem dX8_isOf_6 : decode cX8_isOf 6 = .ok (.if_icmp .eq 23, 3) := by decide +kernel
theorem dX8_isOf_9 : decode cX8_isOf 9 = .ok (.iload_n 1, 1) := by decide +kernel
theorem dX8_isOf_10 : decode cX8_isOf 10 = .ok (.iconst 1, 1) := by decide +kernel
theorem dX8_isOf_11 : decode cX8_isOf 11 = .ok (.if_icmp .ne 8, 3) := by decide +kernel
theorem dX8_isOf_14 : decode cX8_isOf 14 = .ok (.iload_n 0, 1) := by decide +kernel
theorem dX8_isOf_15 : decode cX8_isOf 15 = .ok (.iconst 4, 1) := by decide +kernel
theorem dX8_isOf_16 : decode cX8_isOf 16 = .ok (.if_icmp .lt 13, 3) := by decide +kernel
theorem dX8_isOf_19 : decode cX8_isOf 19 = .ok (.iload_n 1, 1) := by decide +kernel
theorem dX8_isOf_20 : decode cX8_isOf 20 = .ok (.iconst 4, 1) := by decide +kernel
theorem dX8_isOf_21 : decode cX8_isOf 21 = .ok (.if_icmp .ne 12, 3) := by decide +kernel
theorem dX8_isOf_24 : decode cX8_isOf 24 = .ok (.iload_n 0, 1) := by decide +kernel
theorem dX8_isOf_25 : decode cX8_isOf 25 = .ok (.iconst 5, 1) := by decide +kernel
theorem dX8_isOf_26 : decode cX8_isOf 26 = .ok (.if_icmp .ne 7, 3) := by decide +kernel
theorem dX8_isOf_29 : decode cX8_isOf 29 = .ok (.iconst 1, 1) := by decide +kernel
theorem dX8_isOf_30 : decode cX8_isOf 30 = .ok (.goto 4, 3) := by decide +kernel
theorem dX8_isOf_33 : decode cX8_isOf 33 = .ok (.iconst 0, 1) := by decide +kernel
theorem dX8_isOf_34 : decode cX8_isOf 34 = .ok (.ireturn, 1) := by decide +kernel
/-! X8_isOf -/
abbrev rm_X8_isOf : Room := { frames := 0, cells := 0, slots := 0, locals := 0 }
def wp_X8_isOf (v0 : Int32) (v1 : Int32) (K : Int32 → Prop) : Prop := ((v1 = 0 → K 1) ∧ (¬ (v1 = 0) → ((v0 = v1 → K 1) ∧ (¬ (v0 = v1) → ((¬ v1 = 1 → ((¬ v1 = 4 → K 0) ∧ (v1 = 4 → ((¬ v0 = 5 → K 0) ∧ (v0 = 5 → K 1))))) ∧ (v1 = 1 → ((v0 < 4 → K 1) ∧ (¬ (v0 < 4) → ((¬ v1 = 4 → K 0) ∧ (v1 = 4 → ((¬ v0 = 5 → K 0) ∧ (v0 = 5 → K 1))))))))))))
set_option maxHeartbeats 4000000 in
set_option maxRecDepth 100000 in
theorem c_X8_isOf (l : Launch) (g : nz_G) (v0 : Int32) (v1 : Int32) (K : Int32 → Prop) (h : wp_X8_isOf v0 v1 K) : nz_M l yX8_isOf wsX8_isOf rm_X8_isOf g [.int v0, .int v1] [] (nz_Qi g [] (fun r (u : Unit) => K r) (fun u => [])) := by
  refine nz_M.of (bytes := cX8_isOf) (nL := 2) (ret := (some .boolean)) (own := RX8) (by decide) rfl rfl ⟨rfl, rfl⟩ rfl ?_
  intro y F hl hQ
  obtain ⟨sz, hQ⟩ := hQ
  refine nz_ent (lv' := [(0, .int v0), (1, .int v1)]) rfl ?_
  unfold wp_X8_isOf at h
  refine nz_iload_n F dX8_isOf_0 rfl 1 rfl ?_
  refine nz_if_eq (tgt := 29) F dX8_isOf_1 (by decide) (fun c1 => ?_) (fun c1 => ?_)
  · have h := h.1 c1
    refine nz_iconst (v := 1) F dX8_isOf_29 (by decide) ?_
    refine nz_goto (tgt := 34) F dX8_isOf_30 (by decide) ?_
    exact nz_zret F hQ () h rfl (by decide) dX8_isOf_34
  · have h := h.2 c1
    refine nz_iload_n F dX8_isOf_4 rfl 0 rfl ?_
    refine nz_iload_n F dX8_isOf_5 rfl 1 rfl ?_
    refine nz_icmp_eq (tgt := 29) F dX8_isOf_6 (by decide) (fun c2 => ?_) (fun c2 => ?_)
    · have h := h.1 c2
      refine nz_iconst (v := 1) F dX8_isOf_29 (by decide) ?_
      refine nz_goto (tgt := 34) F dX8_isOf_30 (by decide) ?_
      exact nz_zret F hQ () h rfl (by decide) dX8_isOf_34
    · have h := h.2 c2
      refine nz_iload_n F dX8_isOf_9 rfl 1 rfl ?_
      refine nz_iconst (v := 1) F dX8_isOf_10 (by decide) ?_
      refine nz_icmp_ne (tgt := 19) F dX8_isOf_11 (by decide) (fun c3 => ?_) (fun c3 => ?_)
      · have h := h.1 c3
        refine nz_iload_n F dX8_isOf_19 rfl 1 rfl ?_
        refine nz_iconst (v := 4) F dX8_isOf_20 (by decide) ?_
        refine nz_icmp_ne (tgt := 33) F dX8_isOf_21 (by decide) (fun c4 => ?_) (fun c4 => ?_)
        · have h := h.1 c4
          refine nz_iconst (v := 0) F dX8_isOf_33 (by decide) ?_
          exact nz_zret F hQ () h rfl (by decide) dX8_isOf_34
        · have h := h.2 c4
          refine nz_iload_n F dX8_isOf_24 rfl 0 rfl ?_
          refine nz_iconst (v := 5) F dX8_isOf_25 (by decide) ?_
          refine nz_icmp_ne (tgt := 33) F dX8_isOf_26 (by decide) (fun c5 => ?_) (fun c5 => ?_)
          · have h := h.1 c5
            refine nz_iconst (v := 0) F dX8_isOf_33 (by decide) ?_
            exact nz_zret F hQ () h rfl (by decide) dX8_isOf_34
          · have h := h.2 c5
            refine nz_iconst (v := 1) F dX8_isOf_29 (by decide) ?_
            refine nz_goto (tgt := 34) F dX8_isOf_30 (by decide) ?_
            exact nz_zret F hQ () h rfl (by decide) dX8_isOf_34
      · have h := h.2 c3
        refine nz_iload_n F dX8_isOf_14 rfl 0 rfl ?_
        refine nz_iconst (v := 4) F dX8_isOf_15 (by decide) ?_
        refine nz_icmp_lt (tgt := 29) F dX8_isOf_16 (by decide) (fun c6 => ?_) (fun c6 => ?_)
        · have h := h.1 c6
          refine nz_iconst (v := 1) F dX8_isOf_29 (by decide) ?_
          refine nz_goto (tgt := 34) F dX8_isOf_30 (by decide) ?_
          exact nz_zret F hQ () h rfl (by decide) dX8_isOf_34
        · have h := h.2 c6
          refine nz_iload_n F dX8_isOf_19 rfl 1 rfl ?_
          refine nz_iconst (v := 4) F dX8_isOf_20 (by decide) ?_
          refine nz_icmp_ne (tgt := 33) F dX8_isOf_21 (by decide) (fun c7 => ?_) (fun c7 => ?_)
          · have h := h.1 c7
            refine nz_iconst (v := 0) F dX8_isOf_33 (by decide) ?_
            exact nz_zret F hQ () h rfl (by decide) dX8_isOf_34
          · have h := h.2 c7
            refine nz_iload_n F dX8_isOf_24 rfl 0 rfl ?_
            refine nz_iconst (v := 5) F dX8_isOf_25 (by decide) ?_
            refine nz_icmp_ne (tgt := 33) F dX8_isOf_26 (by decide) (fun c8 => ?_) (fun c8 => ?_)
            · have h := h.1 c8
              refine nz_iconst (v := 0) F dX8_isOf_33 (by decide) ?_
              exact nz_zret F hQ () h rfl (by decide) dX8_isOf_34
            · have h := h.2 c8
              refine nz_iconst (v := 1) F dX8_isOf_29 (by decide) ?_
              refine nz_goto (tgt := 34) F dX8_isOf_30 (by decide) ?_
              exact nz_zret F hQ () h rfl (by decide) dX8_isOf_34
theorem k_X8_isOf {y : nz_Y} {g : nz_G} {k n : Nat} {ws : va_W} {pc : Nat} {ls : List (Nat × Value)} {st rest : List Value} {av : Array Value} {isC : List Nat} {K : Int32 → Prop} (v0 : Int32) (v1 : Int32) (run : nz_M (yz_l y) yX8_isOf wsX8_isOf rm_X8_isOf g [.int v0, .int v1] [] (nz_Qi g [] (fun r (u : Unit) => K r) (fun u => [])) → nz_C y g k n ws pc ls st rest [] (nz_Qi g [] (fun r (u : Unit) => K r) (fun u => [])) av isC) (h : wp_X8_isOf v0 v1 K) (ws' : va_W) (hm : nz_mrg ws isC [] = ws' ) (kk : ∀ (r : Int32), K r → nz_V y g k n ws' (pc + 3) ls (.int r :: rest)) : nz_V y g k n ws pc ls st :=
  nz_ci (ws' := fun _ => ws') (run (c_X8_isOf (yz_l y) g v0 v1 K h)) (fun _ => rfl) (fun _ => hm) (fun r u h => kk r h)
theorem dX8_began_0 : decode cX8_began 0 = .ok (.aload_n 0, 1) := by decide +kernel
theorem dX8_began_1 : decode cX8_began 1 = .ok (.getfield 263, 3) := by decide +kernel
theorem dX8_began_4 : decode cX8_began 4 = .ok (.bipush 16, 2) := by decide +kernel
theorem dX8_began_6 : decode cX8_began 6 = .ok (.if_icmp .ge 23, 3) := by decide +kernel
theorem dX8_began_9 : decode cX8_began 9 = .ok (.aload_n 0, 1) := by decide +kernel
theorem dX8_began_10 : decode cX8_began 10 = .ok (.getfield 47, 3) := by decide +kernel
theorem dX8_began_13 : decode cX8_began 13 = .ok (.aload_n 0, 1) := by decide +kernel
theorem dX8_began_14 : decode cX8_began 14 = .ok (.getfield 263, 3) := by decide +kernel
theorem dX8_began_17 : decode cX8_began 17 = .ok (.iload_n 1, 1) := by decide +kernel
theorem dX8_began_18 : decode cX8_began 18 = .ok (.iastore, 1) := by decide +kernel
theorem dX8_began_19 : decode cX8_began 19 = .ok (.aload_n 0, 1) := by decide +kernel
theorem dX8_began_20 : decode cX8_began 20 = .ok (.dup, 1) := by decide +kernel
theorem dX8_began_21 : decode cX8_began 21 = .ok (.getfield 263, 3) := by decide +kernel
theorem dX8_began_24 : decode cX8_began 24 = .ok (.iconst 1, 1) := by decide +kernel
theorem dX8_began_25 : decode cX8_began 25 = .ok (.iadd, 1) := by decide +kernel
theorem dX8_began_26 : decode cX8_began 26 = .ok (.putfield 263, 3) := by decide +kernel
theorem dX8_began_29 : decode cX8_began 29 = .ok (.return_, 1) := by decide +kernel
/-! X8_began -/
abbrev rm_X8_began : Room := { frames := 0, cells := 0, slots := 0, locals := 0 }
theorem iw_X8_began_8 : ∀ w ∈ wsX80, w ∈ wsX8_began := fun _ h => List.mem_cons_of_mem _ (List.mem_append_right _ h)
theorem fl_X8_began_263 : Cond.fieldLink RX8 263 "NightStonesModel" "traced" "I" ∈ wsX8_began := List.mem_of_getElem? (i := 1) rfl
theorem fl_X8_began_47 : Cond.fieldLink RX8 47 "NightStonesModel" "trace" "[I" ∈ wsX8_began := List.mem_of_getElem? (i := 2) rfl
def wp_X8_began (r25 : Int32) (f24 : Nat → Int32) (v1 : Int32) (K : Int32 → (Nat → Int32) → Prop) : Prop := ((16 ≤ r25 → K r25 f24) ∧ (¬ (16 ≤ r25) → (vp_in r25 16 ∧ K (r25 + 1) (upd f24 r25.toNatClampNeg v1))))
set_option maxHeartbeats 4000000 in
set_option maxRecDepth 100000 in
theorem c_X8_began (l : Launch) (g : nz_G) (o : Nat) (a2 : Nat) (a3 : Nat) (a4 : Nat) (a5 : Nat) (a6 : Nat) (a7 : Nat) (a9 : Nat) (a19 : Nat) (a20 : Nat) (a21 : Nat) (a22 : Nat) (a23 : Nat) (a24 : Nat) (r0 : Int32) (r1 : Int32) (r8 : Int32) (r10 : Int32) (r11 : Int32) (r12 : Int32) (r13 : Int32) (r14 : Int32) (r15 : Int32) (r16 : Int32) (r17 : Int32) (r18 : Int32) (r25 : Int32) (f2 : Nat → Int32) (f3 : Nat → Int32) (f4 : Nat → Int32) (f5 : Nat → Int32) (f6 : Nat → Int32) (f7 : Nat → Int32) (f9 : Nat → Int32) (f19 : Nat → Int32) (f20 : Nat → Int32) (f21 : Nat → Int32) (f22 : Nat → Int32) (f23 : Nat → Int32) (f24 : Nat → Int32) (v1 : Int32) (K : Int32 → (Nat → Int32) → Prop) (h : wp_X8_began r25 f24 v1 K) : nz_M l yX8_began wsX8_began rm_X8_began g [.ref o, .int v1] [(o, .inr (8, [.int r0, .int r1, .ref a2, .ref a3, .ref a4, .ref a5, .ref a6, .ref a7, .int r8, .ref a9, .int r10, .int r11, .int r12, .int r13, .int r14, .int r15, .int r16, .int r17, .int r18, .ref a19, .ref a20, .ref a21, .ref a22, .ref a23, .ref a24, .int r25])), (a2, .inl (nz_cI g, 8, .inl f2)), (a3, .inl (nz_cI g, 8, .inl f3)), (a4, .inl (nz_cI g, 320, .inl f4)), (a5, .inl (nz_cI g, 94, .inl f5)), (a6, .inl (nz_cI g, 94, .inl f6)), (a7, .inl (nz_cI g, 168, .inl f7)), (a9, .inl (nz_cI g, 400, .inl f9)), (a19, .inl (nz_cI g, 6, .inl f19)), (a20, .inl (nz_cI g, 49, .inl f20)), (a21, .inl (nz_cI g, 6, .inl f21)), (a22, .inl (nz_cZ g, 2, .inl f22)), (a23, .inl (nz_cI g, 188, .inl f23)), (a24, .inl (nz_cI g, 16, .inl f24))] (nz_Qv g [(o, .inr (8, [.int r0, .int r1, .ref a2, .ref a3, .ref a4, .ref a5, .ref a6, .ref a7, .int r8, .ref a9, .int r10, .int r11, .int r12, .int r13, .int r14, .int r15, .int r16, .int r17, .int r18, .ref a19, .ref a20, .ref a21, .ref a22, .ref a23, .ref a24, .int r25])), (a2, .inl (nz_cI g, 8, .inl f2)), (a3, .inl (nz_cI g, 8, .inl f3)), (a4, .inl (nz_cI g, 320, .inl f4)), (a5, .inl (nz_cI g, 94, .inl f5)), (a6, .inl (nz_cI g, 94, .inl f6)), (a7, .inl (nz_cI g, 168, .inl f7)), (a9, .inl (nz_cI g, 400, .inl f9)), (a19, .inl (nz_cI g, 6, .inl f19)), (a20, .inl (nz_cI g, 49, .inl f20)), (a21, .inl (nz_cI g, 6, .inl f21)), (a22, .inl (nz_cZ g, 2, .inl f22)), (a23, .inl (nz_cI g, 188, .inl f23)), (a24, .inl (nz_cI g, 16, .inl f24))] (fun (u : Int32 × (Nat → Int32)) => K u.1 u.2) (fun u => [(o, .inr (8, [.int r0, .int r1, .ref a2, .ref a3, .ref a4, .ref a5, .ref a6, .ref a7, .int r8, .ref a9, .int r10, .int r11, .int r12, .int r13, .int r14, .int r15, .int r16, .int r17, .int r18, .ref a19, .ref a20, .ref a21, .ref a22, .ref a23, .ref a24, .int u.1])), (a2, .inl (nz_cI g, 8, .inl f2)), (a3, .inl (nz_cI g, 8, .inl f3)), (a4, .inl (nz_cI g, 320, .inl f4)), (a5, .inl (nz_cI g, 94, .inl f5)), (a6, .inl (nz_cI g, 94, .inl f6)), (a7, .inl (nz_cI g, 168, .inl f7)), (a9, .inl (nz_cI g, 400, .inl f9)), (a19, .inl (nz_cI g, 6, .inl f19)), (a20, .inl (nz_cI g, 49, .inl f20)), (a21, .inl (nz_cI g, 6, .inl f21)), (a22, .inl (nz_cZ g, 2, .inl f22)), (a23, .inl (nz_cI g, 188, .inl f23)), (a24, .inl (nz_cI g, 16, .inl u.2))])) := by
  refine nz_M.of (bytes := cX8_began) (nL := 2) (ret := none) (own := RX8) (by decide) rfl rfl ⟨rfl, rfl⟩ rfl ?_
  intro y F hl hQ
  obtain ⟨sz, hQ⟩ := hQ
  refine nz_ent (lv' := [(0, .ref o), (1, .int v1)]) rfl ?_
  unfold wp_X8_began at h
  refine nz_aload_n F dX8_began_0 rfl 0 rfl ?_
  refine nz_get F iw_X8_began_8 0 rfl rfl 25 (by decide) rfl fl_X8_began_263 rfl dX8_began_1 ?_
  refine nz_bipush (v := 16) F dX8_began_4 (by decide) ?_
  refine nz_icmp_ge (tgt := 29) F dX8_began_6 (by decide) (fun c1 => ?_) (fun c1 => ?_)
  · have h := h.1 c1
    exact nz_vret F hQ (r25, f24) h rfl dX8_began_29
  · have h := h.2 c1
    refine nz_aload_n F dX8_began_9 rfl 0 rfl ?_
    refine nz_get F iw_X8_began_8 0 rfl rfl 24 (by decide) rfl fl_X8_began_47 rfl dX8_began_10 ?_
    refine nz_aload_n F dX8_began_13 rfl 0 rfl ?_
    refine nz_get F iw_X8_began_8 0 rfl rfl 25 (by decide) rfl fl_X8_began_263 rfl dX8_began_14 ?_
    refine nz_iload_n F dX8_began_17 rfl 1 rfl ?_
    obtain ⟨i2, h⟩ := h
    refine nz_iast (ws' := [(o, .inr (8, [.int r0, .int r1, .ref a2, .ref a3, .ref a4, .ref a5, .ref a6, .ref a7, .int r8, .ref a9, .int r10, .int r11, .int r12, .int r13, .int r14, .int r15, .int r16, .int r17, .int r18, .ref a19, .ref a20, .ref a21, .ref a22, .ref a23, .ref a24, .int r25])), (a2, .inl (nz_cI g, 8, .inl f2)), (a3, .inl (nz_cI g, 8, .inl f3)), (a4, .inl (nz_cI g, 320, .inl f4)), (a5, .inl (nz_cI g, 94, .inl f5)), (a6, .inl (nz_cI g, 94, .inl f6)), (a7, .inl (nz_cI g, 168, .inl f7)), (a9, .inl (nz_cI g, 400, .inl f9)), (a19, .inl (nz_cI g, 6, .inl f19)), (a20, .inl (nz_cI g, 49, .inl f20)), (a21, .inl (nz_cI g, 6, .inl f21)), (a22, .inl (nz_cZ g, 2, .inl f22)), (a23, .inl (nz_cI g, 188, .inl f23)), (a24, .inl (nz_cI g, 16, .inl (upd f24 r25.toNatClampNeg v1)))]) F 13 rfl i2 dX8_began_18 rfl ?_
    refine nz_aload_n F dX8_began_19 rfl 0 rfl ?_
    refine nz_dup F dX8_began_20 rfl ?_
    refine nz_get F iw_X8_began_8 0 rfl rfl 25 (by decide) rfl fl_X8_began_263 rfl dX8_began_21 ?_
    refine nz_iconst (v := 1) F dX8_began_24 (by decide) ?_
    refine nz_iadd F dX8_began_25 ?_
    refine nz_put (ws' := [(o, .inr (8, [.int r0, .int r1, .ref a2, .ref a3, .ref a4, .ref a5, .ref a6, .ref a7, .int r8, .ref a9, .int r10, .int r11, .int r12, .int r13, .int r14, .int r15, .int r16, .int r17, .int r18, .ref a19, .ref a20, .ref a21, .ref a22, .ref a23, .ref a24, .int (r25 + 1)])), (a2, .inl (nz_cI g, 8, .inl f2)), (a3, .inl (nz_cI g, 8, .inl f3)), (a4, .inl (nz_cI g, 320, .inl f4)), (a5, .inl (nz_cI g, 94, .inl f5)), (a6, .inl (nz_cI g, 94, .inl f6)), (a7, .inl (nz_cI g, 168, .inl f7)), (a9, .inl (nz_cI g, 400, .inl f9)), (a19, .inl (nz_cI g, 6, .inl f19)), (a20, .inl (nz_cI g, 49, .inl f20)), (a21, .inl (nz_cI g, 6, .inl f21)), (a22, .inl (nz_cZ g, 2, .inl f22)), (a23, .inl (nz_cI g, 188, .inl f23)), (a24, .inl (nz_cI g, 16, .inl (upd f24 r25.toNatClampNeg v1)))]) F iw_X8_began_8 tyX8 tyX8_ok nmX8 0 rfl rfl 25 (by decide) rfl fl_X8_began_263 rfl rfl (Nat.le_of_ble_eq_true rfl) dX8_began_26 rfl ?_
    exact nz_vret F hQ ((r25 + 1), (upd f24 r25.toNatClampNeg v1)) h rfl dX8_began_29
theorem k_X8_began {y : nz_Y} {g : nz_G} {k n : Nat} {ws : va_W} {pc : Nat} {ls : List (Nat × Value)} {st rest : List Value} {av : Array Value} {isC : List Nat} {K : Int32 → (Nat → Int32) → Prop} (o : Nat) (a2 : Nat) (a3 : Nat) (a4 : Nat) (a5 : Nat) (a6 : Nat) (a7 : Nat) (a9 : Nat) (a19 : Nat) (a20 : Nat) (a21 : Nat) (a22 : Nat) (a23 : Nat) (a24 : Nat) (r0 : Int32) (r1 : Int32) (r8 : Int32) (r10 : Int32) (r11 : Int32) (r12 : Int32) (r13 : Int32) (r14 : Int32) (r15 : Int32) (r16 : Int32) (r17 : Int32) (r18 : Int32) (r25 : Int32) (f2 : Nat → Int32) (f3 : Nat → Int32) (f4 : Nat → Int32) (f5 : Nat → Int32) (f6 : Nat → Int32) (f7 : Nat → Int32) (f9 : Nat → Int32) (f19 : Nat → Int32) (f20 : Nat → Int32) (f21 : Nat → Int32) (f22 : Nat → Int32) (f23 : Nat → Int32) (f24 : Nat → Int32) (v1 : Int32) (run : nz_M (yz_l y) yX8_began wsX8_began rm_X8_began g [.ref o, .int v1] [(o, .inr (8, [.int r0, .int r1, .ref a2, .ref a3, .ref a4, .ref a5, .ref a6, .ref a7, .int r8, .ref a9, .int r10, .int r11, .int r12, .int r13, .int r14, .int r15, .int r16, .int r17, .int r18, .ref a19, .ref a20, .ref a21, .ref a22, .ref a23, .ref a24, .int r25])), (a2, .inl (nz_cI g, 8, .inl f2)), (a3, .inl (nz_cI g, 8, .inl f3)), (a4, .inl (nz_cI g, 320, .inl f4)), (a5, .inl (nz_cI g, 94, .inl f5)), (a6, .inl (nz_cI g, 94, .inl f6)), (a7, .inl (nz_cI g, 168, .inl f7)), (a9, .inl (nz_cI g, 400, .inl f9)), (a19, .inl (nz_cI g, 6, .inl f19)), (a20, .inl (nz_cI g, 49, .inl f20)), (a21, .inl (nz_cI g, 6, .inl f21)), (a22, .inl (nz_cZ g, 2, .inl f22)), (a23, .inl (nz_cI g, 188, .inl f23)), (a24, .inl (nz_cI g, 16, .inl f24))] (nz_Qv g [(o, .inr (8, [.int r0, .int r1, .ref a2, .ref a3, .ref a4, .ref a5, .ref a6, .ref a7, .int r8, .ref a9, .int r10, .int r11, .int r12, .int r13, .int r14, .int r15, .int r16, .int r17, .int r18, .ref a19, .ref a20, .ref a21, .ref a22, .ref a23, .ref a24, .int r25])), (a2, .inl (nz_cI g, 8, .inl f2)), (a3, .inl (nz_cI g, 8, .inl f3)), (a4, .inl (nz_cI g, 320, .inl f4)), (a5, .inl (nz_cI g, 94, .inl f5)), (a6, .inl (nz_cI g, 94, .inl f6)), (a7, .inl (nz_cI g, 168, .inl f7)), (a9, .inl (nz_cI g, 400, .inl f9)), (a19, .inl (nz_cI g, 6, .inl f19)), (a20, .inl (nz_cI g, 49, .inl f20)), (a21, .inl (nz_cI g, 6, .inl f21)), (a22, .inl (nz_cZ g, 2, .inl f22)), (a23, .inl (nz_cI g, 188, .inl f23)), (a24, .inl (nz_cI g, 16, .inl f24))] (fun (u : Int32 × (Nat → Int32)) => K u.1 u.2) (fun u => [(o, .inr (8, [.int r0, .int r1, .ref a2, .ref a3, .ref a4, .ref a5, .ref a6, .ref a7, .int r8, .ref a9, .int r10, .int r11, .int r12, .int r13, .int r14, .int r15, .int r16, .int r17, .int r18, .ref a19, .ref a20, .ref a21, .ref a22, .ref a23, .ref a24, .int u.1])), (a2, .inl (nz_cI g, 8, .inl f2)), (a3, .inl (nz_cI g, 8, .inl f3)), (a4, .inl (nz_cI g, 320, .inl f4)), (a5, .inl (nz_cI g, 94, .inl f5)), (a6, .inl (nz_cI g, 94, .inl f6)), (a7, .inl (nz_cI g, 168, .inl f7)), (a9, .inl (nz_cI g, 400, .inl f9)), (a19, .inl (nz_cI g, 6, .inl f19)), (a20, .inl (nz_cI g, 49, .inl f20)), (a21, .inl (nz_cI g, 6, .inl f21)), (a22, .inl (nz_cZ g, 2, .inl f22)), (a23, .inl (nz_cI g, 188, .inl f23)), (a24, .inl (nz_cI g, 16, .inl u.2))])) → nz_C y g k n ws pc ls st rest [(o, .inr (8, [.int r0, .int r1, .ref a2, .ref a3, .ref a4, .ref a5, .ref a6, .ref a7, .int r8, .ref a9, .int r10, .int r11, .int r12, .int r13, .int r14, .int r15, .int r16, .int r17, .int r18, .ref a19, .ref a20, .ref a21, .ref a22, .ref a23, .ref a24, .int r25])), (a2, .inl (nz_cI g, 8, .inl f2)), (a3, .inl (nz_cI g, 8, .inl f3)), (a4, .inl (nz_cI g, 320, .inl f4)), (a5, .inl (nz_cI g, 94, .inl f5)), (a6, .inl (nz_cI g, 94, .inl f6)), (a7, .inl (nz_cI g, 168, .inl f7)), (a9, .inl (nz_cI g, 400, .inl f9)), (a19, .inl (nz_cI g, 6, .inl f19)), (a20, .inl (nz_cI g, 49, .inl f20)), (a21, .inl (nz_cI g, 6, .inl f21)), (a22, .inl (nz_cZ g, 2, .inl f22)), (a23, .inl (nz_cI g, 188, .inl f23)), (a24, .inl (nz_cI g, 16, .inl f24))] (nz_Qv g [(o, .inr (8, [.int r0, .int r1, .ref a2, .ref a3, .ref a4, .ref a5, .ref a6, .ref a7, .int r8, .ref a9, .int r10, .int r11, .int r12, .int r13, .int r14, .int r15, .int r16, .int r17, .int r18, .ref a19, .ref a20, .ref a21, .ref a22, .ref a23, .ref a24, .int r25])), (a2, .inl (nz_cI g, 8, .inl f2)), (a3, .inl (nz_cI g, 8, .inl f3)), (a4, .inl (nz_cI g, 320, .inl f4)), (a5, .inl (nz_cI g, 94, .inl f5)), (a6, .inl (nz_cI g, 94, .inl f6)), (a7, .inl (nz_cI g, 168, .inl f7)), (a9, .inl (nz_cI g, 400, .inl f9)), (a19, .inl (nz_cI g, 6, .inl f19)), (a20, .inl (nz_cI g, 49, .inl f20)), (a21, .inl (nz_cI g, 6, .inl f21)), (a22, .inl (nz_cZ g, 2, .inl f22)), (a23, .inl (nz_cI g, 188, .inl f23)), (a24, .inl (nz_cI g, 16, .inl f24))] (fun (u : Int32 × (Nat → Int32)) => K u.1 u.2) (fun u => [(o, .inr (8, [.int r0, .int r1, .ref a2, .ref a3, .ref a4, .ref a5, .ref a6, .ref a7, .int r8, .ref a9, .int r10, .int r11, .int r12, .int r13, .int r14, .int r15, .int r16, .int r17, .int r18, .ref a19, .ref a20, .ref a21, .ref a22, .ref a23, .ref a24, .int u.1])), (a2, .inl (nz_cI g, 8, .inl f2)), (a3, .inl (nz_cI g, 8, .inl f3)), (a4, .inl (nz_cI g, 320, .inl f4)), (a5, .inl (nz_cI g, 94, .inl f5)), (a6, .inl (nz_cI g, 94, .inl f6)), (a7, .inl (nz_cI g, 168, .inl f7)), (a9, .inl (nz_cI g, 400, .inl f9)), (a19, .inl (nz_cI g, 6, .inl f19)), (a20, .inl (nz_cI g, 49, .inl f20)), (a21, .inl (nz_cI g, 6, .inl f21)), (a22, .inl (nz_cZ g, 2, .inl f22)), (a23, .inl (nz_cI g, 188, .inl f23)), (a24, .inl (nz_cI g, 16, .inl u.2))])) av isC) (h : wp_X8_began r25 f24 v1 K) (ws' : Int32 → (Nat → Int32) → va_W) (hm : ∀ (m0 : Int32) (m1 : (Nat → Int32)), nz_mrg ws isC [(o, .inr (8, [.int r0, .int r1, .ref a2, .ref a3, .ref a4, .ref a5, .ref a6, .ref a7, .int r8, .ref a9, .int r10, .int r11, .int r12, .int r13, .int r14, .int r15, .int r16, .int r17, .int r18, .ref a19, .ref a20, .ref a21, .ref a22, .ref a23, .ref a24, .int m0])), (a2, .inl (nz_cI g, 8, .inl f2)), (a3, .inl (nz_cI g, 8, .inl f3)), (a4, .inl (nz_cI g, 320, .inl f4)), (a5, .inl (nz_cI g, 94, .inl f5)), (a6, .inl (nz_cI g, 94, .inl f6)), (a7, .inl (nz_cI g, 168, .inl f7)), (a9, .inl (nz_cI g, 400, .inl f9)), (a19, .inl (nz_cI g, 6, .inl f19)), (a20, .inl (nz_cI g, 49, .inl f20)), (a21, .inl (nz_cI g, 6, .inl f21)), (a22, .inl (nz_cZ g, 2, .inl f22)), (a23, .inl (nz_cI g, 188, .inl f23)), (a24, .inl (nz_cI g, 16, .inl m1))] = ws' m0 m1) (kk : ∀ (m0 : Int32) (m1 : (Nat → Int32)), K m0 m1 → nz_V y g k n (ws' m0 m1) (pc + 3) ls (rest)) : nz_V y g k n ws pc ls st :=
  nz_cv (ws' := fun u => ws' u.1 u.2) (run (c_X8_began (yz_l y) g o a2 a3 a4 a5 a6 a7 a9 a19 a20 a21 a22 a23 a24 r0 r1 r8 r10 r11 r12 r13 r14 r15 r16 r17 r18 r25 f2 f3 f4 f5 f6 f7 f9 f19 f20 f21 f22 f23 f24 v1 K h)) (fun _ => rfl) (fun u => hm u.1 u.2) (fun u h => kk u.1 u.2 h)
theorem dX8_plainSize_0 : decode cX8_plainSize 0 = .ok (.aload_n 0, 1) := by decide +kernel
theorem dX8_plainSize_1 : decode cX8_plainSize 1 = .ok (.bipush 10, 2) := by decide +kernel
theorem dX8_plainSize_3 : decode cX8_plainSize 3 = .ok (.invokevirtual 266, 3) := by decide +kernel
theorem dX8_plainSize_6 : decode cX8_plainSize 6 = .ok (.aload_n 0, 1) := by decide +kernel
theorem dX8_plainSize_7 : decode cX8_plainSize 7 = .ok (.iload_n 1, 1) := by decide +kernel
theorem dX8_plainSize_8 : decode cX8_plainSize 8 = .ok (.iconst 3, 1) := by decide +kernel
theorem dX8_plainSize_9 : decode cX8_plainSize 9 = .ok (.invokevirtual 183, 3) := by decide +kernel
theorem dX8_plainSize_12 : decode cX8_plainSize 12 = .ok (.ireturn, 1) := by decide +kernel
set_option maxRecDepth 20000 in
theorem ggX8_plainSize_X8_began : GoodIn wsX8_plainSize wsX8_began := goodIn_r _ [5, 6, 7, 13, 14, 15, 16, 17, 18, 19, 20, 21, 22, 23, 24, 25, 26, 27, 28, 29, 30, 31, 32, 33, 34, 35, 36, 37, 38] rfl (by decide +kernel)
set_option maxRecDepth 20000 in
theorem gX8_plainSize_X8_began : GoodIn wsX8_plainSize (wsV RX8 266 RX8 yX8_began wsX8_began) := goodIn_app (goodIn_r _ [1, 2, 3, 4] rfl (by decide +kernel)) ggX8_plainSize_X8_began
set_option maxRecDepth 20000 in
theorem ggX8_plainSize_X8_of : GoodIn wsX8_plainSize wsX8_of := goodIn_r _ [11, 12, 13, 14, 15, 16, 17, 18, 19, 20, 21, 22, 23, 24, 25, 26, 27, 28, 29, 30, 31, 32, 33, 34, 35, 36, 37, 38] rfl (by decide +kernel)
set_option maxRecDepth 20000 in
theorem gX8_plainSize_X8_of : GoodIn wsX8_plainSize (wsV RX8 183 RX8 yX8_of wsX8_of) := goodIn_app (goodIn_r _ [8, 9, 10, 4] rfl (by decide +kernel)) ggX8_plainSize_X8_of
theorem hd_X8_began : yX8_began.cls = RX8 ∧ yX8_began.cls ≠ "java/lang/invoke/MethodHandle" ∧ yX8_began.cls ≠ "java/lang/invoke/VarHandle" ∧ (parseMethodDescriptor yX8_began.desc).map (fun d => d.parameters.length) = some 1 := by decide +kernel
/-! X8_plainSize -/
abbrev rm_X8_plainSize : Room := { frames := 1, cells := 0, slots := 0, locals := 22 }
def wp_X8_plainSize (r25 : Int32) (f5 : Nat → Int32) (f24 : Nat → Int32) (v1 : Int32) (K : Int32 → Int32 → (Nat → Int32) → Prop) : Prop := wp_X8_began r25 f24 10 (fun m1 m2 => wp_X8_of f5 v1 3 (fun q3 => K q3 m1 m2))
set_option maxHeartbeats 4000000 in
set_option maxRecDepth 100000 in
theorem c_X8_plainSize (l : Launch) (g : nz_G) (o : Nat) (a2 : Nat) (a3 : Nat) (a4 : Nat) (a5 : Nat) (a6 : Nat) (a7 : Nat) (a9 : Nat) (a19 : Nat) (a20 : Nat) (a21 : Nat) (a22 : Nat) (a23 : Nat) (a24 : Nat) (r0 : Int32) (r1 : Int32) (r8 : Int32) (r10 : Int32) (r11 : Int32) (r12 : Int32) (r13 : Int32) (r14 : Int32) (r15 : Int32) (r16 : Int32) (r17 : Int32) (r18 : Int32) (r25 : Int32) (f2 : Nat → Int32) (f3 : Nat → Int32) (f4 : Nat → Int32) (f5 : Nat → Int32) (f6 : Nat → Int32) (f7 : Nat → Int32) (f9 : Nat → Int32) (f19 : Nat → Int32) (f20 : Nat → Int32) (f21 : Nat → Int32) (f22 : Nat → Int32) (f23 : Nat → Int32) (f24 : Nat → Int32) (v1 : Int32) (K : Int32 → Int32 → (Nat → Int32) → Prop) (h : wp_X8_plainSize r25 f5 f24 v1 K) : nz_M l yX8_plainSize wsX8_plainSize rm_X8_plainSize g [.ref o, .int v1] [(o, .inr (8, [.int r0, .int r1, .ref a2, .ref a3, .ref a4, .ref a5, .ref a6, .ref a7, .int r8, .ref a9, .int r10, .int r11, .int r12, .int r13, .int r14, .int r15, .int r16, .int r17, .int r18, .ref a19, .ref a20, .ref a21, .ref a22, .ref a23, .ref a24, .int r25])), (a2, .inl (nz_cI g, 8, .inl f2)), (a3, .inl (nz_cI g, 8, .inl f3)), (a4, .inl (nz_cI g, 320, .inl f4)), (a5, .inl (nz_cI g, 94, .inl f5)), (a6, .inl (nz_cI g, 94, .inl f6)), (a7, .inl (nz_cI g, 168, .inl f7)), (a9, .inl (nz_cI g, 400, .inl f9)), (a19, .inl (nz_cI g, 6, .inl f19)), (a20, .inl (nz_cI g, 49, .inl f20)), (a21, .inl (nz_cI g, 6, .inl f21)), (a22, .inl (nz_cZ g, 2, .inl f22)), (a23, .inl (nz_cI g, 188, .inl f23)), (a24, .inl (nz_cI g, 16, .inl f24))] (nz_Qi g [(o, .inr (8, [.int r0, .int r1, .ref a2, .ref a3, .ref a4, .ref a5, .ref a6, .ref a7, .int r8, .ref a9, .int r10, .int r11, .int r12, .int r13, .int r14, .int r15, .int r16, .int r17, .int r18, .ref a19, .ref a20, .ref a21, .ref a22, .ref a23, .ref a24, .int r25])), (a2, .inl (nz_cI g, 8, .inl f2)), (a3, .inl (nz_cI g, 8, .inl f3)), (a4, .inl (nz_cI g, 320, .inl f4)), (a5, .inl (nz_cI g, 94, .inl f5)), (a6, .inl (nz_cI g, 94, .inl f6)), (a7, .inl (nz_cI g, 168, .inl f7)), (a9, .inl (nz_cI g, 400, .inl f9)), (a19, .inl (nz_cI g, 6, .inl f19)), (a20, .inl (nz_cI g, 49, .inl f20)), (a21, .inl (nz_cI g, 6, .inl f21)), (a22, .inl (nz_cZ g, 2, .inl f22)), (a23, .inl (nz_cI g, 188, .inl f23)), (a24, .inl (nz_cI g, 16, .inl f24))] (fun r (u : Int32 × (Nat → Int32)) => K r u.1 u.2) (fun u => [(o, .inr (8, [.int r0, .int r1, .ref a2, .ref a3, .ref a4, .ref a5, .ref a6, .ref a7, .int r8, .ref a9, .int r10, .int r11, .int r12, .int r13, .int r14, .int r15, .int r16, .int r17, .int r18, .ref a19, .ref a20, .ref a21, .ref a22, .ref a23, .ref a24, .int u.1])), (a2, .inl (nz_cI g, 8, .inl f2)), (a3, .inl (nz_cI g, 8, .inl f3)), (a4, .inl (nz_cI g, 320, .inl f4)), (a5, .inl (nz_cI g, 94, .inl f5)), (a6, .inl (nz_cI g, 94, .inl f6)), (a7, .inl (nz_cI g, 168, .inl f7)), (a9, .inl (nz_cI g, 400, .inl f9)), (a19, .inl (nz_cI g, 6, .inl f19)), (a20, .inl (nz_cI g, 49, .inl f20)), (a21, .inl (nz_cI g, 6, .inl f21)), (a22, .inl (nz_cZ g, 2, .inl f22)), (a23, .inl (nz_cI g, 188, .inl f23)), (a24, .inl (nz_cI g, 16, .inl u.2))])) := by
  refine nz_M.of (bytes := cX8_plainSize) (nL := 2) (ret := (some .int)) (own := RX8) (by decide) rfl rfl ⟨rfl, rfl⟩ rfl ?_
  intro y F hl hQ
  obtain ⟨sz, hQ⟩ := hQ
  refine nz_ent (lv' := [(0, .ref o), (1, .int v1)]) rfl ?_
  unfold wp_X8_plainSize at h
  refine nz_aload_n F dX8_plainSize_0 rfl 0 rfl ?_
  refine nz_bipush (v := 10) F dX8_plainSize_1 (by decide) ?_
  refine k_X8_began o a2 a3 a4 a5 a6 a7 a9 a19 a20 a21 a22 a23 a24 r0 r1 r8 r10 r11 r12 r13 r14 r15 r16 r17 r18 r25 f2 f3 f4 f5 f6 f7 f9 f19 f20 f21 f22 f23 f24 10 (fun hM => nz_runV F gX8_plainSize_X8_began rfl hd_X8_began rfl hM dX8_plainSize_3 [0, 1, 2, 3, 4, 5, 6, 7, 8, 9, 10, 11, 12, 13] rfl rfl 0 rfl rfl rfl (Nat.le_of_ble_eq_true rfl) rfl) h (fun m1 m2 => [(o, .inr (8, [.int r0, .int r1, .ref a2, .ref a3, .ref a4, .ref a5, .ref a6, .ref a7, .int r8, .ref a9, .int r10, .int r11, .int r12, .int r13, .int r14, .int r15, .int r16, .int r17, .int r18, .ref a19, .ref a20, .ref a21, .ref a22, .ref a23, .ref a24, .int m1])), (a2, .inl (nz_cI g, 8, .inl f2)), (a3, .inl (nz_cI g, 8, .inl f3)), (a4, .inl (nz_cI g, 320, .inl f4)), (a5, .inl (nz_cI g, 94, .inl f5)), (a6, .inl (nz_cI g, 94, .inl f6)), (a7, .inl (nz_cI g, 168, .inl f7)), (a9, .inl (nz_cI g, 400, .inl f9)), (a19, .inl (nz_cI g, 6, .inl f19)), (a20, .inl (nz_cI g, 49, .inl f20)), (a21, .inl (nz_cI g, 6, .inl f21)), (a22, .inl (nz_cZ g, 2, .inl f22)), (a23, .inl (nz_cI g, 188, .inl f23)), (a24, .inl (nz_cI g, 16, .inl m2))]) (fun _ _ => rfl) (fun m1 m2 h => ?_)
  refine nz_aload_n F dX8_plainSize_6 rfl 0 rfl ?_
  refine nz_iload_n F dX8_plainSize_7 rfl 1 rfl ?_
  refine nz_iconst (v := 3) F dX8_plainSize_8 (by decide) ?_
  refine k_X8_of o a2 a3 a4 a5 a6 a7 a9 a19 a20 a21 a22 a23 a24 r0 r1 r8 r10 r11 r12 r13 r14 r15 r16 r17 r18 m1 f2 f3 f4 f5 f6 f7 f9 f19 f20 f21 f22 f23 m2 v1 3 (fun hM => nz_runV F gX8_plainSize_X8_of rfl hd_X8_of rfl hM dX8_plainSize_9 [0, 1, 2, 3, 4, 5, 6, 7, 8, 9, 10, 11, 12, 13] rfl rfl 0 rfl rfl rfl (Nat.le_of_ble_eq_true rfl) rfl) h ([(o, .inr (8, [.int r0, .int r1, .ref a2, .ref a3, .ref a4, .ref a5, .ref a6, .ref a7, .int r8, .ref a9, .int r10, .int r11, .int r12, .int r13, .int r14, .int r15, .int r16, .int r17, .int r18, .ref a19, .ref a20, .ref a21, .ref a22, .ref a23, .ref a24, .int m1])), (a2, .inl (nz_cI g, 8, .inl f2)), (a3, .inl (nz_cI g, 8, .inl f3)), (a4, .inl (nz_cI g, 320, .inl f4)), (a5, .inl (nz_cI g, 94, .inl f5)), (a6, .inl (nz_cI g, 94, .inl f6)), (a7, .inl (nz_cI g, 168, .inl f7)), (a9, .inl (nz_cI g, 400, .inl f9)), (a19, .inl (nz_cI g, 6, .inl f19)), (a20, .inl (nz_cI g, 49, .inl f20)), (a21, .inl (nz_cI g, 6, .inl f21)), (a22, .inl (nz_cZ g, 2, .inl f22)), (a23, .inl (nz_cI g, 188, .inl f23)), (a24, .inl (nz_cI g, 16, .inl m2))]) (rfl) (fun q3 h => ?_)
  exact nz_iret F hQ (m1, m2) h rfl dX8_plainSize_12
theorem k_X8_plainSize {y : nz_Y} {g : nz_G} {k n : Nat} {ws : va_W} {pc : Nat} {ls : List (Nat × Value)} {st rest : List Value} {av : Array Value} {isC : List Nat} {K : Int32 → Int32 → (Nat → Int32) → Prop} (o : Nat) (a2 : Nat) (a3 : Nat) (a4 : Nat) (a5 : Nat) (a6 : Nat) (a7 : Nat) (a9 : Nat) (a19 : Nat) (a20 : Nat) (a21 : Nat) (a22 : Nat) (a23 : Nat) (a24 : Nat) (r0 : Int32) (r1 : Int32) (r8 : Int32) (r10 : Int32) (r11 : Int32) (r12 : Int32) (r13 : Int32) (r14 : Int32) (r15 : Int32) (r16 : Int32) (r17 : Int32) (r18 : Int32) (r25 : Int32) (f2 : Nat → Int32) (f3 : Nat → Int32) (f4 : Nat → Int32) (f5 : Nat → Int32) (f6 : Nat → Int32) (f7 : Nat → Int32) (f9 : Nat → Int32) (f19 : Nat → Int32) (f20 : Nat → Int32) (f21 : Nat → Int32) (f22 : Nat → Int32) (f23 : Nat → Int32) (f24 : Nat → Int32) (v1 : Int32) (run : nz_M (yz_l y) yX8_plainSize wsX8_plainSize rm_X8_plainSize g [.ref o, .int v1] [(o, .inr (8, [.int r0, .int r1, .ref a2, .ref a3, .ref a4, .ref a5, .ref a6, .ref a7, .int r8, .ref a9, .int r10, .int r11, .int r12, .int r13, .int r14, .int r15, .int r16, .int r17, .int r18, .ref a19, .ref a20, .ref a21, .ref a22, .ref a23, .ref a24, .int r25])), (a2, .inl (nz_cI g, 8, .inl f2)), (a3, .inl (nz_cI g, 8, .inl f3)), (a4, .inl (nz_cI g, 320, .inl f4)), (a5, .inl (nz_cI g, 94, .inl f5)), (a6, .inl (nz_cI g, 94, .inl f6)), (a7, .inl (nz_cI g, 168, .inl f7)), (a9, .inl (nz_cI g, 400, .inl f9)), (a19, .inl (nz_cI g, 6, .inl f19)), (a20, .inl (nz_cI g, 49, .inl f20)), (a21, .inl (nz_cI g, 6, .inl f21)), (a22, .inl (nz_cZ g, 2, .inl f22)), (a23, .inl (nz_cI g, 188, .inl f23)), (a24, .inl (nz_cI g, 16, .inl f24))] (nz_Qi g [(o, .inr (8, [.int r0, .int r1, .ref a2, .ref a3, .ref a4, .ref a5, .ref a6, .ref a7, .int r8, .ref a9, .int r10, .int r11, .int r12, .int r13, .int r14, .int r15, .int r16, .int r17, .int r18, .ref a19, .ref a20, .ref a21, .ref a22, .ref a23, .ref a24, .int r25])), (a2, .inl (nz_cI g, 8, .inl f2)), (a3, .inl (nz_cI g, 8, .inl f3)), (a4, .inl (nz_cI g, 320, .inl f4)), (a5, .inl (nz_cI g, 94, .inl f5)), (a6, .inl (nz_cI g, 94, .inl f6)), (a7, .inl (nz_cI g, 168, .inl f7)), (a9, .inl (nz_cI g, 400, .inl f9)), (a19, .inl (nz_cI g, 6, .inl f19)), (a20, .inl (nz_cI g, 49, .inl f20)), (a21, .inl (nz_cI g, 6, .inl f21)), (a22, .inl (nz_cZ g, 2, .inl f22)), (a23, .inl (nz_cI g, 188, .inl f23)), (a24, .inl (nz_cI g, 16, .inl f24))] (fun r (u : Int32 × (Nat → Int32)) => K r u.1 u.2) (fun u => [(o, .inr (8, [.int r0, .int r1, .ref a2, .ref a3, .ref a4, .ref a5, .ref a6, .ref a7, .int r8, .ref a9, .int r10, .int r11, .int r12, .int r13, .int r14, .int r15, .int r16, .int r17, .int r18, .ref a19, .ref a20, .ref a21, .ref a22, .ref a23, .ref a24, .int u.1])), (a2, .inl (nz_cI g, 8, .inl f2)), (a3, .inl (nz_cI g, 8, .inl f3)), (a4, .inl (nz_cI g, 320, .inl f4)), (a5, .inl (nz_cI g, 94, .inl f5)), (a6, .inl (nz_cI g, 94, .inl f6)), (a7, .inl (nz_cI g, 168, .inl f7)), (a9, .inl (nz_cI g, 400, .inl f9)), (a19, .inl (nz_cI g, 6, .inl f19)), (a20, .inl (nz_cI g, 49, .inl f20)), (a21, .inl (nz_cI g, 6, .inl f21)), (a22, .inl (nz_cZ g, 2, .inl f22)), (a23, .inl (nz_cI g, 188, .inl f23)), (a24, .inl (nz_cI g, 16, .inl u.2))])) → nz_C y g k n ws pc ls st rest [(o, .inr (8, [.int r0, .int r1, .ref a2, .ref a3, .ref a4, .ref a5, .ref a6, .ref a7, .int r8, .ref a9, .int r10, .int r11, .int r12, .int r13, .int r14, .int r15, .int r16, .int r17, .int r18, .ref a19, .ref a20, .ref a21, .ref a22, .ref a23, .ref a24, .int r25])), (a2, .inl (nz_cI g, 8, .inl f2)), (a3, .inl (nz_cI g, 8, .inl f3)), (a4, .inl (nz_cI g, 320, .inl f4)), (a5, .inl (nz_cI g, 94, .inl f5)), (a6, .inl (nz_cI g, 94, .inl f6)), (a7, .inl (nz_cI g, 168, .inl f7)), (a9, .inl (nz_cI g, 400, .inl f9)), (a19, .inl (nz_cI g, 6, .inl f19)), (a20, .inl (nz_cI g, 49, .inl f20)), (a21, .inl (nz_cI g, 6, .inl f21)), (a22, .inl (nz_cZ g, 2, .inl f22)), (a23, .inl (nz_cI g, 188, .inl f23)), (a24, .inl (nz_cI g, 16, .inl f24))] (nz_Qi g [(o, .inr (8, [.int r0, .int r1, .ref a2, .ref a3, .ref a4, .ref a5, .ref a6, .ref a7, .int r8, .ref a9, .int r10, .int r11, .int r12, .int r13, .int r14, .int r15, .int r16, .int r17, .int r18, .ref a19, .ref a20, .ref a21, .ref a22, .ref a23, .ref a24, .int r25])), (a2, .inl (nz_cI g, 8, .inl f2)), (a3, .inl (nz_cI g, 8, .inl f3)), (a4, .inl (nz_cI g, 320, .inl f4)), (a5, .inl (nz_cI g, 94, .inl f5)), (a6, .inl (nz_cI g, 94, .inl f6)), (a7, .inl (nz_cI g, 168, .inl f7)), (a9, .inl (nz_cI g, 400, .inl f9)), (a19, .inl (nz_cI g, 6, .inl f19)), (a20, .inl (nz_cI g, 49, .inl f20)), (a21, .inl (nz_cI g, 6, .inl f21)), (a22, .inl (nz_cZ g, 2, .inl f22)), (a23, .inl (nz_cI g, 188, .inl f23)), (a24, .inl (nz_cI g, 16, .inl f24))] (fun r (u : Int32 × (Nat → Int32)) => K r u.1 u.2) (fun u => [(o, .inr (8, [.int r0, .int r1, .ref a2, .ref a3, .ref a4, .ref a5, .ref a6, .ref a7, .int r8, .ref a9, .int r10, .int r11, .int r12, .int r13, .int r14, .int r15, .int r16, .int r17, .int r18, .ref a19, .ref a20, .ref a21, .ref a22, .ref a23, .ref a24, .int u.1])), (a2, .inl (nz_cI g, 8, .inl f2)), (a3, .inl (nz_cI g, 8, .inl f3)), (a4, .inl (nz_cI g, 320, .inl f4)), (a5, .inl (nz_cI g, 94, .inl f5)), (a6, .inl (nz_cI g, 94, .inl f6)), (a7, .inl (nz_cI g, 168, .inl f7)), (a9, .inl (nz_cI g, 400, .inl f9)), (a19, .inl (nz_cI g, 6, .inl f19)), (a20, .inl (nz_cI g, 49, .inl f20)), (a21, .inl (nz_cI g, 6, .inl f21)), (a22, .inl (nz_cZ g, 2, .inl f22)), (a23, .inl (nz_cI g, 188, .inl f23)), (a24, .inl (nz_cI g, 16, .inl u.2))])) av isC) (h : wp_X8_plainSize r25 f5 f24 v1 K) (ws' : Int32 → (Nat → Int32) → va_W) (hm : ∀ (m0 : Int32) (m1 : (Nat → Int32)), nz_mrg ws isC [(o, .inr (8, [.int r0, .int r1, .ref a2, .ref a3, .ref a4, .ref a5, .ref a6, .ref a7, .int r8, .ref a9, .int r10, .int r11, .int r12, .int r13, .int r14, .int r15, .int r16, .int r17, .int r18, .ref a19, .ref a20, .ref a21, .ref a22, .ref a23, .ref a24, .int m0])), (a2, .inl (nz_cI g, 8, .inl f2)), (a3, .inl (nz_cI g, 8, .inl f3)), (a4, .inl (nz_cI g, 320, .inl f4)), (a5, .inl (nz_cI g, 94, .inl f5)), (a6, .inl (nz_cI g, 94, .inl f6)), (a7, .inl (nz_cI g, 168, .inl f7)), (a9, .inl (nz_cI g, 400, .inl f9)), (a19, .inl (nz_cI g, 6, .inl f19)), (a20, .inl (nz_cI g, 49, .inl f20)), (a21, .inl (nz_cI g, 6, .inl f21)), (a22, .inl (nz_cZ g, 2, .inl f22)), (a23, .inl (nz_cI g, 188, .inl f23)), (a24, .inl (nz_cI g, 16, .inl m1))] = ws' m0 m1) (kk : ∀ (r : Int32) (m0 : Int32) (m1 : (Nat → Int32)), K r m0 m1 → nz_V y g k n (ws' m0 m1) (pc + 3) ls (.int r :: rest)) : nz_V y g k n ws pc ls st :=
  nz_ci (ws' := fun u => ws' u.1 u.2) (run (c_X8_plainSize (yz_l y) g o a2 a3 a4 a5 a6 a7 a9 a19 a20 a21 a22 a23 a24 r0 r1 r8 r10 r11 r12 r13 r14 r15 r16 r17 r18 r25 f2 f3 f4 f5 f6 f7 f9 f19 f20 f21 f22 f23 f24 v1 K h)) (fun _ => rfl) (fun u => hm u.1 u.2) (fun r u h => kk r u.1 u.2 h)
theorem dX8_thiefSize_0 : decode cX8_thiefSize 0 = .ok (.aload_n 0, 1) := by decide +kernel
theorem dX8_thiefSize_1 : decode cX8_thiefSize 1 = .ok (.iload_n 1, 1) := by decide +kernel
theorem dX8_thiefSize_2 : decode cX8_thiefSize 2 = .ok (.iconst 0, 1) := by decide +kernel
theorem dX8_thiefSize_3 : decode cX8_thiefSize 3 = .ok (.invokevirtual 183, 3) := by decide +kernel
theorem dX8_thiefSize_6 : decode cX8_thiefSize 6 = .ok (.iconst 5, 1) := by decide +kernel
theorem dX8_thiefSize_7 : decode cX8_thiefSize 7 = .ok (.if_icmp .ne 9, 3) := by decide +kernel
theorem dX8_thiefSize_10 : decode cX8_thiefSize 10 = .ok (.aload_n 0, 1) := by decide +kernel
theorem dX8_thiefSize_11 : decode cX8_thiefSize 11 = .ok (.bipush 14, 2) := by decide +kernel
theorem dX8_thiefSize_13 : decode cX8_thiefSize 13 = .ok (.invokevirtual 266, 3) := by decide +kernel
theorem dX8_thiefSize_16 : decode cX8_thiefSize 16 = .ok (.aload_n 0, 1) := by decide +kernel
theorem dX8_thiefSize_17 : decode cX8_thiefSize 17 = .ok (.bipush 13, 2) := by decide +kernel
theorem dX8_thiefSize_19 : decode cX8_thiefSize 19 = .ok (.invokevirtual 266, 3) := by decide +kernel
theorem dX8_thiefSize_22 : decode cX8_thiefSize 22 = .ok (.aload_n 0, 1) := by decide +kernel
theorem dX8_thiefSize_23 : decode cX8_thiefSize 23 = .ok (.iload_n 1, 1) := by decide +kernel
theorem dX8_thiefSize_24 : decode cX8_thiefSize 24 = .ok (.invokevirtual 269, 3) := by decide +kernel
theorem dX8_thiefSize_27 : decode cX8_thiefSize 27 = .ok (.bipush 100, 2) := by decide +kernel
theorem dX8_thiefSize_29 : decode cX8_thiefSize 29 = .ok (.isub, 1) := by decide +kernel
theorem dX8_thiefSize_30 : decode cX8_thiefSize 30 = .ok (.istore_n 2, 1) := by decide +kernel
theorem dX8_thiefSize_31 : decode cX8_thiefSize 31 = .ok (.aload_n 0, 1) := by decide +kernel
theorem dX8_thiefSize_32 : decode cX8_thiefSize 32 = .ok (.iload_n 1, 1) := by decide +kernel
theorem dX8_thiefSize_33 : decode cX8_thiefSize 33 = .ok (.iconst 0, 1) := by decide +kernel
theorem dX8_thiefSize_34 : decode cX8_thiefSize 34 = .ok (.invokevirtual 183, 3) := by decide +kernel
theorem dX8_thiefSize_37 : decode cX8_thiefSize 37 = .ok (.iconst 5, 1) := by decide +kernel
theorem dX8_thiefSize_38 : decode cX8_thiefSize 38 = .ok (.if_icmp .ne 9, 3) := by decide +kernel
theorem dX8_thiefSize_41 : decode cX8_thiefSize 41 = .ok (.iconst 2, 1) := by decide +kernel
theorem dX8_thiefSize_42 : decode cX8_thiefSize 42 = .ok (.iload_n 2, 1) := by decide +kernel
theorem dX8_thiefSize_43 : decode cX8_thiefSize 43 = .ok (.imul, 1) := by decide +kernel
theorem dX8_thiefSize_44 : decode cX8_thiefSize 44 = .ok (.goto 4, 3) := by decide +kernel
theorem dX8_thiefSize_47 : decode cX8_thiefSize 47 = .ok (.iload_n 2, 1) := by decide +kernel
theorem dX8_thiefSize_48 : decode cX8_thiefSize 48 = .ok (.ireturn, 1) := by decide +kernel
set_option maxRecDepth 20000 in
theorem ggX8_thiefSize_X8_began : GoodIn wsX8_thiefSize wsX8_began := goodIn_r _ [10, 11, 12, 17, 18, 19, 20, 21, 22, 23, 24, 25, 26, 27, 28, 29, 30, 31, 32, 33, 34, 35, 36, 37, 38, 39, 40, 41, 42] rfl (by decide +kernel)
set_option maxRecDepth 20000 in
theorem gX8_thiefSize_X8_began : GoodIn wsX8_thiefSize (wsV RX8 266 RX8 yX8_began wsX8_began) := goodIn_app (goodIn_r _ [7, 8, 9, 4] rfl (by decide +kernel)) ggX8_thiefSize_X8_began
set_option maxRecDepth 20000 in
theorem ggX8_thiefSize_X8_of : GoodIn wsX8_thiefSize wsX8_of := goodIn_r _ [5, 6, 17, 18, 19, 20, 21, 22, 23, 24, 25, 26, 27, 28, 29, 30, 31, 32, 33, 34, 35, 36, 37, 38, 39, 40, 41, 42] rfl (by decide +kernel)
set_option maxRecDepth 20000 in
theorem gX8_thiefSize_X8_of : GoodIn wsX8_thiefSize (wsV RX8 183 RX8 yX8_of wsX8_of) := goodIn_app (goodIn_r _ [1, 2, 3, 4] rfl (by decide +kernel)) ggX8_thiefSize_X8_of
set_option maxRecDepth 20000 in
theorem ggX8_thiefSize_X8_plainSize : GoodIn wsX8_thiefSize wsX8_plainSize := goodIn_r _ [16, 7, 8, 9, 4, 10, 11, 12, 1, 2, 3, 5, 6, 17, 18, 19, 20, 21, 22, 23, 24, 25, 26, 27, 28, 29, 30, 31, 32, 33, 34, 35, 36, 37, 38, 39, 40, 41, 42] rfl (by decide +kernel)
set_option maxRecDepth 20000 in
theorem gX8_thiefSize_X8_plainSize : GoodIn wsX8_thiefSize (wsV RX8 269 RX8 yX8_plainSize wsX8_plainSize) := goodIn_app (goodIn_r _ [13, 14, 15, 4] rfl (by decide +kernel)) ggX8_thiefSize_X8_plainSize
theorem hd_X8_plainSize : yX8_plainSize.cls = RX8 ∧ yX8_plainSize.cls ≠ "java/lang/invoke/MethodHandle" ∧ yX8_plainSize.cls ≠ "java/lang/invoke/VarHandle" ∧ (parseMethodDescriptor yX8_plainSize.desc).map (fun d => d.parameters.length) = some 1 := by decide +kernel
/-! X8_thiefSize -/
abbrev rm_X8_thiefSize : Room := { frames := 2, cells := 0, slots := 0, locals := 43 }
def S_X8_thiefSize_16 (f5 : Nat → Int32) (v1 : Int32) (r25 : Int32) (f24 : Nat → Int32) (K : Int32 → Int32 → (Nat → Int32) → Prop) : Prop := wp_X8_began r25 f24 13 (fun m3 m4 => wp_X8_plainSize m3 f5 m4 v1 (fun q5 m6 m7 => wp_X8_of f5 v1 0 (fun q8 => ((¬ q8 = 5 → K (q5 - 100) m6 m7) ∧ (q8 = 5 → K (2 * (q5 - 100)) m6 m7)))))
set_option maxHeartbeats 4000000 in
set_option maxRecDepth 100000 in
theorem t_X8_thiefSize_16 {y : nz_Y} {g : nz_G} (F : nz_F y g cX8_thiefSize 3 wsX8_thiefSize RX8 (some .int) rm_X8_thiefSize) {wc0 : va_W} {sz : Nat} {K : Int32 → Int32 → (Nat → Int32) → Prop} (o : Nat) (a2 : Nat) (a3 : Nat) (a4 : Nat) (a5 : Nat) (a6 : Nat) (a7 : Nat) (a9 : Nat) (a19 : Nat) (a20 : Nat) (a21 : Nat) (a22 : Nat) (a23 : Nat) (a24 : Nat) (r0 : Int32) (r1 : Int32) (r8 : Int32) (r10 : Int32) (r11 : Int32) (r12 : Int32) (r13 : Int32) (r14 : Int32) (r15 : Int32) (r16 : Int32) (r17 : Int32) (r18 : Int32) (f2 : Nat → Int32) (f3 : Nat → Int32) (f4 : Nat → Int32) (f5 : Nat → Int32) (f6 : Nat → Int32) (f7 : Nat → Int32) (f9 : Nat → Int32) (f19 : Nat → Int32) (f20 : Nat → Int32) (f21 : Nat → Int32) (f22 : Nat → Int32) (f23 : Nat → Int32) (v1 : Int32) (r25 : Int32) (f24 : Nat → Int32) (hQ : yz_A y = va_A wc0 sz ∧ yz_Q y = MQ (yz_b y) ((nz_Qi g wc0 (fun r (u : Int32 × (Nat → Int32)) => K r u.1 u.2) (fun u => [(o, .inr (8, [.int r0, .int r1, .ref a2, .ref a3, .ref a4, .ref a5, .ref a6, .ref a7, .int r8, .ref a9, .int r10, .int r11, .int r12, .int r13, .int r14, .int r15, .int r16, .int r17, .int r18, .ref a19, .ref a20, .ref a21, .ref a22, .ref a23, .ref a24, .int u.1])), (a2, .inl (nz_cI g, 8, .inl f2)), (a3, .inl (nz_cI g, 8, .inl f3)), (a4, .inl (nz_cI g, 320, .inl f4)), (a5, .inl (nz_cI g, 94, .inl f5)), (a6, .inl (nz_cI g, 94, .inl f6)), (a7, .inl (nz_cI g, 168, .inl f7)), (a9, .inl (nz_cI g, 400, .inl f9)), (a19, .inl (nz_cI g, 6, .inl f19)), (a20, .inl (nz_cI g, 49, .inl f20)), (a21, .inl (nz_cI g, 6, .inl f21)), (a22, .inl (nz_cZ g, 2, .inl f22)), (a23, .inl (nz_cI g, 188, .inl f23)), (a24, .inl (nz_cI g, 16, .inl u.2))])) sz) (yz_a y) (yz_s y) 0 0 (va_A wc0 sz)) : S_X8_thiefSize_16 f5 v1 r25 f24 K → nz_V y g 0 0 [(o, .inr (8, [.int r0, .int r1, .ref a2, .ref a3, .ref a4, .ref a5, .ref a6, .ref a7, .int r8, .ref a9, .int r10, .int r11, .int r12, .int r13, .int r14, .int r15, .int r16, .int r17, .int r18, .ref a19, .ref a20, .ref a21, .ref a22, .ref a23, .ref a24, .int r25])), (a2, .inl (nz_cI g, 8, .inl f2)), (a3, .inl (nz_cI g, 8, .inl f3)), (a4, .inl (nz_cI g, 320, .inl f4)), (a5, .inl (nz_cI g, 94, .inl f5)), (a6, .inl (nz_cI g, 94, .inl f6)), (a7, .inl (nz_cI g, 168, .inl f7)), (a9, .inl (nz_cI g, 400, .inl f9)), (a19, .inl (nz_cI g, 6, .inl f19)), (a20, .inl (nz_cI g, 49, .inl f20)), (a21, .inl (nz_cI g, 6, .inl f21)), (a22, .inl (nz_cZ g, 2, .inl f22)), (a23, .inl (nz_cI g, 188, .inl f23)), (a24, .inl (nz_cI g, 16, .inl f24))] 16 [(0, .ref o), (1, .int v1)] [] := by
  intro h
  unfold S_X8_thiefSize_16 at h
  refine nz_aload_n F dX8_thiefSize_16 rfl 0 rfl ?_
  refine nz_bipush (v := 13) F dX8_thiefSize_17 (by decide) ?_
  refine k_X8_began o a2 a3 a4 a5 a6 a7 a9 a19 a20 a21 a22 a23 a24 r0 r1 r8 r10 r11 r12 r13 r14 r15 r16 r17 r18 r25 f2 f3 f4 f5 f6 f7 f9 f19 f20 f21 f22 f23 f24 13 (fun hM => nz_runV F gX8_thiefSize_X8_began rfl hd_X8_began rfl hM dX8_thiefSize_19 [0, 1, 2, 3, 4, 5, 6, 7, 8, 9, 10, 11, 12, 13] rfl rfl 0 rfl rfl rfl (Nat.le_of_ble_eq_true rfl) rfl) h (fun m3 m4 => [(o, .inr (8, [.int r0, .int r1, .ref a2, .ref a3, .ref a4, .ref a5, .ref a6, .ref a7, .int r8, .ref a9, .int r10, .int r11, .int r12, .int r13, .int r14, .int r15, .int r16, .int r17, .int r18, .ref a19, .ref a20, .ref a21, .ref a22, .ref a23, .ref a24, .int m3])), (a2, .inl (nz_cI g, 8, .inl f2)), (a3, .inl (nz_cI g, 8, .inl f3)), (a4, .inl (nz_cI g, 320, .inl f4)), (a5, .inl (nz_cI g, 94, .inl f5)), (a6, .inl (nz_cI g, 94, .inl f6)), (a7, .inl (nz_cI g, 168, .inl f7)), (a9, .inl (nz_cI g, 400, .inl f9)), (a19, .inl (nz_cI g, 6, .inl f19)), (a20, .inl (nz_cI g, 49, .inl f20)), (a21, .inl (nz_cI g, 6, .inl f21)), (a22, .inl (nz_cZ g, 2, .inl f22)), (a23, .inl (nz_cI g, 188, .inl f23)), (a24, .inl (nz_cI g, 16, .inl m4))]) (fun _ _ => rfl) (fun m3 m4 h => ?_)
  refine nz_aload_n F dX8_thiefSize_22 rfl 0 rfl ?_
  refine nz_iload_n F dX8_thiefSize_23 rfl 1 rfl ?_
  refine k_X8_plainSize o a2 a3 a4 a5 a6 a7 a9 a19 a20 a21 a22 a23 a24 r0 r1 r8 r10 r11 r12 r13 r14 r15 r16 r17 r18 m3 f2 f3 f4 f5 f6 f7 f9 f19 f20 f21 f22 f23 m4 v1 (fun hM => nz_runV F gX8_thiefSize_X8_plainSize rfl hd_X8_plainSize rfl hM dX8_thiefSize_24 [0, 1, 2, 3, 4, 5, 6, 7, 8, 9, 10, 11, 12, 13] rfl rfl 0 rfl rfl rfl (Nat.le_of_ble_eq_true rfl) rfl) h (fun m6 m7 => [(o, .inr (8, [.int r0, .int r1, .ref a2, .ref a3, .ref a4, .ref a5, .ref a6, .ref a7, .int r8, .ref a9, .int r10, .int r11, .int r12, .int r13, .int r14, .int r15, .int r16, .int r17, .int r18, .ref a19, .ref a20, .ref a21, .ref a22, .ref a23, .ref a24, .int m6])), (a2, .inl (nz_cI g, 8, .inl f2)), (a3, .inl (nz_cI g, 8, .inl f3)), (a4, .inl (nz_cI g, 320, .inl f4)), (a5, .inl (nz_cI g, 94, .inl f5)), (a6, .inl (nz_cI g, 94, .inl f6)), (a7, .inl (nz_cI g, 168, .inl f7)), (a9, .inl (nz_cI g, 400, .inl f9)), (a19, .inl (nz_cI g, 6, .inl f19)), (a20, .inl (nz_cI g, 49, .inl f20)), (a21, .inl (nz_cI g, 6, .inl f21)), (a22, .inl (nz_cZ g, 2, .inl f22)), (a23, .inl (nz_cI g, 188, .inl f23)), (a24, .inl (nz_cI g, 16, .inl m7))]) (fun _ _ => rfl) (fun q5 m6 m7 h => ?_)
  refine nz_bipush (v := 100) F dX8_thiefSize_27 (by decide) ?_
  refine nz_isub F dX8_thiefSize_29 ?_
  refine nz_istore_n (lv' := [(2, .int (q5 - 100)), (0, .ref o), (1, .int v1)]) F dX8_thiefSize_30 rfl (by decide) rfl ?_
  refine nz_aload_n F dX8_thiefSize_31 rfl 1 rfl ?_
  refine nz_iload_n F dX8_thiefSize_32 rfl 2 rfl ?_
  refine nz_iconst (v := 0) F dX8_thiefSize_33 (by decide) ?_
  refine k_X8_of o a2 a3 a4 a5 a6 a7 a9 a19 a20 a21 a22 a23 a24 r0 r1 r8 r10 r11 r12 r13 r14 r15 r16 r17 r18 m6 f2 f3 f4 f5 f6 f7 f9 f19 f20 f21 f22 f23 m7 v1 0 (fun hM => nz_runV F gX8_thiefSize_X8_of rfl hd_X8_of rfl hM dX8_thiefSize_34 [0, 1, 2, 3, 4, 5, 6, 7, 8, 9, 10, 11, 12, 13] rfl rfl 0 rfl rfl rfl (Nat.le_of_ble_eq_true rfl) rfl) h ([(o, .inr (8, [.int r0, .int r1, .ref a2, .ref a3, .ref a4, .ref a5, .ref a6, .ref a7, .int r8, .ref a9, .int r10, .int r11, .int r12, .int r13, .int r14, .int r15, .int r16, .int r17, .int r18, .ref a19, .ref a20, .ref a21, .ref a22, .ref a23, .ref a24, .int m6])), (a2, .inl (nz_cI g, 8, .inl f2)), (a3, .inl (nz_cI g, 8, .inl f3)), (a4, .inl (nz_cI g, 320, .inl f4)), (a5, .inl (nz_cI g, 94, .inl f5)), (a6, .inl (nz_cI g, 94, .inl f6)), (a7, .inl (nz_cI g, 168, .inl f7)), (a9, .inl (nz_cI g, 400, .inl f9)), (a19, .inl (nz_cI g, 6, .inl f19)), (a20, .inl (nz_cI g, 49, .inl f20)), (a21, .inl (nz_cI g, 6, .inl f21)), (a22, .inl (nz_cZ g, 2, .inl f22)), (a23, .inl (nz_cI g, 188, .inl f23)), (a24, .inl (nz_cI g, 16, .inl m7))]) (rfl) (fun q8 h => ?_)
  refine nz_iconst (v := 5) F dX8_thiefSize_37 (by decide) ?_
  refine nz_icmp_ne (tgt := 47) F dX8_thiefSize_38 (by decide) (fun c9 => ?_) (fun c9 => ?_)
  · have h := h.1 c9
    refine nz_iload_n F dX8_thiefSize_47 rfl 0 rfl ?_
    exact nz_iret F hQ (m6, m7) h rfl dX8_thiefSize_48
  · have h := h.2 c9
    refine nz_iconst (v := 2) F dX8_thiefSize_41 (by decide) ?_
    refine nz_iload_n F dX8_thiefSize_42 rfl 0 rfl ?_
    refine nz_imul F dX8_thiefSize_43 ?_
    refine nz_goto (tgt := 48) F dX8_thiefSize_44 (by decide) ?_
    exact nz_iret F hQ (m6, m7) h rfl dX8_thiefSize_48
def wp_X8_thiefSize (r25 : Int32) (f5 : Nat → Int32) (f24 : Nat → Int32) (v1 : Int32) (K : Int32 → Int32 → (Nat → Int32) → Prop) : Prop := wp_X8_of f5 v1 0 (fun q1 => ((¬ q1 = 5 → S_X8_thiefSize_16 f5 v1 r25 f24 K) ∧ (q1 = 5 → wp_X8_began r25 f24 14 (fun m10 m11 => S_X8_thiefSize_16 f5 v1 m10 m11 K))))
set_option maxHeartbeats 4000000 in
set_option maxRecDepth 100000 in
theorem c_X8_thiefSize (l : Launch) (g : nz_G) (o : Nat) (a2 : Nat) (a3 : Nat) (a4 : Nat) (a5 : Nat) (a6 : Nat) (a7 : Nat) (a9 : Nat) (a19 : Nat) (a20 : Nat) (a21 : Nat) (a22 : Nat) (a23 : Nat) (a24 : Nat) (r0 : Int32) (r1 : Int32) (r8 : Int32) (r10 : Int32) (r11 : Int32) (r12 : Int32) (r13 : Int32) (r14 : Int32) (r15 : Int32) (r16 : Int32) (r17 : Int32) (r18 : Int32) (r25 : Int32) (f2 : Nat → Int32) (f3 : Nat → Int32) (f4 : Nat → Int32) (f5 : Nat → Int32) (f6 : Nat → Int32) (f7 : Nat → Int32) (f9 : Nat → Int32) (f19 : Nat → Int32) (f20 : Nat → Int32) (f21 : Nat → Int32) (f22 : Nat → Int32) (f23 : Nat → Int32) (f24 : Nat → Int32) (v1 : Int32) (K : Int32 → Int32 → (Nat → Int32) → Prop) (h : wp_X8_thiefSize r25 f5 f24 v1 K) : nz_M l yX8_thiefSize wsX8_thiefSize rm_X8_thiefSize g [.ref o, .int v1] [(o, .inr (8, [.int r0, .int r1, .ref a2, .ref a3, .ref a4, .ref a5, .ref a6, .ref a7, .int r8, .ref a9, .int r10, .int r11, .int r12, .int r13, .int r14, .int r15, .int r16, .int r17, .int r18, .ref a19, .ref a20, .ref a21, .ref a22, .ref a23, .ref a24, .int r25])), (a2, .inl (nz_cI g, 8, .inl f2)), (a3, .inl (nz_cI g, 8, .inl f3)), (a4, .inl (nz_cI g, 320, .inl f4)), (a5, .inl (nz_cI g, 94, .inl f5)), (a6, .inl (nz_cI g, 94, .inl f6)), (a7, .inl (nz_cI g, 168, .inl f7)), (a9, .inl (nz_cI g, 400, .inl f9)), (a19, .inl (nz_cI g, 6, .inl f19)), (a20, .inl (nz_cI g, 49, .inl f20)), (a21, .inl (nz_cI g, 6, .inl f21)), (a22, .inl (nz_cZ g, 2, .inl f22)), (a23, .inl (nz_cI g, 188, .inl f23)), (a24, .inl (nz_cI g, 16, .inl f24))] (nz_Qi g [(o, .inr (8, [.int r0, .int r1, .ref a2, .ref a3, .ref a4, .ref a5, .ref a6, .ref a7, .int r8, .ref a9, .int r10, .int r11, .int r12, .int r13, .int r14, .int r15, .int r16, .int r17, .int r18, .ref a19, .ref a20, .ref a21, .ref a22, .ref a23, .ref a24, .int r25])), (a2, .inl (nz_cI g, 8, .inl f2)), (a3, .inl (nz_cI g, 8, .inl f3)), (a4, .inl (nz_cI g, 320, .inl f4)), (a5, .inl (nz_cI g, 94, .inl f5)), (a6, .inl (nz_cI g, 94, .inl f6)), (a7, .inl (nz_cI g, 168, .inl f7)), (a9, .inl (nz_cI g, 400, .inl f9)), (a19, .inl (nz_cI g, 6, .inl f19)), (a20, .inl (nz_cI g, 49, .inl f20)), (a21, .inl (nz_cI g, 6, .inl f21)), (a22, .inl (nz_cZ g, 2, .inl f22)), (a23, .inl (nz_cI g, 188, .inl f23)), (a24, .inl (nz_cI g, 16, .inl f24))] (fun r (u : Int32 × (Nat → Int32)) => K r u.1 u.2) (fun u => [(o, .inr (8, [.int r0, .int r1, .ref a2, .ref a3, .ref a4, .ref a5, .ref a6, .ref a7, .int r8, .ref a9, .int r10, .int r11, .int r12, .int r13, .int r14, .int r15, .int r16, .int r17, .int r18, .ref a19, .ref a20, .ref a21, .ref a22, .ref a23, .ref a24, .int u.1])), (a2, .inl (nz_cI g, 8, .inl f2)), (a3, .inl (nz_cI g, 8, .inl f3)), (a4, .inl (nz_cI g, 320, .inl f4)), (a5, .inl (nz_cI g, 94, .inl f5)), (a6, .inl (nz_cI g, 94, .inl f6)), (a7, .inl (nz_cI g, 168, .inl f7)), (a9, .inl (nz_cI g, 400, .inl f9)), (a19, .inl (nz_cI g, 6, .inl f19)), (a20, .inl (nz_cI g, 49, .inl f20)), (a21, .inl (nz_cI g, 6, .inl f21)), (a22, .inl (nz_cZ g, 2, .inl f22)), (a23, .inl (nz_cI g, 188, .inl f23)), (a24, .inl (nz_cI g, 16, .inl u.2))])) := by
  refine nz_M.of (bytes := cX8_thiefSize) (nL := 3) (ret := (some .int)) (own := RX8) (by decide) rfl rfl ⟨rfl, rfl⟩ rfl ?_
  intro y F hl hQ
  obtain ⟨sz, hQ⟩ := hQ
  refine nz_ent (lv' := [(0, .ref o), (1, .int v1)]) rfl ?_
  unfold wp_X8_thiefSize at h
  refine nz_aload_n F dX8_thiefSize_0 rfl 0 rfl ?_
  refine nz_iload_n F dX8_thiefSize_1 rfl 1 rfl ?_
  refine nz_iconst (v := 0) F dX8_thiefSize_2 (by decide) ?_
  refine k_X8_of o a2 a3 a4 a5 a6 a7 a9 a19 a20 a21 a22 a23 a24 r0 r1 r8 r10 r11 r12 r13 r14 r15 r16 r17 r18 r25 f2 f3 f4 f5 f6 f7 f9 f19 f20 f21 f22 f23 f24 v1 0 (fun hM => nz_runV F gX8_thiefSize_X8_of rfl hd_X8_of rfl hM dX8_thiefSize_3 [0, 1, 2, 3, 4, 5, 6, 7, 8, 9, 10, 11, 12, 13] rfl rfl 0 rfl rfl rfl (Nat.le_of_ble_eq_true rfl) rfl) h ([(o, .inr (8, [.int r0, .int r1, .ref a2, .ref a3, .ref a4, .ref a5, .ref a6, .ref a7, .int r8, .ref a9, .int r10, .int r11, .int r12, .int r13, .int r14, .int r15, .int r16, .int r17, .int r18, .ref a19, .ref a20, .ref a21, .ref a22, .ref a23, .ref a24, .int r25])), (a2, .inl (nz_cI g, 8, .inl f2)), (a3, .inl (nz_cI g, 8, .inl f3)), (a4, .inl (nz_cI g, 320, .inl f4)), (a5, .inl (nz_cI g, 94, .inl f5)), (a6, .inl (nz_cI g, 94, .inl f6)), (a7, .inl (nz_cI g, 168, .inl f7)), (a9, .inl (nz_cI g, 400, .inl f9)), (a19, .inl (nz_cI g, 6, .inl f19)), (a20, .inl (nz_cI g, 49, .inl f20)), (a21, .inl (nz_cI g, 6, .inl f21)), (a22, .inl (nz_cZ g, 2, .inl f22)), (a23, .inl (nz_cI g, 188, .inl f23)), (a24, .inl (nz_cI g, 16, .inl f24))]) (rfl) (fun q1 h => ?_)
  refine nz_iconst (v := 5) F dX8_thiefSize_6 (by decide) ?_
  refine nz_icmp_ne (tgt := 16) F dX8_thiefSize_7 (by decide) (fun c2 => ?_) (fun c2 => ?_)
  · have h := h.1 c2
    exact t_X8_thiefSize_16 F o a2 a3 a4 a5 a6 a7 a9 a19 a20 a21 a22 a23 a24 r0 r1 r8 r10 r11 r12 r13 r14 r15 r16 r17 r18 f2 f3 f4 f5 f6 f7 f9 f19 f20 f21 f22 f23 v1 r25 f24 hQ h
  · have h := h.2 c2
    refine nz_aload_n F dX8_thiefSize_10 rfl 0 rfl ?_
    refine nz_bipush (v := 14) F dX8_thiefSize_11 (by decide) ?_
    refine k_X8_began o a2 a3 a4 a5 a6 a7 a9 a19 a20 a21 a22 a23 a24 r0 r1 r8 r10 r11 r12 r13 r14 r15 r16 r17 r18 r25 f2 f3 f4 f5 f6 f7 f9 f19 f20 f21 f22 f23 f24 14 (fun hM => nz_runV F gX8_thiefSize_X8_began rfl hd_X8_began rfl hM dX8_thiefSize_13 [0, 1, 2, 3, 4, 5, 6, 7, 8, 9, 10, 11, 12, 13] rfl rfl 0 rfl rfl rfl (Nat.le_of_ble_eq_true rfl) rfl) h (fun m10 m11 => [(o, .inr (8, [.int r0, .int r1, .ref a2, .ref a3, .ref a4, .ref a5, .ref a6, .ref a7, .int r8, .ref a9, .int r10, .int r11, .int r12, .int r13, .int r14, .int r15, .int r16, .int r17, .int r18, .ref a19, .ref a20, .ref a21, .ref a22, .ref a23, .ref a24, .int m10])), (a2, .inl (nz_cI g, 8, .inl f2)), (a3, .inl (nz_cI g, 8, .inl f3)), (a4, .inl (nz_cI g, 320, .inl f4)), (a5, .inl (nz_cI g, 94, .inl f5)), (a6, .inl (nz_cI g, 94, .inl f6)), (a7, .inl (nz_cI g, 168, .inl f7)), (a9, .inl (nz_cI g, 400, .inl f9)), (a19, .inl (nz_cI g, 6, .inl f19)), (a20, .inl (nz_cI g, 49, .inl f20)), (a21, .inl (nz_cI g, 6, .inl f21)), (a22, .inl (nz_cZ g, 2, .inl f22)), (a23, .inl (nz_cI g, 188, .inl f23)), (a24, .inl (nz_cI g, 16, .inl m11))]) (fun _ _ => rfl) (fun m10 m11 h => ?_)
    exact t_X8_thiefSize_16 F o a2 a3 a4 a5 a6 a7 a9 a19 a20 a21 a22 a23 a24 r0 r1 r8 r10 r11 r12 r13 r14 r15 r16 r17 r18 f2 f3 f4 f5 f6 f7 f9 f19 f20 f21 f22 f23 v1 m10 m11 hQ h
theorem k_X8_thiefSize {y : nz_Y} {g : nz_G} {k n : Nat} {ws : va_W} {pc : Nat} {ls : List (Nat × Value)} {st rest : List Value} {av : Array Value} {isC : List Nat} {K : Int32 → Int32 → (Nat → Int32) → Prop} (o : Nat) (a2 : Nat) (a3 : Nat) (a4 : Nat) (a5 : Nat) (a6 : Nat) (a7 : Nat) (a9 : Nat) (a19 : Nat) (a20 : Nat) (a21 : Nat) (a22 : Nat) (a23 : Nat) (a24 : Nat) (r0 : Int32) (r1 : Int32) (r8 : Int32) (r10 : Int32) (r11 : Int32) (r12 : Int32) (r13 : Int32) (r14 : Int32) (r15 : Int32) (r16 : Int32) (r17 : Int32) (r18 : Int32) (r25 : Int32) (f2 : Nat → Int32) (f3 : Nat → Int32) (f4 : Nat → Int32) (f5 : Nat → Int32) (f6 : Nat → Int32) (f7 : Nat → Int32) (f9 : Nat → Int32) (f19 : Nat → Int32) (f20 : Nat → Int32) (f21 : Nat → Int32) (f22 : Nat → Int32) (f23 : Nat → Int32) (f24 : Nat → Int32) (v1 : Int32) (run : nz_M (yz_l y) yX8_thiefSize wsX8_thiefSize rm_X8_thiefSize g [.ref o, .int v1] [(o, .inr (8, [.int r0, .int r1, .ref a2, .ref a3, .ref a4, .ref a5, .ref a6, .ref a7, .int r8, .ref a9, .int r10, .int r11, .int r12, .int r13, .int r14, .int r15, .int r16, .int r17, .int r18, .ref a19, .ref a20, .ref a21, .ref a22, .ref a23, .ref a24, .int r25])), (a2, .inl (nz_cI g, 8, .inl f2)), (a3, .inl (nz_cI g, 8, .inl f3)), (a4, .inl (nz_cI g, 320, .inl f4)), (a5, .inl (nz_cI g, 94, .inl f5)), (a6, .inl (nz_cI g, 94, .inl f6)), (a7, .inl (nz_cI g, 168, .inl f7)), (a9, .inl (nz_cI g, 400, .inl f9)), (a19, .inl (nz_cI g, 6, .inl f19)), (a20, .inl (nz_cI g, 49, .inl f20)), (a21, .inl (nz_cI g, 6, .inl f21)), (a22, .inl (nz_cZ g, 2, .inl f22)), (a23, .inl (nz_cI g, 188, .inl f23)), (a24, .inl (nz_cI g, 16, .inl f24))] (nz_Qi g [(o, .inr (8, [.int r0, .int r1, .ref a2, .ref a3, .ref a4, .ref a5, .ref a6, .ref a7, .int r8, .ref a9, .int r10, .int r11, .int r12, .int r13, .int r14, .int r15, .int r16, .int r17, .int r18, .ref a19, .ref a20, .ref a21, .ref a22, .ref a23, .ref a24, .int r25])), (a2, .inl (nz_cI g, 8, .inl f2)), (a3, .inl (nz_cI g, 8, .inl f3)), (a4, .inl (nz_cI g, 320, .inl f4)), (a5, .inl (nz_cI g, 94, .inl f5)), (a6, .inl (nz_cI g, 94, .inl f6)), (a7, .inl (nz_cI g, 168, .inl f7)), (a9, .inl (nz_cI g, 400, .inl f9)), (a19, .inl (nz_cI g, 6, .inl f19)), (a20, .inl (nz_cI g, 49, .inl f20)), (a21, .inl (nz_cI g, 6, .inl f21)), (a22, .inl (nz_cZ g, 2, .inl f22)), (a23, .inl (nz_cI g, 188, .inl f23)), (a24, .inl (nz_cI g, 16, .inl f24))] (fun r (u : Int32 × (Nat → Int32)) => K r u.1 u.2) (fun u => [(o, .inr (8, [.int r0, .int r1, .ref a2, .ref a3, .ref a4, .ref a5, .ref a6, .ref a7, .int r8, .ref a9, .int r10, .int r11, .int r12, .int r13, .int r14, .int r15, .int r16, .int r17, .int r18, .ref a19, .ref a20, .ref a21, .ref a22, .ref a23, .ref a24, .int u.1])), (a2, .inl (nz_cI g, 8, .inl f2)), (a3, .inl (nz_cI g, 8, .inl f3)), (a4, .inl (nz_cI g, 320, .inl f4)), (a5, .inl (nz_cI g, 94, .inl f5)), (a6, .inl (nz_cI g, 94, .inl f6)), (a7, .inl (nz_cI g, 168, .inl f7)), (a9, .inl (nz_cI g, 400, .inl f9)), (a19, .inl (nz_cI g, 6, .inl f19)), (a20, .inl (nz_cI g, 49, .inl f20)), (a21, .inl (nz_cI g, 6, .inl f21)), (a22, .inl (nz_cZ g, 2, .inl f22)), (a23, .inl (nz_cI g, 188, .inl f23)), (a24, .inl (nz_cI g, 16, .inl u.2))])) → nz_C y g k n ws pc ls st rest [(o, .inr (8, [.int r0, .int r1, .ref a2, .ref a3, .ref a4, .ref a5, .ref a6, .ref a7, .int r8, .ref a9, .int r10, .int r11, .int r12, .int r13, .int r14, .int r15, .int r16, .int r17, .int r18, .ref a19, .ref a20, .ref a21, .ref a22, .ref a23, .ref a24, .int r25])), (a2, .inl (nz_cI g, 8, .inl f2)), (a3, .inl (nz_cI g, 8, .inl f3)), (a4, .inl (nz_cI g, 320, .inl f4)), (a5, .inl (nz_cI g, 94, .inl f5)), (a6, .inl (nz_cI g, 94, .inl f6)), (a7, .inl (nz_cI g, 168, .inl f7)), (a9, .inl (nz_cI g, 400, .inl f9)), (a19, .inl (nz_cI g, 6, .inl f19)), (a20, .inl (nz_cI g, 49, .inl f20)), (a21, .inl (nz_cI g, 6, .inl f21)), (a22, .inl (nz_cZ g, 2, .inl f22)), (a23, .inl (nz_cI g, 188, .inl f23)), (a24, .inl (nz_cI g, 16, .inl f24))] (nz_Qi g [(o, .inr (8, [.int r0, .int r1, .ref a2, .ref a3, .ref a4, .ref a5, .ref a6, .ref a7, .int r8, .ref a9, .int r10, .int r11, .int r12, .int r13, .int r14, .int r15, .int r16, .int r17, .int r18, .ref a19, .ref a20, .ref a21, .ref a22, .ref a23, .ref a24, .int r25])), (a2, .inl (nz_cI g, 8, .inl f2)), (a3, .inl (nz_cI g, 8, .inl f3)), (a4, .inl (nz_cI g, 320, .inl f4)), (a5, .inl (nz_cI g, 94, .inl f5)), (a6, .inl (nz_cI g, 94, .inl f6)), (a7, .inl (nz_cI g, 168, .inl f7)), (a9, .inl (nz_cI g, 400, .inl f9)), (a19, .inl (nz_cI g, 6, .inl f19)), (a20, .inl (nz_cI g, 49, .inl f20)), (a21, .inl (nz_cI g, 6, .inl f21)), (a22, .inl (nz_cZ g, 2, .inl f22)), (a23, .inl (nz_cI g, 188, .inl f23)), (a24, .inl (nz_cI g, 16, .inl f24))] (fun r (u : Int32 × (Nat → Int32)) => K r u.1 u.2) (fun u => [(o, .inr (8, [.int r0, .int r1, .ref a2, .ref a3, .ref a4, .ref a5, .ref a6, .ref a7, .int r8, .ref a9, .int r10, .int r11, .int r12, .int r13, .int r14, .int r15, .int r16, .int r17, .int r18, .ref a19, .ref a20, .ref a21, .ref a22, .ref a23, .ref a24, .int u.1])), (a2, .inl (nz_cI g, 8, .inl f2)), (a3, .inl (nz_cI g, 8, .inl f3)), (a4, .inl (nz_cI g, 320, .inl f4)), (a5, .inl (nz_cI g, 94, .inl f5)), (a6, .inl (nz_cI g, 94, .inl f6)), (a7, .inl (nz_cI g, 168, .inl f7)), (a9, .inl (nz_cI g, 400, .inl f9)), (a19, .inl (nz_cI g, 6, .inl f19)), (a20, .inl (nz_cI g, 49, .inl f20)), (a21, .inl (nz_cI g, 6, .inl f21)), (a22, .inl (nz_cZ g, 2, .inl f22)), (a23, .inl (nz_cI g, 188, .inl f23)), (a24, .inl (nz_cI g, 16, .inl u.2))])) av isC) (h : wp_X8_thiefSize r25 f5 f24 v1 K) (ws' : Int32 → (Nat → Int32) → va_W) (hm : ∀ (m0 : Int32) (m1 : (Nat → Int32)), nz_mrg ws isC [(o, .inr (8, [.int r0, .int r1, .ref a2, .ref a3, .ref a4, .ref a5, .ref a6, .ref a7, .int r8, .ref a9, .int r10, .int r11, .int r12, .int r13, .int r14, .int r15, .int r16, .int r17, .int r18, .ref a19, .ref a20, .ref a21, .ref a22, .ref a23, .ref a24, .int m0])), (a2, .inl (nz_cI g, 8, .inl f2)), (a3, .inl (nz_cI g, 8, .inl f3)), (a4, .inl (nz_cI g, 320, .inl f4)), (a5, .inl (nz_cI g, 94, .inl f5)), (a6, .inl (nz_cI g, 94, .inl f6)), (a7, .inl (nz_cI g, 168, .inl f7)), (a9, .inl (nz_cI g, 400, .inl f9)), (a19, .inl (nz_cI g, 6, .inl f19)), (a20, .inl (nz_cI g, 49, .inl f20)), (a21, .inl (nz_cI g, 6, .inl f21)), (a22, .inl (nz_cZ g, 2, .inl f22)), (a23, .inl (nz_cI g, 188, .inl f23)), (a24, .inl (nz_cI g, 16, .inl m1))] = ws' m0 m1) (kk : ∀ (r : Int32) (m0 : Int32) (m1 : (Nat → Int32)), K r m0 m1 → nz_V y g k n (ws' m0 m1) (pc + 3) ls (.int r :: rest)) : nz_V y g k n ws pc ls st :=
  nz_ci (ws' := fun u => ws' u.1 u.2) (run (c_X8_thiefSize (yz_l y) g o a2 a3 a4 a5 a6 a7 a9 a19 a20 a21 a22 a23 a24 r0 r1 r8 r10 r11 r12 r13 r14 r15 r16 r17 r18 r25 f2 f3 f4 f5 f6 f7 f9 f19 f20 f21 f22 f23 f24 v1 K h)) (fun _ => rfl) (fun u => hm u.1 u.2) (fun r u h => kk r u.1 u.2 h)
theorem dX8_markOf_0 : decode cX8_markOf 0 = .ok (.aload_n 0, 1) := by decide +kernel
theorem dX8_markOf_1 : decode cX8_markOf 1 = .ok (.iload_n 1, 1) := by decide +kernel
theorem dX8_markOf_2 : decode cX8_markOf 2 = .ok (.iconst 0, 1) := by decide +kernel
theorem dX8_markOf_3 : decode cX8_markOf 3 = .ok (.invokevirtual 183, 3) := by decide +kernel
theorem dX8_markOf_6 : decode cX8_markOf 6 = .ok (.istore_n 2, 1) := by decide +kernel
theorem dX8_markOf_7 : decode cX8_markOf 7 = .ok (.iload_n 2, 1) := by decide +kernel
theorem dX8_markOf_8 : decode cX8_markOf 8 = .ok (.iconst 4, 1) := by decide +kernel
theorem dX8_markOf_9 : decode cX8_markOf 9 = .ok (.if_icmp .lt 23, 3) := by decide +kernel
theorem dX8_markOf_12 : decode cX8_markOf 12 = .ok (.aload_n 0, 1) := by decide +kernel
theorem dX8_markOf_13 : decode cX8_markOf 13 = .ok (.bipush 23, 2) := by decide +kernel
theorem dX8_markOf_15 : decode cX8_markOf 15 = .ok (.invokevirtual 266, 3) := by decide +kernel
theorem dX8_markOf_18 : decode cX8_markOf 18 = .ok (.aload_n 0, 1) := by decide +kernel
theorem dX8_markOf_19 : decode cX8_markOf 19 = .ok (.bipush 20, 2) := by decide +kernel
theorem dX8_markOf_21 : decode cX8_markOf 21 = .ok (.invokevirtual 266, 3) := by decide +kernel
theorem dX8_markOf_24 : decode cX8_markOf 24 = .ok (.iload_n 1, 1) := by decide +kernel
theorem dX8_markOf_25 : decode cX8_markOf 25 = .ok (.aload_n 0, 1) := by decide +kernel
theorem dX8_markOf_26 : decode cX8_markOf 26 = .ok (.iload_n 1, 1) := by decide +kernel
theorem dX8_markOf_27 : decode cX8_markOf 27 = .ok (.invokevirtual 272, 3) := by decide +kernel
theorem dX8_markOf_30 : decode cX8_markOf 30 = .ok (.isub, 1) := by decide +kernel
theorem dX8_markOf_31 : decode cX8_markOf 31 = .ok (.ireturn, 1) := by decide +kernel
theorem dX8_markOf_32 : decode cX8_markOf 32 = .ok (.iload_n 2, 1) := by decide +kernel
theorem dX8_markOf_33 : decode cX8_markOf 33 = .ok (.iconst 1, 1) := by decide +kernel
theorem dX8_markOf_34 : decode cX8_markOf 34 = .ok (.if_icmp .eq 19, 3) := by decide +kernel
theorem dX8_markOf_37 : decode cX8_markOf 37 = .ok (.aload_n 0, 1) := by decide +kernel
theorem dX8_markOf_38 : decode cX8_markOf 38 = .ok (.iload_n 2, 1) := by decide +kernel
theorem dX8_markOf_39 : decode cX8_markOf 39 = .ok (.iconst 3, 1) := by decide +kernel
theorem dX8_markOf_40 : decode cX8_markOf 40 = .ok (.if_icmp .ne 8, 3) := by decide +kernel
theorem dX8_markOf_43 : decode cX8_markOf 43 = .ok (.bipush 22, 2) := by decide +kernel
theorem dX8_markOf_45 : decode cX8_markOf 45 = .ok (.goto 5, 3) := by decide +kernel
theorem dX8_markOf_48 : decode cX8_markOf 48 = .ok (.bipush 24, 2) := by decide +kernel
theorem dX8_markOf_50 : decode cX8_markOf 50 = .ok (.invokevirtual 266, 3) := by decide +kernel
theorem dX8_markOf_53 : decode cX8_markOf 53 = .ok (.aload_n 0, 1) := by decide +kernel
theorem dX8_markOf_54 : decode cX8_markOf 54 = .ok (.bipush 21, 2) := by decide +kernel
theorem dX8_markOf_56 : decode cX8_markOf 56 = .ok (.invokevirtual 266, 3) := by decide +kernel
theorem dX8_markOf_59 : decode cX8_markOf 59 = .ok (.aload_n 0, 1) := by decide +kernel
theorem dX8_markOf_60 : decode cX8_markOf 60 = .ok (.bipush 20, 2) := by decide +kernel
theorem dX8_markOf_62 : decode cX8_markOf 62 = .ok (.invokevirtual 266, 3) := by decide +kernel
theorem dX8_markOf_65 : decode cX8_markOf 65 = .ok (.iload_n 1, 1) := by decide +kernel
theorem dX8_markOf_66 : decode cX8_markOf 66 = .ok (.aload_n 0, 1) := by decide +kernel
theorem dX8_markOf_67 : decode cX8_markOf 67 = .ok (.aload_n 0, 1) := by decide +kernel
theorem dX8_markOf_68 : decode cX8_markOf 68 = .ok (.iload_n 1, 1) := by decide +kernel
theorem dX8_markOf_69 : decode cX8_markOf 69 = .ok (.iconst 1, 1) := by decide +kernel
theorem dX8_markOf_70 : decode cX8_markOf 70 = .ok (.invokevirtual 183, 3) := by decide +kernel
theorem dX8_markOf_73 : decode cX8_markOf 73 = .ok (.iconst 1, 1) := by decide +kernel
theorem dX8_markOf_74 : decode cX8_markOf 74 = .ok (.invokevirtual 180, 3) := by decide +kernel
theorem dX8_markOf_77 : decode cX8_markOf 77 = .ok (.iadd, 1) := by decide +kernel
theorem dX8_markOf_78 : decode cX8_markOf 78 = .ok (.istore_n 3, 1) := by decide +kernel
theorem dX8_markOf_79 : decode cX8_markOf 79 = .ok (.iload_n 2, 1) := by decide +kernel
theorem dX8_markOf_80 : decode cX8_markOf 80 = .ok (.iconst 1, 1) := by decide +kernel
theorem dX8_markOf_81 : decode cX8_markOf 81 = .ok (.if_icmp .ne 7, 3) := by decide +kernel
theorem dX8_markOf_84 : decode cX8_markOf 84 = .ok (.iload_n 3, 1) := by decide +kernel
theorem dX8_markOf_85 : decode cX8_markOf 85 = .ok (.goto 19, 3) := by decide +kernel
theorem dX8_markOf_88 : decode cX8_markOf 88 = .ok (.iload_n 2, 1) := by decide +kernel
theorem dX8_markOf_89 : decode cX8_markOf 89 = .ok (.iconst 3, 1) := by decide +kernel
theorem dX8_markOf_90 : decode cX8_markOf 90 = .ok (.if_icmp .ne 11, 3) := by decide +kernel
theorem dX8_markOf_93 : decode cX8_markOf 93 = .ok (.iload_n 3, 1) := by decide +kernel
theorem dX8_markOf_94 : decode cX8_markOf 94 = .ok (.sipush 1000, 3) := by decide +kernel
theorem dX8_markOf_97 : decode cX8_markOf 97 = .ok (.isub, 1) := by decide +kernel
theorem dX8_markOf_98 : decode cX8_markOf 98 = .ok (.goto 6, 3) := by decide +kernel
theorem dX8_markOf_101 : decode cX8_markOf 101 = .ok (.iconst 2, 1) := by decide +kernel
theorem dX8_markOf_102 : decode cX8_markOf 102 = .ok (.iload_n 3, 1) := by decide +kernel
theorem dX8_markOf_103 : decode cX8_markOf 103 = .ok (.imul, 1) := by decide +kernel
theorem dX8_markOf_104 : decode cX8_markOf 104 = .ok (.ireturn, 1) := by decide +kernel
set_option maxRecDepth 20000 in
theorem ggX8_markOf_X8_began : GoodIn wsX8_markOf wsX8_began := goodIn_r _ [10, 11, 12, 25, 26, 27, 28, 29, 30, 31, 32, 33, 34, 35, 36, 37, 38, 39, 40, 41, 42, 43, 44, 45, 46, 47, 48, 49, 50] rfl (by decide +kernel)
set_option maxRecDepth 20000 in
theorem gX8_markOf_X8_began : GoodIn wsX8_markOf (wsV RX8 266 RX8 yX8_began wsX8_began) := goodIn_app (goodIn_r _ [7, 8, 9, 4] rfl (by decide +kernel)) ggX8_markOf_X8_began
set_option maxRecDepth 20000 in
theorem ggX8_markOf_X8_of : GoodIn wsX8_markOf wsX8_of := goodIn_r _ [5, 6, 25, 26, 27, 28, 29, 30, 31, 32, 33, 34, 35, 36, 37, 38, 39, 40, 41, 42, 43, 44, 45, 46, 47, 48, 49, 50] rfl (by decide +kernel)
set_option maxRecDepth 20000 in
theorem gX8_markOf_X8_of : GoodIn wsX8_markOf (wsV RX8 183 RX8 yX8_of wsX8_of) := goodIn_app (goodIn_r _ [1, 2, 3, 4] rfl (by decide +kernel)) ggX8_markOf_X8_of
set_option maxRecDepth 20000 in
theorem ggX8_markOf_X8_stoneOf : GoodIn wsX8_markOf wsX8_stoneOf := goodIn_r _ [24, 6, 25, 26, 27, 28, 29, 30, 31, 32, 33, 34, 35, 36, 37, 38, 39, 40, 41, 42, 43, 44, 45, 46, 47, 48, 49, 50] rfl (by decide +kernel)
set_option maxRecDepth 20000 in
theorem gX8_markOf_X8_stoneOf : GoodIn wsX8_markOf (wsV RX8 180 RX8 yX8_stoneOf wsX8_stoneOf) := goodIn_app (goodIn_r _ [21, 22, 23, 4] rfl (by decide +kernel)) ggX8_markOf_X8_stoneOf
set_option maxRecDepth 20000 in
theorem ggX8_markOf_X8_thiefSize : GoodIn wsX8_markOf wsX8_thiefSize := goodIn_r _ [16, 1, 2, 3, 4, 5, 6, 7, 8, 9, 10, 11, 12, 17, 18, 19, 20, 25, 26, 27, 28, 29, 30, 31, 32, 33, 34, 35, 36, 37, 38, 39, 40, 41, 42, 43, 44, 45, 46, 47, 48, 49, 50] rfl (by decide +kernel)
set_option maxRecDepth 20000 in
theorem gX8_markOf_X8_thiefSize : GoodIn wsX8_markOf (wsV RX8 272 RX8 yX8_thiefSize wsX8_thiefSize) := goodIn_app (goodIn_r _ [13, 14, 15, 4] rfl (by decide +kernel)) ggX8_markOf_X8_thiefSize
theorem hd_X8_thiefSize : yX8_thiefSize.cls = RX8 ∧ yX8_thiefSize.cls ≠ "java/lang/invoke/MethodHandle" ∧ yX8_thiefSize.cls ≠ "java/lang/invoke/VarHandle" ∧ (parseMethodDescriptor yX8_thiefSize.desc).map (fun d => d.parameters.length) = some 1 := by decide +kernel
/-! X8_markOf -/
abbrev rm_X8_markOf : Room := { frames := 3, cells := 0, slots := 0, locals := 65 }
def S_X8_markOf_53 (f5 : Nat → Int32) (v1 : Int32) (x2 : Int32) (r25 : Int32) (f24 : Nat → Int32) (K : Int32 → Int32 → (Nat → Int32) → Prop) : Prop := wp_X8_began r25 f24 21 (fun m4 m5 => wp_X8_began m4 m5 20 (fun m6 m7 => wp_X8_of f5 v1 1 (fun q8 => wp_X8_stoneOf f5 q8 1 (fun q9 => ((¬ x2 = 1 → ((¬ x2 = 3 → K (2 * (v1 + q9)) m6 m7) ∧ (x2 = 3 → K ((v1 + q9) - 1000) m6 m7))) ∧ (x2 = 1 → K (v1 + q9) m6 m7))))))
set_option maxHeartbeats 4000000 in
set_option maxRecDepth 100000 in
theorem t_X8_markOf_53 {y : nz_Y} {g : nz_G} (F : nz_F y g cX8_markOf 4 wsX8_markOf RX8 (some .int) rm_X8_markOf) {wc0 : va_W} {sz : Nat} {K : Int32 → Int32 → (Nat → Int32) → Prop} (o : Nat) (a2 : Nat) (a3 : Nat) (a4 : Nat) (a5 : Nat) (a6 : Nat) (a7 : Nat) (a9 : Nat) (a19 : Nat) (a20 : Nat) (a21 : Nat) (a22 : Nat) (a23 : Nat) (a24 : Nat) (r0 : Int32) (r1 : Int32) (r8 : Int32) (r10 : Int32) (r11 : Int32) (r12 : Int32) (r13 : Int32) (r14 : Int32) (r15 : Int32) (r16 : Int32) (r17 : Int32) (r18 : Int32) (f2 : Nat → Int32) (f3 : Nat → Int32) (f4 : Nat → Int32) (f5 : Nat → Int32) (f6 : Nat → Int32) (f7 : Nat → Int32) (f9 : Nat → Int32) (f19 : Nat → Int32) (f20 : Nat → Int32) (f21 : Nat → Int32) (f22 : Nat → Int32) (f23 : Nat → Int32) (v1 : Int32) (x2 : Int32) (r25 : Int32) (f24 : Nat → Int32) (hQ : yz_A y = va_A wc0 sz ∧ yz_Q y = MQ (yz_b y) ((nz_Qi g wc0 (fun r (u : Int32 × (Nat → Int32)) => K r u.1 u.2) (fun u => [(o, .inr (8, [.int r0, .int r1, .ref a2, .ref a3, .ref a4, .ref a5, .ref a6, .ref a7, .int r8, .ref a9, .int r10, .int r11, .int r12, .int r13, .int r14, .int r15, .int r16, .int r17, .int r18, .ref a19, .ref a20, .ref a21, .ref a22, .ref a23, .ref a24, .int u.1])), (a2, .inl (nz_cI g, 8, .inl f2)), (a3, .inl (nz_cI g, 8, .inl f3)), (a4, .inl (nz_cI g, 320, .inl f4)), (a5, .inl (nz_cI g, 94, .inl f5)), (a6, .inl (nz_cI g, 94, .inl f6)), (a7, .inl (nz_cI g, 168, .inl f7)), (a9, .inl (nz_cI g, 400, .inl f9)), (a19, .inl (nz_cI g, 6, .inl f19)), (a20, .inl (nz_cI g, 49, .inl f20)), (a21, .inl (nz_cI g, 6, .inl f21)), (a22, .inl (nz_cZ g, 2, .inl f22)), (a23, .inl (nz_cI g, 188, .inl f23)), (a24, .inl (nz_cI g, 16, .inl u.2))])) sz) (yz_a y) (yz_s y) 0 0 (va_A wc0 sz)) : S_X8_markOf_53 f5 v1 x2 r25 f24 K → nz_V y g 0 0 [(o, .inr (8, [.int r0, .int r1, .ref a2, .ref a3, .ref a4, .ref a5, .ref a6, .ref a7, .int r8, .ref a9, .int r10, .int r11, .int r12, .int r13, .int r14, .int r15, .int r16, .int r17, .int r18, .ref a19, .ref a20, .ref a21, .ref a22, .ref a23, .ref a24, .int r25])), (a2, .inl (nz_cI g, 8, .inl f2)), (a3, .inl (nz_cI g, 8, .inl f3)), (a4, .inl (nz_cI g, 320, .inl f4)), (a5, .inl (nz_cI g, 94, .inl f5)), (a6, .inl (nz_cI g, 94, .inl f6)), (a7, .inl (nz_cI g, 168, .inl f7)), (a9, .inl (nz_cI g, 400, .inl f9)), (a19, .inl (nz_cI g, 6, .inl f19)), (a20, .inl (nz_cI g, 49, .inl f20)), (a21, .inl (nz_cI g, 6, .inl f21)), (a22, .inl (nz_cZ g, 2, .inl f22)), (a23, .inl (nz_cI g, 188, .inl f23)), (a24, .inl (nz_cI g, 16, .inl f24))] 53 [(0, .ref o), (1, .int v1), (2, .int x2)] [] := by
  intro h
  unfold S_X8_markOf_53 at h
  refine nz_aload_n F dX8_markOf_53 rfl 0 rfl ?_
  refine nz_bipush (v := 21) F dX8_markOf_54 (by decide) ?_
  refine k_X8_began o a2 a3 a4 a5 a6 a7 a9 a19 a20 a21 a22 a23 a24 r0 r1 r8 r10 r11 r12 r13 r14 r15 r16 r17 r18 r25 f2 f3 f4 f5 f6 f7 f9 f19 f20 f21 f22 f23 f24 21 (fun hM => nz_runV F gX8_markOf_X8_began rfl hd_X8_began rfl hM dX8_markOf_56 [0, 1, 2, 3, 4, 5, 6, 7, 8, 9, 10, 11, 12, 13] rfl rfl 0 rfl rfl rfl (Nat.le_of_ble_eq_true rfl) rfl) h (fun m4 m5 => [(o, .inr (8, [.int r0, .int r1, .ref a2, .ref a3, .ref a4, .ref a5, .ref a6, .ref a7, .int r8, .ref a9, .int r10, .int r11, .int r12, .int r13, .int r14, .int r15, .int r16, .int r17, .int r18, .ref a19, .ref a20, .ref a21, .ref a22, .ref a23, .ref a24, .int m4])), (a2, .inl (nz_cI g, 8, .inl f2)), (a3, .inl (nz_cI g, 8, .inl f3)), (a4, .inl (nz_cI g, 320, .inl f4)), (a5, .inl (nz_cI g, 94, .inl f5)), (a6, .inl (nz_cI g, 94, .inl f6)), (a7, .inl (nz_cI g, 168, .inl f7)), (a9, .inl (nz_cI g, 400, .inl f9)), (a19, .inl (nz_cI g, 6, .inl f19)), (a20, .inl (nz_cI g, 49, .inl f20)), (a21, .inl (nz_cI g, 6, .inl f21)), (a22, .inl (nz_cZ g, 2, .inl f22)), (a23, .inl (nz_cI g, 188, .inl f23)), (a24, .inl (nz_cI g, 16, .inl m5))]) (fun _ _ => rfl) (fun m4 m5 h => ?_)
  refine nz_aload_n F dX8_markOf_59 rfl 0 rfl ?_
  refine nz_bipush (v := 20) F dX8_markOf_60 (by decide) ?_
  refine k_X8_began o a2 a3 a4 a5 a6 a7 a9 a19 a20 a21 a22 a23 a24 r0 r1 r8 r10 r11 r12 r13 r14 r15 r16 r17 r18 m4 f2 f3 f4 f5 f6 f7 f9 f19 f20 f21 f22 f23 m5 20 (fun hM => nz_runV F gX8_markOf_X8_began rfl hd_X8_began rfl hM dX8_markOf_62 [0, 1, 2, 3, 4, 5, 6, 7, 8, 9, 10, 11, 12, 13] rfl rfl 0 rfl rfl rfl (Nat.le_of_ble_eq_true rfl) rfl) h (fun m6 m7 => [(o, .inr (8, [.int r0, .int r1, .ref a2, .ref a3, .ref a4, .ref a5, .ref a6, .ref a7, .int r8, .ref a9, .int r10, .int r11, .int r12, .int r13, .int r14, .int r15, .int r16, .int r17, .int r18, .ref a19, .ref a20, .ref a21, .ref a22, .ref a23, .ref a24, .int m6])), (a2, .inl (nz_cI g, 8, .inl f2)), (a3, .inl (nz_cI g, 8, .inl f3)), (a4, .inl (nz_cI g, 320, .inl f4)), (a5, .inl (nz_cI g, 94, .inl f5)), (a6, .inl (nz_cI g, 94, .inl f6)), (a7, .inl (nz_cI g, 168, .inl f7)), (a9, .inl (nz_cI g, 400, .inl f9)), (a19, .inl (nz_cI g, 6, .inl f19)), (a20, .inl (nz_cI g, 49, .inl f20)), (a21, .inl (nz_cI g, 6, .inl f21)), (a22, .inl (nz_cZ g, 2, .inl f22)), (a23, .inl (nz_cI g, 188, .inl f23)), (a24, .inl (nz_cI g, 16, .inl m7))]) (fun _ _ => rfl) (fun m6 m7 h => ?_)
  refine nz_iload_n F dX8_markOf_65 rfl 1 rfl ?_
  refine nz_aload_n F dX8_markOf_66 rfl 0 rfl ?_
  refine nz_aload_n F dX8_markOf_67 rfl 0 rfl ?_
  refine nz_iload_n F dX8_markOf_68 rfl 1 rfl ?_
  refine nz_iconst (v := 1) F dX8_markOf_69 (by decide) ?_
  refine k_X8_of o a2 a3 a4 a5 a6 a7 a9 a19 a20 a21 a22 a23 a24 r0 r1 r8 r10 r11 r12 r13 r14 r15 r16 r17 r18 m6 f2 f3 f4 f5 f6 f7 f9 f19 f20 f21 f22 f23 m7 v1 1 (fun hM => nz_runV F gX8_markOf_X8_of rfl hd_X8_of rfl hM dX8_markOf_70 [0, 1, 2, 3, 4, 5, 6, 7, 8, 9, 10, 11, 12, 13] rfl rfl 0 rfl rfl rfl (Nat.le_of_ble_eq_true rfl) rfl) h ([(o, .inr (8, [.int r0, .int r1, .ref a2, .ref a3, .ref a4, .ref a5, .ref a6, .ref a7, .int r8, .ref a9, .int r10, .int r11, .int r12, .int r13, .int r14, .int r15, .int r16, .int r17, .int r18, .ref a19, .ref a20, .ref a21, .ref a22, .ref a23, .ref a24, .int m6])), (a2, .inl (nz_cI g, 8, .inl f2)), (a3, .inl (nz_cI g, 8, .inl f3)), (a4, .inl (nz_cI g, 320, .inl f4)), (a5, .inl (nz_cI g, 94, .inl f5)), (a6, .inl (nz_cI g, 94, .inl f6)), (a7, .inl (nz_cI g, 168, .inl f7)), (a9, .inl (nz_cI g, 400, .inl f9)), (a19, .inl (nz_cI g, 6, .inl f19)), (a20, .inl (nz_cI g, 49, .inl f20)), (a21, .inl (nz_cI g, 6, .inl f21)), (a22, .inl (nz_cZ g, 2, .inl f22)), (a23, .inl (nz_cI g, 188, .inl f23)), (a24, .inl (nz_cI g, 16, .inl m7))]) (rfl) (fun q8 h => ?_)
  refine nz_iconst (v := 1) F dX8_markOf_73 (by decide) ?_
  refine k_X8_stoneOf o a2 a3 a4 a5 a6 a7 a9 a19 a20 a21 a22 a23 a24 r0 r1 r8 r10 r11 r12 r13 r14 r15 r16 r17 r18 m6 f2 f3 f4 f5 f6 f7 f9 f19 f20 f21 f22 f23 m7 q8 1 (fun hM => nz_runV F gX8_markOf_X8_stoneOf rfl hd_X8_stoneOf rfl hM dX8_markOf_74 [0, 1, 2, 3, 4, 5, 6, 7, 8, 9, 10, 11, 12, 13] rfl rfl 0 rfl rfl rfl (Nat.le_of_ble_eq_true rfl) rfl) h ([(o, .inr (8, [.int r0, .int r1, .ref a2, .ref a3, .ref a4, .ref a5, .ref a6, .ref a7, .int r8, .ref a9, .int r10, .int r11, .int r12, .int r13, .int r14, .int r15, .int r16, .int r17, .int r18, .ref a19, .ref a20, .ref a21, .ref a22, .ref a23, .ref a24, .int m6])), (a2, .inl (nz_cI g, 8, .inl f2)), (a3, .inl (nz_cI g, 8, .inl f3)), (a4, .inl (nz_cI g, 320, .inl f4)), (a5, .inl (nz_cI g, 94, .inl f5)), (a6, .inl (nz_cI g, 94, .inl f6)), (a7, .inl (nz_cI g, 168, .inl f7)), (a9, .inl (nz_cI g, 400, .inl f9)), (a19, .inl (nz_cI g, 6, .inl f19)), (a20, .inl (nz_cI g, 49, .inl f20)), (a21, .inl (nz_cI g, 6, .inl f21)), (a22, .inl (nz_cZ g, 2, .inl f22)), (a23, .inl (nz_cI g, 188, .inl f23)), (a24, .inl (nz_cI g, 16, .inl m7))]) (rfl) (fun q9 h => ?_)
  refine nz_iadd F dX8_markOf_77 ?_
  refine nz_istore_n (lv' := [(3, .int (v1 + q9)), (0, .ref o), (1, .int v1), (2, .int x2)]) F dX8_markOf_78 rfl (by decide) rfl ?_
  refine nz_iload_n F dX8_markOf_79 rfl 3 rfl ?_
  refine nz_iconst (v := 1) F dX8_markOf_80 (by decide) ?_
  refine nz_icmp_ne (tgt := 88) F dX8_markOf_81 (by decide) (fun c10 => ?_) (fun c10 => ?_)
  · have h := h.1 c10
    refine nz_iload_n F dX8_markOf_88 rfl 3 rfl ?_
    refine nz_iconst (v := 3) F dX8_markOf_89 (by decide) ?_
    refine nz_icmp_ne (tgt := 101) F dX8_markOf_90 (by decide) (fun c11 => ?_) (fun c11 => ?_)
    · have h := h.1 c11
      refine nz_iconst (v := 2) F dX8_markOf_101 (by decide) ?_
      refine nz_iload_n F dX8_markOf_102 rfl 0 rfl ?_
      refine nz_imul F dX8_markOf_103 ?_
      exact nz_iret F hQ (m6, m7) h rfl dX8_markOf_104
    · have h := h.2 c11
      refine nz_iload_n F dX8_markOf_93 rfl 0 rfl ?_
      refine nz_sipush (v := 1000) F dX8_markOf_94 (by decide) ?_
      refine nz_isub F dX8_markOf_97 ?_
      refine nz_goto (tgt := 104) F dX8_markOf_98 (by decide) ?_
      exact nz_iret F hQ (m6, m7) h rfl dX8_markOf_104
  · have h := h.2 c10
    refine nz_iload_n F dX8_markOf_84 rfl 0 rfl ?_
    refine nz_goto (tgt := 104) F dX8_markOf_85 (by decide) ?_
    exact nz_iret F hQ (m6, m7) h rfl dX8_markOf_104
def wp_X8_markOf (r25 : Int32) (f5 : Nat → Int32) (f24 : Nat → Int32) (v1 : Int32) (K : Int32 → Int32 → (Nat → Int32) → Prop) : Prop := wp_X8_of f5 v1 0 (fun q1 => ((q1 < 4 → ((q1 = 1 → S_X8_markOf_53 f5 v1 q1 r25 f24 K) ∧ (¬ (q1 = 1) → ((¬ q1 = 3 → wp_X8_began r25 f24 24 (fun m13 m14 => S_X8_markOf_53 f5 v1 q1 m13 m14 K)) ∧ (q1 = 3 → wp_X8_began r25 f24 22 (fun m15 m16 => S_X8_markOf_53 f5 v1 q1 m15 m16 K)))))) ∧ (¬ (q1 < 4) → wp_X8_began r25 f24 23 (fun m17 m18 => wp_X8_began m17 m18 20 (fun m19 m20 => wp_X8_thiefSize m19 f5 m20 v1 (fun q21 m22 m23 => K (v1 - q21) m22 m23))))))
set_option maxHeartbeats 4000000 in
set_option maxRecDepth 100000 in
theorem c_X8_markOf (l : Launch) (g : nz_G) (o : Nat) (a2 : Nat) (a3 : Nat) (a4 : Nat) (a5 : Nat) (a6 : Nat) (a7 : Nat) (a9 : Nat) (a19 : Nat) (a20 : Nat) (a21 : Nat) (a22 : Nat) (a23 : Nat) (a24 : Nat) (r0 : Int32) (r1 : Int32) (r8 : Int32) (r10 : Int32) (r11 : Int32) (r12 : Int32) (r13 : Int32) (r14 : Int32) (r15 : Int32) (r16 : Int32) (r17 : Int32) (r18 : Int32) (r25 : Int32) (f2 : Nat → Int32) (f3 : Nat → Int32) (f4 : Nat → Int32) (f5 : Nat → Int32) (f6 : Nat → Int32) (f7 : Nat → Int32) (f9 : Nat → Int32) (f19 : Nat → Int32) (f20 : Nat → Int32) (f21 : Nat → Int32) (f22 : Nat → Int32) (f23 : Nat → Int32) (f24 : Nat → Int32) (v1 : Int32) (K : Int32 → Int32 → (Nat → Int32) → Prop) (h : wp_X8_markOf r25 f5 f24 v1 K) : nz_M l yX8_markOf wsX8_markOf rm_X8_markOf g [.ref o, .int v1] [(o, .inr (8, [.int r0, .int r1, .ref a2, .ref a3, .ref a4, .ref a5, .ref a6, .ref a7, .int r8, .ref a9, .int r10, .int r11, .int r12, .int r13, .int r14, .int r15, .int r16, .int r17, .int r18, .ref a19, .ref a20, .ref a21, .ref a22, .ref a23, .ref a24, .int r25])), (a2, .inl (nz_cI g, 8, .inl f2)), (a3, .inl (nz_cI g, 8, .inl f3)), (a4, .inl (nz_cI g, 320, .inl f4)), (a5, .inl (nz_cI g, 94, .inl f5)), (a6, .inl (nz_cI g, 94, .inl f6)), (a7, .inl (nz_cI g, 168, .inl f7)), (a9, .inl (nz_cI g, 400, .inl f9)), (a19, .inl (nz_cI g, 6, .inl f19)), (a20, .inl (nz_cI g, 49, .inl f20)), (a21, .inl (nz_cI g, 6, .inl f21)), (a22, .inl (nz_cZ g, 2, .inl f22)), (a23, .inl (nz_cI g, 188, .inl f23)), (a24, .inl (nz_cI g, 16, .inl f24))] (nz_Qi g [(o, .inr (8, [.int r0, .int r1, .ref a2, .ref a3, .ref a4, .ref a5, .ref a6, .ref a7, .int r8, .ref a9, .int r10, .int r11, .int r12, .int r13, .int r14, .int r15, .int r16, .int r17, .int r18, .ref a19, .ref a20, .ref a21, .ref a22, .ref a23, .ref a24, .int r25])), (a2, .inl (nz_cI g, 8, .inl f2)), (a3, .inl (nz_cI g, 8, .inl f3)), (a4, .inl (nz_cI g, 320, .inl f4)), (a5, .inl (nz_cI g, 94, .inl f5)), (a6, .inl (nz_cI g, 94, .inl f6)), (a7, .inl (nz_cI g, 168, .inl f7)), (a9, .inl (nz_cI g, 400, .inl f9)), (a19, .inl (nz_cI g, 6, .inl f19)), (a20, .inl (nz_cI g, 49, .inl f20)), (a21, .inl (nz_cI g, 6, .inl f21)), (a22, .inl (nz_cZ g, 2, .inl f22)), (a23, .inl (nz_cI g, 188, .inl f23)), (a24, .inl (nz_cI g, 16, .inl f24))] (fun r (u : Int32 × (Nat → Int32)) => K r u.1 u.2) (fun u => [(o, .inr (8, [.int r0, .int r1, .ref a2, .ref a3, .ref a4, .ref a5, .ref a6, .ref a7, .int r8, .ref a9, .int r10, .int r11, .int r12, .int r13, .int r14, .int r15, .int r16, .int r17, .int r18, .ref a19, .ref a20, .ref a21, .ref a22, .ref a23, .ref a24, .int u.1])), (a2, .inl (nz_cI g, 8, .inl f2)), (a3, .inl (nz_cI g, 8, .inl f3)), (a4, .inl (nz_cI g, 320, .inl f4)), (a5, .inl (nz_cI g, 94, .inl f5)), (a6, .inl (nz_cI g, 94, .inl f6)), (a7, .inl (nz_cI g, 168, .inl f7)), (a9, .inl (nz_cI g, 400, .inl f9)), (a19, .inl (nz_cI g, 6, .inl f19)), (a20, .inl (nz_cI g, 49, .inl f20)), (a21, .inl (nz_cI g, 6, .inl f21)), (a22, .inl (nz_cZ g, 2, .inl f22)), (a23, .inl (nz_cI g, 188, .inl f23)), (a24, .inl (nz_cI g, 16, .inl u.2))])) := by
  refine nz_M.of (bytes := cX8_markOf) (nL := 4) (ret := (some .int)) (own := RX8) (by decide) rfl rfl ⟨rfl, rfl⟩ rfl ?_
  intro y F hl hQ
  obtain ⟨sz, hQ⟩ := hQ
  refine nz_ent (lv' := [(0, .ref o), (1, .int v1)]) rfl ?_
  unfold wp_X8_markOf at h
  refine nz_aload_n F dX8_markOf_0 rfl 0 rfl ?_
  refine nz_iload_n F dX8_markOf_1 rfl 1 rfl ?_
  refine nz_iconst (v := 0) F dX8_markOf_2 (by decide) ?_
  refine k_X8_of o a2 a3 a4 a5 a6 a7 a9 a19 a20 a21 a22 a23 a24 r0 r1 r8 r10 r11 r12 r13 r14 r15 r16 r17 r18 r25 f2 f3 f4 f5 f6 f7 f9 f19 f20 f21 f22 f23 f24 v1 0 (fun hM => nz_runV F gX8_markOf_X8_of rfl hd_X8_of rfl hM dX8_markOf_3 [0, 1, 2, 3, 4, 5, 6, 7, 8, 9, 10, 11, 12, 13] rfl rfl 0 rfl rfl rfl (Nat.le_of_ble_eq_true rfl) rfl) h ([(o, .inr (8, [.int r0, .int r1, .ref a2, .ref a3, .ref a4, .ref a5, .ref a6, .ref a7, .int r8, .ref a9, .int r10, .int r11, .int r12, .int r13, .int r14, .int r15, .int r16, .int r17, .int r18, .ref a19, .ref a20, .ref a21, .ref a22, .ref a23, .ref a24, .int r25])), (a2, .inl (nz_cI g, 8, .inl f2)), (a3, .inl (nz_cI g, 8, .inl f3)), (a4, .inl (nz_cI g, 320, .inl f4)), (a5, .inl (nz_cI g, 94, .inl f5)), (a6, .inl (nz_cI g, 94, .inl f6)), (a7, .inl (nz_cI g, 168, .inl f7)), (a9, .inl (nz_cI g, 400, .inl f9)), (a19, .inl (nz_cI g, 6, .inl f19)), (a20, .inl (nz_cI g, 49, .inl f20)), (a21, .inl (nz_cI g, 6, .inl f21)), (a22, .inl (nz_cZ g, 2, .inl f22)), (a23, .inl (nz_cI g, 188, .inl f23)), (a24, .inl (nz_cI g, 16, .inl f24))]) (rfl) (fun q1 h => ?_)
  refine nz_istore_n (lv' := [(2, .int q1), (0, .ref o), (1, .int v1)]) F dX8_markOf_6 rfl (by decide) rfl ?_
  refine nz_iload_n F dX8_markOf_7 rfl 0 rfl ?_
  refine nz_iconst (v := 4) F dX8_markOf_8 (by decide) ?_
  refine nz_icmp_lt (tgt := 32) F dX8_markOf_9 (by decide) (fun c2 => ?_) (fun c2 => ?_)
  · have h := h.1 c2
    refine nz_iload_n F dX8_markOf_32 rfl 0 rfl ?_
    refine nz_iconst (v := 1) F dX8_markOf_33 (by decide) ?_
    refine nz_icmp_eq (tgt := 53) F dX8_markOf_34 (by decide) (fun c3 => ?_) (fun c3 => ?_)
    · have h := h.1 c3
      refine nz_ls (lv' := [(0, .ref o), (1, .int v1), (2, .int q1)]) [1, 2, 0] rfl ?_
      exact t_X8_markOf_53 F o a2 a3 a4 a5 a6 a7 a9 a19 a20 a21 a22 a23 a24 r0 r1 r8 r10 r11 r12 r13 r14 r15 r16 r17 r18 f2 f3 f4 f5 f6 f7 f9 f19 f20 f21 f22 f23 v1 q1 r25 f24 hQ h
    · have h := h.2 c3
      refine nz_aload_n F dX8_markOf_37 rfl 1 rfl ?_
      refine nz_iload_n F dX8_markOf_38 rfl 0 rfl ?_
      refine nz_iconst (v := 3) F dX8_markOf_39 (by decide) ?_
      refine nz_icmp_ne (tgt := 48) F dX8_markOf_40 (by decide) (fun c12 => ?_) (fun c12 => ?_)
      · have h := h.1 c12
        refine nz_bipush (v := 24) F dX8_markOf_48 (by decide) ?_
        refine k_X8_began o a2 a3 a4 a5 a6 a7 a9 a19 a20 a21 a22 a23 a24 r0 r1 r8 r10 r11 r12 r13 r14 r15 r16 r17 r18 r25 f2 f3 f4 f5 f6 f7 f9 f19 f20 f21 f22 f23 f24 24 (fun hM => nz_runV F gX8_markOf_X8_began rfl hd_X8_began rfl hM dX8_markOf_50 [0, 1, 2, 3, 4, 5, 6, 7, 8, 9, 10, 11, 12, 13] rfl rfl 0 rfl rfl rfl (Nat.le_of_ble_eq_true rfl) rfl) h (fun m13 m14 => [(o, .inr (8, [.int r0, .int r1, .ref a2, .ref a3, .ref a4, .ref a5, .ref a6, .ref a7, .int r8, .ref a9, .int r10, .int r11, .int r12, .int r13, .int r14, .int r15, .int r16, .int r17, .int r18, .ref a19, .ref a20, .ref a21, .ref a22, .ref a23, .ref a24, .int m13])), (a2, .inl (nz_cI g, 8, .inl f2)), (a3, .inl (nz_cI g, 8, .inl f3)), (a4, .inl (nz_cI g, 320, .inl f4)), (a5, .inl (nz_cI g, 94, .inl f5)), (a6, .inl (nz_cI g, 94, .inl f6)), (a7, .inl (nz_cI g, 168, .inl f7)), (a9, .inl (nz_cI g, 400, .inl f9)), (a19, .inl (nz_cI g, 6, .inl f19)), (a20, .inl (nz_cI g, 49, .inl f20)), (a21, .inl (nz_cI g, 6, .inl f21)), (a22, .inl (nz_cZ g, 2, .inl f22)), (a23, .inl (nz_cI g, 188, .inl f23)), (a24, .inl (nz_cI g, 16, .inl m14))]) (fun _ _ => rfl) (fun m13 m14 h => ?_)
        refine nz_ls (lv' := [(0, .ref o), (1, .int v1), (2, .int q1)]) [1, 2, 0] rfl ?_
        exact t_X8_markOf_53 F o a2 a3 a4 a5 a6 a7 a9 a19 a20 a21 a22 a23 a24 r0 r1 r8 r10 r11 r12 r13 r14 r15 r16 r17 r18 f2 f3 f4 f5 f6 f7 f9 f19 f20 f21 f22 f23 v1 q1 m13 m14 hQ h
      · have h := h.2 c12
        refine nz_bipush (v := 22) F dX8_markOf_43 (by decide) ?_
        refine nz_goto (tgt := 50) F dX8_markOf_45 (by decide) ?_
        refine k_X8_began o a2 a3 a4 a5 a6 a7 a9 a19 a20 a21 a22 a23 a24 r0 r1 r8 r10 r11 r12 r13 r14 r15 r16 r17 r18 r25 f2 f3 f4 f5 f6 f7 f9 f19 f20 f21 f22 f23 f24 22 (fun hM => nz_runV F gX8_markOf_X8_began rfl hd_X8_began rfl hM dX8_markOf_50 [0, 1, 2, 3, 4, 5, 6, 7, 8, 9, 10, 11, 12, 13] rfl rfl 0 rfl rfl rfl (Nat.le_of_ble_eq_true rfl) rfl) h (fun m15 m16 => [(o, .inr (8, [.int r0, .int r1, .ref a2, .ref a3, .ref a4, .ref a5, .ref a6, .ref a7, .int r8, .ref a9, .int r10, .int r11, .int r12, .int r13, .int r14, .int r15, .int r16, .int r17, .int r18, .ref a19, .ref a20, .ref a21, .ref a22, .ref a23, .ref a24, .int m15])), (a2, .inl (nz_cI g, 8, .inl f2)), (a3, .inl (nz_cI g, 8, .inl f3)), (a4, .inl (nz_cI g, 320, .inl f4)), (a5, .inl (nz_cI g, 94, .inl f5)), (a6, .inl (nz_cI g, 94, .inl f6)), (a7, .inl (nz_cI g, 168, .inl f7)), (a9, .inl (nz_cI g, 400, .inl f9)), (a19, .inl (nz_cI g, 6, .inl f19)), (a20, .inl (nz_cI g, 49, .inl f20)), (a21, .inl (nz_cI g, 6, .inl f21)), (a22, .inl (nz_cZ g, 2, .inl f22)), (a23, .inl (nz_cI g, 188, .inl f23)), (a24, .inl (nz_cI g, 16, .inl m16))]) (fun _ _ => rfl) (fun m15 m16 h => ?_)
        refine nz_ls (lv' := [(0, .ref o), (1, .int v1), (2, .int q1)]) [1, 2, 0] rfl ?_
        exact t_X8_markOf_53 F o a2 a3 a4 a5 a6 a7 a9 a19 a20 a21 a22 a23 a24 r0 r1 r8 r10 r11 r12 r13 r14 r15 r16 r17 r18 f2 f3 f4 f5 f6 f7 f9 f19 f20 f21 f22 f23 v1 q1 m15 m16 hQ h
  · have h := h.2 c2
    refine nz_aload_n F dX8_markOf_12 rfl 1 rfl ?_
    refine nz_bipush (v := 23) F dX8_markOf_13 (by decide) ?_
    refine k_X8_began o a2 a3 a4 a5 a6 a7 a9 a19 a20 a21 a22 a23 a24 r0 r1 r8 r10 r11 r12 r13 r14 r15 r16 r17 r18 r25 f2 f3 f4 f5 f6 f7 f9 f19 f20 f21 f22 f23 f24 23 (fun hM => nz_runV F gX8_markOf_X8_began rfl hd_X8_began rfl hM dX8_markOf_15 [0, 1, 2, 3, 4, 5, 6, 7, 8, 9, 10, 11, 12, 13] rfl rfl 0 rfl rfl rfl (Nat.le_of_ble_eq_true rfl) rfl) h (fun m17 m18 => [(o, .inr (8, [.int r0, .int r1, .ref a2, .ref a3, .ref a4, .ref a5, .ref a6, .ref a7, .int r8, .ref a9, .int r10, .int r11, .int r12, .int r13, .int r14, .int r15, .int r16, .int r17, .int r18, .ref a19, .ref a20, .ref a21, .ref a22, .ref a23, .ref a24, .int m17])), (a2, .inl (nz_cI g, 8, .inl f2)), (a3, .inl (nz_cI g, 8, .inl f3)), (a4, .inl (nz_cI g, 320, .inl f4)), (a5, .inl (nz_cI g, 94, .inl f5)), (a6, .inl (nz_cI g, 94, .inl f6)), (a7, .inl (nz_cI g, 168, .inl f7)), (a9, .inl (nz_cI g, 400, .inl f9)), (a19, .inl (nz_cI g, 6, .inl f19)), (a20, .inl (nz_cI g, 49, .inl f20)), (a21, .inl (nz_cI g, 6, .inl f21)), (a22, .inl (nz_cZ g, 2, .inl f22)), (a23, .inl (nz_cI g, 188, .inl f23)), (a24, .inl (nz_cI g, 16, .inl m18))]) (fun _ _ => rfl) (fun m17 m18 h => ?_)
    refine nz_aload_n F dX8_markOf_18 rfl 1 rfl ?_
    refine nz_bipush (v := 20) F dX8_markOf_19 (by decide) ?_
    refine k_X8_began o a2 a3 a4 a5 a6 a7 a9 a19 a20 a21 a22 a23 a24 r0 r1 r8 r10 r11 r12 r13 r14 r15 r16 r17 r18 m17 f2 f3 f4 f5 f6 f7 f9 f19 f20 f21 f22 f23 m18 20 (fun hM => nz_runV F gX8_markOf_X8_began rfl hd_X8_began rfl hM dX8_markOf_21 [0, 1, 2, 3, 4, 5, 6, 7, 8, 9, 10, 11, 12, 13] rfl rfl 0 rfl rfl rfl (Nat.le_of_ble_eq_true rfl) rfl) h (fun m19 m20 => [(o, .inr (8, [.int r0, .int r1, .ref a2, .ref a3, .ref a4, .ref a5, .ref a6, .ref a7, .int r8, .ref a9, .int r10, .int r11, .int r12, .int r13, .int r14, .int r15, .int r16, .int r17, .int r18, .ref a19, .ref a20, .ref a21, .ref a22, .ref a23, .ref a24, .int m19])), (a2, .inl (nz_cI g, 8, .inl f2)), (a3, .inl (nz_cI g, 8, .inl f3)), (a4, .inl (nz_cI g, 320, .inl f4)), (a5, .inl (nz_cI g, 94, .inl f5)), (a6, .inl (nz_cI g, 94, .inl f6)), (a7, .inl (nz_cI g, 168, .inl f7)), (a9, .inl (nz_cI g, 400, .inl f9)), (a19, .inl (nz_cI g, 6, .inl f19)), (a20, .inl (nz_cI g, 49, .inl f20)), (a21, .inl (nz_cI g, 6, .inl f21)), (a22, .inl (nz_cZ g, 2, .inl f22)), (a23, .inl (nz_cI g, 188, .inl f23)), (a24, .inl (nz_cI g, 16, .inl m20))]) (fun _ _ => rfl) (fun m19 m20 h => ?_)
    refine nz_iload_n F dX8_markOf_24 rfl 2 rfl ?_
    refine nz_aload_n F dX8_markOf_25 rfl 1 rfl ?_
    refine nz_iload_n F dX8_markOf_26 rfl 2 rfl ?_
    refine k_X8_thiefSize o a2 a3 a4 a5 a6 a7 a9 a19 a20 a21 a22 a23 a24 r0 r1 r8 r10 r11 r12 r13 r14 r15 r16 r17 r18 m19 f2 f3 f4 f5 f6 f7 f9 f19 f20 f21 f22 f23 m20 v1 (fun hM => nz_runV F gX8_markOf_X8_thiefSize rfl hd_X8_thiefSize rfl hM dX8_markOf_27 [0, 1, 2, 3, 4, 5, 6, 7, 8, 9, 10, 11, 12, 13] rfl rfl 0 rfl rfl rfl (Nat.le_of_ble_eq_true rfl) rfl) h (fun m22 m23 => [(o, .inr (8, [.int r0, .int r1, .ref a2, .ref a3, .ref a4, .ref a5, .ref a6, .ref a7, .int r8, .ref a9, .int r10, .int r11, .int r12, .int r13, .int r14, .int r15, .int r16, .int r17, .int r18, .ref a19, .ref a20, .ref a21, .ref a22, .ref a23, .ref a24, .int m22])), (a2, .inl (nz_cI g, 8, .inl f2)), (a3, .inl (nz_cI g, 8, .inl f3)), (a4, .inl (nz_cI g, 320, .inl f4)), (a5, .inl (nz_cI g, 94, .inl f5)), (a6, .inl (nz_cI g, 94, .inl f6)), (a7, .inl (nz_cI g, 168, .inl f7)), (a9, .inl (nz_cI g, 400, .inl f9)), (a19, .inl (nz_cI g, 6, .inl f19)), (a20, .inl (nz_cI g, 49, .inl f20)), (a21, .inl (nz_cI g, 6, .inl f21)), (a22, .inl (nz_cZ g, 2, .inl f22)), (a23, .inl (nz_cI g, 188, .inl f23)), (a24, .inl (nz_cI g, 16, .inl m23))]) (fun _ _ => rfl) (fun q21 m22 m23 h => ?_)
    refine nz_isub F dX8_markOf_30 ?_
    exact nz_iret F hQ (m22, m23) h rfl dX8_markOf_31
theorem k_X8_markOf {y : nz_Y} {g : nz_G} {k n : Nat} {ws : va_W} {pc : Nat} {ls : List (Nat × Value)} {st rest : List Value} {av : Array Value} {isC : List Nat} {K : Int32 → Int32 → (Nat → Int32) → Prop} (o : Nat) (a2 : Nat) (a3 : Nat) (a4 : Nat) (a5 : Nat) (a6 : Nat) (a7 : Nat) (a9 : Nat) (a19 : Nat) (a20 : Nat) (a21 : Nat) (a22 : Nat) (a23 : Nat) (a24 : Nat) (r0 : Int32) (r1 : Int32) (r8 : Int32) (r10 : Int32) (r11 : Int32) (r12 : Int32) (r13 : Int32) (r14 : Int32) (r15 : Int32) (r16 : Int32) (r17 : Int32) (r18 : Int32) (r25 : Int32) (f2 : Nat → Int32) (f3 : Nat → Int32) (f4 : Nat → Int32) (f5 : Nat → Int32) (f6 : Nat → Int32) (f7 : Nat → Int32) (f9 : Nat → Int32) (f19 : Nat → Int32) (f20 : Nat → Int32) (f21 : Nat → Int32) (f22 : Nat → Int32) (f23 : Nat → Int32) (f24 : Nat → Int32) (v1 : Int32) (run : nz_M (yz_l y) yX8_markOf wsX8_markOf rm_X8_markOf g [.ref o, .int v1] [(o, .inr (8, [.int r0, .int r1, .ref a2, .ref a3, .ref a4, .ref a5, .ref a6, .ref a7, .int r8, .ref a9, .int r10, .int r11, .int r12, .int r13, .int r14, .int r15, .int r16, .int r17, .int r18, .ref a19, .ref a20, .ref a21, .ref a22, .ref a23, .ref a24, .int r25])), (a2, .inl (nz_cI g, 8, .inl f2)), (a3, .inl (nz_cI g, 8, .inl f3)), (a4, .inl (nz_cI g, 320, .inl f4)), (a5, .inl (nz_cI g, 94, .inl f5)), (a6, .inl (nz_cI g, 94, .inl f6)), (a7, .inl (nz_cI g, 168, .inl f7)), (a9, .inl (nz_cI g, 400, .inl f9)), (a19, .inl (nz_cI g, 6, .inl f19)), (a20, .inl (nz_cI g, 49, .inl f20)), (a21, .inl (nz_cI g, 6, .inl f21)), (a22, .inl (nz_cZ g, 2, .inl f22)), (a23, .inl (nz_cI g, 188, .inl f23)), (a24, .inl (nz_cI g, 16, .inl f24))] (nz_Qi g [(o, .inr (8, [.int r0, .int r1, .ref a2, .ref a3, .ref a4, .ref a5, .ref a6, .ref a7, .int r8, .ref a9, .int r10, .int r11, .int r12, .int r13, .int r14, .int r15, .int r16, .int r17, .int r18, .ref a19, .ref a20, .ref a21, .ref a22, .ref a23, .ref a24, .int r25])), (a2, .inl (nz_cI g, 8, .inl f2)), (a3, .inl (nz_cI g, 8, .inl f3)), (a4, .inl (nz_cI g, 320, .inl f4)), (a5, .inl (nz_cI g, 94, .inl f5)), (a6, .inl (nz_cI g, 94, .inl f6)), (a7, .inl (nz_cI g, 168, .inl f7)), (a9, .inl (nz_cI g, 400, .inl f9)), (a19, .inl (nz_cI g, 6, .inl f19)), (a20, .inl (nz_cI g, 49, .inl f20)), (a21, .inl (nz_cI g, 6, .inl f21)), (a22, .inl (nz_cZ g, 2, .inl f22)), (a23, .inl (nz_cI g, 188, .inl f23)), (a24, .inl (nz_cI g, 16, .inl f24))] (fun r (u : Int32 × (Nat → Int32)) => K r u.1 u.2) (fun u => [(o, .inr (8, [.int r0, .int r1, .ref a2, .ref a3, .ref a4, .ref a5, .ref a6, .ref a7, .int r8, .ref a9, .int r10, .int r11, .int r12, .int r13, .int r14, .int r15, .int r16, .int r17, .int r18, .ref a19, .ref a20, .ref a21, .ref a22, .ref a23, .ref a24, .int u.1])), (a2, .inl (nz_cI g, 8, .inl f2)), (a3, .inl (nz_cI g, 8, .inl f3)), (a4, .inl (nz_cI g, 320, .inl f4)), (a5, .inl (nz_cI g, 94, .inl f5)), (a6, .inl (nz_cI g, 94, .inl f6)), (a7, .inl (nz_cI g, 168, .inl f7)), (a9, .inl (nz_cI g, 400, .inl f9)), (a19, .inl (nz_cI g, 6, .inl f19)), (a20, .inl (nz_cI g, 49, .inl f20)), (a21, .inl (nz_cI g, 6, .inl f21)), (a22, .inl (nz_cZ g, 2, .inl f22)), (a23, .inl (nz_cI g, 188, .inl f23)), (a24, .inl (nz_cI g, 16, .inl u.2))])) → nz_C y g k n ws pc ls st rest [(o, .inr (8, [.int r0, .int r1, .ref a2, .ref a3, .ref a4, .ref a5, .ref a6, .ref a7, .int r8, .ref a9, .int r10, .int r11, .int r12, .int r13, .int r14, .int r15, .int r16, .int r17, .int r18, .ref a19, .ref a20, .ref a21, .ref a22, .ref a23, .ref a24, .int r25])), (a2, .inl (nz_cI g, 8, .inl f2)), (a3, .inl (nz_cI g, 8, .inl f3)), (a4, .inl (nz_cI g, 320, .inl f4)), (a5, .inl (nz_cI g, 94, .inl f5)), (a6, .inl (nz_cI g, 94, .inl f6)), (a7, .inl (nz_cI g, 168, .inl f7)), (a9, .inl (nz_cI g, 400, .inl f9)), (a19, .inl (nz_cI g, 6, .inl f19)), (a20, .inl (nz_cI g, 49, .inl f20)), (a21, .inl (nz_cI g, 6, .inl f21)), (a22, .inl (nz_cZ g, 2, .inl f22)), (a23, .inl (nz_cI g, 188, .inl f23)), (a24, .inl (nz_cI g, 16, .inl f24))] (nz_Qi g [(o, .inr (8, [.int r0, .int r1, .ref a2, .ref a3, .ref a4, .ref a5, .ref a6, .ref a7, .int r8, .ref a9, .int r10, .int r11, .int r12, .int r13, .int r14, .int r15, .int r16, .int r17, .int r18, .ref a19, .ref a20, .ref a21, .ref a22, .ref a23, .ref a24, .int r25])), (a2, .inl (nz_cI g, 8, .inl f2)), (a3, .inl (nz_cI g, 8, .inl f3)), (a4, .inl (nz_cI g, 320, .inl f4)), (a5, .inl (nz_cI g, 94, .inl f5)), (a6, .inl (nz_cI g, 94, .inl f6)), (a7, .inl (nz_cI g, 168, .inl f7)), (a9, .inl (nz_cI g, 400, .inl f9)), (a19, .inl (nz_cI g, 6, .inl f19)), (a20, .inl (nz_cI g, 49, .inl f20)), (a21, .inl (nz_cI g, 6, .inl f21)), (a22, .inl (nz_cZ g, 2, .inl f22)), (a23, .inl (nz_cI g, 188, .inl f23)), (a24, .inl (nz_cI g, 16, .inl f24))] (fun r (u : Int32 × (Nat → Int32)) => K r u.1 u.2) (fun u => [(o, .inr (8, [.int r0, .int r1, .ref a2, .ref a3, .ref a4, .ref a5, .ref a6, .ref a7, .int r8, .ref a9, .int r10, .int r11, .int r12, .int r13, .int r14, .int r15, .int r16, .int r17, .int r18, .ref a19, .ref a20, .ref a21, .ref a22, .ref a23, .ref a24, .int u.1])), (a2, .inl (nz_cI g, 8, .inl f2)), (a3, .inl (nz_cI g, 8, .inl f3)), (a4, .inl (nz_cI g, 320, .inl f4)), (a5, .inl (nz_cI g, 94, .inl f5)), (a6, .inl (nz_cI g, 94, .inl f6)), (a7, .inl (nz_cI g, 168, .inl f7)), (a9, .inl (nz_cI g, 400, .inl f9)), (a19, .inl (nz_cI g, 6, .inl f19)), (a20, .inl (nz_cI g, 49, .inl f20)), (a21, .inl (nz_cI g, 6, .inl f21)), (a22, .inl (nz_cZ g, 2, .inl f22)), (a23, .inl (nz_cI g, 188, .inl f23)), (a24, .inl (nz_cI g, 16, .inl u.2))])) av isC) (h : wp_X8_markOf r25 f5 f24 v1 K) (ws' : Int32 → (Nat → Int32) → va_W) (hm : ∀ (m0 : Int32) (m1 : (Nat → Int32)), nz_mrg ws isC [(o, .inr (8, [.int r0, .int r1, .ref a2, .ref a3, .ref a4, .ref a5, .ref a6, .ref a7, .int r8, .ref a9, .int r10, .int r11, .int r12, .int r13, .int r14, .int r15, .int r16, .int r17, .int r18, .ref a19, .ref a20, .ref a21, .ref a22, .ref a23, .ref a24, .int m0])), (a2, .inl (nz_cI g, 8, .inl f2)), (a3, .inl (nz_cI g, 8, .inl f3)), (a4, .inl (nz_cI g, 320, .inl f4)), (a5, .inl (nz_cI g, 94, .inl f5)), (a6, .inl (nz_cI g, 94, .inl f6)), (a7, .inl (nz_cI g, 168, .inl f7)), (a9, .inl (nz_cI g, 400, .inl f9)), (a19, .inl (nz_cI g, 6, .inl f19)), (a20, .inl (nz_cI g, 49, .inl f20)), (a21, .inl (nz_cI g, 6, .inl f21)), (a22, .inl (nz_cZ g, 2, .inl f22)), (a23, .inl (nz_cI g, 188, .inl f23)), (a24, .inl (nz_cI g, 16, .inl m1))] = ws' m0 m1) (kk : ∀ (r : Int32) (m0 : Int32) (m1 : (Nat → Int32)), K r m0 m1 → nz_V y g k n (ws' m0 m1) (pc + 3) ls (.int r :: rest)) : nz_V y g k n ws pc ls st :=
  nz_ci (ws' := fun u => ws' u.1 u.2) (run (c_X8_markOf (yz_l y) g o a2 a3 a4 a5 a6 a7 a9 a19 a20 a21 a22 a23 a24 r0 r1 r8 r10 r11 r12 r13 r14 r15 r16 r17 r18 r25 f2 f3 f4 f5 f6 f7 f9 f19 f20 f21 f22 f23 f24 v1 K h)) (fun _ => rfl) (fun u => hm u.1 u.2) (fun r u h => kk r u.1 u.2 h)
theorem dX8_sizeOf_0 : decode cX8_sizeOf 0 = .ok (.aload_n 0, 1) := by decide +kernel
theorem dX8_sizeOf_1 : decode cX8_sizeOf 1 = .ok (.iload_n 1, 1) := by decide +kernel
theorem dX8_sizeOf_2 : decode cX8_sizeOf 2 = .ok (.iconst 0, 1) := by decide +kernel
theorem dX8_sizeOf_3 : decode cX8_sizeOf 3 = .ok (.invokevirtual 183, 3) := by decide +kernel
theorem dX8_sizeOf_6 : decode cX8_sizeOf 6 = .ok (.istore_n 2, 1) := by decide +kernel
theorem dX8_sizeOf_7 : decode cX8_sizeOf 7 = .ok (.iload_n 2, 1) := by decide +kernel
theorem dX8_sizeOf_8 : decode cX8_sizeOf 8 = .ok (.iconst 4, 1) := by decide +kernel
theorem dX8_sizeOf_9 : decode cX8_sizeOf 9 = .ok (.if_icmp .lt 9, 3) := by decide +kernel
theorem dX8_sizeOf_12 : decode cX8_sizeOf 12 = .ok (.aload_n 0, 1) := by decide +kernel
theorem dX8_sizeOf_13 : decode cX8_sizeOf 13 = .ok (.iload_n 1, 1) := by decide +kernel
theorem dX8_sizeOf_14 : decode cX8_sizeOf 14 = .ok (.invokevirtual 272, 3) := by decide +kernel
theorem dX8_sizeOf_17 : decode cX8_sizeOf 17 = .ok (.ireturn, 1) := by decide +kernel
theorem dX8_sizeOf_18 : decode cX8_sizeOf 18 = .ok (.iload_n 2, 1) := by decide +kernel
theorem dX8_sizeOf_19 : decode cX8_sizeOf 19 = .ok (.iconst 2, 1) := by decide +kernel
theorem dX8_sizeOf_20 : decode cX8_sizeOf 20 = .ok (.if_icmp .ne 9, 3) := by decide +kernel
theorem dX8_sizeOf_23 : decode cX8_sizeOf 23 = .ok (.aload_n 0, 1) := by decide +kernel
theorem dX8_sizeOf_24 : decode cX8_sizeOf 24 = .ok (.bipush 12, 2) := by decide +kernel
theorem dX8_sizeOf_26 : decode cX8_sizeOf 26 = .ok (.invokevirtual 266, 3) := by decide +kernel
theorem dX8_sizeOf_29 : decode cX8_sizeOf 29 = .ok (.aload_n 0, 1) := by decide +kernel
theorem dX8_sizeOf_30 : decode cX8_sizeOf 30 = .ok (.bipush 11, 2) := by decide +kernel
theorem dX8_sizeOf_32 : decode cX8_sizeOf 32 = .ok (.invokevirtual 266, 3) := by decide +kernel
theorem dX8_sizeOf_35 : decode cX8_sizeOf 35 = .ok (.aload_n 0, 1) := by decide +kernel
theorem dX8_sizeOf_36 : decode cX8_sizeOf 36 = .ok (.iload_n 1, 1) := by decide +kernel
theorem dX8_sizeOf_37 : decode cX8_sizeOf 37 = .ok (.invokevirtual 269, 3) := by decide +kernel
theorem dX8_sizeOf_40 : decode cX8_sizeOf 40 = .ok (.istore_n 3, 1) := by decide +kernel
theorem dX8_sizeOf_41 : decode cX8_sizeOf 41 = .ok (.iload_n 3, 1) := by decide +kernel
theorem dX8_sizeOf_42 : decode cX8_sizeOf 42 = .ok (.aload_n 0, 1) := by decide +kernel
theorem dX8_sizeOf_43 : decode cX8_sizeOf 43 = .ok (.iload_n 1, 1) := by decide +kernel
theorem dX8_sizeOf_44 : decode cX8_sizeOf 44 = .ok (.invokevirtual 275, 3) := by decide +kernel
theorem dX8_sizeOf_47 : decode cX8_sizeOf 47 = .ok (.iadd, 1) := by decide +kernel
theorem dX8_sizeOf_48 : decode cX8_sizeOf 48 = .ok (.istore_n 3, 1) := by decide +kernel
theorem dX8_sizeOf_49 : decode cX8_sizeOf 49 = .ok (.iload_n 2, 1) := by decide +kernel
theorem dX8_sizeOf_50 : decode cX8_sizeOf 50 = .ok (.iconst 2, 1) := by decide +kernel
theorem dX8_sizeOf_51 : decode cX8_sizeOf 51 = .ok (.if_icmp .ne 8, 3) := by decide +kernel
theorem dX8_sizeOf_54 : decode cX8_sizeOf 54 = .ok (.iload_n 3, 1) := by decide +kernel
theorem dX8_sizeOf_55 : decode cX8_sizeOf 55 = .ok (.ineg, 1) := by decide +kernel
theorem dX8_sizeOf_56 : decode cX8_sizeOf 56 = .ok (.goto 4, 3) := by decide +kernel
theorem dX8_sizeOf_59 : decode cX8_sizeOf 59 = .ok (.iload_n 3, 1) := by decide +kernel
theorem dX8_sizeOf_60 : decode cX8_sizeOf 60 = .ok (.ireturn, 1) := by decide +kernel
set_option maxRecDepth 20000 in
theorem ggX8_sizeOf_X8_began : GoodIn wsX8_sizeOf wsX8_began := goodIn_r _ [14, 15, 16, 29, 30, 31, 32, 33, 34, 35, 36, 37, 38, 39, 40, 41, 42, 43, 44, 45, 46, 47, 48, 49, 50, 51, 52, 53, 54] rfl (by decide +kernel)
set_option maxRecDepth 20000 in
theorem gX8_sizeOf_X8_began : GoodIn wsX8_sizeOf (wsV RX8 266 RX8 yX8_began wsX8_began) := goodIn_app (goodIn_r _ [11, 12, 13, 4] rfl (by decide +kernel)) ggX8_sizeOf_X8_began
set_option maxRecDepth 20000 in
theorem ggX8_sizeOf_X8_markOf : GoodIn wsX8_sizeOf wsX8_markOf := goodIn_r _ [24, 1, 2, 3, 4, 5, 6, 11, 12, 13, 14, 15, 16, 7, 8, 9, 10, 17, 18, 19, 20, 25, 26, 27, 28, 29, 30, 31, 32, 33, 34, 35, 36, 37, 38, 39, 40, 41, 42, 43, 44, 45, 46, 47, 48, 49, 50, 51, 52, 53, 54] rfl (by decide +kernel)
set_option maxRecDepth 20000 in
theorem gX8_sizeOf_X8_markOf : GoodIn wsX8_sizeOf (wsV RX8 275 RX8 yX8_markOf wsX8_markOf) := goodIn_app (goodIn_r _ [21, 22, 23, 4] rfl (by decide +kernel)) ggX8_sizeOf_X8_markOf
set_option maxRecDepth 20000 in
theorem ggX8_sizeOf_X8_of : GoodIn wsX8_sizeOf wsX8_of := goodIn_r _ [5, 6, 29, 30, 31, 32, 33, 34, 35, 36, 37, 38, 39, 40, 41, 42, 43, 44, 45, 46, 47, 48, 49, 50, 51, 52, 53, 54] rfl (by decide +kernel)
set_option maxRecDepth 20000 in
theorem gX8_sizeOf_X8_of : GoodIn wsX8_sizeOf (wsV RX8 183 RX8 yX8_of wsX8_of) := goodIn_app (goodIn_r _ [1, 2, 3, 4] rfl (by decide +kernel)) ggX8_sizeOf_X8_of
set_option maxRecDepth 20000 in
theorem ggX8_sizeOf_X8_plainSize : GoodIn wsX8_sizeOf wsX8_plainSize := goodIn_r _ [20, 11, 12, 13, 4, 14, 15, 16, 1, 2, 3, 5, 6, 29, 30, 31, 32, 33, 34, 35, 36, 37, 38, 39, 40, 41, 42, 43, 44, 45, 46, 47, 48, 49, 50, 51, 52, 53, 54] rfl (by decide +kernel)
set_option maxRecDepth 20000 in
theorem gX8_sizeOf_X8_plainSize : GoodIn wsX8_sizeOf (wsV RX8 269 RX8 yX8_plainSize wsX8_plainSize) := goodIn_app (goodIn_r _ [17, 18, 19, 4] rfl (by decide +kernel)) ggX8_sizeOf_X8_plainSize
set_option maxRecDepth 20000 in
theorem ggX8_sizeOf_X8_thiefSize : GoodIn wsX8_sizeOf wsX8_thiefSize := goodIn_r _ [10, 1, 2, 3, 4, 5, 6, 11, 12, 13, 14, 15, 16, 17, 18, 19, 20, 29, 30, 31, 32, 33, 34, 35, 36, 37, 38, 39, 40, 41, 42, 43, 44, 45, 46, 47, 48, 49, 50, 51, 52, 53, 54] rfl (by decide +kernel)
set_option maxRecDepth 20000 in
theorem gX8_sizeOf_X8_thiefSize : GoodIn wsX8_sizeOf (wsV RX8 272 RX8 yX8_thiefSize wsX8_thiefSize) := goodIn_app (goodIn_r _ [7, 8, 9, 4] rfl (by decide +kernel)) ggX8_sizeOf_X8_thiefSize
theorem hd_X8_markOf : yX8_markOf.cls = RX8 ∧ yX8_markOf.cls ≠ "java/lang/invoke/MethodHandle" ∧ yX8_markOf.cls ≠ "java/lang/invoke/VarHandle" ∧ (parseMethodDescriptor yX8_markOf.desc).map (fun d => d.parameters.length) = some 1 := by decide +kernel
/-! X8_sizeOf -/
abbrev rm_X8_sizeOf : Room := { frames := 4, cells := 0, slots := 0, locals := 88 }
def S_X8_sizeOf_29 (f5 : Nat → Int32) (v1 : Int32) (x2 : Int32) (r25 : Int32) (f24 : Nat → Int32) (K : Int32 → Int32 → (Nat → Int32) → Prop) : Prop := wp_X8_began r25 f24 11 (fun m4 m5 => wp_X8_plainSize m4 f5 m5 v1 (fun q6 m7 m8 => wp_X8_markOf m7 f5 m8 v1 (fun q9 m10 m11 => ((¬ x2 = 2 → K (q6 + q9) m10 m11) ∧ (x2 = 2 → K (-(q6 + q9)) m10 m11)))))
set_option maxHeartbeats 4000000 in
set_option maxRecDepth 100000 in
theorem t_X8_sizeOf_29 {y : nz_Y} {g : nz_G} (F : nz_F y g cX8_sizeOf 4 wsX8_sizeOf RX8 (some .int) rm_X8_sizeOf) {wc0 : va_W} {sz : Nat} {K : Int32 → Int32 → (Nat → Int32) → Prop} (o : Nat) (a2 : Nat) (a3 : Nat) (a4 : Nat) (a5 : Nat) (a6 : Nat) (a7 : Nat) (a9 : Nat) (a19 : Nat) (a20 : Nat) (a21 : Nat) (a22 : Nat) (a23 : Nat) (a24 : Nat) (r0 : Int32) (r1 : Int32) (r8 : Int32) (r10 : Int32) (r11 : Int32) (r12 : Int32) (r13 : Int32) (r14 : Int32) (r15 : Int32) (r16 : Int32) (r17 : Int32) (r18 : Int32) (f2 : Nat → Int32) (f3 : Nat → Int32) (f4 : Nat → Int32) (f5 : Nat → Int32) (f6 : Nat → Int32) (f7 : Nat → Int32) (f9 : Nat → Int32) (f19 : Nat → Int32) (f20 : Nat → Int32) (f21 : Nat → Int32) (f22 : Nat → Int32) (f23 : Nat → Int32) (v1 : Int32) (x2 : Int32) (r25 : Int32) (f24 : Nat → Int32) (hQ : yz_A y = va_A wc0 sz ∧ yz_Q y = MQ (yz_b y) ((nz_Qi g wc0 (fun r (u : Int32 × (Nat → Int32)) => K r u.1 u.2) (fun u => [(o, .inr (8, [.int r0, .int r1, .ref a2, .ref a3, .ref a4, .ref a5, .ref a6, .ref a7, .int r8, .ref a9, .int r10, .int r11, .int r12, .int r13, .int r14, .int r15, .int r16, .int r17, .int r18, .ref a19, .ref a20, .ref a21, .ref a22, .ref a23, .ref a24, .int u.1])), (a2, .inl (nz_cI g, 8, .inl f2)), (a3, .inl (nz_cI g, 8, .inl f3)), (a4, .inl (nz_cI g, 320, .inl f4)), (a5, .inl (nz_cI g, 94, .inl f5)), (a6, .inl (nz_cI g, 94, .inl f6)), (a7, .inl (nz_cI g, 168, .inl f7)), (a9, .inl (nz_cI g, 400, .inl f9)), (a19, .inl (nz_cI g, 6, .inl f19)), (a20, .inl (nz_cI g, 49, .inl f20)), (a21, .inl (nz_cI g, 6, .inl f21)), (a22, .inl (nz_cZ g, 2, .inl f22)), (a23, .inl (nz_cI g, 188, .inl f23)), (a24, .inl (nz_cI g, 16, .inl u.2))])) sz) (yz_a y) (yz_s y) 0 0 (va_A wc0 sz)) : S_X8_sizeOf_29 f5 v1 x2 r25 f24 K → nz_V y g 0 0 [(o, .inr (8, [.int r0, .int r1, .ref a2, .ref a3, .ref a4, .ref a5, .ref a6, .ref a7, .int r8, .ref a9, .int r10, .int r11, .int r12, .int r13, .int r14, .int r15, .int r16, .int r17, .int r18, .ref a19, .ref a20, .ref a21, .ref a22, .ref a23, .ref a24, .int r25])), (a2, .inl (nz_cI g, 8, .inl f2)), (a3, .inl (nz_cI g, 8, .inl f3)), (a4, .inl (nz_cI g, 320, .inl f4)), (a5, .inl (nz_cI g, 94, .inl f5)), (a6, .inl (nz_cI g, 94, .inl f6)), (a7, .inl (nz_cI g, 168, .inl f7)), (a9, .inl (nz_cI g, 400, .inl f9)), (a19, .inl (nz_cI g, 6, .inl f19)), (a20, .inl (nz_cI g, 49, .inl f20)), (a21, .inl (nz_cI g, 6, .inl f21)), (a22, .inl (nz_cZ g, 2, .inl f22)), (a23, .inl (nz_cI g, 188, .inl f23)), (a24, .inl (nz_cI g, 16, .inl f24))] 29 [(0, .ref o), (1, .int v1), (2, .int x2)] [] := by
  intro h
  unfold S_X8_sizeOf_29 at h
  refine nz_aload_n F dX8_sizeOf_29 rfl 0 rfl ?_
  refine nz_bipush (v := 11) F dX8_sizeOf_30 (by decide) ?_
  refine k_X8_began o a2 a3 a4 a5 a6 a7 a9 a19 a20 a21 a22 a23 a24 r0 r1 r8 r10 r11 r12 r13 r14 r15 r16 r17 r18 r25 f2 f3 f4 f5 f6 f7 f9 f19 f20 f21 f22 f23 f24 11 (fun hM => nz_runV F gX8_sizeOf_X8_began rfl hd_X8_began rfl hM dX8_sizeOf_32 [0, 1, 2, 3, 4, 5, 6, 7, 8, 9, 10, 11, 12, 13] rfl rfl 0 rfl rfl rfl (Nat.le_of_ble_eq_true rfl) rfl) h (fun m4 m5 => [(o, .inr (8, [.int r0, .int r1, .ref a2, .ref a3, .ref a4, .ref a5, .ref a6, .ref a7, .int r8, .ref a9, .int r10, .int r11, .int r12, .int r13, .int r14, .int r15, .int r16, .int r17, .int r18, .ref a19, .ref a20, .ref a21, .ref a22, .ref a23, .ref a24, .int m4])), (a2, .inl (nz_cI g, 8, .inl f2)), (a3, .inl (nz_cI g, 8, .inl f3)), (a4, .inl (nz_cI g, 320, .inl f4)), (a5, .inl (nz_cI g, 94, .inl f5)), (a6, .inl (nz_cI g, 94, .inl f6)), (a7, .inl (nz_cI g, 168, .inl f7)), (a9, .inl (nz_cI g, 400, .inl f9)), (a19, .inl (nz_cI g, 6, .inl f19)), (a20, .inl (nz_cI g, 49, .inl f20)), (a21, .inl (nz_cI g, 6, .inl f21)), (a22, .inl (nz_cZ g, 2, .inl f22)), (a23, .inl (nz_cI g, 188, .inl f23)), (a24, .inl (nz_cI g, 16, .inl m5))]) (fun _ _ => rfl) (fun m4 m5 h => ?_)
  refine nz_aload_n F dX8_sizeOf_35 rfl 0 rfl ?_
  refine nz_iload_n F dX8_sizeOf_36 rfl 1 rfl ?_
  refine k_X8_plainSize o a2 a3 a4 a5 a6 a7 a9 a19 a20 a21 a22 a23 a24 r0 r1 r8 r10 r11 r12 r13 r14 r15 r16 r17 r18 m4 f2 f3 f4 f5 f6 f7 f9 f19 f20 f21 f22 f23 m5 v1 (fun hM => nz_runV F gX8_sizeOf_X8_plainSize rfl hd_X8_plainSize rfl hM dX8_sizeOf_37 [0, 1, 2, 3, 4, 5, 6, 7, 8, 9, 10, 11, 12, 13] rfl rfl 0 rfl rfl rfl (Nat.le_of_ble_eq_true rfl) rfl) h (fun m7 m8 => [(o, .inr (8, [.int r0, .int r1, .ref a2, .ref a3, .ref a4, .ref a5, .ref a6, .ref a7, .int r8, .ref a9, .int r10, .int r11, .int r12, .int r13, .int r14, .int r15, .int r16, .int r17, .int r18, .ref a19, .ref a20, .ref a21, .ref a22, .ref a23, .ref a24, .int m7])), (a2, .inl (nz_cI g, 8, .inl f2)), (a3, .inl (nz_cI g, 8, .inl f3)), (a4, .inl (nz_cI g, 320, .inl f4)), (a5, .inl (nz_cI g, 94, .inl f5)), (a6, .inl (nz_cI g, 94, .inl f6)), (a7, .inl (nz_cI g, 168, .inl f7)), (a9, .inl (nz_cI g, 400, .inl f9)), (a19, .inl (nz_cI g, 6, .inl f19)), (a20, .inl (nz_cI g, 49, .inl f20)), (a21, .inl (nz_cI g, 6, .inl f21)), (a22, .inl (nz_cZ g, 2, .inl f22)), (a23, .inl (nz_cI g, 188, .inl f23)), (a24, .inl (nz_cI g, 16, .inl m8))]) (fun _ _ => rfl) (fun q6 m7 m8 h => ?_)
  refine nz_istore_n (lv' := [(3, .int q6), (0, .ref o), (1, .int v1), (2, .int x2)]) F dX8_sizeOf_40 rfl (by decide) rfl ?_
  refine nz_iload_n F dX8_sizeOf_41 rfl 0 rfl ?_
  refine nz_aload_n F dX8_sizeOf_42 rfl 1 rfl ?_
  refine nz_iload_n F dX8_sizeOf_43 rfl 2 rfl ?_
  refine k_X8_markOf o a2 a3 a4 a5 a6 a7 a9 a19 a20 a21 a22 a23 a24 r0 r1 r8 r10 r11 r12 r13 r14 r15 r16 r17 r18 m7 f2 f3 f4 f5 f6 f7 f9 f19 f20 f21 f22 f23 m8 v1 (fun hM => nz_runV F gX8_sizeOf_X8_markOf rfl hd_X8_markOf rfl hM dX8_sizeOf_44 [0, 1, 2, 3, 4, 5, 6, 7, 8, 9, 10, 11, 12, 13] rfl rfl 0 rfl rfl rfl (Nat.le_of_ble_eq_true rfl) rfl) h (fun m10 m11 => [(o, .inr (8, [.int r0, .int r1, .ref a2, .ref a3, .ref a4, .ref a5, .ref a6, .ref a7, .int r8, .ref a9, .int r10, .int r11, .int r12, .int r13, .int r14, .int r15, .int r16, .int r17, .int r18, .ref a19, .ref a20, .ref a21, .ref a22, .ref a23, .ref a24, .int m10])), (a2, .inl (nz_cI g, 8, .inl f2)), (a3, .inl (nz_cI g, 8, .inl f3)), (a4, .inl (nz_cI g, 320, .inl f4)), (a5, .inl (nz_cI g, 94, .inl f5)), (a6, .inl (nz_cI g, 94, .inl f6)), (a7, .inl (nz_cI g, 168, .inl f7)), (a9, .inl (nz_cI g, 400, .inl f9)), (a19, .inl (nz_cI g, 6, .inl f19)), (a20, .inl (nz_cI g, 49, .inl f20)), (a21, .inl (nz_cI g, 6, .inl f21)), (a22, .inl (nz_cZ g, 2, .inl f22)), (a23, .inl (nz_cI g, 188, .inl f23)), (a24, .inl (nz_cI g, 16, .inl m11))]) (fun _ _ => rfl) (fun q9 m10 m11 h => ?_)
  refine nz_iadd F dX8_sizeOf_47 ?_
  refine nz_istore_n (lv' := [(3, .int (q6 + q9)), (0, .ref o), (1, .int v1), (2, .int x2)]) F dX8_sizeOf_48 rfl (by decide) rfl ?_
  refine nz_iload_n F dX8_sizeOf_49 rfl 3 rfl ?_
  refine nz_iconst (v := 2) F dX8_sizeOf_50 (by decide) ?_
  refine nz_icmp_ne (tgt := 59) F dX8_sizeOf_51 (by decide) (fun c12 => ?_) (fun c12 => ?_)
  · have h := h.1 c12
    refine nz_iload_n F dX8_sizeOf_59 rfl 0 rfl ?_
    exact nz_iret F hQ (m10, m11) h rfl dX8_sizeOf_60
  · have h := h.2 c12
    refine nz_iload_n F dX8_sizeOf_54 rfl 0 rfl ?_
    refine nz_ineg F dX8_sizeOf_55 ?_
    refine nz_goto (tgt := 60) F dX8_sizeOf_56 (by decide) ?_
    exact nz_iret F hQ (m10, m11) h rfl dX8_sizeOf_60
def wp_X8_sizeOf (r25 : Int32) (f5 : Nat → Int32) (f24 : Nat → Int32) (v1 : Int32) (K : Int32 → Int32 → (Nat → Int32) → Prop) : Prop := wp_X8_of f5 v1 0 (fun q1 => ((q1 < 4 → ((¬ q1 = 2 → S_X8_sizeOf_29 f5 v1 q1 r25 f24 K) ∧ (q1 = 2 → wp_X8_began r25 f24 12 (fun m13 m14 => S_X8_sizeOf_29 f5 v1 q1 m13 m14 K)))) ∧ (¬ (q1 < 4) → wp_X8_thiefSize r25 f5 f24 v1 (fun q15 m16 m17 => K q15 m16 m17))))
set_option maxHeartbeats 4000000 in
set_option maxRecDepth 100000 in
theorem c_X8_sizeOf (l : Launch) (g : nz_G) (o : Nat) (a2 : Nat) (a3 : Nat) (a4 : Nat) (a5 : Nat) (a6 : Nat) (a7 : Nat) (a9 : Nat) (a19 : Nat) (a20 : Nat) (a21 : Nat) (a22 : Nat) (a23 : Nat) (a24 : Nat) (r0 : Int32) (r1 : Int32) (r8 : Int32) (r10 : Int32) (r11 : Int32) (r12 : Int32) (r13 : Int32) (r14 : Int32) (r15 : Int32) (r16 : Int32) (r17 : Int32) (r18 : Int32) (r25 : Int32) (f2 : Nat → Int32) (f3 : Nat → Int32) (f4 : Nat → Int32) (f5 : Nat → Int32) (f6 : Nat → Int32) (f7 : Nat → Int32) (f9 : Nat → Int32) (f19 : Nat → Int32) (f20 : Nat → Int32) (f21 : Nat → Int32) (f22 : Nat → Int32) (f23 : Nat → Int32) (f24 : Nat → Int32) (v1 : Int32) (K : Int32 → Int32 → (Nat → Int32) → Prop) (h : wp_X8_sizeOf r25 f5 f24 v1 K) : nz_M l yX8_sizeOf wsX8_sizeOf rm_X8_sizeOf g [.ref o, .int v1] [(o, .inr (8, [.int r0, .int r1, .ref a2, .ref a3, .ref a4, .ref a5, .ref a6, .ref a7, .int r8, .ref a9, .int r10, .int r11, .int r12, .int r13, .int r14, .int r15, .int r16, .int r17, .int r18, .ref a19, .ref a20, .ref a21, .ref a22, .ref a23, .ref a24, .int r25])), (a2, .inl (nz_cI g, 8, .inl f2)), (a3, .inl (nz_cI g, 8, .inl f3)), (a4, .inl (nz_cI g, 320, .inl f4)), (a5, .inl (nz_cI g, 94, .inl f5)), (a6, .inl (nz_cI g, 94, .inl f6)), (a7, .inl (nz_cI g, 168, .inl f7)), (a9, .inl (nz_cI g, 400, .inl f9)), (a19, .inl (nz_cI g, 6, .inl f19)), (a20, .inl (nz_cI g, 49, .inl f20)), (a21, .inl (nz_cI g, 6, .inl f21)), (a22, .inl (nz_cZ g, 2, .inl f22)), (a23, .inl (nz_cI g, 188, .inl f23)), (a24, .inl (nz_cI g, 16, .inl f24))] (nz_Qi g [(o, .inr (8, [.int r0, .int r1, .ref a2, .ref a3, .ref a4, .ref a5, .ref a6, .ref a7, .int r8, .ref a9, .int r10, .int r11, .int r12, .int r13, .int r14, .int r15, .int r16, .int r17, .int r18, .ref a19, .ref a20, .ref a21, .ref a22, .ref a23, .ref a24, .int r25])), (a2, .inl (nz_cI g, 8, .inl f2)), (a3, .inl (nz_cI g, 8, .inl f3)), (a4, .inl (nz_cI g, 320, .inl f4)), (a5, .inl (nz_cI g, 94, .inl f5)), (a6, .inl (nz_cI g, 94, .inl f6)), (a7, .inl (nz_cI g, 168, .inl f7)), (a9, .inl (nz_cI g, 400, .inl f9)), (a19, .inl (nz_cI g, 6, .inl f19)), (a20, .inl (nz_cI g, 49, .inl f20)), (a21, .inl (nz_cI g, 6, .inl f21)), (a22, .inl (nz_cZ g, 2, .inl f22)), (a23, .inl (nz_cI g, 188, .inl f23)), (a24, .inl (nz_cI g, 16, .inl f24))] (fun r (u : Int32 × (Nat → Int32)) => K r u.1 u.2) (fun u => [(o, .inr (8, [.int r0, .int r1, .ref a2, .ref a3, .ref a4, .ref a5, .ref a6, .ref a7, .int r8, .ref a9, .int r10, .int r11, .int r12, .int r13, .int r14, .int r15, .int r16, .int r17, .int r18, .ref a19, .ref a20, .ref a21, .ref a22, .ref a23, .ref a24, .int u.1])), (a2, .inl (nz_cI g, 8, .inl f2)), (a3, .inl (nz_cI g, 8, .inl f3)), (a4, .inl (nz_cI g, 320, .inl f4)), (a5, .inl (nz_cI g, 94, .inl f5)), (a6, .inl (nz_cI g, 94, .inl f6)), (a7, .inl (nz_cI g, 168, .inl f7)), (a9, .inl (nz_cI g, 400, .inl f9)), (a19, .inl (nz_cI g, 6, .inl f19)), (a20, .inl (nz_cI g, 49, .inl f20)), (a21, .inl (nz_cI g, 6, .inl f21)), (a22, .inl (nz_cZ g, 2, .inl f22)), (a23, .inl (nz_cI g, 188, .inl f23)), (a24, .inl (nz_cI g, 16, .inl u.2))])) := by
  refine nz_M.of (bytes := cX8_sizeOf) (nL := 4) (ret := (some .int)) (own := RX8) (by decide) rfl rfl ⟨rfl, rfl⟩ rfl ?_
  intro y F hl hQ
  obtain ⟨sz, hQ⟩ := hQ
  refine nz_ent (lv' := [(0, .ref o), (1, .int v1)]) rfl ?_
  unfold wp_X8_sizeOf at h
  refine nz_aload_n F dX8_sizeOf_0 rfl 0 rfl ?_
  refine nz_iload_n F dX8_sizeOf_1 rfl 1 rfl ?_
  refine nz_iconst (v := 0) F dX8_sizeOf_2 (by decide) ?_
  refine k_X8_of o a2 a3 a4 a5 a6 a7 a9 a19 a20 a21 a22 a23 a24 r0 r1 r8 r10 r11 r12 r13 r14 r15 r16 r17 r18 r25 f2 f3 f4 f5 f6 f7 f9 f19 f20 f21 f22 f23 f24 v1 0 (fun hM => nz_runV F gX8_sizeOf_X8_of rfl hd_X8_of rfl hM dX8_sizeOf_3 [0, 1, 2, 3, 4, 5, 6, 7, 8, 9, 10, 11, 12, 13] rfl rfl 0 rfl rfl rfl (Nat.le_of_ble_eq_true rfl) rfl) h ([(o, .inr (8, [.int r0, .int r1, .ref a2, .ref a3, .ref a4, .ref a5, .ref a6, .ref a7, .int r8, .ref a9, .int r10, .int r11, .int r12, .int r13, .int r14, .int r15, .int r16, .int r17, .int r18, .ref a19, .ref a20, .ref a21, .ref a22, .ref a23, .ref a24, .int r25])), (a2, .inl (nz_cI g, 8, .inl f2)), (a3, .inl (nz_cI g, 8, .inl f3)), (a4, .inl (nz_cI g, 320, .inl f4)), (a5, .inl (nz_cI g, 94, .inl f5)), (a6, .inl (nz_cI g, 94, .inl f6)), (a7, .inl (nz_cI g, 168, .inl f7)), (a9, .inl (nz_cI g, 400, .inl f9)), (a19, .inl (nz_cI g, 6, .inl f19)), (a20, .inl (nz_cI g, 49, .inl f20)), (a21, .inl (nz_cI g, 6, .inl f21)), (a22, .inl (nz_cZ g, 2, .inl f22)), (a23, .inl (nz_cI g, 188, .inl f23)), (a24, .inl (nz_cI g, 16, .inl f24))]) (rfl) (fun q1 h => ?_)
  refine nz_istore_n (lv' := [(2, .int q1), (0, .ref o), (1, .int v1)]) F dX8_sizeOf_6 rfl (by decide) rfl ?_
  refine nz_iload_n F dX8_sizeOf_7 rfl 0 rfl ?_
  refine nz_iconst (v := 4) F dX8_sizeOf_8 (by decide) ?_
  refine nz_icmp_lt (tgt := 18) F dX8_sizeOf_9 (by decide) (fun c2 => ?_) (fun c2 => ?_)
  · have h := h.1 c2
    refine nz_iload_n F dX8_sizeOf_18 rfl 0 rfl ?_
    refine nz_iconst (v := 2) F dX8_sizeOf_19 (by decide) ?_
    refine nz_icmp_ne (tgt := 29) F dX8_sizeOf_20 (by decide) (fun c3 => ?_) (fun c3 => ?_)
    · have h := h.1 c3
      refine nz_ls (lv' := [(0, .ref o), (1, .int v1), (2, .int q1)]) [1, 2, 0] rfl ?_
      exact t_X8_sizeOf_29 F o a2 a3 a4 a5 a6 a7 a9 a19 a20 a21 a22 a23 a24 r0 r1 r8 r10 r11 r12 r13 r14 r15 r16 r17 r18 f2 f3 f4 f5 f6 f7 f9 f19 f20 f21 f22 f23 v1 q1 r25 f24 hQ h
    · have h := h.2 c3
      refine nz_aload_n F dX8_sizeOf_23 rfl 1 rfl ?_
      refine nz_bipush (v := 12) F dX8_sizeOf_24 (by decide) ?_
      refine k_X8_began o a2 a3 a4 a5 a6 a7 a9 a19 a20 a21 a22 a23 a24 r0 r1 r8 r10 r11 r12 r13 r14 r15 r16 r17 r18 r25 f2 f3 f4 f5 f6 f7 f9 f19 f20 f21 f22 f23 f24 12 (fun hM => nz_runV F gX8_sizeOf_X8_began rfl hd_X8_began rfl hM dX8_sizeOf_26 [0, 1, 2, 3, 4, 5, 6, 7, 8, 9, 10, 11, 12, 13] rfl rfl 0 rfl rfl rfl (Nat.le_of_ble_eq_true rfl) rfl) h (fun m13 m14 => [(o, .inr (8, [.int r0, .int r1, .ref a2, .ref a3, .ref a4, .ref a5, .ref a6, .ref a7, .int r8, .ref a9, .int r10, .int r11, .int r12, .int r13, .int r14, .int r15, .int r16, .int r17, .int r18, .ref a19, .ref a20, .ref a21, .ref a22, .ref a23, .ref a24, .int m13])), (a2, .inl (nz_cI g, 8, .inl f2)), (a3, .inl (nz_cI g, 8, .inl f3)), (a4, .inl (nz_cI g, 320, .inl f4)), (a5, .inl (nz_cI g, 94, .inl f5)), (a6, .inl (nz_cI g, 94, .inl f6)), (a7, .inl (nz_cI g, 168, .inl f7)), (a9, .inl (nz_cI g, 400, .inl f9)), (a19, .inl (nz_cI g, 6, .inl f19)), (a20, .inl (nz_cI g, 49, .inl f20)), (a21, .inl (nz_cI g, 6, .inl f21)), (a22, .inl (nz_cZ g, 2, .inl f22)), (a23, .inl (nz_cI g, 188, .inl f23)), (a24, .inl (nz_cI g, 16, .inl m14))]) (fun _ _ => rfl) (fun m13 m14 h => ?_)
      refine nz_ls (lv' := [(0, .ref o), (1, .int v1), (2, .int q1)]) [1, 2, 0] rfl ?_
      exact t_X8_sizeOf_29 F o a2 a3 a4 a5 a6 a7 a9 a19 a20 a21 a22 a23 a24 r0 r1 r8 r10 r11 r12 r13 r14 r15 r16 r17 r18 f2 f3 f4 f5 f6 f7 f9 f19 f20 f21 f22 f23 v1 q1 m13 m14 hQ h
  · have h := h.2 c2
    refine nz_aload_n F dX8_sizeOf_12 rfl 1 rfl ?_
    refine nz_iload_n F dX8_sizeOf_13 rfl 2 rfl ?_
    refine k_X8_thiefSize o a2 a3 a4 a5 a6 a7 a9 a19 a20 a21 a22 a23 a24 r0 r1 r8 r10 r11 r12 r13 r14 r15 r16 r17 r18 r25 f2 f3 f4 f5 f6 f7 f9 f19 f20 f21 f22 f23 f24 v1 (fun hM => nz_runV F gX8_sizeOf_X8_thiefSize rfl hd_X8_thiefSize rfl hM dX8_sizeOf_14 [0, 1, 2, 3, 4, 5, 6, 7, 8, 9, 10, 11, 12, 13] rfl rfl 0 rfl rfl rfl (Nat.le_of_ble_eq_true rfl) rfl) h (fun m16 m17 => [(o, .inr (8, [.int r0, .int r1, .ref a2, .ref a3, .ref a4, .ref a5, .ref a6, .ref a7, .int r8, .ref a9, .int r10, .int r11, .int r12, .int r13, .int r14, .int r15, .int r16, .int r17, .int r18, .ref a19, .ref a20, .ref a21, .ref a22, .ref a23, .ref a24, .int m16])), (a2, .inl (nz_cI g, 8, .inl f2)), (a3, .inl (nz_cI g, 8, .inl f3)), (a4, .inl (nz_cI g, 320, .inl f4)), (a5, .inl (nz_cI g, 94, .inl f5)), (a6, .inl (nz_cI g, 94, .inl f6)), (a7, .inl (nz_cI g, 168, .inl f7)), (a9, .inl (nz_cI g, 400, .inl f9)), (a19, .inl (nz_cI g, 6, .inl f19)), (a20, .inl (nz_cI g, 49, .inl f20)), (a21, .inl (nz_cI g, 6, .inl f21)), (a22, .inl (nz_cZ g, 2, .inl f22)), (a23, .inl (nz_cI g, 188, .inl f23)), (a24, .inl (nz_cI g, 16, .inl m17))]) (fun _ _ => rfl) (fun q15 m16 m17 h => ?_)
    exact nz_iret F hQ (m16, m17) h rfl dX8_sizeOf_17
theorem k_X8_sizeOf {y : nz_Y} {g : nz_G} {k n : Nat} {ws : va_W} {pc : Nat} {ls : List (Nat × Value)} {st rest : List Value} {av : Array Value} {isC : List Nat} {K : Int32 → Int32 → (Nat → Int32) → Prop} (o : Nat) (a2 : Nat) (a3 : Nat) (a4 : Nat) (a5 : Nat) (a6 : Nat) (a7 : Nat) (a9 : Nat) (a19 : Nat) (a20 : Nat) (a21 : Nat) (a22 : Nat) (a23 : Nat) (a24 : Nat) (r0 : Int32) (r1 : Int32) (r8 : Int32) (r10 : Int32) (r11 : Int32) (r12 : Int32) (r13 : Int32) (r14 : Int32) (r15 : Int32) (r16 : Int32) (r17 : Int32) (r18 : Int32) (r25 : Int32) (f2 : Nat → Int32) (f3 : Nat → Int32) (f4 : Nat → Int32) (f5 : Nat → Int32) (f6 : Nat → Int32) (f7 : Nat → Int32) (f9 : Nat → Int32) (f19 : Nat → Int32) (f20 : Nat → Int32) (f21 : Nat → Int32) (f22 : Nat → Int32) (f23 : Nat → Int32) (f24 : Nat → Int32) (v1 : Int32) (run : nz_M (yz_l y) yX8_sizeOf wsX8_sizeOf rm_X8_sizeOf g [.ref o, .int v1] [(o, .inr (8, [.int r0, .int r1, .ref a2, .ref a3, .ref a4, .ref a5, .ref a6, .ref a7, .int r8, .ref a9, .int r10, .int r11, .int r12, .int r13, .int r14, .int r15, .int r16, .int r17, .int r18, .ref a19, .ref a20, .ref a21, .ref a22, .ref a23, .ref a24, .int r25])), (a2, .inl (nz_cI g, 8, .inl f2)), (a3, .inl (nz_cI g, 8, .inl f3)), (a4, .inl (nz_cI g, 320, .inl f4)), (a5, .inl (nz_cI g, 94, .inl f5)), (a6, .inl (nz_cI g, 94, .inl f6)), (a7, .inl (nz_cI g, 168, .inl f7)), (a9, .inl (nz_cI g, 400, .inl f9)), (a19, .inl (nz_cI g, 6, .inl f19)), (a20, .inl (nz_cI g, 49, .inl f20)), (a21, .inl (nz_cI g, 6, .inl f21)), (a22, .inl (nz_cZ g, 2, .inl f22)), (a23, .inl (nz_cI g, 188, .inl f23)), (a24, .inl (nz_cI g, 16, .inl f24))] (nz_Qi g [(o, .inr (8, [.int r0, .int r1, .ref a2, .ref a3, .ref a4, .ref a5, .ref a6, .ref a7, .int r8, .ref a9, .int r10, .int r11, .int r12, .int r13, .int r14, .int r15, .int r16, .int r17, .int r18, .ref a19, .ref a20, .ref a21, .ref a22, .ref a23, .ref a24, .int r25])), (a2, .inl (nz_cI g, 8, .inl f2)), (a3, .inl (nz_cI g, 8, .inl f3)), (a4, .inl (nz_cI g, 320, .inl f4)), (a5, .inl (nz_cI g, 94, .inl f5)), (a6, .inl (nz_cI g, 94, .inl f6)), (a7, .inl (nz_cI g, 168, .inl f7)), (a9, .inl (nz_cI g, 400, .inl f9)), (a19, .inl (nz_cI g, 6, .inl f19)), (a20, .inl (nz_cI g, 49, .inl f20)), (a21, .inl (nz_cI g, 6, .inl f21)), (a22, .inl (nz_cZ g, 2, .inl f22)), (a23, .inl (nz_cI g, 188, .inl f23)), (a24, .inl (nz_cI g, 16, .inl f24))] (fun r (u : Int32 × (Nat → Int32)) => K r u.1 u.2) (fun u => [(o, .inr (8, [.int r0, .int r1, .ref a2, .ref a3, .ref a4, .ref a5, .ref a6, .ref a7, .int r8, .ref a9, .int r10, .int r11, .int r12, .int r13, .int r14, .int r15, .int r16, .int r17, .int r18, .ref a19, .ref a20, .ref a21, .ref a22, .ref a23, .ref a24, .int u.1])), (a2, .inl (nz_cI g, 8, .inl f2)), (a3, .inl (nz_cI g, 8, .inl f3)), (a4, .inl (nz_cI g, 320, .inl f4)), (a5, .inl (nz_cI g, 94, .inl f5)), (a6, .inl (nz_cI g, 94, .inl f6)), (a7, .inl (nz_cI g, 168, .inl f7)), (a9, .inl (nz_cI g, 400, .inl f9)), (a19, .inl (nz_cI g, 6, .inl f19)), (a20, .inl (nz_cI g, 49, .inl f20)), (a21, .inl (nz_cI g, 6, .inl f21)), (a22, .inl (nz_cZ g, 2, .inl f22)), (a23, .inl (nz_cI g, 188, .inl f23)), (a24, .inl (nz_cI g, 16, .inl u.2))])) → nz_C y g k n ws pc ls st rest [(o, .inr (8, [.int r0, .int r1, .ref a2, .ref a3, .ref a4, .ref a5, .ref a6, .ref a7, .int r8, .ref a9, .int r10, .int r11, .int r12, .int r13, .int r14, .int r15, .int r16, .int r17, .int r18, .ref a19, .ref a20, .ref a21, .ref a22, .ref a23, .ref a24, .int r25])), (a2, .inl (nz_cI g, 8, .inl f2)), (a3, .inl (nz_cI g, 8, .inl f3)), (a4, .inl (nz_cI g, 320, .inl f4)), (a5, .inl (nz_cI g, 94, .inl f5)), (a6, .inl (nz_cI g, 94, .inl f6)), (a7, .inl (nz_cI g, 168, .inl f7)), (a9, .inl (nz_cI g, 400, .inl f9)), (a19, .inl (nz_cI g, 6, .inl f19)), (a20, .inl (nz_cI g, 49, .inl f20)), (a21, .inl (nz_cI g, 6, .inl f21)), (a22, .inl (nz_cZ g, 2, .inl f22)), (a23, .inl (nz_cI g, 188, .inl f23)), (a24, .inl (nz_cI g, 16, .inl f24))] (nz_Qi g [(o, .inr (8, [.int r0, .int r1, .ref a2, .ref a3, .ref a4, .ref a5, .ref a6, .ref a7, .int r8, .ref a9, .int r10, .int r11, .int r12, .int r13, .int r14, .int r15, .int r16, .int r17, .int r18, .ref a19, .ref a20, .ref a21, .ref a22, .ref a23, .ref a24, .int r25])), (a2, .inl (nz_cI g, 8, .inl f2)), (a3, .inl (nz_cI g, 8, .inl f3)), (a4, .inl (nz_cI g, 320, .inl f4)), (a5, .inl (nz_cI g, 94, .inl f5)), (a6, .inl (nz_cI g, 94, .inl f6)), (a7, .inl (nz_cI g, 168, .inl f7)), (a9, .inl (nz_cI g, 400, .inl f9)), (a19, .inl (nz_cI g, 6, .inl f19)), (a20, .inl (nz_cI g, 49, .inl f20)), (a21, .inl (nz_cI g, 6, .inl f21)), (a22, .inl (nz_cZ g, 2, .inl f22)), (a23, .inl (nz_cI g, 188, .inl f23)), (a24, .inl (nz_cI g, 16, .inl f24))] (fun r (u : Int32 × (Nat → Int32)) => K r u.1 u.2) (fun u => [(o, .inr (8, [.int r0, .int r1, .ref a2, .ref a3, .ref a4, .ref a5, .ref a6, .ref a7, .int r8, .ref a9, .int r10, .int r11, .int r12, .int r13, .int r14, .int r15, .int r16, .int r17, .int r18, .ref a19, .ref a20, .ref a21, .ref a22, .ref a23, .ref a24, .int u.1])), (a2, .inl (nz_cI g, 8, .inl f2)), (a3, .inl (nz_cI g, 8, .inl f3)), (a4, .inl (nz_cI g, 320, .inl f4)), (a5, .inl (nz_cI g, 94, .inl f5)), (a6, .inl (nz_cI g, 94, .inl f6)), (a7, .inl (nz_cI g, 168, .inl f7)), (a9, .inl (nz_cI g, 400, .inl f9)), (a19, .inl (nz_cI g, 6, .inl f19)), (a20, .inl (nz_cI g, 49, .inl f20)), (a21, .inl (nz_cI g, 6, .inl f21)), (a22, .inl (nz_cZ g, 2, .inl f22)), (a23, .inl (nz_cI g, 188, .inl f23)), (a24, .inl (nz_cI g, 16, .inl u.2))])) av isC) (h : wp_X8_sizeOf r25 f5 f24 v1 K) (ws' : Int32 → (Nat → Int32) → va_W) (hm : ∀ (m0 : Int32) (m1 : (Nat → Int32)), nz_mrg ws isC [(o, .inr (8, [.int r0, .int r1, .ref a2, .ref a3, .ref a4, .ref a5, .ref a6, .ref a7, .int r8, .ref a9, .int r10, .int r11, .int r12, .int r13, .int r14, .int r15, .int r16, .int r17, .int r18, .ref a19, .ref a20, .ref a21, .ref a22, .ref a23, .ref a24, .int m0])), (a2, .inl (nz_cI g, 8, .inl f2)), (a3, .inl (nz_cI g, 8, .inl f3)), (a4, .inl (nz_cI g, 320, .inl f4)), (a5, .inl (nz_cI g, 94, .inl f5)), (a6, .inl (nz_cI g, 94, .inl f6)), (a7, .inl (nz_cI g, 168, .inl f7)), (a9, .inl (nz_cI g, 400, .inl f9)), (a19, .inl (nz_cI g, 6, .inl f19)), (a20, .inl (nz_cI g, 49, .inl f20)), (a21, .inl (nz_cI g, 6, .inl f21)), (a22, .inl (nz_cZ g, 2, .inl f22)), (a23, .inl (nz_cI g, 188, .inl f23)), (a24, .inl (nz_cI g, 16, .inl m1))] = ws' m0 m1) (kk : ∀ (r : Int32) (m0 : Int32) (m1 : (Nat → Int32)), K r m0 m1 → nz_V y g k n (ws' m0 m1) (pc + 3) ls (.int r :: rest)) : nz_V y g k n ws pc ls st :=
  nz_ci (ws' := fun u => ws' u.1 u.2) (run (c_X8_sizeOf (yz_l y) g o a2 a3 a4 a5 a6 a7 a9 a19 a20 a21 a22 a23 a24 r0 r1 r8 r10 r11 r12 r13 r14 r15 r16 r17 r18 r25 f2 f3 f4 f5 f6 f7 f9 f19 f20 f21 f22 f23 f24 v1 K h)) (fun _ => rfl) (fun u => hm u.1 u.2) (fun r u h => kk r u.1 u.2 h)
