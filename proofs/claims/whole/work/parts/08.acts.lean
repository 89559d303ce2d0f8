theorem dX0_clear_0 : decode cX0_clear 0 = .ok (.aload_n 0, 1) := by decide +kernel
theorem dX0_clear_1 : decode cX0_clear 1 = .ok (.iconst 0, 1) := by decide +kernel
theorem dX0_clear_2 : decode cX0_clear 2 = .ok (.putfield 18, 3) := by decide +kernel
theorem dX0_clear_5 : decode cX0_clear 5 = .ok (.return_, 1) := by decide +kernel
/-! X0_clear -/
abbrev rm_X0_clear : Room := { frames := 0, cells := 0, slots := 0, locals := 0 }
theorem iw_X0_clear_0 : ∀ w ∈ wsX00, w ∈ wsX0_clear := fun _ h => List.mem_cons_of_mem _ (List.mem_append_right _ h)
theorem fl_X0_clear_18 : Cond.fieldLink RX0 18 "NightStones$Acts" "kept" "I" ∈ wsX0_clear := List.mem_of_getElem? (i := 1) rfl
def wp_X0_clear (K : Int32 → Prop) : Prop := K 0
set_option maxHeartbeats 4000000 in
set_option maxRecDepth 100000 in
theorem c_X0_clear (l : Launch) (g : nz_G) (co : Nat) (ca0 : Nat) (ca1 : Nat) (cr2 : Int32) (cf0 : Nat → Int32) (cf1 : Nat → Int32) (K : Int32 → Prop) (h : wp_X0_clear K) : nz_M l yX0_clear wsX0_clear rm_X0_clear g [.ref co] [(co, .inr (0, [.ref ca0, .ref ca1, .int cr2])), (ca0, .inl (nz_cI g, 144, .inl cf0)), (ca1, .inl (nz_cI g, 24, .inl cf1))] (nz_Qv g [(co, .inr (0, [.ref ca0, .ref ca1, .int cr2])), (ca0, .inl (nz_cI g, 144, .inl cf0)), (ca1, .inl (nz_cI g, 24, .inl cf1))] (fun (u : Int32) => K u) (fun u => [(co, .inr (0, [.ref ca0, .ref ca1, .int u])), (ca0, .inl (nz_cI g, 144, .inl cf0)), (ca1, .inl (nz_cI g, 24, .inl cf1))])) := by
  refine nz_M.of (bytes := cX0_clear) (nL := 1) (ret := none) (own := RX0) (by decide) rfl rfl ⟨rfl, rfl⟩ rfl ?_
  intro y F hl hQ
  obtain ⟨sz, hQ⟩ := hQ
  refine nz_ent (lv' := [(0, .ref co)]) rfl ?_
  unfold wp_X0_clear at h
  refine nz_aload_n F dX0_clear_0 rfl 0 rfl ?_
  refine nz_iconst (v := 0) F dX0_clear_1 (by decide) ?_
  refine nz_put (ws' := [(co, .inr (0, [.ref ca0, .ref ca1, .int 0])), (ca0, .inl (nz_cI g, 144, .inl cf0)), (ca1, .inl (nz_cI g, 24, .inl cf1))]) F iw_X0_clear_0 tyX0 tyX0_ok nmX0 0 rfl rfl 2 (by decide) rfl fl_X0_clear_18 rfl rfl (Nat.le_of_ble_eq_true rfl) dX0_clear_2 rfl ?_
  exact nz_vret F hQ 0 h rfl dX0_clear_5
theorem k_X0_clear {y : nz_Y} {g : nz_G} {k n : Nat} {ws : va_W} {pc : Nat} {ls : List (Nat × Value)} {st rest : List Value} {av : Array Value} {isC : List Nat} {K : Int32 → Prop} (co : Nat) (ca0 : Nat) (ca1 : Nat) (cr2 : Int32) (cf0 : Nat → Int32) (cf1 : Nat → Int32) (run : nz_M (yz_l y) yX0_clear wsX0_clear rm_X0_clear g [.ref co] [(co, .inr (0, [.ref ca0, .ref ca1, .int cr2])), (ca0, .inl (nz_cI g, 144, .inl cf0)), (ca1, .inl (nz_cI g, 24, .inl cf1))] (nz_Qv g [(co, .inr (0, [.ref ca0, .ref ca1, .int cr2])), (ca0, .inl (nz_cI g, 144, .inl cf0)), (ca1, .inl (nz_cI g, 24, .inl cf1))] (fun (u : Int32) => K u) (fun u => [(co, .inr (0, [.ref ca0, .ref ca1, .int u])), (ca0, .inl (nz_cI g, 144, .inl cf0)), (ca1, .inl (nz_cI g, 24, .inl cf1))])) → nz_C y g k n ws pc ls st rest [(co, .inr (0, [.ref ca0, .ref ca1, .int cr2])), (ca0, .inl (nz_cI g, 144, .inl cf0)), (ca1, .inl (nz_cI g, 24, .inl cf1))] (nz_Qv g [(co, .inr (0, [.ref ca0, .ref ca1, .int cr2])), (ca0, .inl (nz_cI g, 144, .inl cf0)), (ca1, .inl (nz_cI g, 24, .inl cf1))] (fun (u : Int32) => K u) (fun u => [(co, .inr (0, [.ref ca0, .ref ca1, .int u])), (ca0, .inl (nz_cI g, 144, .inl cf0)), (ca1, .inl (nz_cI g, 24, .inl cf1))])) av isC) (h : wp_X0_clear K) (ws' : Int32 → va_W) (hm : ∀ (m0 : Int32), nz_mrg ws isC [(co, .inr (0, [.ref ca0, .ref ca1, .int m0])), (ca0, .inl (nz_cI g, 144, .inl cf0)), (ca1, .inl (nz_cI g, 24, .inl cf1))] = ws' m0) (kk : ∀ (m0 : Int32), K m0 → nz_V y g k n (ws' m0) (pc + 3) ls (rest)) : nz_V y g k n ws pc ls st :=
  nz_cv (ws' := fun u => ws' u) (run (c_X0_clear (yz_l y) g co ca0 ca1 cr2 cf0 cf1 K h)) (fun _ => rfl) (fun u => hm u) (fun u h => kk u h)
theorem dX0_keep_0 : decode cX0_keep 0 = .ok (.aload_n 0, 1) := by decide +kernel
theorem dX0_keep_1 : decode cX0_keep 1 = .ok (.getfield 18, 3) := by decide +kernel
theorem dX0_keep_4 : decode cX0_keep 4 = .ok (.bipush 24, 2) := by decide +kernel
theorem dX0_keep_6 : decode cX0_keep 6 = .ok (.if_icmp .lt 41, 3) := by decide +kernel
theorem dX0_keep_9 : decode cX0_keep 9 = .ok (.aload_n 0, 1) := by decide +kernel
theorem dX0_keep_10 : decode cX0_keep 10 = .ok (.getfield 11, 3) := by decide +kernel
theorem dX0_keep_13 : decode cX0_keep 13 = .ok (.bipush 6, 2) := by decide +kernel
theorem dX0_keep_15 : decode cX0_keep 15 = .ok (.aload_n 0, 1) := by decide +kernel
theorem dX0_keep_16 : decode cX0_keep 16 = .ok (.getfield 11, 3) := by decide +kernel
theorem dX0_keep_19 : decode cX0_keep 19 = .ok (.iconst 0, 1) := by decide +kernel
theorem dX0_keep_20 : decode cX0_keep 20 = .ok (.sipush 138, 3) := by decide +kernel
theorem dX0_keep_23 : decode cX0_keep 23 = .ok (.invokestatic 22, 3) := by decide +kernel
theorem dX0_keep_26 : decode cX0_keep 26 = .ok (.aload_n 0, 1) := by decide +kernel
theorem dX0_keep_27 : decode cX0_keep 27 = .ok (.getfield 15, 3) := by decide +kernel
theorem dX0_keep_30 : decode cX0_keep 30 = .ok (.iconst 1, 1) := by decide +kernel
theorem dX0_keep_31 : decode cX0_keep 31 = .ok (.aload_n 0, 1) := by decide +kernel
theorem dX0_keep_32 : decode cX0_keep 32 = .ok (.getfield 15, 3) := by decide +kernel
theorem dX0_keep_35 : decode cX0_keep 35 = .ok (.iconst 0, 1) := by decide +kernel
theorem dX0_keep_36 : decode cX0_keep 36 = .ok (.bipush 23, 2) := by decide +kernel
theorem dX0_keep_38 : decode cX0_keep 38 = .ok (.invokestatic 22, 3) := by decide +kernel
theorem dX0_keep_41 : decode cX0_keep 41 = .ok (.aload_n 0, 1) := by decide +kernel
theorem dX0_keep_42 : decode cX0_keep 42 = .ok (.bipush 23, 2) := by decide +kernel
theorem dX0_keep_44 : decode cX0_keep 44 = .ok (.putfield 18, 3) := by decide +kernel
theorem dX0_keep_47 : decode cX0_keep 47 = .ok (.aload_n 1, 1) := by decide +kernel
theorem dX0_keep_48 : decode cX0_keep 48 = .ok (.getfield 28, 3) := by decide +kernel
theorem dX0_keep_51 : decode cX0_keep 51 = .ok (.iconst 0, 1) := by decide +kernel
theorem dX0_keep_52 : decode cX0_keep 52 = .ok (.aload_n 0, 1) := by decide +kernel
theorem dX0_keep_53 : decode cX0_keep 53 = .ok (.getfield 11, 3) := by decide +kernel
theorem dX0_keep_56 : decode cX0_keep 56 = .ok (.aload_n 0, 1) := by decide +kernel
theorem dX0_keep_57 : decode cX0_keep 57 = .ok (.getfield 18, 3) := by decide +kernel
theorem dX0_keep_60 : decode cX0_keep 60 = .ok (.bipush 6, 2) := by decide +kernel
theorem dX0_keep_62 : decode cX0_keep 62 = .ok (.imul, 1) := by decide +kernel
theorem dX0_keep_63 : decode cX0_keep 63 = .ok (.bipush 6, 2) := by decide +kernel
theorem dX0_keep_65 : decode cX0_keep 65 = .ok (.invokestatic 22, 3) := by decide +kernel
theorem dX0_keep_68 : decode cX0_keep 68 = .ok (.aload_n 0, 1) := by decide +kernel
theorem dX0_keep_69 : decode cX0_keep 69 = .ok (.getfield 15, 3) := by decide +kernel
theorem dX0_keep_72 : decode cX0_keep 72 = .ok (.aload_n 0, 1) := by decide +kernel
theorem dX0_keep_73 : decode cX0_keep 73 = .ok (.getfield 18, 3) := by decide +kernel
theorem dX0_keep_76 : decode cX0_keep 76 = .ok (.aload_n 1, 1) := by decide +kernel
theorem dX0_keep_77 : decode cX0_keep 77 = .ok (.getfield 31, 3) := by decide +kernel
theorem dX0_keep_80 : decode cX0_keep 80 = .ok (.iastore, 1) := by decide +kernel
theorem dX0_keep_81 : decode cX0_keep 81 = .ok (.aload_n 0, 1) := by decide +kernel
theorem dX0_keep_82 : decode cX0_keep 82 = .ok (.dup, 1) := by decide +kernel
theorem dX0_keep_83 : decode cX0_keep 83 = .ok (.getfield 18, 3) := by decide +kernel
theorem dX0_keep_86 : decode cX0_keep 86 = .ok (.iconst 1, 1) := by decide +kernel
theorem dX0_keep_87 : decode cX0_keep 87 = .ok (.iadd, 1) := by decide +kernel
theorem dX0_keep_88 : decode cX0_keep 88 = .ok (.putfield 18, 3) := by decide +kernel
theorem dX0_keep_91 : decode cX0_keep 91 = .ok (.return_, 1) := by decide +kernel
/-! X0_keep -/
abbrev rm_X0_keep : Room := { frames := 1, cells := 0, slots := 0, locals := 26 }
theorem iw_X0_keep_0 : ∀ w ∈ wsX00, w ∈ wsX0_keep := fun _ h => List.mem_cons_of_mem _ (List.mem_append_left _ (List.mem_append_right _ h))
theorem iw_X0_keep_5 : ∀ w ∈ wsX50, w ∈ wsX0_keep := fun _ h => List.mem_cons_of_mem _ (List.mem_append_right _ h)
theorem fl_X0_keep_18 : Cond.fieldLink RX0 18 "NightStones$Acts" "kept" "I" ∈ wsX0_keep := List.mem_of_getElem? (i := 1) rfl
theorem fn_X0_keep_28 : Cond.fieldLinkNest RX0 28 "NightStones$Road" "at" "[I" RX7 ∈ nz_nest := List.mem_of_getElem? (i := 32) rfl
theorem fl_X0_keep_11 : Cond.fieldLink RX0 11 "NightStones$Acts" "places" "[I" ∈ wsX0_keep := List.mem_of_getElem? (i := 2) rfl
theorem wd_X0_keep_cp0_22 : Cond.methodLink RX0 22 arraycopyName ∈ wsX0_keep := List.mem_of_getElem? (i := 3) rfl
theorem wd_X0_keep_cp1 : Cond.native arraycopyName ∈ wsX0_keep := List.mem_of_getElem? (i := 4) rfl
theorem wd_X0_keep_cp2 : Cond.static arraycopyName ∈ wsX0_keep := List.mem_of_getElem? (i := 5) rfl
theorem wd_X0_keep_cp3 : Cond.initialized "java/lang/System" ∈ wsX0_keep := List.mem_of_getElem? (i := 6) rfl
theorem fl_X0_keep_15 : Cond.fieldLink RX0 15 "NightStones$Acts" "nights" "[I" ∈ wsX0_keep := List.mem_of_getElem? (i := 7) rfl
theorem fn_X0_keep_31 : Cond.fieldLinkNest RX0 31 "NightStones$Road" "nights" "I" RX7 ∈ nz_nest := List.mem_of_getElem? (i := 14) rfl
def S_X0_keep_47 (r5 : Int32) (f10 : Nat → Int32) (cr2 : Int32) (cf0 : Nat → Int32) (cf1 : Nat → Int32) (K : Int32 → (Nat → Int32) → (Nat → Int32) → Prop) : Prop := ((¬ (0 : Int32) < 0 ∧ ¬ (cr2 * 6) < 0 ∧ ¬ (6 : Int32) < 0 ∧ (0 : Int32).toNatClampNeg + (6 : Int32).toNatClampNeg ≤ 6 ∧ (cr2 * 6).toNatClampNeg + (6 : Int32).toNatClampNeg ≤ 144) ∧ (vp_in cr2 24 ∧ K (cr2 + 1) (va_cpy f10 cf0 (0 : Int32).toNatClampNeg (cr2 * 6).toNatClampNeg (6 : Int32).toNatClampNeg) (upd cf1 cr2.toNatClampNeg r5)))
set_option maxHeartbeats 4000000 in
set_option maxRecDepth 100000 in
theorem t_X0_keep_47 {y : nz_Y} {g : nz_G} (F : nz_F y g cX0_keep 2 wsX0_keep RX0 none rm_X0_keep) {wc0 : va_W} {sz : Nat} {K : Int32 → (Nat → Int32) → (Nat → Int32) → Prop} (co : Nat) (ca0 : Nat) (ca1 : Nat) (o : Nat) (a9 : Nat) (a10 : Nat) (a11 : Nat) (a12 : Nat) (a13 : Nat) (a14 : Nat) (a15 : Nat) (a16 : Nat) (r0 : Int32) (r1 : Int32) (r2 : Int32) (r3 : Int32) (r4 : Int32) (r5 : Int32) (r6 : Int32) (r7 : Int32) (r8 : Int32) (f9 : Nat → Int32) (f10 : Nat → Int32) (f11 : Nat → Int32) (f12 : Nat → Int32) (f13 : Nat → Int32) (f14 : Nat → Int32) (f15 : Nat → Int32) (f16 : Nat → Int32) (cr2 : Int32) (cf0 : Nat → Int32) (cf1 : Nat → Int32) (hQ : yz_A y = va_A wc0 sz ∧ yz_Q y = MQ (yz_b y) ((nz_Qv g wc0 (fun (u : Int32 × (Nat → Int32) × (Nat → Int32)) => K u.1 u.2.1 u.2.2) (fun u => [(co, .inr (0, [.ref ca0, .ref ca1, .int u.1])), (ca0, .inl (nz_cI g, 144, .inl u.2.1)), (ca1, .inl (nz_cI g, 24, .inl u.2.2)), (o, .inr (5, [.int r0, .int r1, .int r2, .int r3, .int r4, .int r5, .int r6, .int r7, .int r8, .ref a9, .ref a10, .ref a11, .ref a12, .ref a13, .ref a14, .ref a15, .ref a16])), (a9, .inl (nz_cI g, 6, .inl f9)), (a10, .inl (nz_cI g, 6, .inl f10)), (a11, .inl (nz_cI g, 6, .inl f11)), (a12, .inl (nz_cI g, 5, .inl f12)), (a13, .inl (nz_cI g, 5, .inl f13)), (a14, .inl (nz_cI g, 5, .inl f14)), (a15, .inl (nz_cI g, 5, .inl f15)), (a16, .inl (nz_cI g, 48, .inl f16))])) sz) (yz_a y) (yz_s y) 0 0 (va_A wc0 sz)) : S_X0_keep_47 r5 f10 cr2 cf0 cf1 K → nz_V y g 0 0 [(co, .inr (0, [.ref ca0, .ref ca1, .int cr2])), (ca0, .inl (nz_cI g, 144, .inl cf0)), (ca1, .inl (nz_cI g, 24, .inl cf1)), (o, .inr (5, [.int r0, .int r1, .int r2, .int r3, .int r4, .int r5, .int r6, .int r7, .int r8, .ref a9, .ref a10, .ref a11, .ref a12, .ref a13, .ref a14, .ref a15, .ref a16])), (a9, .inl (nz_cI g, 6, .inl f9)), (a10, .inl (nz_cI g, 6, .inl f10)), (a11, .inl (nz_cI g, 6, .inl f11)), (a12, .inl (nz_cI g, 5, .inl f12)), (a13, .inl (nz_cI g, 5, .inl f13)), (a14, .inl (nz_cI g, 5, .inl f14)), (a15, .inl (nz_cI g, 5, .inl f15)), (a16, .inl (nz_cI g, 48, .inl f16))] 47 [(0, .ref co), (1, .ref o)] [] := by
  intro h
  unfold S_X0_keep_47 at h
  refine nz_aload_n F dX0_keep_47 rfl 1 rfl ?_
  refine nz_getN F iw_X0_keep_5 3 rfl rfl 10 (by decide) rfl fn_X0_keep_28 rfl dX0_keep_48 ?_
  refine nz_iconst (v := 0) F dX0_keep_51 (by decide) ?_
  refine nz_aload_n F dX0_keep_52 rfl 0 rfl ?_
  refine nz_get F iw_X0_keep_0 0 rfl rfl 0 (by decide) rfl fl_X0_keep_11 rfl dX0_keep_53 ?_
  refine nz_aload_n F dX0_keep_56 rfl 0 rfl ?_
  refine nz_get F iw_X0_keep_0 0 rfl rfl 2 (by decide) rfl fl_X0_keep_18 rfl dX0_keep_57 ?_
  refine nz_bipush (v := 6) F dX0_keep_60 (by decide) ?_
  refine nz_imul F dX0_keep_62 ?_
  refine nz_bipush (v := 6) F dX0_keep_63 (by decide) ?_
  obtain ⟨⟨k21, k22, k23, k24, k25⟩, h⟩ := h
  refine nz_copy (ws' := [(co, .inr (0, [.ref ca0, .ref ca1, .int cr2])), (ca0, .inl (nz_cI g, 144, .inl (va_cpy f10 cf0 (0 : Int32).toNatClampNeg (cr2 * 6).toNatClampNeg (6 : Int32).toNatClampNeg))), (ca1, .inl (nz_cI g, 24, .inl cf1)), (o, .inr (5, [.int r0, .int r1, .int r2, .int r3, .int r4, .int r5, .int r6, .int r7, .int r8, .ref a9, .ref a10, .ref a11, .ref a12, .ref a13, .ref a14, .ref a15, .ref a16])), (a9, .inl (nz_cI g, 6, .inl f9)), (a10, .inl (nz_cI g, 6, .inl f10)), (a11, .inl (nz_cI g, 6, .inl f11)), (a12, .inl (nz_cI g, 5, .inl f12)), (a13, .inl (nz_cI g, 5, .inl f13)), (a14, .inl (nz_cI g, 5, .inl f14)), (a15, .inl (nz_cI g, 5, .inl f15)), (a16, .inl (nz_cI g, 48, .inl f16))]) F wd_X0_keep_cp0_22 wd_X0_keep_cp1 wd_X0_keep_cp2 wd_X0_keep_cp3 5 1 rfl rfl k21 k22 k23 k24 k25 rfl (Nat.le_of_ble_eq_true rfl) dX0_keep_65 rfl ?_
  refine nz_aload_n F dX0_keep_68 rfl 0 rfl ?_
  refine nz_get F iw_X0_keep_0 0 rfl rfl 1 (by decide) rfl fl_X0_keep_15 rfl dX0_keep_69 ?_
  refine nz_aload_n F dX0_keep_72 rfl 0 rfl ?_
  refine nz_get F iw_X0_keep_0 0 rfl rfl 2 (by decide) rfl fl_X0_keep_18 rfl dX0_keep_73 ?_
  refine nz_aload_n F dX0_keep_76 rfl 1 rfl ?_
  refine nz_getN F iw_X0_keep_5 3 rfl rfl 5 (by decide) rfl fn_X0_keep_31 rfl dX0_keep_77 ?_
  obtain ⟨i3, h⟩ := h
  refine nz_iast (ws' := [(co, .inr (0, [.ref ca0, .ref ca1, .int cr2])), (ca0, .inl (nz_cI g, 144, .inl (va_cpy f10 cf0 (0 : Int32).toNatClampNeg (cr2 * 6).toNatClampNeg (6 : Int32).toNatClampNeg))), (ca1, .inl (nz_cI g, 24, .inl (upd cf1 cr2.toNatClampNeg r5))), (o, .inr (5, [.int r0, .int r1, .int r2, .int r3, .int r4, .int r5, .int r6, .int r7, .int r8, .ref a9, .ref a10, .ref a11, .ref a12, .ref a13, .ref a14, .ref a15, .ref a16])), (a9, .inl (nz_cI g, 6, .inl f9)), (a10, .inl (nz_cI g, 6, .inl f10)), (a11, .inl (nz_cI g, 6, .inl f11)), (a12, .inl (nz_cI g, 5, .inl f12)), (a13, .inl (nz_cI g, 5, .inl f13)), (a14, .inl (nz_cI g, 5, .inl f14)), (a15, .inl (nz_cI g, 5, .inl f15)), (a16, .inl (nz_cI g, 48, .inl f16))]) F 2 rfl i3 dX0_keep_80 rfl ?_
  refine nz_aload_n F dX0_keep_81 rfl 0 rfl ?_
  refine nz_dup F dX0_keep_82 rfl ?_
  refine nz_get F iw_X0_keep_0 0 rfl rfl 2 (by decide) rfl fl_X0_keep_18 rfl dX0_keep_83 ?_
  refine nz_iconst (v := 1) F dX0_keep_86 (by decide) ?_
  refine nz_iadd F dX0_keep_87 ?_
  refine nz_put (ws' := [(co, .inr (0, [.ref ca0, .ref ca1, .int (cr2 + 1)])), (ca0, .inl (nz_cI g, 144, .inl (va_cpy f10 cf0 (0 : Int32).toNatClampNeg (cr2 * 6).toNatClampNeg (6 : Int32).toNatClampNeg))), (ca1, .inl (nz_cI g, 24, .inl (upd cf1 cr2.toNatClampNeg r5))), (o, .inr (5, [.int r0, .int r1, .int r2, .int r3, .int r4, .int r5, .int r6, .int r7, .int r8, .ref a9, .ref a10, .ref a11, .ref a12, .ref a13, .ref a14, .ref a15, .ref a16])), (a9, .inl (nz_cI g, 6, .inl f9)), (a10, .inl (nz_cI g, 6, .inl f10)), (a11, .inl (nz_cI g, 6, .inl f11)), (a12, .inl (nz_cI g, 5, .inl f12)), (a13, .inl (nz_cI g, 5, .inl f13)), (a14, .inl (nz_cI g, 5, .inl f14)), (a15, .inl (nz_cI g, 5, .inl f15)), (a16, .inl (nz_cI g, 48, .inl f16))]) F iw_X0_keep_0 tyX0 tyX0_ok nmX0 0 rfl rfl 2 (by decide) rfl fl_X0_keep_18 rfl rfl (Nat.le_of_ble_eq_true rfl) dX0_keep_88 rfl ?_
  exact nz_vret F hQ ((cr2 + 1), (va_cpy f10 cf0 (0 : Int32).toNatClampNeg (cr2 * 6).toNatClampNeg (6 : Int32).toNatClampNeg), (upd cf1 cr2.toNatClampNeg r5)) h rfl dX0_keep_91
def wp_X0_keep (cr2 : Int32) (cf0 : Nat → Int32) (cf1 : Nat → Int32) (r5 : Int32) (f10 : Nat → Int32) (K : Int32 → (Nat → Int32) → (Nat → Int32) → Prop) : Prop := ((cr2 < 24 → S_X0_keep_47 r5 f10 cr2 cf0 cf1 K) ∧ (¬ (cr2 < 24) → S_X0_keep_47 r5 f10 23 (va_cpy cf0 cf0 6 0 138) (va_cpy cf1 cf1 1 0 23) K))
set_option maxHeartbeats 4000000 in
set_option maxRecDepth 100000 in
theorem c_X0_keep (l : Launch) (g : nz_G) (co : Nat) (ca0 : Nat) (ca1 : Nat) (o : Nat) (a9 : Nat) (a10 : Nat) (a11 : Nat) (a12 : Nat) (a13 : Nat) (a14 : Nat) (a15 : Nat) (a16 : Nat) (cr2 : Int32) (cf0 : Nat → Int32) (cf1 : Nat → Int32) (r0 : Int32) (r1 : Int32) (r2 : Int32) (r3 : Int32) (r4 : Int32) (r5 : Int32) (r6 : Int32) (r7 : Int32) (r8 : Int32) (f9 : Nat → Int32) (f10 : Nat → Int32) (f11 : Nat → Int32) (f12 : Nat → Int32) (f13 : Nat → Int32) (f14 : Nat → Int32) (f15 : Nat → Int32) (f16 : Nat → Int32) (K : Int32 → (Nat → Int32) → (Nat → Int32) → Prop) (h : wp_X0_keep cr2 cf0 cf1 r5 f10 K) : nz_M l yX0_keep wsX0_keep rm_X0_keep g [.ref co, .ref o] [(co, .inr (0, [.ref ca0, .ref ca1, .int cr2])), (ca0, .inl (nz_cI g, 144, .inl cf0)), (ca1, .inl (nz_cI g, 24, .inl cf1)), (o, .inr (5, [.int r0, .int r1, .int r2, .int r3, .int r4, .int r5, .int r6, .int r7, .int r8, .ref a9, .ref a10, .ref a11, .ref a12, .ref a13, .ref a14, .ref a15, .ref a16])), (a9, .inl (nz_cI g, 6, .inl f9)), (a10, .inl (nz_cI g, 6, .inl f10)), (a11, .inl (nz_cI g, 6, .inl f11)), (a12, .inl (nz_cI g, 5, .inl f12)), (a13, .inl (nz_cI g, 5, .inl f13)), (a14, .inl (nz_cI g, 5, .inl f14)), (a15, .inl (nz_cI g, 5, .inl f15)), (a16, .inl (nz_cI g, 48, .inl f16))] (nz_Qv g [(co, .inr (0, [.ref ca0, .ref ca1, .int cr2])), (ca0, .inl (nz_cI g, 144, .inl cf0)), (ca1, .inl (nz_cI g, 24, .inl cf1)), (o, .inr (5, [.int r0, .int r1, .int r2, .int r3, .int r4, .int r5, .int r6, .int r7, .int r8, .ref a9, .ref a10, .ref a11, .ref a12, .ref a13, .ref a14, .ref a15, .ref a16])), (a9, .inl (nz_cI g, 6, .inl f9)), (a10, .inl (nz_cI g, 6, .inl f10)), (a11, .inl (nz_cI g, 6, .inl f11)), (a12, .inl (nz_cI g, 5, .inl f12)), (a13, .inl (nz_cI g, 5, .inl f13)), (a14, .inl (nz_cI g, 5, .inl f14)), (a15, .inl (nz_cI g, 5, .inl f15)), (a16, .inl (nz_cI g, 48, .inl f16))] (fun (u : Int32 × (Nat → Int32) × (Nat → Int32)) => K u.1 u.2.1 u.2.2) (fun u => [(co, .inr (0, [.ref ca0, .ref ca1, .int u.1])), (ca0, .inl (nz_cI g, 144, .inl u.2.1)), (ca1, .inl (nz_cI g, 24, .inl u.2.2)), (o, .inr (5, [.int r0, .int r1, .int r2, .int r3, .int r4, .int r5, .int r6, .int r7, .int r8, .ref a9, .ref a10, .ref a11, .ref a12, .ref a13, .ref a14, .ref a15, .ref a16])), (a9, .inl (nz_cI g, 6, .inl f9)), (a10, .inl (nz_cI g, 6, .inl f10)), (a11, .inl (nz_cI g, 6, .inl f11)), (a12, .inl (nz_cI g, 5, .inl f12)), (a13, .inl (nz_cI g, 5, .inl f13)), (a14, .inl (nz_cI g, 5, .inl f14)), (a15, .inl (nz_cI g, 5, .inl f15)), (a16, .inl (nz_cI g, 48, .inl f16))])) := by
  refine nz_M.of (bytes := cX0_keep) (nL := 2) (ret := none) (own := RX0) (by decide) rfl rfl ⟨rfl, rfl⟩ rfl ?_
  intro y F hl hQ
  obtain ⟨sz, hQ⟩ := hQ
  refine nz_ent (lv' := [(0, .ref co), (1, .ref o)]) rfl ?_
  unfold wp_X0_keep at h
  refine nz_aload_n F dX0_keep_0 rfl 0 rfl ?_
  refine nz_get F iw_X0_keep_0 0 rfl rfl 2 (by decide) rfl fl_X0_keep_18 rfl dX0_keep_1 ?_
  refine nz_bipush (v := 24) F dX0_keep_4 (by decide) ?_
  refine nz_icmp_lt (tgt := 47) F dX0_keep_6 (by decide) (fun c1 => ?_) (fun c1 => ?_)
  · have h := h.1 c1
    exact t_X0_keep_47 F co ca0 ca1 o a9 a10 a11 a12 a13 a14 a15 a16 r0 r1 r2 r3 r4 r5 r6 r7 r8 f9 f10 f11 f12 f13 f14 f15 f16 cr2 cf0 cf1 hQ h
  · have h := h.2 c1
    refine nz_aload_n F dX0_keep_9 rfl 0 rfl ?_
    refine nz_get F iw_X0_keep_0 0 rfl rfl 0 (by decide) rfl fl_X0_keep_11 rfl dX0_keep_10 ?_
    refine nz_bipush (v := 6) F dX0_keep_13 (by decide) ?_
    refine nz_aload_n F dX0_keep_15 rfl 0 rfl ?_
    refine nz_get F iw_X0_keep_0 0 rfl rfl 0 (by decide) rfl fl_X0_keep_11 rfl dX0_keep_16 ?_
    refine nz_iconst (v := 0) F dX0_keep_19 (by decide) ?_
    refine nz_sipush (v := 138) F dX0_keep_20 (by decide) ?_
    refine nz_copy (ws' := [(co, .inr (0, [.ref ca0, .ref ca1, .int cr2])), (ca0, .inl (nz_cI g, 144, .inl (va_cpy cf0 cf0 6 0 138))), (ca1, .inl (nz_cI g, 24, .inl cf1)), (o, .inr (5, [.int r0, .int r1, .int r2, .int r3, .int r4, .int r5, .int r6, .int r7, .int r8, .ref a9, .ref a10, .ref a11, .ref a12, .ref a13, .ref a14, .ref a15, .ref a16])), (a9, .inl (nz_cI g, 6, .inl f9)), (a10, .inl (nz_cI g, 6, .inl f10)), (a11, .inl (nz_cI g, 6, .inl f11)), (a12, .inl (nz_cI g, 5, .inl f12)), (a13, .inl (nz_cI g, 5, .inl f13)), (a14, .inl (nz_cI g, 5, .inl f14)), (a15, .inl (nz_cI g, 5, .inl f15)), (a16, .inl (nz_cI g, 48, .inl f16))]) F wd_X0_keep_cp0_22 wd_X0_keep_cp1 wd_X0_keep_cp2 wd_X0_keep_cp3 1 1 rfl rfl (by decide) (by decide) (by decide) (by decide) (by decide) rfl (Nat.le_of_ble_eq_true rfl) dX0_keep_23 rfl ?_
    refine nz_aload_n F dX0_keep_26 rfl 0 rfl ?_
    refine nz_get F iw_X0_keep_0 0 rfl rfl 1 (by decide) rfl fl_X0_keep_15 rfl dX0_keep_27 ?_
    refine nz_iconst (v := 1) F dX0_keep_30 (by decide) ?_
    refine nz_aload_n F dX0_keep_31 rfl 0 rfl ?_
    refine nz_get F iw_X0_keep_0 0 rfl rfl 1 (by decide) rfl fl_X0_keep_15 rfl dX0_keep_32 ?_
    refine nz_iconst (v := 0) F dX0_keep_35 (by decide) ?_
    refine nz_bipush (v := 23) F dX0_keep_36 (by decide) ?_
    refine nz_copy (ws' := [(co, .inr (0, [.ref ca0, .ref ca1, .int cr2])), (ca0, .inl (nz_cI g, 144, .inl (va_cpy cf0 cf0 6 0 138))), (ca1, .inl (nz_cI g, 24, .inl (va_cpy cf1 cf1 1 0 23))), (o, .inr (5, [.int r0, .int r1, .int r2, .int r3, .int r4, .int r5, .int r6, .int r7, .int r8, .ref a9, .ref a10, .ref a11, .ref a12, .ref a13, .ref a14, .ref a15, .ref a16])), (a9, .inl (nz_cI g, 6, .inl f9)), (a10, .inl (nz_cI g, 6, .inl f10)), (a11, .inl (nz_cI g, 6, .inl f11)), (a12, .inl (nz_cI g, 5, .inl f12)), (a13, .inl (nz_cI g, 5, .inl f13)), (a14, .inl (nz_cI g, 5, .inl f14)), (a15, .inl (nz_cI g, 5, .inl f15)), (a16, .inl (nz_cI g, 48, .inl f16))]) F wd_X0_keep_cp0_22 wd_X0_keep_cp1 wd_X0_keep_cp2 wd_X0_keep_cp3 2 2 rfl rfl (by decide) (by decide) (by decide) (by decide) (by decide) rfl (Nat.le_of_ble_eq_true rfl) dX0_keep_38 rfl ?_
    refine nz_aload_n F dX0_keep_41 rfl 0 rfl ?_
    refine nz_bipush (v := 23) F dX0_keep_42 (by decide) ?_
    refine nz_put (ws' := [(co, .inr (0, [.ref ca0, .ref ca1, .int 23])), (ca0, .inl (nz_cI g, 144, .inl (va_cpy cf0 cf0 6 0 138))), (ca1, .inl (nz_cI g, 24, .inl (va_cpy cf1 cf1 1 0 23))), (o, .inr (5, [.int r0, .int r1, .int r2, .int r3, .int r4, .int r5, .int r6, .int r7, .int r8, .ref a9, .ref a10, .ref a11, .ref a12, .ref a13, .ref a14, .ref a15, .ref a16])), (a9, .inl (nz_cI g, 6, .inl f9)), (a10, .inl (nz_cI g, 6, .inl f10)), (a11, .inl (nz_cI g, 6, .inl f11)), (a12, .inl (nz_cI g, 5, .inl f12)), (a13, .inl (nz_cI g, 5, .inl f13)), (a14, .inl (nz_cI g, 5, .inl f14)), (a15, .inl (nz_cI g, 5, .inl f15)), (a16, .inl (nz_cI g, 48, .inl f16))]) F iw_X0_keep_0 tyX0 tyX0_ok nmX0 0 rfl rfl 2 (by decide) rfl fl_X0_keep_18 rfl rfl (Nat.le_of_ble_eq_true rfl) dX0_keep_44 rfl ?_
    exact t_X0_keep_47 F co ca0 ca1 o a9 a10 a11 a12 a13 a14 a15 a16 r0 r1 r2 r3 r4 r5 r6 r7 r8 f9 f10 f11 f12 f13 f14 f15 f16 23 (va_cpy cf0 cf0 6 0 138) (va_cpy cf1 cf1 1 0 23) hQ h
theorem k_X0_keep {y : nz_Y} {g : nz_G} {k n : Nat} {ws : va_W} {pc : Nat} {ls : List (Nat × Value)} {st rest : List Value} {av : Array Value} {isC : List Nat} {K : Int32 → (Nat → Int32) → (Nat → Int32) → Prop} (co : Nat) (ca0 : Nat) (ca1 : Nat) (o : Nat) (a9 : Nat) (a10 : Nat) (a11 : Nat) (a12 : Nat) (a13 : Nat) (a14 : Nat) (a15 : Nat) (a16 : Nat) (cr2 : Int32) (cf0 : Nat → Int32) (cf1 : Nat → Int32) (r0 : Int32) (r1 : Int32) (r2 : Int32) (r3 : Int32) (r4 : Int32) (r5 : Int32) (r6 : Int32) (r7 : Int32) (r8 : Int32) (f9 : Nat → Int32) (f10 : Nat → Int32) (f11 : Nat → Int32) (f12 : Nat → Int32) (f13 : Nat → Int32) (f14 : Nat → Int32) (f15 : Nat → Int32) (f16 : Nat → Int32) (run : nz_M (yz_l y) yX0_keep wsX0_keep rm_X0_keep g [.ref co, .ref o] [(co, .inr (0, [.ref ca0, .ref ca1, .int cr2])), (ca0, .inl (nz_cI g, 144, .inl cf0)), (ca1, .inl (nz_cI g, 24, .inl cf1)), (o, .inr (5, [.int r0, .int r1, .int r2, .int r3, .int r4, .int r5, .int r6, .int r7, .int r8, .ref a9, .ref a10, .ref a11, .ref a12, .ref a13, .ref a14, .ref a15, .ref a16])), (a9, .inl (nz_cI g, 6, .inl f9)), (a10, .inl (nz_cI g, 6, .inl f10)), (a11, .inl (nz_cI g, 6, .inl f11)), (a12, .inl (nz_cI g, 5, .inl f12)), (a13, .inl (nz_cI g, 5, .inl f13)), (a14, .inl (nz_cI g, 5, .inl f14)), (a15, .inl (nz_cI g, 5, .inl f15)), (a16, .inl (nz_cI g, 48, .inl f16))] (nz_Qv g [(co, .inr (0, [.ref ca0, .ref ca1, .int cr2])), (ca0, .inl (nz_cI g, 144, .inl cf0)), (ca1, .inl (nz_cI g, 24, .inl cf1)), (o, .inr (5, [.int r0, .int r1, .int r2, .int r3, .int r4, .int r5, .int r6, .int r7, .int r8, .ref a9, .ref a10, .ref a11, .ref a12, .ref a13, .ref a14, .ref a15, .ref a16])), (a9, .inl (nz_cI g, 6, .inl f9)), (a10, .inl (nz_cI g, 6, .inl f10)), (a11, .inl (nz_cI g, 6, .inl f11)), (a12, .inl (nz_cI g, 5, .inl f12)), (a13, .inl (nz_cI g, 5, .inl f13)), (a14, .inl (nz_cI g, 5, .inl f14)), (a15, .inl (nz_cI g, 5, .inl f15)), (a16, .inl (nz_cI g, 48, .inl f16))] (fun (u : Int32 × (Nat → Int32) × (Nat → Int32)) => K u.1 u.2.1 u.2.2) (fun u => [(co, .inr (0, [.ref ca0, .ref ca1, .int u.1])), (ca0, .inl (nz_cI g, 144, .inl u.2.1)), (ca1, .inl (nz_cI g, 24, .inl u.2.2)), (o, .inr (5, [.int r0, .int r1, .int r2, .int r3, .int r4, .int r5, .int r6, .int r7, .int r8, .ref a9, .ref a10, .ref a11, .ref a12, .ref a13, .ref a14, .ref a15, .ref a16])), (a9, .inl (nz_cI g, 6, .inl f9)), (a10, .inl (nz_cI g, 6, .inl f10)), (a11, .inl (nz_cI g, 6, .inl f11)), (a12, .inl (nz_cI g, 5, .inl f12)), (a13, .inl (nz_cI g, 5, .inl f13)), (a14, .inl (nz_cI g, 5, .inl f14)), (a15, .inl (nz_cI g, 5, .inl f15)), (a16, .inl (nz_cI g, 48, .inl f16))])) → nz_C y g k n ws pc ls st rest [(co, .inr (0, [.ref ca0, .ref ca1, .int cr2])), (ca0, .inl (nz_cI g, 144, .inl cf0)), (ca1, .inl (nz_cI g, 24, .inl cf1)), (o, .inr (5, [.int r0, .int r1, .int r2, .int r3, .int r4, .int r5, .int r6, .int r7, .int r8, .ref a9, .ref a10, .ref a11, .ref a12, .ref a13, .ref a14, .ref a15, .ref a16])), (a9, .inl (nz_cI g, 6, .inl f9)), (a10, .inl (nz_cI g, 6, .inl f10)), (a11, .inl (nz_cI g, 6, .inl f11)), (a12, .inl (nz_cI g, 5, .inl f12)), (a13, .inl (nz_cI g, 5, .inl f13)), (a14, .inl (nz_cI g, 5, .inl f14)), (a15, .inl (nz_cI g, 5, .inl f15)), (a16, .inl (nz_cI g, 48, .inl f16))] (nz_Qv g [(co, .inr (0, [.ref ca0, .ref ca1, .int cr2])), (ca0, .inl (nz_cI g, 144, .inl cf0)), (ca1, .inl (nz_cI g, 24, .inl cf1)), (o, .inr (5, [.int r0, .int r1, .int r2, .int r3, .int r4, .int r5, .int r6, .int r7, .int r8, .ref a9, .ref a10, .ref a11, .ref a12, .ref a13, .ref a14, .ref a15, .ref a16])), (a9, .inl (nz_cI g, 6, .inl f9)), (a10, .inl (nz_cI g, 6, .inl f10)), (a11, .inl (nz_cI g, 6, .inl f11)), (a12, .inl (nz_cI g, 5, .inl f12)), (a13, .inl (nz_cI g, 5, .inl f13)), (a14, .inl (nz_cI g, 5, .inl f14)), (a15, .inl (nz_cI g, 5, .inl f15)), (a16, .inl (nz_cI g, 48, .inl f16))] (fun (u : Int32 × (Nat → Int32) × (Nat → Int32)) => K u.1 u.2.1 u.2.2) (fun u => [(co, .inr (0, [.ref ca0, .ref ca1, .int u.1])), (ca0, .inl (nz_cI g, 144, .inl u.2.1)), (ca1, .inl (nz_cI g, 24, .inl u.2.2)), (o, .inr (5, [.int r0, .int r1, .int r2, .int r3, .int r4, .int r5, .int r6, .int r7, .int r8, .ref a9, .ref a10, .ref a11, .ref a12, .ref a13, .ref a14, .ref a15, .ref a16])), (a9, .inl (nz_cI g, 6, .inl f9)), (a10, .inl (nz_cI g, 6, .inl f10)), (a11, .inl (nz_cI g, 6, .inl f11)), (a12, .inl (nz_cI g, 5, .inl f12)), (a13, .inl (nz_cI g, 5, .inl f13)), (a14, .inl (nz_cI g, 5, .inl f14)), (a15, .inl (nz_cI g, 5, .inl f15)), (a16, .inl (nz_cI g, 48, .inl f16))])) av isC) (h : wp_X0_keep cr2 cf0 cf1 r5 f10 K) (ws' : Int32 → (Nat → Int32) → (Nat → Int32) → va_W) (hm : ∀ (m0 : Int32) (m1 : (Nat → Int32)) (m2 : (Nat → Int32)), nz_mrg ws isC [(co, .inr (0, [.ref ca0, .ref ca1, .int m0])), (ca0, .inl (nz_cI g, 144, .inl m1)), (ca1, .inl (nz_cI g, 24, .inl m2)), (o, .inr (5, [.int r0, .int r1, .int r2, .int r3, .int r4, .int r5, .int r6, .int r7, .int r8, .ref a9, .ref a10, .ref a11, .ref a12, .ref a13, .ref a14, .ref a15, .ref a16])), (a9, .inl (nz_cI g, 6, .inl f9)), (a10, .inl (nz_cI g, 6, .inl f10)), (a11, .inl (nz_cI g, 6, .inl f11)), (a12, .inl (nz_cI g, 5, .inl f12)), (a13, .inl (nz_cI g, 5, .inl f13)), (a14, .inl (nz_cI g, 5, .inl f14)), (a15, .inl (nz_cI g, 5, .inl f15)), (a16, .inl (nz_cI g, 48, .inl f16))] = ws' m0 m1 m2) (kk : ∀ (m0 : Int32) (m1 : (Nat → Int32)) (m2 : (Nat → Int32)), K m0 m1 m2 → nz_V y g k n (ws' m0 m1 m2) (pc + 3) ls (rest)) : nz_V y g k n ws pc ls st :=
  nz_cv (ws' := fun u => ws' u.1 u.2.1 u.2.2) (run (c_X0_keep (yz_l y) g co ca0 ca1 o a9 a10 a11 a12 a13 a14 a15 a16 cr2 cf0 cf1 r0 r1 r2 r3 r4 r5 r6 r7 r8 f9 f10 f11 f12 f13 f14 f15 f16 K h)) (fun _ => rfl) (fun u => hm u.1 u.2.1 u.2.2) (fun u h => kk u.1 u.2.1 u.2.2 h)
theorem dX0_displacedByLatest_0 : decode cX0_displacedByLatest 0 = .ok (.iconst 0, 1) := by decide +kernel
theorem dX0_displacedByLatest_1 : decode cX0_displacedByLatest 1 = .ok (.istore_n 2, 1) := by decide +kernel
theorem dX0_displacedByLatest_2 : decode cX0_displacedByLatest 2 = .ok (.aload_n 0, 1) := by decide +kernel
theorem dX0_displacedByLatest_3 : decode cX0_displacedByLatest 3 = .ok (.getfield 18, 3) := by decide +kernel
theorem dX0_displacedByLatest_6 : decode cX0_displacedByLatest 6 = .ok (.iconst 1, 1) := by decide +kernel
theorem dX0_displacedByLatest_7 : decode cX0_displacedByLatest 7 = .ok (.isub, 1) := by decide +kernel
theorem dX0_displacedByLatest_8 : decode cX0_displacedByLatest 8 = .ok (.bipush 6, 2) := by decide +kernel
theorem dX0_displacedByLatest_10 : decode cX0_displacedByLatest 10 = .ok (.imul, 1) := by decide +kernel
theorem dX0_displacedByLatest_11 : decode cX0_displacedByLatest 11 = .ok (.istore_n 3, 1) := by decide +kernel
theorem dX0_displacedByLatest_12 : decode cX0_displacedByLatest 12 = .ok (.iconst 0, 1) := by decide +kernel
theorem dX0_displacedByLatest_13 : decode cX0_displacedByLatest 13 = .ok (.istore 4, 2) := by decide +kernel
theorem dX0_displacedByLatest_15 : decode cX0_displacedByLatest 15 = .ok (.iload 4, 2) := by decide +kernel
theorem dX0_displacedByLatest_17 : decode cX0_displacedByLatest 17 = .ok (.aload_n 1, 1) := by decide +kernel
theorem dX0_displacedByLatest_18 : decode cX0_displacedByLatest 18 = .ok (.getfield 33, 3) := by decide +kernel
theorem dX0_displacedByLatest_21 : decode cX0_displacedByLatest 21 = .ok (.if_icmp .ge 39, 3) := by decide +kernel
theorem dX0_displacedByLatest_24 : decode cX0_displacedByLatest 24 = .ok (.iload_n 3, 1) := by decide +kernel
theorem dX0_displacedByLatest_25 : decode cX0_displacedByLatest 25 = .ok (.ifCond .lt 35, 3) := by decide +kernel
theorem dX0_displacedByLatest_28 : decode cX0_displacedByLatest 28 = .ok (.aload_n 1, 1) := by decide +kernel
theorem dX0_displacedByLatest_29 : decode cX0_displacedByLatest 29 = .ok (.getfield 28, 3) := by decide +kernel
theorem dX0_displacedByLatest_32 : decode cX0_displacedByLatest 32 = .ok (.iload 4, 2) := by decide +kernel
theorem dX0_displacedByLatest_34 : decode cX0_displacedByLatest 34 = .ok (.iaload, 1) := by decide +kernel
theorem dX0_displacedByLatest_35 : decode cX0_displacedByLatest 35 = .ok (.aload_n 0, 1) := by decide +kernel
theorem dX0_displacedByLatest_36 : decode cX0_displacedByLatest 36 = .ok (.getfield 11, 3) := by decide +kernel
theorem dX0_displacedByLatest_39 : decode cX0_displacedByLatest 39 = .ok (.iload_n 3, 1) := by decide +kernel
theorem dX0_displacedByLatest_40 : decode cX0_displacedByLatest 40 = .ok (.iload 4, 2) := by decide +kernel
theorem dX0_displacedByLatest_42 : decode cX0_displacedByLatest 42 = .ok (.iadd, 1) := by decide +kernel
theorem dX0_displacedByLatest_43 : decode cX0_displacedByLatest 43 = .ok (.iaload, 1) := by decide +kernel
theorem dX0_displacedByLatest_44 : decode cX0_displacedByLatest 44 = .ok (.if_icmp .eq 10, 3) := by decide +kernel
theorem dX0_displacedByLatest_47 : decode cX0_displacedByLatest 47 = .ok (.iload_n 2, 1) := by decide +kernel
theorem dX0_displacedByLatest_48 : decode cX0_displacedByLatest 48 = .ok (.iconst 1, 1) := by decide +kernel
theorem dX0_displacedByLatest_49 : decode cX0_displacedByLatest 49 = .ok (.iload 4, 2) := by decide +kernel
theorem dX0_displacedByLatest_51 : decode cX0_displacedByLatest 51 = .ok (.ishl, 1) := by decide +kernel
theorem dX0_displacedByLatest_52 : decode cX0_displacedByLatest 52 = .ok (.ior, 1) := by decide +kernel
theorem dX0_displacedByLatest_53 : decode cX0_displacedByLatest 53 = .ok (.istore_n 2, 1) := by decide +kernel
theorem dX0_displacedByLatest_54 : decode cX0_displacedByLatest 54 = .ok (.iinc 4 1, 3) := by decide +kernel
theorem dX0_displacedByLatest_57 : decode cX0_displacedByLatest 57 = .ok (.goto (-42), 3) := by decide +kernel
theorem dX0_displacedByLatest_60 : decode cX0_displacedByLatest 60 = .ok (.iload_n 2, 1) := by decide +kernel
theorem dX0_displacedByLatest_61 : decode cX0_displacedByLatest 61 = .ok (.ireturn, 1) := by decide +kernel
/-! X0_displacedByLatest -/
abbrev rm_X0_displacedByLatest : Room := { frames := 0, cells := 0, slots := 0, locals := 0 }
theorem iw_X0_displacedByLatest_0 : ∀ w ∈ wsX00, w ∈ wsX0_displacedByLatest := fun _ h => List.mem_cons_of_mem _ (List.mem_append_left _ (List.mem_append_right _ h))
theorem iw_X0_displacedByLatest_5 : ∀ w ∈ wsX50, w ∈ wsX0_displacedByLatest := fun _ h => List.mem_cons_of_mem _ (List.mem_append_right _ h)
theorem fl_X0_displacedByLatest_18 : Cond.fieldLink RX0 18 "NightStones$Acts" "kept" "I" ∈ wsX0_displacedByLatest := List.mem_of_getElem? (i := 1) rfl
theorem fn_X0_displacedByLatest_33 : Cond.fieldLinkNest RX0 33 "NightStones$Road" "stones" "I" RX7 ∈ nz_nest := List.mem_of_getElem? (i := 19) rfl
theorem fn_X0_displacedByLatest_28 : Cond.fieldLinkNest RX0 28 "NightStones$Road" "at" "[I" RX7 ∈ nz_nest := List.mem_of_getElem? (i := 32) rfl
theorem fl_X0_displacedByLatest_11 : Cond.fieldLink RX0 11 "NightStones$Acts" "places" "[I" ∈ wsX0_displacedByLatest := List.mem_of_getElem? (i := 2) rfl
def S_X0_displacedByLatest_15 (cf0 : Nat → Int32) (r6 : Int32) (f10 : Nat → Int32) (x3 : Int32) (K : Int32 → Prop) (R15 : Int32 → Int32 → Prop) (x2 : Int32) (x4 : Int32) : Prop := ((r6 ≤ x4 → K x2) ∧ (¬ (r6 ≤ x4) → ((x3 < 0 → K x2) ∧ (¬ (x3 < 0) → (vp_in x4 6 ∧ (vp_in (x3 + x4) 144 ∧ (((f10 x4.toNatClampNeg) = (cf0 (x3 + x4).toNatClampNeg) → R15 x2 (x4 + 1)) ∧ (¬ ((f10 x4.toNatClampNeg) = (cf0 (x3 + x4).toNatClampNeg)) → R15 (x2 ||| (1 <<< (x4 &&& 31))) (x4 + 1)))))))))
set_option maxHeartbeats 4000000 in
set_option maxRecDepth 100000 in
theorem t_X0_displacedByLatest_15 {y : nz_Y} {g : nz_G} (F : nz_F y g cX0_displacedByLatest 5 wsX0_displacedByLatest RX0 (some .int) rm_X0_displacedByLatest) {wc0 : va_W} {sz : Nat} {K : Int32 → Prop} (co : Nat) (ca0 : Nat) (ca1 : Nat) (o : Nat) (a9 : Nat) (a10 : Nat) (a11 : Nat) (a12 : Nat) (a13 : Nat) (a14 : Nat) (a15 : Nat) (a16 : Nat) (cr2 : Int32) (cf0 : Nat → Int32) (cf1 : Nat → Int32) (r0 : Int32) (r1 : Int32) (r2 : Int32) (r3 : Int32) (r4 : Int32) (r5 : Int32) (r6 : Int32) (r7 : Int32) (r8 : Int32) (f9 : Nat → Int32) (f10 : Nat → Int32) (f11 : Nat → Int32) (f12 : Nat → Int32) (f13 : Nat → Int32) (f14 : Nat → Int32) (f15 : Nat → Int32) (f16 : Nat → Int32) (x3 : Int32) (hQ : yz_A y = va_A wc0 sz ∧ yz_Q y = MQ (yz_b y) ((nz_Qi g wc0 (fun r (u : Unit) => K r) (fun u => [(co, .inr (0, [.ref ca0, .ref ca1, .int cr2])), (ca0, .inl (nz_cI g, 144, .inl cf0)), (ca1, .inl (nz_cI g, 24, .inl cf1)), (o, .inr (5, [.int r0, .int r1, .int r2, .int r3, .int r4, .int r5, .int r6, .int r7, .int r8, .ref a9, .ref a10, .ref a11, .ref a12, .ref a13, .ref a14, .ref a15, .ref a16])), (a9, .inl (nz_cI g, 6, .inl f9)), (a10, .inl (nz_cI g, 6, .inl f10)), (a11, .inl (nz_cI g, 6, .inl f11)), (a12, .inl (nz_cI g, 5, .inl f12)), (a13, .inl (nz_cI g, 5, .inl f13)), (a14, .inl (nz_cI g, 5, .inl f14)), (a15, .inl (nz_cI g, 5, .inl f15)), (a16, .inl (nz_cI g, 48, .inl f16))])) sz) (yz_a y) (yz_s y) 0 0 (va_A wc0 sz)) : ∀ (n1 : Nat) (x2 : Int32) (x4 : Int32), nz_it (fun _ _ => False) (S_X0_displacedByLatest_15 cf0 r6 f10 x3 K) n1 x2 x4 → nz_V y g 0 0 [(co, .inr (0, [.ref ca0, .ref ca1, .int cr2])), (ca0, .inl (nz_cI g, 144, .inl cf0)), (ca1, .inl (nz_cI g, 24, .inl cf1)), (o, .inr (5, [.int r0, .int r1, .int r2, .int r3, .int r4, .int r5, .int r6, .int r7, .int r8, .ref a9, .ref a10, .ref a11, .ref a12, .ref a13, .ref a14, .ref a15, .ref a16])), (a9, .inl (nz_cI g, 6, .inl f9)), (a10, .inl (nz_cI g, 6, .inl f10)), (a11, .inl (nz_cI g, 6, .inl f11)), (a12, .inl (nz_cI g, 5, .inl f12)), (a13, .inl (nz_cI g, 5, .inl f13)), (a14, .inl (nz_cI g, 5, .inl f14)), (a15, .inl (nz_cI g, 5, .inl f15)), (a16, .inl (nz_cI g, 48, .inl f16))] 15 [(0, .ref co), (1, .ref o), (2, .int x2), (3, .int x3), (4, .int x4)] [] := by
  intro n1
  induction n1 with
  | zero =>
    intro x2 x4 h
    exact h.elim
  | succ n1 hR15 =>
    intro x2 x4 h
    have h : S_X0_displacedByLatest_15 cf0 r6 f10 x3 K (nz_it (fun _ _ => False) (S_X0_displacedByLatest_15 cf0 r6 f10 x3 K) n1) x2 x4 := h
    unfold S_X0_displacedByLatest_15 at h
    refine nz_iload F dX0_displacedByLatest_15 4 rfl ?_
    refine nz_aload_n F dX0_displacedByLatest_17 rfl 1 rfl ?_
    refine nz_getN F iw_X0_displacedByLatest_5 3 rfl rfl 6 (by decide) rfl fn_X0_displacedByLatest_33 rfl dX0_displacedByLatest_18 ?_
    refine nz_icmp_ge (tgt := 60) F dX0_displacedByLatest_21 (by decide) (fun c1 => ?_) (fun c1 => ?_)
    · have h := h.1 c1
      refine nz_iload_n F dX0_displacedByLatest_60 rfl 2 rfl ?_
      exact nz_iret F hQ () h rfl dX0_displacedByLatest_61
    · have h := h.2 c1
      refine nz_iload_n F dX0_displacedByLatest_24 rfl 3 rfl ?_
      refine nz_if_lt (tgt := 60) F dX0_displacedByLatest_25 (by decide) (fun c2 => ?_) (fun c2 => ?_)
      · have h := h.1 c2
        refine nz_iload_n F dX0_displacedByLatest_60 rfl 2 rfl ?_
        exact nz_iret F hQ () h rfl dX0_displacedByLatest_61
      · have h := h.2 c2
        refine nz_aload_n F dX0_displacedByLatest_28 rfl 1 rfl ?_
        refine nz_getN F iw_X0_displacedByLatest_5 3 rfl rfl 10 (by decide) rfl fn_X0_displacedByLatest_28 rfl dX0_displacedByLatest_29 ?_
        refine nz_iload F dX0_displacedByLatest_32 4 rfl ?_
        obtain ⟨i3, h⟩ := h
        refine nz_iald F 5 rfl i3 dX0_displacedByLatest_34 ?_
        refine nz_aload_n F dX0_displacedByLatest_35 rfl 0 rfl ?_
        refine nz_get F iw_X0_displacedByLatest_0 0 rfl rfl 0 (by decide) rfl fl_X0_displacedByLatest_11 rfl dX0_displacedByLatest_36 ?_
        refine nz_iload_n F dX0_displacedByLatest_39 rfl 3 rfl ?_
        refine nz_iload F dX0_displacedByLatest_40 4 rfl ?_
        refine nz_iadd F dX0_displacedByLatest_42 ?_
        obtain ⟨i4, h⟩ := h
        refine nz_iald F 1 rfl i4 dX0_displacedByLatest_43 ?_
        refine nz_icmp_eq (tgt := 54) F dX0_displacedByLatest_44 (by decide) (fun c5 => ?_) (fun c5 => ?_)
        · have h := h.1 c5
          refine nz_iinc (v := (x4 + 1)) (j := 4) (lv' := [(4, .int (x4 + 1)), (0, .ref co), (1, .ref o), (2, .int x2), (3, .int x3)]) F dX0_displacedByLatest_54 rfl rfl (by decide) rfl ?_
          refine nz_goto (tgt := 15) F dX0_displacedByLatest_57 (by decide) ?_
          refine nz_ls (lv' := [(0, .ref co), (1, .ref o), (2, .int x2), (3, .int x3), (4, .int (x4 + 1))]) [1, 2, 3, 4, 0] rfl ?_
          exact hR15 x2 (x4 + 1) h
        · have h := h.2 c5
          refine nz_iload_n F dX0_displacedByLatest_47 rfl 2 rfl ?_
          refine nz_iconst (v := 1) F dX0_displacedByLatest_48 (by decide) ?_
          refine nz_iload F dX0_displacedByLatest_49 4 rfl ?_
          refine nz_ishl F dX0_displacedByLatest_51 ?_
          refine nz_ior F dX0_displacedByLatest_52 ?_
          refine nz_istore_n (lv' := [(2, .int (x2 ||| (1 <<< (x4 &&& 31)))), (0, .ref co), (1, .ref o), (3, .int x3), (4, .int x4)]) F dX0_displacedByLatest_53 rfl (by decide) rfl ?_
          refine nz_iinc (v := (x4 + 1)) (j := 4) (lv' := [(4, .int (x4 + 1)), (2, .int (x2 ||| (1 <<< (x4 &&& 31)))), (0, .ref co), (1, .ref o), (3, .int x3)]) F dX0_displacedByLatest_54 rfl rfl (by decide) rfl ?_
          refine nz_goto (tgt := 15) F dX0_displacedByLatest_57 (by decide) ?_
          refine nz_ls (lv' := [(0, .ref co), (1, .ref o), (2, .int (x2 ||| (1 <<< (x4 &&& 31)))), (3, .int x3), (4, .int (x4 + 1))]) [2, 3, 1, 4, 0] rfl ?_
          exact hR15 (x2 ||| (1 <<< (x4 &&& 31))) (x4 + 1) h
def wp_X0_displacedByLatest (cr2 : Int32) (cf0 : Nat → Int32) (r6 : Int32) (f10 : Nat → Int32) (K : Int32 → Prop) : Prop := (∃ n, nz_it (fun _ _ => False) (S_X0_displacedByLatest_15 cf0 r6 f10 ((cr2 - 1) * 6) K) n 0 0)
set_option maxHeartbeats 4000000 in
set_option maxRecDepth 100000 in
theorem c_X0_displacedByLatest (l : Launch) (g : nz_G) (co : Nat) (ca0 : Nat) (ca1 : Nat) (o : Nat) (a9 : Nat) (a10 : Nat) (a11 : Nat) (a12 : Nat) (a13 : Nat) (a14 : Nat) (a15 : Nat) (a16 : Nat) (cr2 : Int32) (cf0 : Nat → Int32) (cf1 : Nat → Int32) (r0 : Int32) (r1 : Int32) (r2 : Int32) (r3 : Int32) (r4 : Int32) (r5 : Int32) (r6 : Int32) (r7 : Int32) (r8 : Int32) (f9 : Nat → Int32) (f10 : Nat → Int32) (f11 : Nat → Int32) (f12 : Nat → Int32) (f13 : Nat → Int32) (f14 : Nat → Int32) (f15 : Nat → Int32) (f16 : Nat → Int32) (K : Int32 → Prop) (h : wp_X0_displacedByLatest cr2 cf0 r6 f10 K) : nz_M l yX0_displacedByLatest wsX0_displacedByLatest rm_X0_displacedByLatest g [.ref co, .ref o] [(co, .inr (0, [.ref ca0, .ref ca1, .int cr2])), (ca0, .inl (nz_cI g, 144, .inl cf0)), (ca1, .inl (nz_cI g, 24, .inl cf1)), (o, .inr (5, [.int r0, .int r1, .int r2, .int r3, .int r4, .int r5, .int r6, .int r7, .int r8, .ref a9, .ref a10, .ref a11, .ref a12, .ref a13, .ref a14, .ref a15, .ref a16])), (a9, .inl (nz_cI g, 6, .inl f9)), (a10, .inl (nz_cI g, 6, .inl f10)), (a11, .inl (nz_cI g, 6, .inl f11)), (a12, .inl (nz_cI g, 5, .inl f12)), (a13, .inl (nz_cI g, 5, .inl f13)), (a14, .inl (nz_cI g, 5, .inl f14)), (a15, .inl (nz_cI g, 5, .inl f15)), (a16, .inl (nz_cI g, 48, .inl f16))] (nz_Qi g [(co, .inr (0, [.ref ca0, .ref ca1, .int cr2])), (ca0, .inl (nz_cI g, 144, .inl cf0)), (ca1, .inl (nz_cI g, 24, .inl cf1)), (o, .inr (5, [.int r0, .int r1, .int r2, .int r3, .int r4, .int r5, .int r6, .int r7, .int r8, .ref a9, .ref a10, .ref a11, .ref a12, .ref a13, .ref a14, .ref a15, .ref a16])), (a9, .inl (nz_cI g, 6, .inl f9)), (a10, .inl (nz_cI g, 6, .inl f10)), (a11, .inl (nz_cI g, 6, .inl f11)), (a12, .inl (nz_cI g, 5, .inl f12)), (a13, .inl (nz_cI g, 5, .inl f13)), (a14, .inl (nz_cI g, 5, .inl f14)), (a15, .inl (nz_cI g, 5, .inl f15)), (a16, .inl (nz_cI g, 48, .inl f16))] (fun r (u : Unit) => K r) (fun u => [(co, .inr (0, [.ref ca0, .ref ca1, .int cr2])), (ca0, .inl (nz_cI g, 144, .inl cf0)), (ca1, .inl (nz_cI g, 24, .inl cf1)), (o, .inr (5, [.int r0, .int r1, .int r2, .int r3, .int r4, .int r5, .int r6, .int r7, .int r8, .ref a9, .ref a10, .ref a11, .ref a12, .ref a13, .ref a14, .ref a15, .ref a16])), (a9, .inl (nz_cI g, 6, .inl f9)), (a10, .inl (nz_cI g, 6, .inl f10)), (a11, .inl (nz_cI g, 6, .inl f11)), (a12, .inl (nz_cI g, 5, .inl f12)), (a13, .inl (nz_cI g, 5, .inl f13)), (a14, .inl (nz_cI g, 5, .inl f14)), (a15, .inl (nz_cI g, 5, .inl f15)), (a16, .inl (nz_cI g, 48, .inl f16))])) := by
  refine nz_M.of (bytes := cX0_displacedByLatest) (nL := 5) (ret := (some .int)) (own := RX0) (by decide) rfl rfl ⟨rfl, rfl⟩ rfl ?_
  intro y F hl hQ
  obtain ⟨sz, hQ⟩ := hQ
  refine nz_ent (lv' := [(0, .ref co), (1, .ref o)]) rfl ?_
  unfold wp_X0_displacedByLatest at h
  refine nz_iconst (v := 0) F dX0_displacedByLatest_0 (by decide) ?_
  refine nz_istore_n (lv' := [(2, .int 0), (0, .ref co), (1, .ref o)]) F dX0_displacedByLatest_1 rfl (by decide) rfl ?_
  refine nz_aload_n F dX0_displacedByLatest_2 rfl 1 rfl ?_
  refine nz_get F iw_X0_displacedByLatest_0 0 rfl rfl 2 (by decide) rfl fl_X0_displacedByLatest_18 rfl dX0_displacedByLatest_3 ?_
  refine nz_iconst (v := 1) F dX0_displacedByLatest_6 (by decide) ?_
  refine nz_isub F dX0_displacedByLatest_7 ?_
  refine nz_bipush (v := 6) F dX0_displacedByLatest_8 (by decide) ?_
  refine nz_imul F dX0_displacedByLatest_10 ?_
  refine nz_istore_n (lv' := [(3, .int ((cr2 - 1) * 6)), (2, .int 0), (0, .ref co), (1, .ref o)]) F dX0_displacedByLatest_11 rfl (by decide) rfl ?_
  refine nz_iconst (v := 0) F dX0_displacedByLatest_12 (by decide) ?_
  refine nz_istore (lv' := [(4, .int 0), (3, .int ((cr2 - 1) * 6)), (2, .int 0), (0, .ref co), (1, .ref o)]) F dX0_displacedByLatest_13 (by decide) rfl ?_
  refine nz_ls (lv' := [(0, .ref co), (1, .ref o), (2, .int 0), (3, .int ((cr2 - 1) * 6)), (4, .int 0)]) [3, 4, 2, 1, 0] rfl ?_
  obtain ⟨n1, h⟩ := h
  exact t_X0_displacedByLatest_15 F co ca0 ca1 o a9 a10 a11 a12 a13 a14 a15 a16 cr2 cf0 cf1 r0 r1 r2 r3 r4 r5 r6 r7 r8 f9 f10 f11 f12 f13 f14 f15 f16 ((cr2 - 1) * 6) hQ n1 0 0 h
theorem k_X0_displacedByLatest {y : nz_Y} {g : nz_G} {k n : Nat} {ws : va_W} {pc : Nat} {ls : List (Nat × Value)} {st rest : List Value} {av : Array Value} {isC : List Nat} {K : Int32 → Prop} (co : Nat) (ca0 : Nat) (ca1 : Nat) (o : Nat) (a9 : Nat) (a10 : Nat) (a11 : Nat) (a12 : Nat) (a13 : Nat) (a14 : Nat) (a15 : Nat) (a16 : Nat) (cr2 : Int32) (cf0 : Nat → Int32) (cf1 : Nat → Int32) (r0 : Int32) (r1 : Int32) (r2 : Int32) (r3 : Int32) (r4 : Int32) (r5 : Int32) (r6 : Int32) (r7 : Int32) (r8 : Int32) (f9 : Nat → Int32) (f10 : Nat → Int32) (f11 : Nat → Int32) (f12 : Nat → Int32) (f13 : Nat → Int32) (f14 : Nat → Int32) (f15 : Nat → Int32) (f16 : Nat → Int32) (run : nz_M (yz_l y) yX0_displacedByLatest wsX0_displacedByLatest rm_X0_displacedByLatest g [.ref co, .ref o] [(co, .inr (0, [.ref ca0, .ref ca1, .int cr2])), (ca0, .inl (nz_cI g, 144, .inl cf0)), (ca1, .inl (nz_cI g, 24, .inl cf1)), (o, .inr (5, [.int r0, .int r1, .int r2, .int r3, .int r4, .int r5, .int r6, .int r7, .int r8, .ref a9, .ref a10, .ref a11, .ref a12, .ref a13, .ref a14, .ref a15, .ref a16])), (a9, .inl (nz_cI g, 6, .inl f9)), (a10, .inl (nz_cI g, 6, .inl f10)), (a11, .inl (nz_cI g, 6, .inl f11)), (a12, .inl (nz_cI g, 5, .inl f12)), (a13, .inl (nz_cI g, 5, .inl f13)), (a14, .inl (nz_cI g, 5, .inl f14)), (a15, .inl (nz_cI g, 5, .inl f15)), (a16, .inl (nz_cI g, 48, .inl f16))] (nz_Qi g [(co, .inr (0, [.ref ca0, .ref ca1, .int cr2])), (ca0, .inl (nz_cI g, 144, .inl cf0)), (ca1, .inl (nz_cI g, 24, .inl cf1)), (o, .inr (5, [.int r0, .int r1, .int r2, .int r3, .int r4, .int r5, .int r6, .int r7, .int r8, .ref a9, .ref a10, .ref a11, .ref a12, .ref a13, .ref a14, .ref a15, .ref a16])), (a9, .inl (nz_cI g, 6, .inl f9)), (a10, .inl (nz_cI g, 6, .inl f10)), (a11, .inl (nz_cI g, 6, .inl f11)), (a12, .inl (nz_cI g, 5, .inl f12)), (a13, .inl (nz_cI g, 5, .inl f13)), (a14, .inl (nz_cI g, 5, .inl f14)), (a15, .inl (nz_cI g, 5, .inl f15)), (a16, .inl (nz_cI g, 48, .inl f16))] (fun r (u : Unit) => K r) (fun u => [(co, .inr (0, [.ref ca0, .ref ca1, .int cr2])), (ca0, .inl (nz_cI g, 144, .inl cf0)), (ca1, .inl (nz_cI g, 24, .inl cf1)), (o, .inr (5, [.int r0, .int r1, .int r2, .int r3, .int r4, .int r5, .int r6, .int r7, .int r8, .ref a9, .ref a10, .ref a11, .ref a12, .ref a13, .ref a14, .ref a15, .ref a16])), (a9, .inl (nz_cI g, 6, .inl f9)), (a10, .inl (nz_cI g, 6, .inl f10)), (a11, .inl (nz_cI g, 6, .inl f11)), (a12, .inl (nz_cI g, 5, .inl f12)), (a13, .inl (nz_cI g, 5, .inl f13)), (a14, .inl (nz_cI g, 5, .inl f14)), (a15, .inl (nz_cI g, 5, .inl f15)), (a16, .inl (nz_cI g, 48, .inl f16))])) → nz_C y g k n ws pc ls st rest [(co, .inr (0, [.ref ca0, .ref ca1, .int cr2])), (ca0, .inl (nz_cI g, 144, .inl cf0)), (ca1, .inl (nz_cI g, 24, .inl cf1)), (o, .inr (5, [.int r0, .int r1, .int r2, .int r3, .int r4, .int r5, .int r6, .int r7, .int r8, .ref a9, .ref a10, .ref a11, .ref a12, .ref a13, .ref a14, .ref a15, .ref a16])), (a9, .inl (nz_cI g, 6, .inl f9)), (a10, .inl (nz_cI g, 6, .inl f10)), (a11, .inl (nz_cI g, 6, .inl f11)), (a12, .inl (nz_cI g, 5, .inl f12)), (a13, .inl (nz_cI g, 5, .inl f13)), (a14, .inl (nz_cI g, 5, .inl f14)), (a15, .inl (nz_cI g, 5, .inl f15)), (a16, .inl (nz_cI g, 48, .inl f16))] (nz_Qi g [(co, .inr (0, [.ref ca0, .ref ca1, .int cr2])), (ca0, .inl (nz_cI g, 144, .inl cf0)), (ca1, .inl (nz_cI g, 24, .inl cf1)), (o, .inr (5, [.int r0, .int r1, .int r2, .int r3, .int r4, .int r5, .int r6, .int r7, .int r8, .ref a9, .ref a10, .ref a11, .ref a12, .ref a13, .ref a14, .ref a15, .ref a16])), (a9, .inl (nz_cI g, 6, .inl f9)), (a10, .inl (nz_cI g, 6, .inl f10)), (a11, .inl (nz_cI g, 6, .inl f11)), (a12, .inl (nz_cI g, 5, .inl f12)), (a13, .inl (nz_cI g, 5, .inl f13)), (a14, .inl (nz_cI g, 5, .inl f14)), (a15, .inl (nz_cI g, 5, .inl f15)), (a16, .inl (nz_cI g, 48, .inl f16))] (fun r (u : Unit) => K r) (fun u => [(co, .inr (0, [.ref ca0, .ref ca1, .int cr2])), (ca0, .inl (nz_cI g, 144, .inl cf0)), (ca1, .inl (nz_cI g, 24, .inl cf1)), (o, .inr (5, [.int r0, .int r1, .int r2, .int r3, .int r4, .int r5, .int r6, .int r7, .int r8, .ref a9, .ref a10, .ref a11, .ref a12, .ref a13, .ref a14, .ref a15, .ref a16])), (a9, .inl (nz_cI g, 6, .inl f9)), (a10, .inl (nz_cI g, 6, .inl f10)), (a11, .inl (nz_cI g, 6, .inl f11)), (a12, .inl (nz_cI g, 5, .inl f12)), (a13, .inl (nz_cI g, 5, .inl f13)), (a14, .inl (nz_cI g, 5, .inl f14)), (a15, .inl (nz_cI g, 5, .inl f15)), (a16, .inl (nz_cI g, 48, .inl f16))])) av isC) (h : wp_X0_displacedByLatest cr2 cf0 r6 f10 K) (ws' : va_W) (hm : nz_mrg ws isC [(co, .inr (0, [.ref ca0, .ref ca1, .int cr2])), (ca0, .inl (nz_cI g, 144, .inl cf0)), (ca1, .inl (nz_cI g, 24, .inl cf1)), (o, .inr (5, [.int r0, .int r1, .int r2, .int r3, .int r4, .int r5, .int r6, .int r7, .int r8, .ref a9, .ref a10, .ref a11, .ref a12, .ref a13, .ref a14, .ref a15, .ref a16])), (a9, .inl (nz_cI g, 6, .inl f9)), (a10, .inl (nz_cI g, 6, .inl f10)), (a11, .inl (nz_cI g, 6, .inl f11)), (a12, .inl (nz_cI g, 5, .inl f12)), (a13, .inl (nz_cI g, 5, .inl f13)), (a14, .inl (nz_cI g, 5, .inl f14)), (a15, .inl (nz_cI g, 5, .inl f15)), (a16, .inl (nz_cI g, 48, .inl f16))] = ws' ) (kk : ∀ (r : Int32), K r → nz_V y g k n ws' (pc + 3) ls (.int r :: rest)) : nz_V y g k n ws pc ls st :=
  nz_ci (ws' := fun _ => ws') (run (c_X0_displacedByLatest (yz_l y) g co ca0 ca1 o a9 a10 a11 a12 a13 a14 a15 a16 cr2 cf0 cf1 r0 r1 r2 r3 r4 r5 r6 r7 r8 f9 f10 f11 f12 f13 f14 f15 f16 K h)) (fun _ => rfl) (fun _ => hm) (fun r u h => kk r h)
theorem dX0_takeBack_0 : decode cX0_takeBack 0 = .ok (.aload_n 0, 1) := by decide +kernel
theorem dX0_takeBack_1 : decode cX0_takeBack 1 = .ok (.dup, 1) := by decide +kernel
theorem dX0_takeBack_2 : decode cX0_takeBack 2 = .ok (.getfield 18, 3) := by decide +kernel
theorem dX0_takeBack_5 : decode cX0_takeBack 5 = .ok (.iconst 1, 1) := by decide +kernel
theorem dX0_takeBack_6 : decode cX0_takeBack 6 = .ok (.isub, 1) := by decide +kernel
theorem dX0_takeBack_7 : decode cX0_takeBack 7 = .ok (.putfield 18, 3) := by decide +kernel
theorem dX0_takeBack_10 : decode cX0_takeBack 10 = .ok (.aload_n 0, 1) := by decide +kernel
theorem dX0_takeBack_11 : decode cX0_takeBack 11 = .ok (.getfield 11, 3) := by decide +kernel
theorem dX0_takeBack_14 : decode cX0_takeBack 14 = .ok (.aload_n 0, 1) := by decide +kernel
theorem dX0_takeBack_15 : decode cX0_takeBack 15 = .ok (.getfield 18, 3) := by decide +kernel
theorem dX0_takeBack_18 : decode cX0_takeBack 18 = .ok (.bipush 6, 2) := by decide +kernel
theorem dX0_takeBack_20 : decode cX0_takeBack 20 = .ok (.imul, 1) := by decide +kernel
theorem dX0_takeBack_21 : decode cX0_takeBack 21 = .ok (.aload_n 1, 1) := by decide +kernel
theorem dX0_takeBack_22 : decode cX0_takeBack 22 = .ok (.getfield 28, 3) := by decide +kernel
theorem dX0_takeBack_25 : decode cX0_takeBack 25 = .ok (.iconst 0, 1) := by decide +kernel
theorem dX0_takeBack_26 : decode cX0_takeBack 26 = .ok (.bipush 6, 2) := by decide +kernel
theorem dX0_takeBack_28 : decode cX0_takeBack 28 = .ok (.invokestatic 22, 3) := by decide +kernel
theorem dX0_takeBack_31 : decode cX0_takeBack 31 = .ok (.aload_n 1, 1) := by decide +kernel
theorem dX0_takeBack_32 : decode cX0_takeBack 32 = .ok (.aload_n 0, 1) := by decide +kernel
theorem dX0_takeBack_33 : decode cX0_takeBack 33 = .ok (.getfield 15, 3) := by decide +kernel
theorem dX0_takeBack_36 : decode cX0_takeBack 36 = .ok (.aload_n 0, 1) := by decide +kernel
theorem dX0_takeBack_37 : decode cX0_takeBack 37 = .ok (.getfield 18, 3) := by decide +kernel
theorem dX0_takeBack_40 : decode cX0_takeBack 40 = .ok (.iaload, 1) := by decide +kernel
theorem dX0_takeBack_41 : decode cX0_takeBack 41 = .ok (.putfield 31, 3) := by decide +kernel
theorem dX0_takeBack_44 : decode cX0_takeBack 44 = .ok (.return_, 1) := by decide +kernel
/-! X0_takeBack -/
abbrev rm_X0_takeBack : Room := { frames := 1, cells := 0, slots := 0, locals := 26 }
theorem iw_X0_takeBack_0 : ∀ w ∈ wsX00, w ∈ wsX0_takeBack := fun _ h => List.mem_cons_of_mem _ (List.mem_append_left _ (List.mem_append_right _ h))
theorem iw_X0_takeBack_5 : ∀ w ∈ wsX50, w ∈ wsX0_takeBack := fun _ h => List.mem_cons_of_mem _ (List.mem_append_right _ h)
theorem fl_X0_takeBack_18 : Cond.fieldLink RX0 18 "NightStones$Acts" "kept" "I" ∈ wsX0_takeBack := List.mem_of_getElem? (i := 1) rfl
theorem fl_X0_takeBack_11 : Cond.fieldLink RX0 11 "NightStones$Acts" "places" "[I" ∈ wsX0_takeBack := List.mem_of_getElem? (i := 2) rfl
theorem fn_X0_takeBack_28 : Cond.fieldLinkNest RX0 28 "NightStones$Road" "at" "[I" RX7 ∈ nz_nest := List.mem_of_getElem? (i := 32) rfl
theorem wd_X0_takeBack_cp0_22 : Cond.methodLink RX0 22 arraycopyName ∈ wsX0_takeBack := List.mem_of_getElem? (i := 3) rfl
theorem wd_X0_takeBack_cp1 : Cond.native arraycopyName ∈ wsX0_takeBack := List.mem_of_getElem? (i := 4) rfl
theorem wd_X0_takeBack_cp2 : Cond.static arraycopyName ∈ wsX0_takeBack := List.mem_of_getElem? (i := 5) rfl
theorem wd_X0_takeBack_cp3 : Cond.initialized "java/lang/System" ∈ wsX0_takeBack := List.mem_of_getElem? (i := 6) rfl
theorem fl_X0_takeBack_15 : Cond.fieldLink RX0 15 "NightStones$Acts" "nights" "[I" ∈ wsX0_takeBack := List.mem_of_getElem? (i := 7) rfl
theorem fn_X0_takeBack_31 : Cond.fieldLinkNest RX0 31 "NightStones$Road" "nights" "I" RX7 ∈ nz_nest := List.mem_of_getElem? (i := 14) rfl
def wp_X0_takeBack (cr2 : Int32) (cf0 : Nat → Int32) (cf1 : Nat → Int32) (f10 : Nat → Int32) (K : Int32 → Int32 → (Nat → Int32) → Prop) : Prop := ((¬ ((cr2 - 1) * 6) < 0 ∧ ¬ (0 : Int32) < 0 ∧ ¬ (6 : Int32) < 0 ∧ ((cr2 - 1) * 6).toNatClampNeg + (6 : Int32).toNatClampNeg ≤ 144 ∧ (0 : Int32).toNatClampNeg + (6 : Int32).toNatClampNeg ≤ 6) ∧ (vp_in (cr2 - 1) 24 ∧ K (cr2 - 1) (cf1 (cr2 - 1).toNatClampNeg) (va_cpy cf0 f10 ((cr2 - 1) * 6).toNatClampNeg (0 : Int32).toNatClampNeg (6 : Int32).toNatClampNeg)))
set_option maxHeartbeats 4000000 in
set_option maxRecDepth 100000 in
theorem c_X0_takeBack (l : Launch) (g : nz_G) (co : Nat) (ca0 : Nat) (ca1 : Nat) (o : Nat) (a9 : Nat) (a10 : Nat) (a11 : Nat) (a12 : Nat) (a13 : Nat) (a14 : Nat) (a15 : Nat) (a16 : Nat) (cr2 : Int32) (cf0 : Nat → Int32) (cf1 : Nat → Int32) (r0 : Int32) (r1 : Int32) (r2 : Int32) (r3 : Int32) (r4 : Int32) (r5 : Int32) (r6 : Int32) (r7 : Int32) (r8 : Int32) (f9 : Nat → Int32) (f10 : Nat → Int32) (f11 : Nat → Int32) (f12 : Nat → Int32) (f13 : Nat → Int32) (f14 : Nat → Int32) (f15 : Nat → Int32) (f16 : Nat → Int32) (K : Int32 → Int32 → (Nat → Int32) → Prop) (h : wp_X0_takeBack cr2 cf0 cf1 f10 K) : nz_M l yX0_takeBack wsX0_takeBack rm_X0_takeBack g [.ref co, .ref o] [(co, .inr (0, [.ref ca0, .ref ca1, .int cr2])), (ca0, .inl (nz_cI g, 144, .inl cf0)), (ca1, .inl (nz_cI g, 24, .inl cf1)), (o, .inr (5, [.int r0, .int r1, .int r2, .int r3, .int r4, .int r5, .int r6, .int r7, .int r8, .ref a9, .ref a10, .ref a11, .ref a12, .ref a13, .ref a14, .ref a15, .ref a16])), (a9, .inl (nz_cI g, 6, .inl f9)), (a10, .inl (nz_cI g, 6, .inl f10)), (a11, .inl (nz_cI g, 6, .inl f11)), (a12, .inl (nz_cI g, 5, .inl f12)), (a13, .inl (nz_cI g, 5, .inl f13)), (a14, .inl (nz_cI g, 5, .inl f14)), (a15, .inl (nz_cI g, 5, .inl f15)), (a16, .inl (nz_cI g, 48, .inl f16))] (nz_Qv g [(co, .inr (0, [.ref ca0, .ref ca1, .int cr2])), (ca0, .inl (nz_cI g, 144, .inl cf0)), (ca1, .inl (nz_cI g, 24, .inl cf1)), (o, .inr (5, [.int r0, .int r1, .int r2, .int r3, .int r4, .int r5, .int r6, .int r7, .int r8, .ref a9, .ref a10, .ref a11, .ref a12, .ref a13, .ref a14, .ref a15, .ref a16])), (a9, .inl (nz_cI g, 6, .inl f9)), (a10, .inl (nz_cI g, 6, .inl f10)), (a11, .inl (nz_cI g, 6, .inl f11)), (a12, .inl (nz_cI g, 5, .inl f12)), (a13, .inl (nz_cI g, 5, .inl f13)), (a14, .inl (nz_cI g, 5, .inl f14)), (a15, .inl (nz_cI g, 5, .inl f15)), (a16, .inl (nz_cI g, 48, .inl f16))] (fun (u : Int32 × Int32 × (Nat → Int32)) => K u.1 u.2.1 u.2.2) (fun u => [(co, .inr (0, [.ref ca0, .ref ca1, .int u.1])), (ca0, .inl (nz_cI g, 144, .inl cf0)), (ca1, .inl (nz_cI g, 24, .inl cf1)), (o, .inr (5, [.int r0, .int r1, .int r2, .int r3, .int r4, .int u.2.1, .int r6, .int r7, .int r8, .ref a9, .ref a10, .ref a11, .ref a12, .ref a13, .ref a14, .ref a15, .ref a16])), (a9, .inl (nz_cI g, 6, .inl f9)), (a10, .inl (nz_cI g, 6, .inl u.2.2)), (a11, .inl (nz_cI g, 6, .inl f11)), (a12, .inl (nz_cI g, 5, .inl f12)), (a13, .inl (nz_cI g, 5, .inl f13)), (a14, .inl (nz_cI g, 5, .inl f14)), (a15, .inl (nz_cI g, 5, .inl f15)), (a16, .inl (nz_cI g, 48, .inl f16))])) := by
  refine nz_M.of (bytes := cX0_takeBack) (nL := 2) (ret := none) (own := RX0) (by decide) rfl rfl ⟨rfl, rfl⟩ rfl ?_
  intro y F hl hQ
  obtain ⟨sz, hQ⟩ := hQ
  refine nz_ent (lv' := [(0, .ref co), (1, .ref o)]) rfl ?_
  unfold wp_X0_takeBack at h
  refine nz_aload_n F dX0_takeBack_0 rfl 0 rfl ?_
  refine nz_dup F dX0_takeBack_1 rfl ?_
  refine nz_get F iw_X0_takeBack_0 0 rfl rfl 2 (by decide) rfl fl_X0_takeBack_18 rfl dX0_takeBack_2 ?_
  refine nz_iconst (v := 1) F dX0_takeBack_5 (by decide) ?_
  refine nz_isub F dX0_takeBack_6 ?_
  refine nz_put (ws' := [(co, .inr (0, [.ref ca0, .ref ca1, .int (cr2 - 1)])), (ca0, .inl (nz_cI g, 144, .inl cf0)), (ca1, .inl (nz_cI g, 24, .inl cf1)), (o, .inr (5, [.int r0, .int r1, .int r2, .int r3, .int r4, .int r5, .int r6, .int r7, .int r8, .ref a9, .ref a10, .ref a11, .ref a12, .ref a13, .ref a14, .ref a15, .ref a16])), (a9, .inl (nz_cI g, 6, .inl f9)), (a10, .inl (nz_cI g, 6, .inl f10)), (a11, .inl (nz_cI g, 6, .inl f11)), (a12, .inl (nz_cI g, 5, .inl f12)), (a13, .inl (nz_cI g, 5, .inl f13)), (a14, .inl (nz_cI g, 5, .inl f14)), (a15, .inl (nz_cI g, 5, .inl f15)), (a16, .inl (nz_cI g, 48, .inl f16))]) F iw_X0_takeBack_0 tyX0 tyX0_ok nmX0 0 rfl rfl 2 (by decide) rfl fl_X0_takeBack_18 rfl rfl (Nat.le_of_ble_eq_true rfl) dX0_takeBack_7 rfl ?_
  refine nz_aload_n F dX0_takeBack_10 rfl 0 rfl ?_
  refine nz_get F iw_X0_takeBack_0 0 rfl rfl 0 (by decide) rfl fl_X0_takeBack_11 rfl dX0_takeBack_11 ?_
  refine nz_aload_n F dX0_takeBack_14 rfl 0 rfl ?_
  refine nz_get F iw_X0_takeBack_0 0 rfl rfl 2 (by decide) rfl fl_X0_takeBack_18 rfl dX0_takeBack_15 ?_
  refine nz_bipush (v := 6) F dX0_takeBack_18 (by decide) ?_
  refine nz_imul F dX0_takeBack_20 ?_
  refine nz_aload_n F dX0_takeBack_21 rfl 1 rfl ?_
  refine nz_getN F iw_X0_takeBack_5 3 rfl rfl 10 (by decide) rfl fn_X0_takeBack_28 rfl dX0_takeBack_22 ?_
  refine nz_iconst (v := 0) F dX0_takeBack_25 (by decide) ?_
  refine nz_bipush (v := 6) F dX0_takeBack_26 (by decide) ?_
  obtain ⟨⟨k11, k12, k13, k14, k15⟩, h⟩ := h
  refine nz_copy (ws' := [(co, .inr (0, [.ref ca0, .ref ca1, .int (cr2 - 1)])), (ca0, .inl (nz_cI g, 144, .inl cf0)), (ca1, .inl (nz_cI g, 24, .inl cf1)), (o, .inr (5, [.int r0, .int r1, .int r2, .int r3, .int r4, .int r5, .int r6, .int r7, .int r8, .ref a9, .ref a10, .ref a11, .ref a12, .ref a13, .ref a14, .ref a15, .ref a16])), (a9, .inl (nz_cI g, 6, .inl f9)), (a10, .inl (nz_cI g, 6, .inl (va_cpy cf0 f10 ((cr2 - 1) * 6).toNatClampNeg (0 : Int32).toNatClampNeg (6 : Int32).toNatClampNeg))), (a11, .inl (nz_cI g, 6, .inl f11)), (a12, .inl (nz_cI g, 5, .inl f12)), (a13, .inl (nz_cI g, 5, .inl f13)), (a14, .inl (nz_cI g, 5, .inl f14)), (a15, .inl (nz_cI g, 5, .inl f15)), (a16, .inl (nz_cI g, 48, .inl f16))]) F wd_X0_takeBack_cp0_22 wd_X0_takeBack_cp1 wd_X0_takeBack_cp2 wd_X0_takeBack_cp3 1 5 rfl rfl k11 k12 k13 k14 k15 rfl (Nat.le_of_ble_eq_true rfl) dX0_takeBack_28 rfl ?_
  refine nz_aload_n F dX0_takeBack_31 rfl 1 rfl ?_
  refine nz_aload_n F dX0_takeBack_32 rfl 0 rfl ?_
  refine nz_get F iw_X0_takeBack_0 0 rfl rfl 1 (by decide) rfl fl_X0_takeBack_15 rfl dX0_takeBack_33 ?_
  refine nz_aload_n F dX0_takeBack_36 rfl 0 rfl ?_
  refine nz_get F iw_X0_takeBack_0 0 rfl rfl 2 (by decide) rfl fl_X0_takeBack_18 rfl dX0_takeBack_37 ?_
  obtain ⟨i2, h⟩ := h
  refine nz_iald F 2 rfl i2 dX0_takeBack_40 ?_
  refine nz_putN (ws' := [(co, .inr (0, [.ref ca0, .ref ca1, .int (cr2 - 1)])), (ca0, .inl (nz_cI g, 144, .inl cf0)), (ca1, .inl (nz_cI g, 24, .inl cf1)), (o, .inr (5, [.int r0, .int r1, .int r2, .int r3, .int r4, .int (cf1 (cr2 - 1).toNatClampNeg), .int r6, .int r7, .int r8, .ref a9, .ref a10, .ref a11, .ref a12, .ref a13, .ref a14, .ref a15, .ref a16])), (a9, .inl (nz_cI g, 6, .inl f9)), (a10, .inl (nz_cI g, 6, .inl (va_cpy cf0 f10 ((cr2 - 1) * 6).toNatClampNeg (0 : Int32).toNatClampNeg (6 : Int32).toNatClampNeg))), (a11, .inl (nz_cI g, 6, .inl f11)), (a12, .inl (nz_cI g, 5, .inl f12)), (a13, .inl (nz_cI g, 5, .inl f13)), (a14, .inl (nz_cI g, 5, .inl f14)), (a15, .inl (nz_cI g, 5, .inl f15)), (a16, .inl (nz_cI g, 48, .inl f16))]) F iw_X0_takeBack_5 tyX5 tyX5_ok nmX5 3 rfl rfl 5 (by decide) rfl fn_X0_takeBack_31 rfl rfl (Nat.le_of_ble_eq_true rfl) dX0_takeBack_41 rfl ?_
  exact nz_vret F hQ ((cr2 - 1), (cf1 (cr2 - 1).toNatClampNeg), (va_cpy cf0 f10 ((cr2 - 1) * 6).toNatClampNeg (0 : Int32).toNatClampNeg (6 : Int32).toNatClampNeg)) h rfl dX0_takeBack_44
theorem k_X0_takeBack {y : nz_Y} {g : nz_G} {k n : Nat} {ws : va_W} {pc : Nat} {ls : List (Nat × Value)} {st rest : List Value} {av : Array Value} {isC : List Nat} {K : Int32 → Int32 → (Nat → Int32) → Prop} (co : Nat) (ca0 : Nat) (ca1 : Nat) (o : Nat) (a9 : Nat) (a10 : Nat) (a11 : Nat) (a12 : Nat) (a13 : Nat) (a14 : Nat) (a15 : Nat) (a16 : Nat) (cr2 : Int32) (cf0 : Nat → Int32) (cf1 : Nat → Int32) (r0 : Int32) (r1 : Int32) (r2 : Int32) (r3 : Int32) (r4 : Int32) (r5 : Int32) (r6 : Int32) (r7 : Int32) (r8 : Int32) (f9 : Nat → Int32) (f10 : Nat → Int32) (f11 : Nat → Int32) (f12 : Nat → Int32) (f13 : Nat → Int32) (f14 : Nat → Int32) (f15 : Nat → Int32) (f16 : Nat → Int32) (run : nz_M (yz_l y) yX0_takeBack wsX0_takeBack rm_X0_takeBack g [.ref co, .ref o] [(co, .inr (0, [.ref ca0, .ref ca1, .int cr2])), (ca0, .inl (nz_cI g, 144, .inl cf0)), (ca1, .inl (nz_cI g, 24, .inl cf1)), (o, .inr (5, [.int r0, .int r1, .int r2, .int r3, .int r4, .int r5, .int r6, .int r7, .int r8, .ref a9, .ref a10, .ref a11, .ref a12, .ref a13, .ref a14, .ref a15, .ref a16])), (a9, .inl (nz_cI g, 6, .inl f9)), (a10, .inl (nz_cI g, 6, .inl f10)), (a11, .inl (nz_cI g, 6, .inl f11)), (a12, .inl (nz_cI g, 5, .inl f12)), (a13, .inl (nz_cI g, 5, .inl f13)), (a14, .inl (nz_cI g, 5, .inl f14)), (a15, .inl (nz_cI g, 5, .inl f15)), (a16, .inl (nz_cI g, 48, .inl f16))] (nz_Qv g [(co, .inr (0, [.ref ca0, .ref ca1, .int cr2])), (ca0, .inl (nz_cI g, 144, .inl cf0)), (ca1, .inl (nz_cI g, 24, .inl cf1)), (o, .inr (5, [.int r0, .int r1, .int r2, .int r3, .int r4, .int r5, .int r6, .int r7, .int r8, .ref a9, .ref a10, .ref a11, .ref a12, .ref a13, .ref a14, .ref a15, .ref a16])), (a9, .inl (nz_cI g, 6, .inl f9)), (a10, .inl (nz_cI g, 6, .inl f10)), (a11, .inl (nz_cI g, 6, .inl f11)), (a12, .inl (nz_cI g, 5, .inl f12)), (a13, .inl (nz_cI g, 5, .inl f13)), (a14, .inl (nz_cI g, 5, .inl f14)), (a15, .inl (nz_cI g, 5, .inl f15)), (a16, .inl (nz_cI g, 48, .inl f16))] (fun (u : Int32 × Int32 × (Nat → Int32)) => K u.1 u.2.1 u.2.2) (fun u => [(co, .inr (0, [.ref ca0, .ref ca1, .int u.1])), (ca0, .inl (nz_cI g, 144, .inl cf0)), (ca1, .inl (nz_cI g, 24, .inl cf1)), (o, .inr (5, [.int r0, .int r1, .int r2, .int r3, .int r4, .int u.2.1, .int r6, .int r7, .int r8, .ref a9, .ref a10, .ref a11, .ref a12, .ref a13, .ref a14, .ref a15, .ref a16])), (a9, .inl (nz_cI g, 6, .inl f9)), (a10, .inl (nz_cI g, 6, .inl u.2.2)), (a11, .inl (nz_cI g, 6, .inl f11)), (a12, .inl (nz_cI g, 5, .inl f12)), (a13, .inl (nz_cI g, 5, .inl f13)), (a14, .inl (nz_cI g, 5, .inl f14)), (a15, .inl (nz_cI g, 5, .inl f15)), (a16, .inl (nz_cI g, 48, .inl f16))])) → nz_C y g k n ws pc ls st rest [(co, .inr (0, [.ref ca0, .ref ca1, .int cr2])), (ca0, .inl (nz_cI g, 144, .inl cf0)), (ca1, .inl (nz_cI g, 24, .inl cf1)), (o, .inr (5, [.int r0, .int r1, .int r2, .int r3, .int r4, .int r5, .int r6, .int r7, .int r8, .ref a9, .ref a10, .ref a11, .ref a12, .ref a13, .ref a14, .ref a15, .ref a16])), (a9, .inl (nz_cI g, 6, .inl f9)), (a10, .inl (nz_cI g, 6, .inl f10)), (a11, .inl (nz_cI g, 6, .inl f11)), (a12, .inl (nz_cI g, 5, .inl f12)), (a13, .inl (nz_cI g, 5, .inl f13)), (a14, .inl (nz_cI g, 5, .inl f14)), (a15, .inl (nz_cI g, 5, .inl f15)), (a16, .inl (nz_cI g, 48, .inl f16))] (nz_Qv g [(co, .inr (0, [.ref ca0, .ref ca1, .int cr2])), (ca0, .inl (nz_cI g, 144, .inl cf0)), (ca1, .inl (nz_cI g, 24, .inl cf1)), (o, .inr (5, [.int r0, .int r1, .int r2, .int r3, .int r4, .int r5, .int r6, .int r7, .int r8, .ref a9, .ref a10, .ref a11, .ref a12, .ref a13, .ref a14, .ref a15, .ref a16])), (a9, .inl (nz_cI g, 6, .inl f9)), (a10, .inl (nz_cI g, 6, .inl f10)), (a11, .inl (nz_cI g, 6, .inl f11)), (a12, .inl (nz_cI g, 5, .inl f12)), (a13, .inl (nz_cI g, 5, .inl f13)), (a14, .inl (nz_cI g, 5, .inl f14)), (a15, .inl (nz_cI g, 5, .inl f15)), (a16, .inl (nz_cI g, 48, .inl f16))] (fun (u : Int32 × Int32 × (Nat → Int32)) => K u.1 u.2.1 u.2.2) (fun u => [(co, .inr (0, [.ref ca0, .ref ca1, .int u.1])), (ca0, .inl (nz_cI g, 144, .inl cf0)), (ca1, .inl (nz_cI g, 24, .inl cf1)), (o, .inr (5, [.int r0, .int r1, .int r2, .int r3, .int r4, .int u.2.1, .int r6, .int r7, .int r8, .ref a9, .ref a10, .ref a11, .ref a12, .ref a13, .ref a14, .ref a15, .ref a16])), (a9, .inl (nz_cI g, 6, .inl f9)), (a10, .inl (nz_cI g, 6, .inl u.2.2)), (a11, .inl (nz_cI g, 6, .inl f11)), (a12, .inl (nz_cI g, 5, .inl f12)), (a13, .inl (nz_cI g, 5, .inl f13)), (a14, .inl (nz_cI g, 5, .inl f14)), (a15, .inl (nz_cI g, 5, .inl f15)), (a16, .inl (nz_cI g, 48, .inl f16))])) av isC) (h : wp_X0_takeBack cr2 cf0 cf1 f10 K) (ws' : Int32 → Int32 → (Nat → Int32) → va_W) (hm : ∀ (m0 : Int32) (m1 : Int32) (m2 : (Nat → Int32)), nz_mrg ws isC [(co, .inr (0, [.ref ca0, .ref ca1, .int m0])), (ca0, .inl (nz_cI g, 144, .inl cf0)), (ca1, .inl (nz_cI g, 24, .inl cf1)), (o, .inr (5, [.int r0, .int r1, .int r2, .int r3, .int r4, .int m1, .int r6, .int r7, .int r8, .ref a9, .ref a10, .ref a11, .ref a12, .ref a13, .ref a14, .ref a15, .ref a16])), (a9, .inl (nz_cI g, 6, .inl f9)), (a10, .inl (nz_cI g, 6, .inl m2)), (a11, .inl (nz_cI g, 6, .inl f11)), (a12, .inl (nz_cI g, 5, .inl f12)), (a13, .inl (nz_cI g, 5, .inl f13)), (a14, .inl (nz_cI g, 5, .inl f14)), (a15, .inl (nz_cI g, 5, .inl f15)), (a16, .inl (nz_cI g, 48, .inl f16))] = ws' m0 m1 m2) (kk : ∀ (m0 : Int32) (m1 : Int32) (m2 : (Nat → Int32)), K m0 m1 m2 → nz_V y g k n (ws' m0 m1 m2) (pc + 3) ls (rest)) : nz_V y g k n ws pc ls st :=
  nz_cv (ws' := fun u => ws' u.1 u.2.1 u.2.2) (run (c_X0_takeBack (yz_l y) g co ca0 ca1 o a9 a10 a11 a12 a13 a14 a15 a16 cr2 cf0 cf1 r0 r1 r2 r3 r4 r5 r6 r7 r8 f9 f10 f11 f12 f13 f14 f15 f16 K h)) (fun _ => rfl) (fun u => hm u.1 u.2.1 u.2.2) (fun u h => kk u.1 u.2.1 u.2.2 h)
theorem dX3_bind_0 : decode cX3_bind 0 = .ok (.aload_n 0, 1) := by decide +kernel
theorem dX3_bind_1 : decode cX3_bind 1 = .ok (.getfield 13, 3) := by decide +kernel
theorem dX3_bind_4 : decode cX3_bind 4 = .ok (.iload_n 1, 1) := by decide +kernel
theorem dX3_bind_5 : decode cX3_bind 5 = .ok (.bipush 6, 2) := by decide +kernel
theorem dX3_bind_7 : decode cX3_bind 7 = .ok (.imul, 1) := by decide +kernel
theorem dX3_bind_8 : decode cX3_bind 8 = .ok (.iload_n 2, 1) := by decide +kernel
theorem dX3_bind_9 : decode cX3_bind 9 = .ok (.iadd, 1) := by decide +kernel
theorem dX3_bind_10 : decode cX3_bind 10 = .ok (.aload_n 0, 1) := by decide +kernel
theorem dX3_bind_11 : decode cX3_bind 11 = .ok (.getfield 13, 3) := by decide +kernel
theorem dX3_bind_14 : decode cX3_bind 14 = .ok (.iload_n 1, 1) := by decide +kernel
theorem dX3_bind_15 : decode cX3_bind 15 = .ok (.bipush 6, 2) := by decide +kernel
theorem dX3_bind_17 : decode cX3_bind 17 = .ok (.imul, 1) := by decide +kernel
theorem dX3_bind_18 : decode cX3_bind 18 = .ok (.iload_n 2, 1) := by decide +kernel
theorem dX3_bind_19 : decode cX3_bind 19 = .ok (.iadd, 1) := by decide +kernel
theorem dX3_bind_20 : decode cX3_bind 20 = .ok (.iaload, 1) := by decide +kernel
theorem dX3_bind_21 : decode cX3_bind 21 = .ok (.iload_n 3, 1) := by decide +kernel
theorem dX3_bind_22 : decode cX3_bind 22 = .ok (.invokestatic 45, 3) := by decide +kernel
theorem dX3_bind_25 : decode cX3_bind 25 = .ok (.iastore, 1) := by decide +kernel
theorem dX3_bind_26 : decode cX3_bind 26 = .ok (.return_, 1) := by decide +kernel
/-! X3_bind -/
abbrev rm_X3_bind : Room := { frames := 1, cells := 0, slots := 0, locals := 21 }
theorem iw_X3_bind_3 : ∀ w ∈ wsX30, w ∈ wsX3_bind := fun _ h => List.mem_cons_of_mem _ (List.mem_append_right _ h)
theorem fl_X3_bind_13 : Cond.fieldLink RX3 13 "NightStones$Lengths" "bounds" "[I" ∈ wsX3_bind := List.mem_of_getElem? (i := 1) rfl
theorem wd_X3_bind_min0 : Cond.methodLink RX3 45 Lib.Math.min.name ∈ wsX3_bind := List.mem_of_getElem? (i := 2) rfl
theorem wd_X3_bind_min1 : Cond.static Lib.Math.min.name ∈ wsX3_bind := List.mem_of_getElem? (i := 3) rfl
theorem wd_X3_bind_min2 : Cond.initialized "java/lang/Math" ∈ wsX3_bind := List.mem_of_getElem? (i := 4) rfl
theorem wd_X3_bind_min3 : Cond.code Lib.Math.min.name Lib.Math.min.code 2 (some .int) ∈ wsX3_bind := List.mem_of_getElem? (i := 5) rfl
def wp_X3_bind (ef0 : Nat → Int32) (v1 : Int32) (v2 : Int32) (v3 : Int32) (K : (Nat → Int32) → Prop) : Prop := (vp_in ((v1 * 6) + v2) 36 ∧ (∀ w2 : Int32, w2 = (if v3 < (ef0 ((v1 * 6) + v2).toNatClampNeg) then v3 else (ef0 ((v1 * 6) + v2).toNatClampNeg)) → (vp_in ((v1 * 6) + v2) 36 ∧ K (upd ef0 ((v1 * 6) + v2).toNatClampNeg w2))))
set_option maxHeartbeats 4000000 in
set_option maxRecDepth 100000 in
theorem c_X3_bind (l : Launch) (g : nz_G) (eo : Nat) (ea0 : Nat) (ef0 : Nat → Int32) (v1 : Int32) (v2 : Int32) (v3 : Int32) (K : (Nat → Int32) → Prop) (h : wp_X3_bind ef0 v1 v2 v3 K) : nz_M l yX3_bind wsX3_bind rm_X3_bind g [.ref eo, .int v1, .int v2, .int v3] [(eo, .inr (3, [.ref ea0])), (ea0, .inl (nz_cI g, 36, .inl ef0))] (nz_Qv g [(eo, .inr (3, [.ref ea0])), (ea0, .inl (nz_cI g, 36, .inl ef0))] (fun (u : (Nat → Int32)) => K u) (fun u => [(eo, .inr (3, [.ref ea0])), (ea0, .inl (nz_cI g, 36, .inl u))])) := by
  refine nz_M.of (bytes := cX3_bind) (nL := 4) (ret := none) (own := RX3) (by decide) rfl rfl ⟨rfl, rfl⟩ rfl ?_
  intro y F hl hQ
  obtain ⟨sz, hQ⟩ := hQ
  refine nz_ent (lv' := [(0, .ref eo), (1, .int v1), (2, .int v2), (3, .int v3)]) rfl ?_
  unfold wp_X3_bind at h
  refine nz_aload_n F dX3_bind_0 rfl 0 rfl ?_
  refine nz_get F iw_X3_bind_3 0 rfl rfl 0 (by decide) rfl fl_X3_bind_13 rfl dX3_bind_1 ?_
  refine nz_iload_n F dX3_bind_4 rfl 1 rfl ?_
  refine nz_bipush (v := 6) F dX3_bind_5 (by decide) ?_
  refine nz_imul F dX3_bind_7 ?_
  refine nz_iload_n F dX3_bind_8 rfl 2 rfl ?_
  refine nz_iadd F dX3_bind_9 ?_
  refine nz_aload_n F dX3_bind_10 rfl 0 rfl ?_
  refine nz_get F iw_X3_bind_3 0 rfl rfl 0 (by decide) rfl fl_X3_bind_13 rfl dX3_bind_11 ?_
  refine nz_iload_n F dX3_bind_14 rfl 1 rfl ?_
  refine nz_bipush (v := 6) F dX3_bind_15 (by decide) ?_
  refine nz_imul F dX3_bind_17 ?_
  refine nz_iload_n F dX3_bind_18 rfl 2 rfl ?_
  refine nz_iadd F dX3_bind_19 ?_
  obtain ⟨i1, h⟩ := h
  refine nz_iald F 1 rfl i1 dX3_bind_20 ?_
  refine nz_iload_n F dX3_bind_21 rfl 3 rfl ?_
  refine nz_mmin F wd_X3_bind_min0 wd_X3_bind_min1 wd_X3_bind_min2 wd_X3_bind_min3 rfl (Nat.le_of_ble_eq_true rfl) ⟨Nat.le_of_ble_eq_true rfl, Nat.le_of_ble_eq_true rfl⟩ dX3_bind_22 ?_
  refine nz_topi (fun w2 ew2 => ?_)
  have h := h w2 ew2
  obtain ⟨i3, h⟩ := h
  refine nz_iast (ws' := [(eo, .inr (3, [.ref ea0])), (ea0, .inl (nz_cI g, 36, .inl (upd ef0 ((v1 * 6) + v2).toNatClampNeg w2)))]) F 1 rfl i3 dX3_bind_25 rfl ?_
  exact nz_vret F hQ (upd ef0 ((v1 * 6) + v2).toNatClampNeg w2) h rfl dX3_bind_26
theorem k_X3_bind {y : nz_Y} {g : nz_G} {k n : Nat} {ws : va_W} {pc : Nat} {ls : List (Nat × Value)} {st rest : List Value} {av : Array Value} {isC : List Nat} {K : (Nat → Int32) → Prop} (eo : Nat) (ea0 : Nat) (ef0 : Nat → Int32) (v1 : Int32) (v2 : Int32) (v3 : Int32) (run : nz_M (yz_l y) yX3_bind wsX3_bind rm_X3_bind g [.ref eo, .int v1, .int v2, .int v3] [(eo, .inr (3, [.ref ea0])), (ea0, .inl (nz_cI g, 36, .inl ef0))] (nz_Qv g [(eo, .inr (3, [.ref ea0])), (ea0, .inl (nz_cI g, 36, .inl ef0))] (fun (u : (Nat → Int32)) => K u) (fun u => [(eo, .inr (3, [.ref ea0])), (ea0, .inl (nz_cI g, 36, .inl u))])) → nz_C y g k n ws pc ls st rest [(eo, .inr (3, [.ref ea0])), (ea0, .inl (nz_cI g, 36, .inl ef0))] (nz_Qv g [(eo, .inr (3, [.ref ea0])), (ea0, .inl (nz_cI g, 36, .inl ef0))] (fun (u : (Nat → Int32)) => K u) (fun u => [(eo, .inr (3, [.ref ea0])), (ea0, .inl (nz_cI g, 36, .inl u))])) av isC) (h : wp_X3_bind ef0 v1 v2 v3 K) (ws' : (Nat → Int32) → va_W) (hm : ∀ (m0 : (Nat → Int32)), nz_mrg ws isC [(eo, .inr (3, [.ref ea0])), (ea0, .inl (nz_cI g, 36, .inl m0))] = ws' m0) (kk : ∀ (m0 : (Nat → Int32)), K m0 → nz_V y g k n (ws' m0) (pc + 3) ls (rest)) : nz_V y g k n ws pc ls st :=
  nz_cv (ws' := fun u => ws' u) (run (c_X3_bind (yz_l y) g eo ea0 ef0 v1 v2 v3 K h)) (fun _ => rfl) (fun u => hm u) (fun u h => kk u h)
theorem dX3_least_0 : decode cX3_least 0 = .ok (.aload_n 0, 1) := by decide +kernel
theorem dX3_least_1 : decode cX3_least 1 = .ok (.getfield 13, 3) := by decide +kernel
theorem dX3_least_4 : decode cX3_least 4 = .ok (.iload_n 2, 1) := by decide +kernel
theorem dX3_least_5 : decode cX3_least 5 = .ok (.bipush 6, 2) := by decide +kernel
theorem dX3_least_7 : decode cX3_least 7 = .ok (.imul, 1) := by decide +kernel
theorem dX3_least_8 : decode cX3_least 8 = .ok (.iload_n 1, 1) := by decide +kernel
theorem dX3_least_9 : decode cX3_least 9 = .ok (.iadd, 1) := by decide +kernel
theorem dX3_least_10 : decode cX3_least 10 = .ok (.iaload, 1) := by decide +kernel
theorem dX3_least_11 : decode cX3_least 11 = .ok (.ineg, 1) := by decide +kernel
theorem dX3_least_12 : decode cX3_least 12 = .ok (.ireturn, 1) := by decide +kernel
/-! X3_least -/
abbrev rm_X3_least : Room := { frames := 0, cells := 0, slots := 0, locals := 0 }
theorem iw_X3_least_3 : ∀ w ∈ wsX30, w ∈ wsX3_least := fun _ h => List.mem_cons_of_mem _ (List.mem_append_right _ h)
theorem fl_X3_least_13 : Cond.fieldLink RX3 13 "NightStones$Lengths" "bounds" "[I" ∈ wsX3_least := List.mem_of_getElem? (i := 1) rfl
def wp_X3_least (ef0 : Nat → Int32) (v1 : Int32) (v2 : Int32) (K : Int32 → Prop) : Prop := (vp_in ((v2 * 6) + v1) 36 ∧ K (-(ef0 ((v2 * 6) + v1).toNatClampNeg)))
set_option maxHeartbeats 4000000 in
set_option maxRecDepth 100000 in
theorem c_X3_least (l : Launch) (g : nz_G) (eo : Nat) (ea0 : Nat) (ef0 : Nat → Int32) (v1 : Int32) (v2 : Int32) (K : Int32 → Prop) (h : wp_X3_least ef0 v1 v2 K) : nz_M l yX3_least wsX3_least rm_X3_least g [.ref eo, .int v1, .int v2] [(eo, .inr (3, [.ref ea0])), (ea0, .inl (nz_cI g, 36, .inl ef0))] (nz_Qi g [(eo, .inr (3, [.ref ea0])), (ea0, .inl (nz_cI g, 36, .inl ef0))] (fun r (u : Unit) => K r) (fun u => [(eo, .inr (3, [.ref ea0])), (ea0, .inl (nz_cI g, 36, .inl ef0))])) := by
  refine nz_M.of (bytes := cX3_least) (nL := 3) (ret := (some .int)) (own := RX3) (by decide) rfl rfl ⟨rfl, rfl⟩ rfl ?_
  intro y F hl hQ
  obtain ⟨sz, hQ⟩ := hQ
  refine nz_ent (lv' := [(0, .ref eo), (1, .int v1), (2, .int v2)]) rfl ?_
  unfold wp_X3_least at h
  refine nz_aload_n F dX3_least_0 rfl 0 rfl ?_
  refine nz_get F iw_X3_least_3 0 rfl rfl 0 (by decide) rfl fl_X3_least_13 rfl dX3_least_1 ?_
  refine nz_iload_n F dX3_least_4 rfl 2 rfl ?_
  refine nz_bipush (v := 6) F dX3_least_5 (by decide) ?_
  refine nz_imul F dX3_least_7 ?_
  refine nz_iload_n F dX3_least_8 rfl 1 rfl ?_
  refine nz_iadd F dX3_least_9 ?_
  obtain ⟨i1, h⟩ := h
  refine nz_iald F 1 rfl i1 dX3_least_10 ?_
  refine nz_ineg F dX3_least_11 ?_
  exact nz_iret F hQ () h rfl dX3_least_12
theorem k_X3_least {y : nz_Y} {g : nz_G} {k n : Nat} {ws : va_W} {pc : Nat} {ls : List (Nat × Value)} {st rest : List Value} {av : Array Value} {isC : List Nat} {K : Int32 → Prop} (eo : Nat) (ea0 : Nat) (ef0 : Nat → Int32) (v1 : Int32) (v2 : Int32) (run : nz_M (yz_l y) yX3_least wsX3_least rm_X3_least g [.ref eo, .int v1, .int v2] [(eo, .inr (3, [.ref ea0])), (ea0, .inl (nz_cI g, 36, .inl ef0))] (nz_Qi g [(eo, .inr (3, [.ref ea0])), (ea0, .inl (nz_cI g, 36, .inl ef0))] (fun r (u : Unit) => K r) (fun u => [(eo, .inr (3, [.ref ea0])), (ea0, .inl (nz_cI g, 36, .inl ef0))])) → nz_C y g k n ws pc ls st rest [(eo, .inr (3, [.ref ea0])), (ea0, .inl (nz_cI g, 36, .inl ef0))] (nz_Qi g [(eo, .inr (3, [.ref ea0])), (ea0, .inl (nz_cI g, 36, .inl ef0))] (fun r (u : Unit) => K r) (fun u => [(eo, .inr (3, [.ref ea0])), (ea0, .inl (nz_cI g, 36, .inl ef0))])) av isC) (h : wp_X3_least ef0 v1 v2 K) (ws' : va_W) (hm : nz_mrg ws isC [(eo, .inr (3, [.ref ea0])), (ea0, .inl (nz_cI g, 36, .inl ef0))] = ws' ) (kk : ∀ (r : Int32), K r → nz_V y g k n ws' (pc + 3) ls (.int r :: rest)) : nz_V y g k n ws pc ls st :=
  nz_ci (ws' := fun _ => ws') (run (c_X3_least (yz_l y) g eo ea0 ef0 v1 v2 K h)) (fun _ => rfl) (fun _ => hm) (fun r u h => kk r h)
theorem dX3_most_0 : decode cX3_most 0 = .ok (.aload_n 0, 1) := by decide +kernel
theorem dX3_most_1 : decode cX3_most 1 = .ok (.getfield 13, 3) := by decide +kernel
theorem dX3_most_4 : decode cX3_most 4 = .ok (.iload_n 1, 1) := by decide +kernel
theorem dX3_most_5 : decode cX3_most 5 = .ok (.bipush 6, 2) := by decide +kernel
theorem dX3_most_7 : decode cX3_most 7 = .ok (.imul, 1) := by decide +kernel
theorem dX3_most_8 : decode cX3_most 8 = .ok (.iload_n 2, 1) := by decide +kernel
theorem dX3_most_9 : decode cX3_most 9 = .ok (.iadd, 1) := by decide +kernel
theorem dX3_most_10 : decode cX3_most 10 = .ok (.iaload, 1) := by decide +kernel
theorem dX3_most_11 : decode cX3_most 11 = .ok (.ireturn, 1) := by decide +kernel
/-! X3_most -/
abbrev rm_X3_most : Room := { frames := 0, cells := 0, slots := 0, locals := 0 }
theorem iw_X3_most_3 : ∀ w ∈ wsX30, w ∈ wsX3_most := fun _ h => List.mem_cons_of_mem _ (List.mem_append_right _ h)
theorem fl_X3_most_13 : Cond.fieldLink RX3 13 "NightStones$Lengths" "bounds" "[I" ∈ wsX3_most := List.mem_of_getElem? (i := 1) rfl
def wp_X3_most (ef0 : Nat → Int32) (v1 : Int32) (v2 : Int32) (K : Int32 → Prop) : Prop := (vp_in ((v1 * 6) + v2) 36 ∧ K (ef0 ((v1 * 6) + v2).toNatClampNeg))
set_option maxHeartbeats 4000000 in
set_option maxRecDepth 100000 in
theorem c_X3_most (l : Launch) (g : nz_G) (eo : Nat) (ea0 : Nat) (ef0 : Nat → Int32) (v1 : Int32) (v2 : Int32) (K : Int32 → Prop) (h : wp_X3_most ef0 v1 v2 K) : nz_M l yX3_most wsX3_most rm_X3_most g [.ref eo, .int v1, .int v2] [(eo, .inr (3, [.ref ea0])), (ea0, .inl (nz_cI g, 36, .inl ef0))] (nz_Qi g [(eo, .inr (3, [.ref ea0])), (ea0, .inl (nz_cI g, 36, .inl ef0))] (fun r (u : Unit) => K r) (fun u => [(eo, .inr (3, [.ref ea0])), (ea0, .inl (nz_cI g, 36, .inl ef0))])) := by
  refine nz_M.of (bytes := cX3_most) (nL := 3) (ret := (some .int)) (own := RX3) (by decide) rfl rfl ⟨rfl, rfl⟩ rfl ?_
  intro y F hl hQ
  obtain ⟨sz, hQ⟩ := hQ
  refine nz_ent (lv' := [(0, .ref eo), (1, .int v1), (2, .int v2)]) rfl ?_
  unfold wp_X3_most at h
  refine nz_aload_n F dX3_most_0 rfl 0 rfl ?_
  refine nz_get F iw_X3_most_3 0 rfl rfl 0 (by decide) rfl fl_X3_most_13 rfl dX3_most_1 ?_
  refine nz_iload_n F dX3_most_4 rfl 1 rfl ?_
  refine nz_bipush (v := 6) F dX3_most_5 (by decide) ?_
  refine nz_imul F dX3_most_7 ?_
  refine nz_iload_n F dX3_most_8 rfl 2 rfl ?_
  refine nz_iadd F dX3_most_9 ?_
  obtain ⟨i1, h⟩ := h
  refine nz_iald F 1 rfl i1 dX3_most_10 ?_
  exact nz_iret F hQ () h rfl dX3_most_11
theorem k_X3_most {y : nz_Y} {g : nz_G} {k n : Nat} {ws : va_W} {pc : Nat} {ls : List (Nat × Value)} {st rest : List Value} {av : Array Value} {isC : List Nat} {K : Int32 → Prop} (eo : Nat) (ea0 : Nat) (ef0 : Nat → Int32) (v1 : Int32) (v2 : Int32) (run : nz_M (yz_l y) yX3_most wsX3_most rm_X3_most g [.ref eo, .int v1, .int v2] [(eo, .inr (3, [.ref ea0])), (ea0, .inl (nz_cI g, 36, .inl ef0))] (nz_Qi g [(eo, .inr (3, [.ref ea0])), (ea0, .inl (nz_cI g, 36, .inl ef0))] (fun r (u : Unit) => K r) (fun u => [(eo, .inr (3, [.ref ea0])), (ea0, .inl (nz_cI g, 36, .inl ef0))])) → nz_C y g k n ws pc ls st rest [(eo, .inr (3, [.ref ea0])), (ea0, .inl (nz_cI g, 36, .inl ef0))] (nz_Qi g [(eo, .inr (3, [.ref ea0])), (ea0, .inl (nz_cI g, 36, .inl ef0))] (fun r (u : Unit) => K r) (fun u => [(eo, .inr (3, [.ref ea0])), (ea0, .inl (nz_cI g, 36, .inl ef0))])) av isC) (h : wp_X3_most ef0 v1 v2 K) (ws' : va_W) (hm : nz_mrg ws isC [(eo, .inr (3, [.ref ea0])), (ea0, .inl (nz_cI g, 36, .inl ef0))] = ws' ) (kk : ∀ (r : Int32), K r → nz_V y g k n ws' (pc + 3) ls (.int r :: rest)) : nz_V y g k n ws pc ls st :=
  nz_ci (ws' := fun _ => ws') (run (c_X3_most (yz_l y) g eo ea0 ef0 v1 v2 K h)) (fun _ => rfl) (fun _ => hm) (fun r u h => kk r h)
theorem dX3_shorten_0 : decode cX3_shorten 0 = .ok (.iconst 0, 1) := by decide +kernel
theorem dX3_shorten_1 : decode cX3_shorten 1 = .ok (.istore_n 2, 1) := by decide +kernel
theorem dX3_shorten_2 : decode cX3_shorten 2 = .ok (.iload_n 2, 1) := by decide +kernel
theorem dX3_shorten_3 : decode cX3_shorten 3 = .ok (.iload_n 1, 1) := by decide +kernel
theorem dX3_shorten_4 : decode cX3_shorten 4 = .ok (.if_icmp .ge 68, 3) := by decide +kernel
theorem dX3_shorten_7 : decode cX3_shorten 7 = .ok (.iconst 0, 1) := by decide +kernel
theorem dX3_shorten_8 : decode cX3_shorten 8 = .ok (.istore_n 3, 1) := by decide +kernel
theorem dX3_shorten_9 : decode cX3_shorten 9 = .ok (.iload_n 3, 1) := by decide +kernel
theorem dX3_shorten_10 : decode cX3_shorten 10 = .ok (.iload_n 1, 1) := by decide +kernel
theorem dX3_shorten_11 : decode cX3_shorten 11 = .ok (.if_icmp .ge 55, 3) := by decide +kernel
theorem dX3_shorten_14 : decode cX3_shorten 14 = .ok (.iconst 0, 1) := by decide +kernel
theorem dX3_shorten_15 : decode cX3_shorten 15 = .ok (.istore 4, 2) := by decide +kernel
theorem dX3_shorten_17 : decode cX3_shorten 17 = .ok (.iload 4, 2) := by decide +kernel
theorem dX3_shorten_19 : decode cX3_shorten 19 = .ok (.iload_n 1, 1) := by decide +kernel
theorem dX3_shorten_20 : decode cX3_shorten 20 = .ok (.if_icmp .ge 40, 3) := by decide +kernel
theorem dX3_shorten_23 : decode cX3_shorten 23 = .ok (.aload_n 0, 1) := by decide +kernel
theorem dX3_shorten_24 : decode cX3_shorten 24 = .ok (.iload_n 3, 1) := by decide +kernel
theorem dX3_shorten_25 : decode cX3_shorten 25 = .ok (.iload 4, 2) := by decide +kernel
theorem dX3_shorten_27 : decode cX3_shorten 27 = .ok (.aload_n 0, 1) := by decide +kernel
theorem dX3_shorten_28 : decode cX3_shorten 28 = .ok (.getfield 13, 3) := by decide +kernel
theorem dX3_shorten_31 : decode cX3_shorten 31 = .ok (.iload_n 3, 1) := by decide +kernel
theorem dX3_shorten_32 : decode cX3_shorten 32 = .ok (.bipush 6, 2) := by decide +kernel
theorem dX3_shorten_34 : decode cX3_shorten 34 = .ok (.imul, 1) := by decide +kernel
theorem dX3_shorten_35 : decode cX3_shorten 35 = .ok (.iload_n 2, 1) := by decide +kernel
theorem dX3_shorten_36 : decode cX3_shorten 36 = .ok (.iadd, 1) := by decide +kernel
theorem dX3_shorten_37 : decode cX3_shorten 37 = .ok (.iaload, 1) := by decide +kernel
theorem dX3_shorten_38 : decode cX3_shorten 38 = .ok (.aload_n 0, 1) := by decide +kernel
theorem dX3_shorten_39 : decode cX3_shorten 39 = .ok (.getfield 13, 3) := by decide +kernel
theorem dX3_shorten_42 : decode cX3_shorten 42 = .ok (.iload_n 2, 1) := by decide +kernel
theorem dX3_shorten_43 : decode cX3_shorten 43 = .ok (.bipush 6, 2) := by decide +kernel
theorem dX3_shorten_45 : decode cX3_shorten 45 = .ok (.imul, 1) := by decide +kernel
theorem dX3_shorten_46 : decode cX3_shorten 46 = .ok (.iload 4, 2) := by decide +kernel
theorem dX3_shorten_48 : decode cX3_shorten 48 = .ok (.iadd, 1) := by decide +kernel
theorem dX3_shorten_49 : decode cX3_shorten 49 = .ok (.iaload, 1) := by decide +kernel
theorem dX3_shorten_50 : decode cX3_shorten 50 = .ok (.iadd, 1) := by decide +kernel
theorem dX3_shorten_51 : decode cX3_shorten 51 = .ok (.invokevirtual 41, 3) := by decide +kernel
theorem dX3_shorten_54 : decode cX3_shorten 54 = .ok (.iinc 4 1, 3) := by decide +kernel
theorem dX3_shorten_57 : decode cX3_shorten 57 = .ok (.goto (-40), 3) := by decide +kernel
theorem dX3_shorten_60 : decode cX3_shorten 60 = .ok (.iinc 3 1, 3) := by decide +kernel
theorem dX3_shorten_63 : decode cX3_shorten 63 = .ok (.goto (-54), 3) := by decide +kernel
theorem dX3_shorten_66 : decode cX3_shorten 66 = .ok (.iinc 2 1, 3) := by decide +kernel
theorem dX3_shorten_69 : decode cX3_shorten 69 = .ok (.goto (-67), 3) := by decide +kernel
theorem dX3_shorten_72 : decode cX3_shorten 72 = .ok (.return_, 1) := by decide +kernel
set_option maxRecDepth 20000 in
theorem ggX3_shorten_X3_bind : GoodIn wsX3_shorten wsX3_bind := goodIn_r _ [6, 1, 7, 8, 9, 10, 11] rfl (by decide +kernel)
set_option maxRecDepth 20000 in
theorem gX3_shorten_X3_bind : GoodIn wsX3_shorten (wsV RX3 41 RX3 yX3_bind wsX3_bind) := goodIn_app (goodIn_r _ [2, 3, 4, 5] rfl (by decide +kernel)) ggX3_shorten_X3_bind
theorem hd_X3_bind : yX3_bind.cls = RX3 ∧ yX3_bind.cls ≠ "java/lang/invoke/MethodHandle" ∧ yX3_bind.cls ≠ "java/lang/invoke/VarHandle" ∧ (parseMethodDescriptor yX3_bind.desc).map (fun d => d.parameters.length) = some 3 := by decide +kernel
/-! X3_shorten -/
abbrev rm_X3_shorten : Room := { frames := 2, cells := 0, slots := 0, locals := 44 }
theorem iw_X3_shorten_3 : ∀ w ∈ wsX30, w ∈ wsX3_shorten := fun _ h => List.mem_cons_of_mem _ (List.mem_append_right _ h)
theorem fl_X3_shorten_13 : Cond.fieldLink RX3 13 "NightStones$Lengths" "bounds" "[I" ∈ wsX3_shorten := List.mem_of_getElem? (i := 1) rfl
def S_X3_shorten_17 (v1 : Int32) (x2 : Int32) (x3 : Int32) (R9 : Int32 → (Nat → Int32) → Prop) (K : (Nat → Int32) → Prop) (R17 : Int32 → (Nat → Int32) → Prop) (x4 : Int32) (ef0 : Nat → Int32) : Prop := ((v1 ≤ x4 → R9 (x3 + 1) ef0) ∧ (¬ (v1 ≤ x4) → (vp_in ((x3 * 6) + x2) 36 ∧ (vp_in ((x2 * 6) + x4) 36 ∧ wp_X3_bind ef0 x3 x4 ((ef0 ((x3 * 6) + x2).toNatClampNeg) + (ef0 ((x2 * 6) + x4).toNatClampNeg)) (fun m6 => R17 (x4 + 1) m6)))))
set_option maxHeartbeats 4000000 in
set_option maxRecDepth 100000 in
theorem t_X3_shorten_17 {y : nz_Y} {g : nz_G} (F : nz_F y g cX3_shorten 5 wsX3_shorten RX3 none rm_X3_shorten) {wc0 : va_W} {sz : Nat} {K : (Nat → Int32) → Prop} {R9 : Int32 → (Nat → Int32) → Prop} (eo : Nat) (ea0 : Nat) (v1 : Int32) (x2 : Int32) (x3 : Int32) (hQ : yz_A y = va_A wc0 sz ∧ yz_Q y = MQ (yz_b y) ((nz_Qv g wc0 (fun (u : (Nat → Int32)) => K u) (fun u => [(eo, .inr (3, [.ref ea0])), (ea0, .inl (nz_cI g, 36, .inl u))])) sz) (yz_a y) (yz_s y) 0 0 (va_A wc0 sz)) (hR9 : ∀ (x3 : Int32) (ef0 : Nat → Int32), R9 x3 ef0 → nz_V y g 0 0 [(eo, .inr (3, [.ref ea0])), (ea0, .inl (nz_cI g, 36, .inl ef0))] 9 [(0, .ref eo), (1, .int v1), (2, .int x2), (3, .int x3)] []) : ∀ (n1 : Nat) (x4 : Int32) (ef0 : Nat → Int32), nz_it (fun _ _ => False) (S_X3_shorten_17 v1 x2 x3 R9 K) n1 x4 ef0 → nz_V y g 0 0 [(eo, .inr (3, [.ref ea0])), (ea0, .inl (nz_cI g, 36, .inl ef0))] 17 [(0, .ref eo), (1, .int v1), (2, .int x2), (3, .int x3), (4, .int x4)] [] := by
  intro n1
  induction n1 with
  | zero =>
    intro x4 ef0 h
    exact h.elim
  | succ n1 hR17 =>
    intro x4 ef0 h
    have h : S_X3_shorten_17 v1 x2 x3 R9 K (nz_it (fun _ _ => False) (S_X3_shorten_17 v1 x2 x3 R9 K) n1) x4 ef0 := h
    unfold S_X3_shorten_17 at h
    refine nz_iload F dX3_shorten_17 4 rfl ?_
    refine nz_iload_n F dX3_shorten_19 rfl 1 rfl ?_
    refine nz_icmp_ge (tgt := 60) F dX3_shorten_20 (by decide) (fun c3 => ?_) (fun c3 => ?_)
    · have h := h.1 c3
      refine nz_iinc (v := (x3 + 1)) (j := 3) (lv' := [(3, .int (x3 + 1)), (0, .ref eo), (1, .int v1), (2, .int x2), (4, .int x4)]) F dX3_shorten_60 rfl rfl (by decide) rfl ?_
      refine nz_goto (tgt := 9) F dX3_shorten_63 (by decide) ?_
      refine nz_ls (lv' := [(0, .ref eo), (1, .int v1), (2, .int x2), (3, .int (x3 + 1))]) [1, 2, 3, 0] rfl ?_
      exact hR9 (x3 + 1) ef0 h
    · have h := h.2 c3
      refine nz_aload_n F dX3_shorten_23 rfl 0 rfl ?_
      refine nz_iload_n F dX3_shorten_24 rfl 3 rfl ?_
      refine nz_iload F dX3_shorten_25 4 rfl ?_
      refine nz_aload_n F dX3_shorten_27 rfl 0 rfl ?_
      refine nz_get F iw_X3_shorten_3 0 rfl rfl 0 (by decide) rfl fl_X3_shorten_13 rfl dX3_shorten_28 ?_
      refine nz_iload_n F dX3_shorten_31 rfl 3 rfl ?_
      refine nz_bipush (v := 6) F dX3_shorten_32 (by decide) ?_
      refine nz_imul F dX3_shorten_34 ?_
      refine nz_iload_n F dX3_shorten_35 rfl 2 rfl ?_
      refine nz_iadd F dX3_shorten_36 ?_
      obtain ⟨i4, h⟩ := h
      refine nz_iald F 1 rfl i4 dX3_shorten_37 ?_
      refine nz_aload_n F dX3_shorten_38 rfl 0 rfl ?_
      refine nz_get F iw_X3_shorten_3 0 rfl rfl 0 (by decide) rfl fl_X3_shorten_13 rfl dX3_shorten_39 ?_
      refine nz_iload_n F dX3_shorten_42 rfl 2 rfl ?_
      refine nz_bipush (v := 6) F dX3_shorten_43 (by decide) ?_
      refine nz_imul F dX3_shorten_45 ?_
      refine nz_iload F dX3_shorten_46 4 rfl ?_
      refine nz_iadd F dX3_shorten_48 ?_
      obtain ⟨i5, h⟩ := h
      refine nz_iald F 1 rfl i5 dX3_shorten_49 ?_
      refine nz_iadd F dX3_shorten_50 ?_
      refine k_X3_bind eo ea0 ef0 x3 x4 ((ef0 ((x3 * 6) + x2).toNatClampNeg) + (ef0 ((x2 * 6) + x4).toNatClampNeg)) (fun hM => nz_runV F gX3_shorten_X3_bind rfl hd_X3_bind rfl hM dX3_shorten_51 [0, 1] rfl rfl 0 rfl rfl rfl (Nat.le_of_ble_eq_true rfl) rfl) h (fun m6 => [(eo, .inr (3, [.ref ea0])), (ea0, .inl (nz_cI g, 36, .inl m6))]) (fun _ => rfl) (fun m6 h => ?_)
      refine nz_iinc (v := (x4 + 1)) (j := 4) (lv' := [(4, .int (x4 + 1)), (0, .ref eo), (1, .int v1), (2, .int x2), (3, .int x3)]) F dX3_shorten_54 rfl rfl (by decide) rfl ?_
      refine nz_goto (tgt := 17) F dX3_shorten_57 (by decide) ?_
      refine nz_ls (lv' := [(0, .ref eo), (1, .int v1), (2, .int x2), (3, .int x3), (4, .int (x4 + 1))]) [1, 2, 3, 4, 0] rfl ?_
      exact hR17 (x4 + 1) m6 h
def S_X3_shorten_9 (v1 : Int32) (x2 : Int32) (R2 : Int32 → (Nat → Int32) → Prop) (K : (Nat → Int32) → Prop) (R9 : Int32 → (Nat → Int32) → Prop) (x3 : Int32) (ef0 : Nat → Int32) : Prop := ((v1 ≤ x3 → R2 (x2 + 1) ef0) ∧ (¬ (v1 ≤ x3) → (∃ n, nz_it (fun _ _ => False) (S_X3_shorten_17 v1 x2 x3 R9 K) n 0 ef0)))
set_option maxHeartbeats 4000000 in
set_option maxRecDepth 100000 in
theorem t_X3_shorten_9 {y : nz_Y} {g : nz_G} (F : nz_F y g cX3_shorten 5 wsX3_shorten RX3 none rm_X3_shorten) {wc0 : va_W} {sz : Nat} {K : (Nat → Int32) → Prop} {R2 : Int32 → (Nat → Int32) → Prop} (eo : Nat) (ea0 : Nat) (v1 : Int32) (x2 : Int32) (hQ : yz_A y = va_A wc0 sz ∧ yz_Q y = MQ (yz_b y) ((nz_Qv g wc0 (fun (u : (Nat → Int32)) => K u) (fun u => [(eo, .inr (3, [.ref ea0])), (ea0, .inl (nz_cI g, 36, .inl u))])) sz) (yz_a y) (yz_s y) 0 0 (va_A wc0 sz)) (hR2 : ∀ (x2 : Int32) (ef0 : Nat → Int32), R2 x2 ef0 → nz_V y g 0 0 [(eo, .inr (3, [.ref ea0])), (ea0, .inl (nz_cI g, 36, .inl ef0))] 2 [(0, .ref eo), (1, .int v1), (2, .int x2)] []) : ∀ (n1 : Nat) (x3 : Int32) (ef0 : Nat → Int32), nz_it (fun _ _ => False) (S_X3_shorten_9 v1 x2 R2 K) n1 x3 ef0 → nz_V y g 0 0 [(eo, .inr (3, [.ref ea0])), (ea0, .inl (nz_cI g, 36, .inl ef0))] 9 [(0, .ref eo), (1, .int v1), (2, .int x2), (3, .int x3)] [] := by
  intro n1
  induction n1 with
  | zero =>
    intro x3 ef0 h
    exact h.elim
  | succ n1 hR9 =>
    intro x3 ef0 h
    have h : S_X3_shorten_9 v1 x2 R2 K (nz_it (fun _ _ => False) (S_X3_shorten_9 v1 x2 R2 K) n1) x3 ef0 := h
    unfold S_X3_shorten_9 at h
    refine nz_iload_n F dX3_shorten_9 rfl 3 rfl ?_
    refine nz_iload_n F dX3_shorten_10 rfl 1 rfl ?_
    refine nz_icmp_ge (tgt := 66) F dX3_shorten_11 (by decide) (fun c2 => ?_) (fun c2 => ?_)
    · have h := h.1 c2
      refine nz_iinc (v := (x2 + 1)) (j := 2) (lv' := [(2, .int (x2 + 1)), (0, .ref eo), (1, .int v1), (3, .int x3)]) F dX3_shorten_66 rfl rfl (by decide) rfl ?_
      refine nz_goto (tgt := 2) F dX3_shorten_69 (by decide) ?_
      refine nz_ls (lv' := [(0, .ref eo), (1, .int v1), (2, .int (x2 + 1))]) [1, 2, 0] rfl ?_
      exact hR2 (x2 + 1) ef0 h
    · have h := h.2 c2
      refine nz_iconst (v := 0) F dX3_shorten_14 (by decide) ?_
      refine nz_istore (lv' := [(4, .int 0), (0, .ref eo), (1, .int v1), (2, .int x2), (3, .int x3)]) F dX3_shorten_15 (by decide) rfl ?_
      refine nz_ls (lv' := [(0, .ref eo), (1, .int v1), (2, .int x2), (3, .int x3), (4, .int 0)]) [1, 2, 3, 4, 0] rfl ?_
      obtain ⟨n1, h⟩ := h
      exact t_X3_shorten_17 F eo ea0 v1 x2 x3 hQ hR9 n1 0 ef0 h
def S_X3_shorten_2 (v1 : Int32) (K : (Nat → Int32) → Prop) (R2 : Int32 → (Nat → Int32) → Prop) (x2 : Int32) (ef0 : Nat → Int32) : Prop := ((v1 ≤ x2 → K ef0) ∧ (¬ (v1 ≤ x2) → (∃ n, nz_it (fun _ _ => False) (S_X3_shorten_9 v1 x2 R2 K) n 0 ef0)))
set_option maxHeartbeats 4000000 in
set_option maxRecDepth 100000 in
theorem t_X3_shorten_2 {y : nz_Y} {g : nz_G} (F : nz_F y g cX3_shorten 5 wsX3_shorten RX3 none rm_X3_shorten) {wc0 : va_W} {sz : Nat} {K : (Nat → Int32) → Prop} (eo : Nat) (ea0 : Nat) (v1 : Int32) (hQ : yz_A y = va_A wc0 sz ∧ yz_Q y = MQ (yz_b y) ((nz_Qv g wc0 (fun (u : (Nat → Int32)) => K u) (fun u => [(eo, .inr (3, [.ref ea0])), (ea0, .inl (nz_cI g, 36, .inl u))])) sz) (yz_a y) (yz_s y) 0 0 (va_A wc0 sz)) : ∀ (n1 : Nat) (x2 : Int32) (ef0 : Nat → Int32), nz_it (fun _ _ => False) (S_X3_shorten_2 v1 K) n1 x2 ef0 → nz_V y g 0 0 [(eo, .inr (3, [.ref ea0])), (ea0, .inl (nz_cI g, 36, .inl ef0))] 2 [(0, .ref eo), (1, .int v1), (2, .int x2)] [] := by
  intro n1
  induction n1 with
  | zero =>
    intro x2 ef0 h
    exact h.elim
  | succ n1 hR2 =>
    intro x2 ef0 h
    have h : S_X3_shorten_2 v1 K (nz_it (fun _ _ => False) (S_X3_shorten_2 v1 K) n1) x2 ef0 := h
    unfold S_X3_shorten_2 at h
    refine nz_iload_n F dX3_shorten_2 rfl 2 rfl ?_
    refine nz_iload_n F dX3_shorten_3 rfl 1 rfl ?_
    refine nz_icmp_ge (tgt := 72) F dX3_shorten_4 (by decide) (fun c1 => ?_) (fun c1 => ?_)
    · have h := h.1 c1
      exact nz_vret F hQ ef0 h rfl dX3_shorten_72
    · have h := h.2 c1
      refine nz_iconst (v := 0) F dX3_shorten_7 (by decide) ?_
      refine nz_istore_n (lv' := [(3, .int 0), (0, .ref eo), (1, .int v1), (2, .int x2)]) F dX3_shorten_8 rfl (by decide) rfl ?_
      refine nz_ls (lv' := [(0, .ref eo), (1, .int v1), (2, .int x2), (3, .int 0)]) [1, 2, 3, 0] rfl ?_
      obtain ⟨n1, h⟩ := h
      exact t_X3_shorten_9 F eo ea0 v1 x2 hQ hR2 n1 0 ef0 h
def wp_X3_shorten (ef0 : Nat → Int32) (v1 : Int32) (K : (Nat → Int32) → Prop) : Prop := (∃ n, nz_it (fun _ _ => False) (S_X3_shorten_2 v1 K) n 0 ef0)
set_option maxHeartbeats 4000000 in
set_option maxRecDepth 100000 in
theorem c_X3_shorten (l : Launch) (g : nz_G) (eo : Nat) (ea0 : Nat) (ef0 : Nat → Int32) (v1 : Int32) (K : (Nat → Int32) → Prop) (h : wp_X3_shorten ef0 v1 K) : nz_M l yX3_shorten wsX3_shorten rm_X3_shorten g [.ref eo, .int v1] [(eo, .inr (3, [.ref ea0])), (ea0, .inl (nz_cI g, 36, .inl ef0))] (nz_Qv g [(eo, .inr (3, [.ref ea0])), (ea0, .inl (nz_cI g, 36, .inl ef0))] (fun (u : (Nat → Int32)) => K u) (fun u => [(eo, .inr (3, [.ref ea0])), (ea0, .inl (nz_cI g, 36, .inl u))])) := by
  refine nz_M.of (bytes := cX3_shorten) (nL := 5) (ret := none) (own := RX3) (by decide) rfl rfl ⟨rfl, rfl⟩ rfl ?_
  intro y F hl hQ
  obtain ⟨sz, hQ⟩ := hQ
  refine nz_ent (lv' := [(0, .ref eo), (1, .int v1)]) rfl ?_
  unfold wp_X3_shorten at h
  refine nz_iconst (v := 0) F dX3_shorten_0 (by decide) ?_
  refine nz_istore_n (lv' := [(2, .int 0), (0, .ref eo), (1, .int v1)]) F dX3_shorten_1 rfl (by decide) rfl ?_
  refine nz_ls (lv' := [(0, .ref eo), (1, .int v1), (2, .int 0)]) [1, 2, 0] rfl ?_
  obtain ⟨n1, h⟩ := h
  exact t_X3_shorten_2 F eo ea0 v1 hQ n1 0 ef0 h
theorem k_X3_shorten {y : nz_Y} {g : nz_G} {k n : Nat} {ws : va_W} {pc : Nat} {ls : List (Nat × Value)} {st rest : List Value} {av : Array Value} {isC : List Nat} {K : (Nat → Int32) → Prop} (eo : Nat) (ea0 : Nat) (ef0 : Nat → Int32) (v1 : Int32) (run : nz_M (yz_l y) yX3_shorten wsX3_shorten rm_X3_shorten g [.ref eo, .int v1] [(eo, .inr (3, [.ref ea0])), (ea0, .inl (nz_cI g, 36, .inl ef0))] (nz_Qv g [(eo, .inr (3, [.ref ea0])), (ea0, .inl (nz_cI g, 36, .inl ef0))] (fun (u : (Nat → Int32)) => K u) (fun u => [(eo, .inr (3, [.ref ea0])), (ea0, .inl (nz_cI g, 36, .inl u))])) → nz_C y g k n ws pc ls st rest [(eo, .inr (3, [.ref ea0])), (ea0, .inl (nz_cI g, 36, .inl ef0))] (nz_Qv g [(eo, .inr (3, [.ref ea0])), (ea0, .inl (nz_cI g, 36, .inl ef0))] (fun (u : (Nat → Int32)) => K u) (fun u => [(eo, .inr (3, [.ref ea0])), (ea0, .inl (nz_cI g, 36, .inl u))])) av isC) (h : wp_X3_shorten ef0 v1 K) (ws' : (Nat → Int32) → va_W) (hm : ∀ (m0 : (Nat → Int32)), nz_mrg ws isC [(eo, .inr (3, [.ref ea0])), (ea0, .inl (nz_cI g, 36, .inl m0))] = ws' m0) (kk : ∀ (m0 : (Nat → Int32)), K m0 → nz_V y g k n (ws' m0) (pc + 3) ls (rest)) : nz_V y g k n ws pc ls st :=
  nz_cv (ws' := fun u => ws' u) (run (c_X3_shorten (yz_l y) g eo ea0 ef0 v1 K h)) (fun _ => rfl) (fun u => hm u) (fun u h => kk u h)
theorem dX3_widestPair_0 : decode cX3_widestPair 0 = .ok (.ldc 51, 2) := by decide +kernel
theorem dX3_widestPair_2 : decode cX3_widestPair 2 = .ok (.istore_n 2, 1) := by decide +kernel
theorem dX3_widestPair_3 : decode cX3_widestPair 3 = .ok (.iconst (-1), 1) := by decide +kernel
theorem dX3_widestPair_4 : decode cX3_widestPair 4 = .ok (.istore_n 3, 1) := by decide +kernel
theorem dX3_widestPair_5 : decode cX3_widestPair 5 = .ok (.iconst 0, 1) := by decide +kernel
theorem dX3_widestPair_6 : decode cX3_widestPair 6 = .ok (.istore 4, 2) := by decide +kernel
theorem dX3_widestPair_8 : decode cX3_widestPair 8 = .ok (.iload 4, 2) := by decide +kernel
theorem dX3_widestPair_10 : decode cX3_widestPair 10 = .ok (.iload_n 1, 1) := by decide +kernel
theorem dX3_widestPair_11 : decode cX3_widestPair 11 = .ok (.if_icmp .ge 75, 3) := by decide +kernel
theorem dX3_widestPair_14 : decode cX3_widestPair 14 = .ok (.iload 4, 2) := by decide +kernel
theorem dX3_widestPair_16 : decode cX3_widestPair 16 = .ok (.iconst 1, 1) := by decide +kernel
theorem dX3_widestPair_17 : decode cX3_widestPair 17 = .ok (.iadd, 1) := by decide +kernel
theorem dX3_widestPair_18 : decode cX3_widestPair 18 = .ok (.istore 5, 2) := by decide +kernel
theorem dX3_widestPair_20 : decode cX3_widestPair 20 = .ok (.iload 5, 2) := by decide +kernel
theorem dX3_widestPair_22 : decode cX3_widestPair 22 = .ok (.iload_n 1, 1) := by decide +kernel
theorem dX3_widestPair_23 : decode cX3_widestPair 23 = .ok (.if_icmp .ge 57, 3) := by decide +kernel
theorem dX3_widestPair_26 : decode cX3_widestPair 26 = .ok (.aload_n 0, 1) := by decide +kernel
theorem dX3_widestPair_27 : decode cX3_widestPair 27 = .ok (.iload 4, 2) := by decide +kernel
theorem dX3_widestPair_29 : decode cX3_widestPair 29 = .ok (.iload 5, 2) := by decide +kernel
theorem dX3_widestPair_31 : decode cX3_widestPair 31 = .ok (.invokevirtual 52, 3) := by decide +kernel
theorem dX3_widestPair_34 : decode cX3_widestPair 34 = .ok (.aload_n 0, 1) := by decide +kernel
theorem dX3_widestPair_35 : decode cX3_widestPair 35 = .ok (.iload 4, 2) := by decide +kernel
theorem dX3_widestPair_37 : decode cX3_widestPair 37 = .ok (.iload 5, 2) := by decide +kernel
theorem dX3_widestPair_39 : decode cX3_widestPair 39 = .ok (.invokevirtual 55, 3) := by decide +kernel
theorem dX3_widestPair_42 : decode cX3_widestPair 42 = .ok (.isub, 1) := by decide +kernel
theorem dX3_widestPair_43 : decode cX3_widestPair 43 = .ok (.iload_n 3, 1) := by decide +kernel
theorem dX3_widestPair_44 : decode cX3_widestPair 44 = .ok (.if_icmp .le 30, 3) := by decide +kernel
theorem dX3_widestPair_47 : decode cX3_widestPair 47 = .ok (.aload_n 0, 1) := by decide +kernel
theorem dX3_widestPair_48 : decode cX3_widestPair 48 = .ok (.iload 4, 2) := by decide +kernel
theorem dX3_widestPair_50 : decode cX3_widestPair 50 = .ok (.iload 5, 2) := by decide +kernel
theorem dX3_widestPair_52 : decode cX3_widestPair 52 = .ok (.invokevirtual 52, 3) := by decide +kernel
theorem dX3_widestPair_55 : decode cX3_widestPair 55 = .ok (.aload_n 0, 1) := by decide +kernel
theorem dX3_widestPair_56 : decode cX3_widestPair 56 = .ok (.iload 4, 2) := by decide +kernel
theorem dX3_widestPair_58 : decode cX3_widestPair 58 = .ok (.iload 5, 2) := by decide +kernel
theorem dX3_widestPair_60 : decode cX3_widestPair 60 = .ok (.invokevirtual 55, 3) := by decide +kernel
theorem dX3_widestPair_63 : decode cX3_widestPair 63 = .ok (.isub, 1) := by decide +kernel
theorem dX3_widestPair_64 : decode cX3_widestPair 64 = .ok (.istore_n 3, 1) := by decide +kernel
theorem dX3_widestPair_65 : decode cX3_widestPair 65 = .ok (.bipush 6, 2) := by decide +kernel
theorem dX3_widestPair_67 : decode cX3_widestPair 67 = .ok (.iload 4, 2) := by decide +kernel
theorem dX3_widestPair_69 : decode cX3_widestPair 69 = .ok (.imul, 1) := by decide +kernel
theorem dX3_widestPair_70 : decode cX3_widestPair 70 = .ok (.iload 5, 2) := by decide +kernel
theorem dX3_widestPair_72 : decode cX3_widestPair 72 = .ok (.iadd, 1) := by decide +kernel
theorem dX3_widestPair_73 : decode cX3_widestPair 73 = .ok (.istore_n 2, 1) := by decide +kernel
theorem dX3_widestPair_74 : decode cX3_widestPair 74 = .ok (.iinc 5 1, 3) := by decide +kernel
theorem dX3_widestPair_77 : decode cX3_widestPair 77 = .ok (.goto (-57), 3) := by decide +kernel
theorem dX3_widestPair_80 : decode cX3_widestPair 80 = .ok (.iinc 4 1, 3) := by decide +kernel
theorem dX3_widestPair_83 : decode cX3_widestPair 83 = .ok (.goto (-75), 3) := by decide +kernel
theorem dX3_widestPair_86 : decode cX3_widestPair 86 = .ok (.iload_n 2, 1) := by decide +kernel
theorem dX3_widestPair_87 : decode cX3_widestPair 87 = .ok (.ireturn, 1) := by decide +kernel
set_option maxRecDepth 20000 in
theorem ggX3_widestPair_X3_least : GoodIn wsX3_widestPair wsX3_least := goodIn_r _ [11, 7, 12] rfl (by decide +kernel)
set_option maxRecDepth 20000 in
theorem gX3_widestPair_X3_least : GoodIn wsX3_widestPair (wsV RX3 55 RX3 yX3_least wsX3_least) := goodIn_app (goodIn_r _ [8, 9, 10, 5] rfl (by decide +kernel)) ggX3_widestPair_X3_least
set_option maxRecDepth 20000 in
theorem ggX3_widestPair_X3_most : GoodIn wsX3_widestPair wsX3_most := goodIn_r _ [6, 7, 12] rfl (by decide +kernel)
set_option maxRecDepth 20000 in
theorem gX3_widestPair_X3_most : GoodIn wsX3_widestPair (wsV RX3 52 RX3 yX3_most wsX3_most) := goodIn_app (goodIn_r _ [2, 3, 4, 5] rfl (by decide +kernel)) ggX3_widestPair_X3_most
theorem hd_X3_least : yX3_least.cls = RX3 ∧ yX3_least.cls ≠ "java/lang/invoke/MethodHandle" ∧ yX3_least.cls ≠ "java/lang/invoke/VarHandle" ∧ (parseMethodDescriptor yX3_least.desc).map (fun d => d.parameters.length) = some 2 := by decide +kernel
theorem hd_X3_most : yX3_most.cls = RX3 ∧ yX3_most.cls ≠ "java/lang/invoke/MethodHandle" ∧ yX3_most.cls ≠ "java/lang/invoke/VarHandle" ∧ (parseMethodDescriptor yX3_most.desc).map (fun d => d.parameters.length) = some 2 := by decide +kernel
/-! X3_widestPair -/
abbrev rm_X3_widestPair : Room := { frames := 1, cells := 0, slots := 0, locals := 22 }
theorem wd_X3_widestPair_c51 : Cond.constant RX3 51 (-1000000) ∈ wsX3_widestPair := List.mem_of_getElem? (i := 1) rfl
def S_X3_widestPair_20 (ef0 : Nat → Int32) (v1 : Int32) (x4 : Int32) (R8 : Int32 → Int32 → Int32 → Prop) (K : Int32 → Prop) (R20 : Int32 → Int32 → Int32 → Prop) (x2 : Int32) (x3 : Int32) (x5 : Int32) : Prop := ((v1 ≤ x5 → R8 x2 x3 (x4 + 1)) ∧ (¬ (v1 ≤ x5) → wp_X3_most ef0 x4 x5 (fun q3 => wp_X3_least ef0 x4 x5 (fun q4 => (((q3 - q4) ≤ x3 → R20 x2 x3 (x5 + 1)) ∧ (¬ ((q3 - q4) ≤ x3) → wp_X3_most ef0 x4 x5 (fun q6 => wp_X3_least ef0 x4 x5 (fun q7 => R20 ((6 * x4) + x5) (q6 - q7) (x5 + 1)))))))))
set_option maxHeartbeats 4000000 in
set_option maxRecDepth 100000 in
theorem t_X3_widestPair_20 {y : nz_Y} {g : nz_G} (F : nz_F y g cX3_widestPair 6 wsX3_widestPair RX3 (some .int) rm_X3_widestPair) {wc0 : va_W} {sz : Nat} {K : Int32 → Prop} {R8 : Int32 → Int32 → Int32 → Prop} (eo : Nat) (ea0 : Nat) (ef0 : Nat → Int32) (v1 : Int32) (x4 : Int32) (hQ : yz_A y = va_A wc0 sz ∧ yz_Q y = MQ (yz_b y) ((nz_Qi g wc0 (fun r (u : Unit) => K r) (fun u => [(eo, .inr (3, [.ref ea0])), (ea0, .inl (nz_cI g, 36, .inl ef0))])) sz) (yz_a y) (yz_s y) 0 0 (va_A wc0 sz)) (hR8 : ∀ (x2 : Int32) (x3 : Int32) (x4 : Int32), R8 x2 x3 x4 → nz_V y g 0 0 [(eo, .inr (3, [.ref ea0])), (ea0, .inl (nz_cI g, 36, .inl ef0))] 8 [(0, .ref eo), (1, .int v1), (2, .int x2), (3, .int x3), (4, .int x4)] []) : ∀ (n1 : Nat) (x2 : Int32) (x3 : Int32) (x5 : Int32), nz_it (fun _ _ _ => False) (S_X3_widestPair_20 ef0 v1 x4 R8 K) n1 x2 x3 x5 → nz_V y g 0 0 [(eo, .inr (3, [.ref ea0])), (ea0, .inl (nz_cI g, 36, .inl ef0))] 20 [(0, .ref eo), (1, .int v1), (2, .int x2), (3, .int x3), (4, .int x4), (5, .int x5)] [] := by
  intro n1
  induction n1 with
  | zero =>
    intro x2 x3 x5 h
    exact h.elim
  | succ n1 hR20 =>
    intro x2 x3 x5 h
    have h : S_X3_widestPair_20 ef0 v1 x4 R8 K (nz_it (fun _ _ _ => False) (S_X3_widestPair_20 ef0 v1 x4 R8 K) n1) x2 x3 x5 := h
    unfold S_X3_widestPair_20 at h
    refine nz_iload F dX3_widestPair_20 5 rfl ?_
    refine nz_iload_n F dX3_widestPair_22 rfl 1 rfl ?_
    refine nz_icmp_ge (tgt := 80) F dX3_widestPair_23 (by decide) (fun c2 => ?_) (fun c2 => ?_)
    · have h := h.1 c2
      refine nz_iinc (v := (x4 + 1)) (j := 4) (lv' := [(4, .int (x4 + 1)), (0, .ref eo), (1, .int v1), (2, .int x2), (3, .int x3), (5, .int x5)]) F dX3_widestPair_80 rfl rfl (by decide) rfl ?_
      refine nz_goto (tgt := 8) F dX3_widestPair_83 (by decide) ?_
      refine nz_ls (lv' := [(0, .ref eo), (1, .int v1), (2, .int x2), (3, .int x3), (4, .int (x4 + 1))]) [1, 2, 3, 4, 0] rfl ?_
      exact hR8 x2 x3 (x4 + 1) h
    · have h := h.2 c2
      refine nz_aload_n F dX3_widestPair_26 rfl 0 rfl ?_
      refine nz_iload F dX3_widestPair_27 4 rfl ?_
      refine nz_iload F dX3_widestPair_29 5 rfl ?_
      refine k_X3_most eo ea0 ef0 x4 x5 (fun hM => nz_runV F gX3_widestPair_X3_most rfl hd_X3_most rfl hM dX3_widestPair_31 [0, 1] rfl rfl 0 rfl rfl rfl (Nat.le_of_ble_eq_true rfl) rfl) h ([(eo, .inr (3, [.ref ea0])), (ea0, .inl (nz_cI g, 36, .inl ef0))]) (rfl) (fun q3 h => ?_)
      refine nz_aload_n F dX3_widestPair_34 rfl 0 rfl ?_
      refine nz_iload F dX3_widestPair_35 4 rfl ?_
      refine nz_iload F dX3_widestPair_37 5 rfl ?_
      refine k_X3_least eo ea0 ef0 x4 x5 (fun hM => nz_runV F gX3_widestPair_X3_least rfl hd_X3_least rfl hM dX3_widestPair_39 [0, 1] rfl rfl 0 rfl rfl rfl (Nat.le_of_ble_eq_true rfl) rfl) h ([(eo, .inr (3, [.ref ea0])), (ea0, .inl (nz_cI g, 36, .inl ef0))]) (rfl) (fun q4 h => ?_)
      refine nz_isub F dX3_widestPair_42 ?_
      refine nz_iload_n F dX3_widestPair_43 rfl 3 rfl ?_
      refine nz_icmp_le (tgt := 74) F dX3_widestPair_44 (by decide) (fun c5 => ?_) (fun c5 => ?_)
      · have h := h.1 c5
        refine nz_iinc (v := (x5 + 1)) (j := 5) (lv' := [(5, .int (x5 + 1)), (0, .ref eo), (1, .int v1), (2, .int x2), (3, .int x3), (4, .int x4)]) F dX3_widestPair_74 rfl rfl (by decide) rfl ?_
        refine nz_goto (tgt := 20) F dX3_widestPair_77 (by decide) ?_
        refine nz_ls (lv' := [(0, .ref eo), (1, .int v1), (2, .int x2), (3, .int x3), (4, .int x4), (5, .int (x5 + 1))]) [1, 2, 3, 4, 5, 0] rfl ?_
        exact hR20 x2 x3 (x5 + 1) h
      · have h := h.2 c5
        refine nz_aload_n F dX3_widestPair_47 rfl 0 rfl ?_
        refine nz_iload F dX3_widestPair_48 4 rfl ?_
        refine nz_iload F dX3_widestPair_50 5 rfl ?_
        refine k_X3_most eo ea0 ef0 x4 x5 (fun hM => nz_runV F gX3_widestPair_X3_most rfl hd_X3_most rfl hM dX3_widestPair_52 [0, 1] rfl rfl 0 rfl rfl rfl (Nat.le_of_ble_eq_true rfl) rfl) h ([(eo, .inr (3, [.ref ea0])), (ea0, .inl (nz_cI g, 36, .inl ef0))]) (rfl) (fun q6 h => ?_)
        refine nz_aload_n F dX3_widestPair_55 rfl 0 rfl ?_
        refine nz_iload F dX3_widestPair_56 4 rfl ?_
        refine nz_iload F dX3_widestPair_58 5 rfl ?_
        refine k_X3_least eo ea0 ef0 x4 x5 (fun hM => nz_runV F gX3_widestPair_X3_least rfl hd_X3_least rfl hM dX3_widestPair_60 [0, 1] rfl rfl 0 rfl rfl rfl (Nat.le_of_ble_eq_true rfl) rfl) h ([(eo, .inr (3, [.ref ea0])), (ea0, .inl (nz_cI g, 36, .inl ef0))]) (rfl) (fun q7 h => ?_)
        refine nz_isub F dX3_widestPair_63 ?_
        refine nz_istore_n (lv' := [(3, .int (q6 - q7)), (0, .ref eo), (1, .int v1), (2, .int x2), (4, .int x4), (5, .int x5)]) F dX3_widestPair_64 rfl (by decide) rfl ?_
        refine nz_bipush (v := 6) F dX3_widestPair_65 (by decide) ?_
        refine nz_iload F dX3_widestPair_67 4 rfl ?_
        refine nz_imul F dX3_widestPair_69 ?_
        refine nz_iload F dX3_widestPair_70 5 rfl ?_
        refine nz_iadd F dX3_widestPair_72 ?_
        refine nz_istore_n (lv' := [(2, .int ((6 * x4) + x5)), (3, .int (q6 - q7)), (0, .ref eo), (1, .int v1), (4, .int x4), (5, .int x5)]) F dX3_widestPair_73 rfl (by decide) rfl ?_
        refine nz_iinc (v := (x5 + 1)) (j := 5) (lv' := [(5, .int (x5 + 1)), (2, .int ((6 * x4) + x5)), (3, .int (q6 - q7)), (0, .ref eo), (1, .int v1), (4, .int x4)]) F dX3_widestPair_74 rfl rfl (by decide) rfl ?_
        refine nz_goto (tgt := 20) F dX3_widestPair_77 (by decide) ?_
        refine nz_ls (lv' := [(0, .ref eo), (1, .int v1), (2, .int ((6 * x4) + x5)), (3, .int (q6 - q7)), (4, .int x4), (5, .int (x5 + 1))]) [3, 4, 1, 2, 5, 0] rfl ?_
        exact hR20 ((6 * x4) + x5) (q6 - q7) (x5 + 1) h
def S_X3_widestPair_8 (ef0 : Nat → Int32) (v1 : Int32) (K : Int32 → Prop) (R8 : Int32 → Int32 → Int32 → Prop) (x2 : Int32) (x3 : Int32) (x4 : Int32) : Prop := ((v1 ≤ x4 → K x2) ∧ (¬ (v1 ≤ x4) → (∃ n, nz_it (fun _ _ _ => False) (S_X3_widestPair_20 ef0 v1 x4 R8 K) n x2 x3 (x4 + 1))))
set_option maxHeartbeats 4000000 in
set_option maxRecDepth 100000 in
theorem t_X3_widestPair_8 {y : nz_Y} {g : nz_G} (F : nz_F y g cX3_widestPair 6 wsX3_widestPair RX3 (some .int) rm_X3_widestPair) {wc0 : va_W} {sz : Nat} {K : Int32 → Prop} (eo : Nat) (ea0 : Nat) (ef0 : Nat → Int32) (v1 : Int32) (hQ : yz_A y = va_A wc0 sz ∧ yz_Q y = MQ (yz_b y) ((nz_Qi g wc0 (fun r (u : Unit) => K r) (fun u => [(eo, .inr (3, [.ref ea0])), (ea0, .inl (nz_cI g, 36, .inl ef0))])) sz) (yz_a y) (yz_s y) 0 0 (va_A wc0 sz)) : ∀ (n1 : Nat) (x2 : Int32) (x3 : Int32) (x4 : Int32), nz_it (fun _ _ _ => False) (S_X3_widestPair_8 ef0 v1 K) n1 x2 x3 x4 → nz_V y g 0 0 [(eo, .inr (3, [.ref ea0])), (ea0, .inl (nz_cI g, 36, .inl ef0))] 8 [(0, .ref eo), (1, .int v1), (2, .int x2), (3, .int x3), (4, .int x4)] [] := by
  intro n1
  induction n1 with
  | zero =>
    intro x2 x3 x4 h
    exact h.elim
  | succ n1 hR8 =>
    intro x2 x3 x4 h
    have h : S_X3_widestPair_8 ef0 v1 K (nz_it (fun _ _ _ => False) (S_X3_widestPair_8 ef0 v1 K) n1) x2 x3 x4 := h
    unfold S_X3_widestPair_8 at h
    refine nz_iload F dX3_widestPair_8 4 rfl ?_
    refine nz_iload_n F dX3_widestPair_10 rfl 1 rfl ?_
    refine nz_icmp_ge (tgt := 86) F dX3_widestPair_11 (by decide) (fun c1 => ?_) (fun c1 => ?_)
    · have h := h.1 c1
      refine nz_iload_n F dX3_widestPair_86 rfl 2 rfl ?_
      exact nz_iret F hQ () h rfl dX3_widestPair_87
    · have h := h.2 c1
      refine nz_iload F dX3_widestPair_14 4 rfl ?_
      refine nz_iconst (v := 1) F dX3_widestPair_16 (by decide) ?_
      refine nz_iadd F dX3_widestPair_17 ?_
      refine nz_istore (lv' := [(5, .int (x4 + 1)), (0, .ref eo), (1, .int v1), (2, .int x2), (3, .int x3), (4, .int x4)]) F dX3_widestPair_18 (by decide) rfl ?_
      refine nz_ls (lv' := [(0, .ref eo), (1, .int v1), (2, .int x2), (3, .int x3), (4, .int x4), (5, .int (x4 + 1))]) [1, 2, 3, 4, 5, 0] rfl ?_
      obtain ⟨n1, h⟩ := h
      exact t_X3_widestPair_20 F eo ea0 ef0 v1 x4 hQ hR8 n1 x2 x3 (x4 + 1) h
def wp_X3_widestPair (ef0 : Nat → Int32) (v1 : Int32) (K : Int32 → Prop) : Prop := (∃ n, nz_it (fun _ _ _ => False) (S_X3_widestPair_8 ef0 v1 K) n (-1000000 : Int32) (-1 : Int32) 0)
set_option maxHeartbeats 4000000 in
set_option maxRecDepth 100000 in
theorem c_X3_widestPair (l : Launch) (g : nz_G) (eo : Nat) (ea0 : Nat) (ef0 : Nat → Int32) (v1 : Int32) (K : Int32 → Prop) (h : wp_X3_widestPair ef0 v1 K) : nz_M l yX3_widestPair wsX3_widestPair rm_X3_widestPair g [.ref eo, .int v1] [(eo, .inr (3, [.ref ea0])), (ea0, .inl (nz_cI g, 36, .inl ef0))] (nz_Qi g [(eo, .inr (3, [.ref ea0])), (ea0, .inl (nz_cI g, 36, .inl ef0))] (fun r (u : Unit) => K r) (fun u => [(eo, .inr (3, [.ref ea0])), (ea0, .inl (nz_cI g, 36, .inl ef0))])) := by
  refine nz_M.of (bytes := cX3_widestPair) (nL := 6) (ret := (some .int)) (own := RX3) (by decide) rfl rfl ⟨rfl, rfl⟩ rfl ?_
  intro y F hl hQ
  obtain ⟨sz, hQ⟩ := hQ
  refine nz_ent (lv' := [(0, .ref eo), (1, .int v1)]) rfl ?_
  unfold wp_X3_widestPair at h
  refine nz_ldc (v := (-1000000 : Int32)) F wd_X3_widestPair_c51 dX3_widestPair_0 ?_
  refine nz_istore_n (lv' := [(2, .int (-1000000 : Int32)), (0, .ref eo), (1, .int v1)]) F dX3_widestPair_2 rfl (by decide) rfl ?_
  refine nz_iconst (v := (-1 : Int32)) F dX3_widestPair_3 (by decide) ?_
  refine nz_istore_n (lv' := [(3, .int (-1 : Int32)), (2, .int (-1000000 : Int32)), (0, .ref eo), (1, .int v1)]) F dX3_widestPair_4 rfl (by decide) rfl ?_
  refine nz_iconst (v := 0) F dX3_widestPair_5 (by decide) ?_
  refine nz_istore (lv' := [(4, .int 0), (3, .int (-1 : Int32)), (2, .int (-1000000 : Int32)), (0, .ref eo), (1, .int v1)]) F dX3_widestPair_6 (by decide) rfl ?_
  refine nz_ls (lv' := [(0, .ref eo), (1, .int v1), (2, .int (-1000000 : Int32)), (3, .int (-1 : Int32)), (4, .int 0)]) [3, 4, 2, 1, 0] rfl ?_
  obtain ⟨n1, h⟩ := h
  exact t_X3_widestPair_8 F eo ea0 ef0 v1 hQ n1 (-1000000 : Int32) (-1 : Int32) 0 h
theorem k_X3_widestPair {y : nz_Y} {g : nz_G} {k n : Nat} {ws : va_W} {pc : Nat} {ls : List (Nat × Value)} {st rest : List Value} {av : Array Value} {isC : List Nat} {K : Int32 → Prop} (eo : Nat) (ea0 : Nat) (ef0 : Nat → Int32) (v1 : Int32) (run : nz_M (yz_l y) yX3_widestPair wsX3_widestPair rm_X3_widestPair g [.ref eo, .int v1] [(eo, .inr (3, [.ref ea0])), (ea0, .inl (nz_cI g, 36, .inl ef0))] (nz_Qi g [(eo, .inr (3, [.ref ea0])), (ea0, .inl (nz_cI g, 36, .inl ef0))] (fun r (u : Unit) => K r) (fun u => [(eo, .inr (3, [.ref ea0])), (ea0, .inl (nz_cI g, 36, .inl ef0))])) → nz_C y g k n ws pc ls st rest [(eo, .inr (3, [.ref ea0])), (ea0, .inl (nz_cI g, 36, .inl ef0))] (nz_Qi g [(eo, .inr (3, [.ref ea0])), (ea0, .inl (nz_cI g, 36, .inl ef0))] (fun r (u : Unit) => K r) (fun u => [(eo, .inr (3, [.ref ea0])), (ea0, .inl (nz_cI g, 36, .inl ef0))])) av isC) (h : wp_X3_widestPair ef0 v1 K) (ws' : va_W) (hm : nz_mrg ws isC [(eo, .inr (3, [.ref ea0])), (ea0, .inl (nz_cI g, 36, .inl ef0))] = ws' ) (kk : ∀ (r : Int32), K r → nz_V y g k n ws' (pc + 3) ls (.int r :: rest)) : nz_V y g k n ws pc ls st :=
  nz_ci (ws' := fun _ => ws') (run (c_X3_widestPair (yz_l y) g eo ea0 ef0 v1 K h)) (fun _ => rfl) (fun _ => hm) (fun r u h => kk r h)
theorem dX3_bindByRoad_0 : decode cX3_bindByRoad 0 = .ok (.iconst 0, 1) := by decide +kernel
theorem dX3_bindByRoad_1 : decode cX3_bindByRoad 1 = .ok (.istore_n 2, 1) := by decide +kernel
theorem dX3_bindByRoad_2 : decode cX3_bindByRoad 2 = .ok (.iload_n 2, 1) := by decide +kernel
theorem dX3_bindByRoad_3 : decode cX3_bindByRoad 3 = .ok (.aload_n 1, 1) := by decide +kernel
theorem dX3_bindByRoad_4 : decode cX3_bindByRoad 4 = .ok (.getfield 24, 3) := by decide +kernel
theorem dX3_bindByRoad_7 : decode cX3_bindByRoad 7 = .ok (.if_icmp .ge 51, 3) := by decide +kernel
theorem dX3_bindByRoad_10 : decode cX3_bindByRoad 10 = .ok (.iconst 0, 1) := by decide +kernel
theorem dX3_bindByRoad_11 : decode cX3_bindByRoad 11 = .ok (.istore_n 3, 1) := by decide +kernel
theorem dX3_bindByRoad_12 : decode cX3_bindByRoad 12 = .ok (.iload_n 3, 1) := by decide +kernel
theorem dX3_bindByRoad_13 : decode cX3_bindByRoad 13 = .ok (.aload_n 1, 1) := by decide +kernel
theorem dX3_bindByRoad_14 : decode cX3_bindByRoad 14 = .ok (.getfield 24, 3) := by decide +kernel
theorem dX3_bindByRoad_17 : decode cX3_bindByRoad 17 = .ok (.if_icmp .ge 35, 3) := by decide +kernel
theorem dX3_bindByRoad_20 : decode cX3_bindByRoad 20 = .ok (.aload_n 0, 1) := by decide +kernel
theorem dX3_bindByRoad_21 : decode cX3_bindByRoad 21 = .ok (.getfield 13, 3) := by decide +kernel
theorem dX3_bindByRoad_24 : decode cX3_bindByRoad 24 = .ok (.iload_n 2, 1) := by decide +kernel
theorem dX3_bindByRoad_25 : decode cX3_bindByRoad 25 = .ok (.bipush 6, 2) := by decide +kernel
theorem dX3_bindByRoad_27 : decode cX3_bindByRoad 27 = .ok (.imul, 1) := by decide +kernel
theorem dX3_bindByRoad_28 : decode cX3_bindByRoad 28 = .ok (.iload_n 3, 1) := by decide +kernel
theorem dX3_bindByRoad_29 : decode cX3_bindByRoad 29 = .ok (.iadd, 1) := by decide +kernel
theorem dX3_bindByRoad_30 : decode cX3_bindByRoad 30 = .ok (.iload_n 2, 1) := by decide +kernel
theorem dX3_bindByRoad_31 : decode cX3_bindByRoad 31 = .ok (.iload_n 3, 1) := by decide +kernel
theorem dX3_bindByRoad_32 : decode cX3_bindByRoad 32 = .ok (.if_icmp .ge 10, 3) := by decide +kernel
theorem dX3_bindByRoad_35 : decode cX3_bindByRoad 35 = .ok (.aload_n 1, 1) := by decide +kernel
theorem dX3_bindByRoad_36 : decode cX3_bindByRoad 36 = .ok (.getfield 32, 3) := by decide +kernel
theorem dX3_bindByRoad_39 : decode cX3_bindByRoad 39 = .ok (.goto 6, 3) := by decide +kernel
theorem dX3_bindByRoad_42 : decode cX3_bindByRoad 42 = .ok (.iload_n 3, 1) := by decide +kernel
theorem dX3_bindByRoad_43 : decode cX3_bindByRoad 43 = .ok (.iload_n 2, 1) := by decide +kernel
theorem dX3_bindByRoad_44 : decode cX3_bindByRoad 44 = .ok (.isub, 1) := by decide +kernel
theorem dX3_bindByRoad_45 : decode cX3_bindByRoad 45 = .ok (.iastore, 1) := by decide +kernel
theorem dX3_bindByRoad_46 : decode cX3_bindByRoad 46 = .ok (.iinc 3 1, 3) := by decide +kernel
theorem dX3_bindByRoad_49 : decode cX3_bindByRoad 49 = .ok (.goto (-37), 3) := by decide +kernel
theorem dX3_bindByRoad_52 : decode cX3_bindByRoad 52 = .ok (.iinc 2 1, 3) := by decide +kernel
theorem dX3_bindByRoad_55 : decode cX3_bindByRoad 55 = .ok (.goto (-53), 3) := by decide +kernel
theorem dX3_bindByRoad_58 : decode cX3_bindByRoad 58 = .ok (.return_, 1) := by decide +kernel
/-! X3_bindByRoad -/
abbrev rm_X3_bindByRoad : Room := { frames := 0, cells := 0, slots := 0, locals := 0 }
theorem iw_X3_bindByRoad_5 : ∀ w ∈ wsX50, w ∈ wsX3_bindByRoad := fun _ h => List.mem_cons_of_mem _ (List.mem_append_left _ (List.mem_append_right _ h))
theorem iw_X3_bindByRoad_3 : ∀ w ∈ wsX30, w ∈ wsX3_bindByRoad := fun _ h => List.mem_cons_of_mem _ (List.mem_append_right _ h)
theorem fn_X3_bindByRoad_24 : Cond.fieldLinkNest RX3 24 "NightStones$Road" "stones" "I" RX7 ∈ nz_nest := List.mem_of_getElem? (i := 17) rfl
theorem fl_X3_bindByRoad_13 : Cond.fieldLink RX3 13 "NightStones$Lengths" "bounds" "[I" ∈ wsX3_bindByRoad := List.mem_of_getElem? (i := 1) rfl
theorem fn_X3_bindByRoad_32 : Cond.fieldLinkNest RX3 32 "NightStones$Road" "length" "I" RX7 ∈ nz_nest := List.mem_of_getElem? (i := 5) rfl
def S_X3_bindByRoad_12 (r1 : Int32) (r6 : Int32) (x2 : Int32) (R2 : Int32 → (Nat → Int32) → Prop) (K : (Nat → Int32) → Prop) (R12 : Int32 → (Nat → Int32) → Prop) (x3 : Int32) (ef0 : Nat → Int32) : Prop := ((r6 ≤ x3 → R2 (x2 + 1) ef0) ∧ (¬ (r6 ≤ x3) → ((x3 ≤ x2 → (vp_in ((x2 * 6) + x3) 36 ∧ R12 (x3 + 1) (upd ef0 ((x2 * 6) + x3).toNatClampNeg (x3 - x2)))) ∧ (¬ (x3 ≤ x2) → (vp_in ((x2 * 6) + x3) 36 ∧ R12 (x3 + 1) (upd ef0 ((x2 * 6) + x3).toNatClampNeg r1))))))
set_option maxHeartbeats 4000000 in
set_option maxRecDepth 100000 in
theorem t_X3_bindByRoad_12 {y : nz_Y} {g : nz_G} (F : nz_F y g cX3_bindByRoad 4 wsX3_bindByRoad RX3 none rm_X3_bindByRoad) {wc0 : va_W} {sz : Nat} {K : (Nat → Int32) → Prop} {R2 : Int32 → (Nat → Int32) → Prop} (eo : Nat) (ea0 : Nat) (o : Nat) (a9 : Nat) (a10 : Nat) (a11 : Nat) (a12 : Nat) (a13 : Nat) (a14 : Nat) (a15 : Nat) (a16 : Nat) (r0 : Int32) (r1 : Int32) (r2 : Int32) (r3 : Int32) (r4 : Int32) (r5 : Int32) (r6 : Int32) (r7 : Int32) (r8 : Int32) (f9 : Nat → Int32) (f10 : Nat → Int32) (f11 : Nat → Int32) (f12 : Nat → Int32) (f13 : Nat → Int32) (f14 : Nat → Int32) (f15 : Nat → Int32) (f16 : Nat → Int32) (x2 : Int32) (hQ : yz_A y = va_A wc0 sz ∧ yz_Q y = MQ (yz_b y) ((nz_Qv g wc0 (fun (u : (Nat → Int32)) => K u) (fun u => [(eo, .inr (3, [.ref ea0])), (ea0, .inl (nz_cI g, 36, .inl u)), (o, .inr (5, [.int r0, .int r1, .int r2, .int r3, .int r4, .int r5, .int r6, .int r7, .int r8, .ref a9, .ref a10, .ref a11, .ref a12, .ref a13, .ref a14, .ref a15, .ref a16])), (a9, .inl (nz_cI g, 6, .inl f9)), (a10, .inl (nz_cI g, 6, .inl f10)), (a11, .inl (nz_cI g, 6, .inl f11)), (a12, .inl (nz_cI g, 5, .inl f12)), (a13, .inl (nz_cI g, 5, .inl f13)), (a14, .inl (nz_cI g, 5, .inl f14)), (a15, .inl (nz_cI g, 5, .inl f15)), (a16, .inl (nz_cI g, 48, .inl f16))])) sz) (yz_a y) (yz_s y) 0 0 (va_A wc0 sz)) (hR2 : ∀ (x2 : Int32) (ef0 : Nat → Int32), R2 x2 ef0 → nz_V y g 0 0 [(eo, .inr (3, [.ref ea0])), (ea0, .inl (nz_cI g, 36, .inl ef0)), (o, .inr (5, [.int r0, .int r1, .int r2, .int r3, .int r4, .int r5, .int r6, .int r7, .int r8, .ref a9, .ref a10, .ref a11, .ref a12, .ref a13, .ref a14, .ref a15, .ref a16])), (a9, .inl (nz_cI g, 6, .inl f9)), (a10, .inl (nz_cI g, 6, .inl f10)), (a11, .inl (nz_cI g, 6, .inl f11)), (a12, .inl (nz_cI g, 5, .inl f12)), (a13, .inl (nz_cI g, 5, .inl f13)), (a14, .inl (nz_cI g, 5, .inl f14)), (a15, .inl (nz_cI g, 5, .inl f15)), (a16, .inl (nz_cI g, 48, .inl f16))] 2 [(0, .ref eo), (1, .ref o), (2, .int x2)] []) : ∀ (n1 : Nat) (x3 : Int32) (ef0 : Nat → Int32), nz_it (fun _ _ => False) (S_X3_bindByRoad_12 r1 r6 x2 R2 K) n1 x3 ef0 → nz_V y g 0 0 [(eo, .inr (3, [.ref ea0])), (ea0, .inl (nz_cI g, 36, .inl ef0)), (o, .inr (5, [.int r0, .int r1, .int r2, .int r3, .int r4, .int r5, .int r6, .int r7, .int r8, .ref a9, .ref a10, .ref a11, .ref a12, .ref a13, .ref a14, .ref a15, .ref a16])), (a9, .inl (nz_cI g, 6, .inl f9)), (a10, .inl (nz_cI g, 6, .inl f10)), (a11, .inl (nz_cI g, 6, .inl f11)), (a12, .inl (nz_cI g, 5, .inl f12)), (a13, .inl (nz_cI g, 5, .inl f13)), (a14, .inl (nz_cI g, 5, .inl f14)), (a15, .inl (nz_cI g, 5, .inl f15)), (a16, .inl (nz_cI g, 48, .inl f16))] 12 [(0, .ref eo), (1, .ref o), (2, .int x2), (3, .int x3)] [] := by
  intro n1
  induction n1 with
  | zero =>
    intro x3 ef0 h
    exact h.elim
  | succ n1 hR12 =>
    intro x3 ef0 h
    have h : S_X3_bindByRoad_12 r1 r6 x2 R2 K (nz_it (fun _ _ => False) (S_X3_bindByRoad_12 r1 r6 x2 R2 K) n1) x3 ef0 := h
    unfold S_X3_bindByRoad_12 at h
    refine nz_iload_n F dX3_bindByRoad_12 rfl 3 rfl ?_
    refine nz_aload_n F dX3_bindByRoad_13 rfl 1 rfl ?_
    refine nz_getN F iw_X3_bindByRoad_5 2 rfl rfl 6 (by decide) rfl fn_X3_bindByRoad_24 rfl dX3_bindByRoad_14 ?_
    refine nz_icmp_ge (tgt := 52) F dX3_bindByRoad_17 (by decide) (fun c2 => ?_) (fun c2 => ?_)
    · have h := h.1 c2
      refine nz_iinc (v := (x2 + 1)) (j := 2) (lv' := [(2, .int (x2 + 1)), (0, .ref eo), (1, .ref o), (3, .int x3)]) F dX3_bindByRoad_52 rfl rfl (by decide) rfl ?_
      refine nz_goto (tgt := 2) F dX3_bindByRoad_55 (by decide) ?_
      refine nz_ls (lv' := [(0, .ref eo), (1, .ref o), (2, .int (x2 + 1))]) [1, 2, 0] rfl ?_
      exact hR2 (x2 + 1) ef0 h
    · have h := h.2 c2
      refine nz_aload_n F dX3_bindByRoad_20 rfl 0 rfl ?_
      refine nz_get F iw_X3_bindByRoad_3 0 rfl rfl 0 (by decide) rfl fl_X3_bindByRoad_13 rfl dX3_bindByRoad_21 ?_
      refine nz_iload_n F dX3_bindByRoad_24 rfl 2 rfl ?_
      refine nz_bipush (v := 6) F dX3_bindByRoad_25 (by decide) ?_
      refine nz_imul F dX3_bindByRoad_27 ?_
      refine nz_iload_n F dX3_bindByRoad_28 rfl 3 rfl ?_
      refine nz_iadd F dX3_bindByRoad_29 ?_
      refine nz_iload_n F dX3_bindByRoad_30 rfl 2 rfl ?_
      refine nz_iload_n F dX3_bindByRoad_31 rfl 3 rfl ?_
      refine nz_icmp_ge (tgt := 42) F dX3_bindByRoad_32 (by decide) (fun c3 => ?_) (fun c3 => ?_)
      · have h := h.1 c3
        refine nz_iload_n F dX3_bindByRoad_42 rfl 3 rfl ?_
        refine nz_iload_n F dX3_bindByRoad_43 rfl 2 rfl ?_
        refine nz_isub F dX3_bindByRoad_44 ?_
        obtain ⟨i4, h⟩ := h
        refine nz_iast (ws' := [(eo, .inr (3, [.ref ea0])), (ea0, .inl (nz_cI g, 36, .inl (upd ef0 ((x2 * 6) + x3).toNatClampNeg (x3 - x2)))), (o, .inr (5, [.int r0, .int r1, .int r2, .int r3, .int r4, .int r5, .int r6, .int r7, .int r8, .ref a9, .ref a10, .ref a11, .ref a12, .ref a13, .ref a14, .ref a15, .ref a16])), (a9, .inl (nz_cI g, 6, .inl f9)), (a10, .inl (nz_cI g, 6, .inl f10)), (a11, .inl (nz_cI g, 6, .inl f11)), (a12, .inl (nz_cI g, 5, .inl f12)), (a13, .inl (nz_cI g, 5, .inl f13)), (a14, .inl (nz_cI g, 5, .inl f14)), (a15, .inl (nz_cI g, 5, .inl f15)), (a16, .inl (nz_cI g, 48, .inl f16))]) F 1 rfl i4 dX3_bindByRoad_45 rfl ?_
        refine nz_iinc (v := (x3 + 1)) (j := 3) (lv' := [(3, .int (x3 + 1)), (0, .ref eo), (1, .ref o), (2, .int x2)]) F dX3_bindByRoad_46 rfl rfl (by decide) rfl ?_
        refine nz_goto (tgt := 12) F dX3_bindByRoad_49 (by decide) ?_
        refine nz_ls (lv' := [(0, .ref eo), (1, .ref o), (2, .int x2), (3, .int (x3 + 1))]) [1, 2, 3, 0] rfl ?_
        exact hR12 (x3 + 1) (upd ef0 ((x2 * 6) + x3).toNatClampNeg (x3 - x2)) h
      · have h := h.2 c3
        refine nz_aload_n F dX3_bindByRoad_35 rfl 1 rfl ?_
        refine nz_getN F iw_X3_bindByRoad_5 2 rfl rfl 1 (by decide) rfl fn_X3_bindByRoad_32 rfl dX3_bindByRoad_36 ?_
        refine nz_goto (tgt := 45) F dX3_bindByRoad_39 (by decide) ?_
        obtain ⟨i5, h⟩ := h
        refine nz_iast (ws' := [(eo, .inr (3, [.ref ea0])), (ea0, .inl (nz_cI g, 36, .inl (upd ef0 ((x2 * 6) + x3).toNatClampNeg r1))), (o, .inr (5, [.int r0, .int r1, .int r2, .int r3, .int r4, .int r5, .int r6, .int r7, .int r8, .ref a9, .ref a10, .ref a11, .ref a12, .ref a13, .ref a14, .ref a15, .ref a16])), (a9, .inl (nz_cI g, 6, .inl f9)), (a10, .inl (nz_cI g, 6, .inl f10)), (a11, .inl (nz_cI g, 6, .inl f11)), (a12, .inl (nz_cI g, 5, .inl f12)), (a13, .inl (nz_cI g, 5, .inl f13)), (a14, .inl (nz_cI g, 5, .inl f14)), (a15, .inl (nz_cI g, 5, .inl f15)), (a16, .inl (nz_cI g, 48, .inl f16))]) F 1 rfl i5 dX3_bindByRoad_45 rfl ?_
        refine nz_iinc (v := (x3 + 1)) (j := 3) (lv' := [(3, .int (x3 + 1)), (0, .ref eo), (1, .ref o), (2, .int x2)]) F dX3_bindByRoad_46 rfl rfl (by decide) rfl ?_
        refine nz_goto (tgt := 12) F dX3_bindByRoad_49 (by decide) ?_
        refine nz_ls (lv' := [(0, .ref eo), (1, .ref o), (2, .int x2), (3, .int (x3 + 1))]) [1, 2, 3, 0] rfl ?_
        exact hR12 (x3 + 1) (upd ef0 ((x2 * 6) + x3).toNatClampNeg r1) h
def S_X3_bindByRoad_2 (r1 : Int32) (r6 : Int32) (K : (Nat → Int32) → Prop) (R2 : Int32 → (Nat → Int32) → Prop) (x2 : Int32) (ef0 : Nat → Int32) : Prop := ((r6 ≤ x2 → K ef0) ∧ (¬ (r6 ≤ x2) → (∃ n, nz_it (fun _ _ => False) (S_X3_bindByRoad_12 r1 r6 x2 R2 K) n 0 ef0)))
set_option maxHeartbeats 4000000 in
set_option maxRecDepth 100000 in
theorem t_X3_bindByRoad_2 {y : nz_Y} {g : nz_G} (F : nz_F y g cX3_bindByRoad 4 wsX3_bindByRoad RX3 none rm_X3_bindByRoad) {wc0 : va_W} {sz : Nat} {K : (Nat → Int32) → Prop} (eo : Nat) (ea0 : Nat) (o : Nat) (a9 : Nat) (a10 : Nat) (a11 : Nat) (a12 : Nat) (a13 : Nat) (a14 : Nat) (a15 : Nat) (a16 : Nat) (r0 : Int32) (r1 : Int32) (r2 : Int32) (r3 : Int32) (r4 : Int32) (r5 : Int32) (r6 : Int32) (r7 : Int32) (r8 : Int32) (f9 : Nat → Int32) (f10 : Nat → Int32) (f11 : Nat → Int32) (f12 : Nat → Int32) (f13 : Nat → Int32) (f14 : Nat → Int32) (f15 : Nat → Int32) (f16 : Nat → Int32) (hQ : yz_A y = va_A wc0 sz ∧ yz_Q y = MQ (yz_b y) ((nz_Qv g wc0 (fun (u : (Nat → Int32)) => K u) (fun u => [(eo, .inr (3, [.ref ea0])), (ea0, .inl (nz_cI g, 36, .inl u)), (o, .inr (5, [.int r0, .int r1, .int r2, .int r3, .int r4, .int r5, .int r6, .int r7, .int r8, .ref a9, .ref a10, .ref a11, .ref a12, .ref a13, .ref a14, .ref a15, .ref a16])), (a9, .inl (nz_cI g, 6, .inl f9)), (a10, .inl (nz_cI g, 6, .inl f10)), (a11, .inl (nz_cI g, 6, .inl f11)), (a12, .inl (nz_cI g, 5, .inl f12)), (a13, .inl (nz_cI g, 5, .inl f13)), (a14, .inl (nz_cI g, 5, .inl f14)), (a15, .inl (nz_cI g, 5, .inl f15)), (a16, .inl (nz_cI g, 48, .inl f16))])) sz) (yz_a y) (yz_s y) 0 0 (va_A wc0 sz)) : ∀ (n1 : Nat) (x2 : Int32) (ef0 : Nat → Int32), nz_it (fun _ _ => False) (S_X3_bindByRoad_2 r1 r6 K) n1 x2 ef0 → nz_V y g 0 0 [(eo, .inr (3, [.ref ea0])), (ea0, .inl (nz_cI g, 36, .inl ef0)), (o, .inr (5, [.int r0, .int r1, .int r2, .int r3, .int r4, .int r5, .int r6, .int r7, .int r8, .ref a9, .ref a10, .ref a11, .ref a12, .ref a13, .ref a14, .ref a15, .ref a16])), (a9, .inl (nz_cI g, 6, .inl f9)), (a10, .inl (nz_cI g, 6, .inl f10)), (a11, .inl (nz_cI g, 6, .inl f11)), (a12, .inl (nz_cI g, 5, .inl f12)), (a13, .inl (nz_cI g, 5, .inl f13)), (a14, .inl (nz_cI g, 5, .inl f14)), (a15, .inl (nz_cI g, 5, .inl f15)), (a16, .inl (nz_cI g, 48, .inl f16))] 2 [(0, .ref eo), (1, .ref o), (2, .int x2)] [] := by
  intro n1
  induction n1 with
  | zero =>
    intro x2 ef0 h
    exact h.elim
  | succ n1 hR2 =>
    intro x2 ef0 h
    have h : S_X3_bindByRoad_2 r1 r6 K (nz_it (fun _ _ => False) (S_X3_bindByRoad_2 r1 r6 K) n1) x2 ef0 := h
    unfold S_X3_bindByRoad_2 at h
    refine nz_iload_n F dX3_bindByRoad_2 rfl 2 rfl ?_
    refine nz_aload_n F dX3_bindByRoad_3 rfl 1 rfl ?_
    refine nz_getN F iw_X3_bindByRoad_5 2 rfl rfl 6 (by decide) rfl fn_X3_bindByRoad_24 rfl dX3_bindByRoad_4 ?_
    refine nz_icmp_ge (tgt := 58) F dX3_bindByRoad_7 (by decide) (fun c1 => ?_) (fun c1 => ?_)
    · have h := h.1 c1
      exact nz_vret F hQ ef0 h rfl dX3_bindByRoad_58
    · have h := h.2 c1
      refine nz_iconst (v := 0) F dX3_bindByRoad_10 (by decide) ?_
      refine nz_istore_n (lv' := [(3, .int 0), (0, .ref eo), (1, .ref o), (2, .int x2)]) F dX3_bindByRoad_11 rfl (by decide) rfl ?_
      refine nz_ls (lv' := [(0, .ref eo), (1, .ref o), (2, .int x2), (3, .int 0)]) [1, 2, 3, 0] rfl ?_
      obtain ⟨n1, h⟩ := h
      exact t_X3_bindByRoad_12 F eo ea0 o a9 a10 a11 a12 a13 a14 a15 a16 r0 r1 r2 r3 r4 r5 r6 r7 r8 f9 f10 f11 f12 f13 f14 f15 f16 x2 hQ hR2 n1 0 ef0 h
def wp_X3_bindByRoad (ef0 : Nat → Int32) (r1 : Int32) (r6 : Int32) (K : (Nat → Int32) → Prop) : Prop := (∃ n, nz_it (fun _ _ => False) (S_X3_bindByRoad_2 r1 r6 K) n 0 ef0)
set_option maxHeartbeats 4000000 in
set_option maxRecDepth 100000 in
theorem c_X3_bindByRoad (l : Launch) (g : nz_G) (eo : Nat) (ea0 : Nat) (o : Nat) (a9 : Nat) (a10 : Nat) (a11 : Nat) (a12 : Nat) (a13 : Nat) (a14 : Nat) (a15 : Nat) (a16 : Nat) (ef0 : Nat → Int32) (r0 : Int32) (r1 : Int32) (r2 : Int32) (r3 : Int32) (r4 : Int32) (r5 : Int32) (r6 : Int32) (r7 : Int32) (r8 : Int32) (f9 : Nat → Int32) (f10 : Nat → Int32) (f11 : Nat → Int32) (f12 : Nat → Int32) (f13 : Nat → Int32) (f14 : Nat → Int32) (f15 : Nat → Int32) (f16 : Nat → Int32) (K : (Nat → Int32) → Prop) (h : wp_X3_bindByRoad ef0 r1 r6 K) : nz_M l yX3_bindByRoad wsX3_bindByRoad rm_X3_bindByRoad g [.ref eo, .ref o] [(eo, .inr (3, [.ref ea0])), (ea0, .inl (nz_cI g, 36, .inl ef0)), (o, .inr (5, [.int r0, .int r1, .int r2, .int r3, .int r4, .int r5, .int r6, .int r7, .int r8, .ref a9, .ref a10, .ref a11, .ref a12, .ref a13, .ref a14, .ref a15, .ref a16])), (a9, .inl (nz_cI g, 6, .inl f9)), (a10, .inl (nz_cI g, 6, .inl f10)), (a11, .inl (nz_cI g, 6, .inl f11)), (a12, .inl (nz_cI g, 5, .inl f12)), (a13, .inl (nz_cI g, 5, .inl f13)), (a14, .inl (nz_cI g, 5, .inl f14)), (a15, .inl (nz_cI g, 5, .inl f15)), (a16, .inl (nz_cI g, 48, .inl f16))] (nz_Qv g [(eo, .inr (3, [.ref ea0])), (ea0, .inl (nz_cI g, 36, .inl ef0)), (o, .inr (5, [.int r0, .int r1, .int r2, .int r3, .int r4, .int r5, .int r6, .int r7, .int r8, .ref a9, .ref a10, .ref a11, .ref a12, .ref a13, .ref a14, .ref a15, .ref a16])), (a9, .inl (nz_cI g, 6, .inl f9)), (a10, .inl (nz_cI g, 6, .inl f10)), (a11, .inl (nz_cI g, 6, .inl f11)), (a12, .inl (nz_cI g, 5, .inl f12)), (a13, .inl (nz_cI g, 5, .inl f13)), (a14, .inl (nz_cI g, 5, .inl f14)), (a15, .inl (nz_cI g, 5, .inl f15)), (a16, .inl (nz_cI g, 48, .inl f16))] (fun (u : (Nat → Int32)) => K u) (fun u => [(eo, .inr (3, [.ref ea0])), (ea0, .inl (nz_cI g, 36, .inl u)), (o, .inr (5, [.int r0, .int r1, .int r2, .int r3, .int r4, .int r5, .int r6, .int r7, .int r8, .ref a9, .ref a10, .ref a11, .ref a12, .ref a13, .ref a14, .ref a15, .ref a16])), (a9, .inl (nz_cI g, 6, .inl f9)), (a10, .inl (nz_cI g, 6, .inl f10)), (a11, .inl (nz_cI g, 6, .inl f11)), (a12, .inl (nz_cI g, 5, .inl f12)), (a13, .inl (nz_cI g, 5, .inl f13)), (a14, .inl (nz_cI g, 5, .inl f14)), (a15, .inl (nz_cI g, 5, .inl f15)), (a16, .inl (nz_cI g, 48, .inl f16))])) := by
  refine nz_M.of (bytes := cX3_bindByRoad) (nL := 4) (ret := none) (own := RX3) (by decide) rfl rfl ⟨rfl, rfl⟩ rfl ?_
  intro y F hl hQ
  obtain ⟨sz, hQ⟩ := hQ
  refine nz_ent (lv' := [(0, .ref eo), (1, .ref o)]) rfl ?_
  unfold wp_X3_bindByRoad at h
  refine nz_iconst (v := 0) F dX3_bindByRoad_0 (by decide) ?_
  refine nz_istore_n (lv' := [(2, .int 0), (0, .ref eo), (1, .ref o)]) F dX3_bindByRoad_1 rfl (by decide) rfl ?_
  refine nz_ls (lv' := [(0, .ref eo), (1, .ref o), (2, .int 0)]) [1, 2, 0] rfl ?_
  obtain ⟨n1, h⟩ := h
  exact t_X3_bindByRoad_2 F eo ea0 o a9 a10 a11 a12 a13 a14 a15 a16 r0 r1 r2 r3 r4 r5 r6 r7 r8 f9 f10 f11 f12 f13 f14 f15 f16 hQ n1 0 ef0 h
theorem k_X3_bindByRoad {y : nz_Y} {g : nz_G} {k n : Nat} {ws : va_W} {pc : Nat} {ls : List (Nat × Value)} {st rest : List Value} {av : Array Value} {isC : List Nat} {K : (Nat → Int32) → Prop} (eo : Nat) (ea0 : Nat) (o : Nat) (a9 : Nat) (a10 : Nat) (a11 : Nat) (a12 : Nat) (a13 : Nat) (a14 : Nat) (a15 : Nat) (a16 : Nat) (ef0 : Nat → Int32) (r0 : Int32) (r1 : Int32) (r2 : Int32) (r3 : Int32) (r4 : Int32) (r5 : Int32) (r6 : Int32) (r7 : Int32) (r8 : Int32) (f9 : Nat → Int32) (f10 : Nat → Int32) (f11 : Nat → Int32) (f12 : Nat → Int32) (f13 : Nat → Int32) (f14 : Nat → Int32) (f15 : Nat → Int32) (f16 : Nat → Int32) (run : nz_M (yz_l y) yX3_bindByRoad wsX3_bindByRoad rm_X3_bindByRoad g [.ref eo, .ref o] [(eo, .inr (3, [.ref ea0])), (ea0, .inl (nz_cI g, 36, .inl ef0)), (o, .inr (5, [.int r0, .int r1, .int r2, .int r3, .int r4, .int r5, .int r6, .int r7, .int r8, .ref a9, .ref a10, .ref a11, .ref a12, .ref a13, .ref a14, .ref a15, .ref a16])), (a9, .inl (nz_cI g, 6, .inl f9)), (a10, .inl (nz_cI g, 6, .inl f10)), (a11, .inl (nz_cI g, 6, .inl f11)), (a12, .inl (nz_cI g, 5, .inl f12)), (a13, .inl (nz_cI g, 5, .inl f13)), (a14, .inl (nz_cI g, 5, .inl f14)), (a15, .inl (nz_cI g, 5, .inl f15)), (a16, .inl (nz_cI g, 48, .inl f16))] (nz_Qv g [(eo, .inr (3, [.ref ea0])), (ea0, .inl (nz_cI g, 36, .inl ef0)), (o, .inr (5, [.int r0, .int r1, .int r2, .int r3, .int r4, .int r5, .int r6, .int r7, .int r8, .ref a9, .ref a10, .ref a11, .ref a12, .ref a13, .ref a14, .ref a15, .ref a16])), (a9, .inl (nz_cI g, 6, .inl f9)), (a10, .inl (nz_cI g, 6, .inl f10)), (a11, .inl (nz_cI g, 6, .inl f11)), (a12, .inl (nz_cI g, 5, .inl f12)), (a13, .inl (nz_cI g, 5, .inl f13)), (a14, .inl (nz_cI g, 5, .inl f14)), (a15, .inl (nz_cI g, 5, .inl f15)), (a16, .inl (nz_cI g, 48, .inl f16))] (fun (u : (Nat → Int32)) => K u) (fun u => [(eo, .inr (3, [.ref ea0])), (ea0, .inl (nz_cI g, 36, .inl u)), (o, .inr (5, [.int r0, .int r1, .int r2, .int r3, .int r4, .int r5, .int r6, .int r7, .int r8, .ref a9, .ref a10, .ref a11, .ref a12, .ref a13, .ref a14, .ref a15, .ref a16])), (a9, .inl (nz_cI g, 6, .inl f9)), (a10, .inl (nz_cI g, 6, .inl f10)), (a11, .inl (nz_cI g, 6, .inl f11)), (a12, .inl (nz_cI g, 5, .inl f12)), (a13, .inl (nz_cI g, 5, .inl f13)), (a14, .inl (nz_cI g, 5, .inl f14)), (a15, .inl (nz_cI g, 5, .inl f15)), (a16, .inl (nz_cI g, 48, .inl f16))])) → nz_C y g k n ws pc ls st rest [(eo, .inr (3, [.ref ea0])), (ea0, .inl (nz_cI g, 36, .inl ef0)), (o, .inr (5, [.int r0, .int r1, .int r2, .int r3, .int r4, .int r5, .int r6, .int r7, .int r8, .ref a9, .ref a10, .ref a11, .ref a12, .ref a13, .ref a14, .ref a15, .ref a16])), (a9, .inl (nz_cI g, 6, .inl f9)), (a10, .inl (nz_cI g, 6, .inl f10)), (a11, .inl (nz_cI g, 6, .inl f11)), (a12, .inl (nz_cI g, 5, .inl f12)), (a13, .inl (nz_cI g, 5, .inl f13)), (a14, .inl (nz_cI g, 5, .inl f14)), (a15, .inl (nz_cI g, 5, .inl f15)), (a16, .inl (nz_cI g, 48, .inl f16))] (nz_Qv g [(eo, .inr (3, [.ref ea0])), (ea0, .inl (nz_cI g, 36, .inl ef0)), (o, .inr (5, [.int r0, .int r1, .int r2, .int r3, .int r4, .int r5, .int r6, .int r7, .int r8, .ref a9, .ref a10, .ref a11, .ref a12, .ref a13, .ref a14, .ref a15, .ref a16])), (a9, .inl (nz_cI g, 6, .inl f9)), (a10, .inl (nz_cI g, 6, .inl f10)), (a11, .inl (nz_cI g, 6, .inl f11)), (a12, .inl (nz_cI g, 5, .inl f12)), (a13, .inl (nz_cI g, 5, .inl f13)), (a14, .inl (nz_cI g, 5, .inl f14)), (a15, .inl (nz_cI g, 5, .inl f15)), (a16, .inl (nz_cI g, 48, .inl f16))] (fun (u : (Nat → Int32)) => K u) (fun u => [(eo, .inr (3, [.ref ea0])), (ea0, .inl (nz_cI g, 36, .inl u)), (o, .inr (5, [.int r0, .int r1, .int r2, .int r3, .int r4, .int r5, .int r6, .int r7, .int r8, .ref a9, .ref a10, .ref a11, .ref a12, .ref a13, .ref a14, .ref a15, .ref a16])), (a9, .inl (nz_cI g, 6, .inl f9)), (a10, .inl (nz_cI g, 6, .inl f10)), (a11, .inl (nz_cI g, 6, .inl f11)), (a12, .inl (nz_cI g, 5, .inl f12)), (a13, .inl (nz_cI g, 5, .inl f13)), (a14, .inl (nz_cI g, 5, .inl f14)), (a15, .inl (nz_cI g, 5, .inl f15)), (a16, .inl (nz_cI g, 48, .inl f16))])) av isC) (h : wp_X3_bindByRoad ef0 r1 r6 K) (ws' : (Nat → Int32) → va_W) (hm : ∀ (m0 : (Nat → Int32)), nz_mrg ws isC [(eo, .inr (3, [.ref ea0])), (ea0, .inl (nz_cI g, 36, .inl m0)), (o, .inr (5, [.int r0, .int r1, .int r2, .int r3, .int r4, .int r5, .int r6, .int r7, .int r8, .ref a9, .ref a10, .ref a11, .ref a12, .ref a13, .ref a14, .ref a15, .ref a16])), (a9, .inl (nz_cI g, 6, .inl f9)), (a10, .inl (nz_cI g, 6, .inl f10)), (a11, .inl (nz_cI g, 6, .inl f11)), (a12, .inl (nz_cI g, 5, .inl f12)), (a13, .inl (nz_cI g, 5, .inl f13)), (a14, .inl (nz_cI g, 5, .inl f14)), (a15, .inl (nz_cI g, 5, .inl f15)), (a16, .inl (nz_cI g, 48, .inl f16))] = ws' m0) (kk : ∀ (m0 : (Nat → Int32)), K m0 → nz_V y g k n (ws' m0) (pc + 3) ls (rest)) : nz_V y g k n ws pc ls st :=
  nz_cv (ws' := fun u => ws' u) (run (c_X3_bindByRoad (yz_l y) g eo ea0 o a9 a10 a11 a12 a13 a14 a15 a16 ef0 r0 r1 r2 r3 r4 r5 r6 r7 r8 f9 f10 f11 f12 f13 f14 f15 f16 K h)) (fun _ => rfl) (fun u => hm u) (fun u h => kk u h)
theorem dX3_bindByTimes_0 : decode cX3_bindByTimes 0 = .ok (.iconst 0, 1) := by decide +kernel
theorem dX3_bindByTimes_1 : decode cX3_bindByTimes 1 = .ok (.istore_n 2, 1) := by decide +kernel
theorem dX3_bindByTimes_2 : decode cX3_bindByTimes 2 = .ok (.iload_n 2, 1) := by decide +kernel
theorem dX3_bindByTimes_3 : decode cX3_bindByTimes 3 = .ok (.aload_n 1, 1) := by decide +kernel
theorem dX3_bindByTimes_4 : decode cX3_bindByTimes 4 = .ok (.getfield 35, 3) := by decide +kernel
theorem dX3_bindByTimes_7 : decode cX3_bindByTimes 7 = .ok (.if_icmp .ge 82, 3) := by decide +kernel
theorem dX3_bindByTimes_10 : decode cX3_bindByTimes 10 = .ok (.iload_n 2, 1) := by decide +kernel
theorem dX3_bindByTimes_11 : decode cX3_bindByTimes 11 = .ok (.iconst 4, 1) := by decide +kernel
theorem dX3_bindByTimes_12 : decode cX3_bindByTimes 12 = .ok (.imul, 1) := by decide +kernel
theorem dX3_bindByTimes_13 : decode cX3_bindByTimes 13 = .ok (.istore_n 3, 1) := by decide +kernel
theorem dX3_bindByTimes_14 : decode cX3_bindByTimes 14 = .ok (.aload_n 1, 1) := by decide +kernel
theorem dX3_bindByTimes_15 : decode cX3_bindByTimes 15 = .ok (.getfield 38, 3) := by decide +kernel
theorem dX3_bindByTimes_18 : decode cX3_bindByTimes 18 = .ok (.iload_n 3, 1) := by decide +kernel
theorem dX3_bindByTimes_19 : decode cX3_bindByTimes 19 = .ok (.iaload, 1) := by decide +kernel
theorem dX3_bindByTimes_20 : decode cX3_bindByTimes 20 = .ok (.istore 4, 2) := by decide +kernel
theorem dX3_bindByTimes_22 : decode cX3_bindByTimes 22 = .ok (.aload_n 1, 1) := by decide +kernel
theorem dX3_bindByTimes_23 : decode cX3_bindByTimes 23 = .ok (.getfield 38, 3) := by decide +kernel
theorem dX3_bindByTimes_26 : decode cX3_bindByTimes 26 = .ok (.iload_n 3, 1) := by decide +kernel
theorem dX3_bindByTimes_27 : decode cX3_bindByTimes 27 = .ok (.iconst 1, 1) := by decide +kernel
theorem dX3_bindByTimes_28 : decode cX3_bindByTimes 28 = .ok (.iadd, 1) := by decide +kernel
theorem dX3_bindByTimes_29 : decode cX3_bindByTimes 29 = .ok (.iaload, 1) := by decide +kernel
theorem dX3_bindByTimes_30 : decode cX3_bindByTimes 30 = .ok (.istore 5, 2) := by decide +kernel
theorem dX3_bindByTimes_32 : decode cX3_bindByTimes 32 = .ok (.aload_n 1, 1) := by decide +kernel
theorem dX3_bindByTimes_33 : decode cX3_bindByTimes 33 = .ok (.getfield 38, 3) := by decide +kernel
theorem dX3_bindByTimes_36 : decode cX3_bindByTimes 36 = .ok (.iload_n 3, 1) := by decide +kernel
theorem dX3_bindByTimes_37 : decode cX3_bindByTimes 37 = .ok (.iconst 2, 1) := by decide +kernel
theorem dX3_bindByTimes_38 : decode cX3_bindByTimes 38 = .ok (.iadd, 1) := by decide +kernel
theorem dX3_bindByTimes_39 : decode cX3_bindByTimes 39 = .ok (.iaload, 1) := by decide +kernel
theorem dX3_bindByTimes_40 : decode cX3_bindByTimes 40 = .ok (.istore 6, 2) := by decide +kernel
theorem dX3_bindByTimes_42 : decode cX3_bindByTimes 42 = .ok (.aload_n 1, 1) := by decide +kernel
theorem dX3_bindByTimes_43 : decode cX3_bindByTimes 43 = .ok (.getfield 38, 3) := by decide +kernel
theorem dX3_bindByTimes_46 : decode cX3_bindByTimes 46 = .ok (.iload_n 3, 1) := by decide +kernel
theorem dX3_bindByTimes_47 : decode cX3_bindByTimes 47 = .ok (.iconst 3, 1) := by decide +kernel
theorem dX3_bindByTimes_48 : decode cX3_bindByTimes 48 = .ok (.iadd, 1) := by decide +kernel
theorem dX3_bindByTimes_49 : decode cX3_bindByTimes 49 = .ok (.iaload, 1) := by decide +kernel
theorem dX3_bindByTimes_50 : decode cX3_bindByTimes 50 = .ok (.istore 7, 2) := by decide +kernel
theorem dX3_bindByTimes_52 : decode cX3_bindByTimes 52 = .ok (.aload_n 0, 1) := by decide +kernel
theorem dX3_bindByTimes_53 : decode cX3_bindByTimes 53 = .ok (.iload 4, 2) := by decide +kernel
theorem dX3_bindByTimes_55 : decode cX3_bindByTimes 55 = .ok (.iload 5, 2) := by decide +kernel
theorem dX3_bindByTimes_57 : decode cX3_bindByTimes 57 = .ok (.iload 6, 2) := by decide +kernel
theorem dX3_bindByTimes_59 : decode cX3_bindByTimes 59 = .ok (.iload 7, 2) := by decide +kernel
theorem dX3_bindByTimes_61 : decode cX3_bindByTimes 61 = .ok (.iconst 1, 1) := by decide +kernel
theorem dX3_bindByTimes_62 : decode cX3_bindByTimes 62 = .ok (.iadd, 1) := by decide +kernel
theorem dX3_bindByTimes_63 : decode cX3_bindByTimes 63 = .ok (.imul, 1) := by decide +kernel
theorem dX3_bindByTimes_64 : decode cX3_bindByTimes 64 = .ok (.iconst 1, 1) := by decide +kernel
theorem dX3_bindByTimes_65 : decode cX3_bindByTimes 65 = .ok (.isub, 1) := by decide +kernel
theorem dX3_bindByTimes_66 : decode cX3_bindByTimes 66 = .ok (.invokevirtual 41, 3) := by decide +kernel
theorem dX3_bindByTimes_69 : decode cX3_bindByTimes 69 = .ok (.aload_n 0, 1) := by decide +kernel
theorem dX3_bindByTimes_70 : decode cX3_bindByTimes 70 = .ok (.iload 5, 2) := by decide +kernel
theorem dX3_bindByTimes_72 : decode cX3_bindByTimes 72 = .ok (.iload 4, 2) := by decide +kernel
theorem dX3_bindByTimes_74 : decode cX3_bindByTimes 74 = .ok (.iload 6, 2) := by decide +kernel
theorem dX3_bindByTimes_76 : decode cX3_bindByTimes 76 = .ok (.ineg, 1) := by decide +kernel
theorem dX3_bindByTimes_77 : decode cX3_bindByTimes 77 = .ok (.iload 7, 2) := by decide +kernel
theorem dX3_bindByTimes_79 : decode cX3_bindByTimes 79 = .ok (.imul, 1) := by decide +kernel
theorem dX3_bindByTimes_80 : decode cX3_bindByTimes 80 = .ok (.invokevirtual 41, 3) := by decide +kernel
theorem dX3_bindByTimes_83 : decode cX3_bindByTimes 83 = .ok (.iinc 2 1, 3) := by decide +kernel
theorem dX3_bindByTimes_86 : decode cX3_bindByTimes 86 = .ok (.goto (-84), 3) := by decide +kernel
theorem dX3_bindByTimes_89 : decode cX3_bindByTimes 89 = .ok (.return_, 1) := by decide +kernel
set_option maxRecDepth 20000 in
theorem ggX3_bindByTimes_X3_bind : GoodIn wsX3_bindByTimes wsX3_bind := goodIn_r _ [5, 6, 7, 8, 9, 10, 28] rfl (by decide +kernel)
set_option maxRecDepth 20000 in
theorem gX3_bindByTimes_X3_bind : GoodIn wsX3_bindByTimes (wsV RX3 41 RX3 yX3_bind wsX3_bind) := goodIn_app (goodIn_r _ [1, 2, 3, 4] rfl (by decide +kernel)) ggX3_bindByTimes_X3_bind
/-! X3_bindByTimes -/
abbrev rm_X3_bindByTimes : Room := { frames := 2, cells := 0, slots := 0, locals := 44 }
theorem iw_X3_bindByTimes_5 : ∀ w ∈ wsX50, w ∈ wsX3_bindByTimes := fun _ h => List.mem_cons_of_mem _ (List.mem_append_left _ (List.mem_append_right _ h))
theorem fn_X3_bindByTimes_35 : Cond.fieldLinkNest RX3 35 "NightStones$Road" "heard" "I" RX7 ∈ nz_nest := List.mem_of_getElem? (i := 25) rfl
theorem fn_X3_bindByTimes_38 : Cond.fieldLinkNest RX3 38 "NightStones$Road" "heardOf" "[I" RX7 ∈ nz_nest := List.mem_of_getElem? (i := 47) rfl
def S_X3_bindByTimes_2 (r8 : Int32) (f16 : Nat → Int32) (K : (Nat → Int32) → Prop) (R2 : Int32 → (Nat → Int32) → Prop) (x2 : Int32) (ef0 : Nat → Int32) : Prop := ((r8 ≤ x2 → K ef0) ∧ (¬ (r8 ≤ x2) → (vp_in (x2 * 4) 48 ∧ (vp_in ((x2 * 4) + 1) 48 ∧ (vp_in ((x2 * 4) + 2) 48 ∧ (vp_in ((x2 * 4) + 3) 48 ∧ wp_X3_bind ef0 (f16 (x2 * 4).toNatClampNeg) (f16 ((x2 * 4) + 1).toNatClampNeg) (((f16 ((x2 * 4) + 2).toNatClampNeg) * ((f16 ((x2 * 4) + 3).toNatClampNeg) + 1)) - 1) (fun m6 => wp_X3_bind m6 (f16 ((x2 * 4) + 1).toNatClampNeg) (f16 (x2 * 4).toNatClampNeg) ((-(f16 ((x2 * 4) + 2).toNatClampNeg)) * (f16 ((x2 * 4) + 3).toNatClampNeg)) (fun m7 => R2 (x2 + 1) m7))))))))
set_option maxHeartbeats 4000000 in
set_option maxRecDepth 100000 in
theorem t_X3_bindByTimes_2 {y : nz_Y} {g : nz_G} (F : nz_F y g cX3_bindByTimes 8 wsX3_bindByTimes RX3 none rm_X3_bindByTimes) {wc0 : va_W} {sz : Nat} {K : (Nat → Int32) → Prop} (eo : Nat) (ea0 : Nat) (o : Nat) (a9 : Nat) (a10 : Nat) (a11 : Nat) (a12 : Nat) (a13 : Nat) (a14 : Nat) (a15 : Nat) (a16 : Nat) (r0 : Int32) (r1 : Int32) (r2 : Int32) (r3 : Int32) (r4 : Int32) (r5 : Int32) (r6 : Int32) (r7 : Int32) (r8 : Int32) (f9 : Nat → Int32) (f10 : Nat → Int32) (f11 : Nat → Int32) (f12 : Nat → Int32) (f13 : Nat → Int32) (f14 : Nat → Int32) (f15 : Nat → Int32) (f16 : Nat → Int32) (hQ : yz_A y = va_A wc0 sz ∧ yz_Q y = MQ (yz_b y) ((nz_Qv g wc0 (fun (u : (Nat → Int32)) => K u) (fun u => [(eo, .inr (3, [.ref ea0])), (ea0, .inl (nz_cI g, 36, .inl u)), (o, .inr (5, [.int r0, .int r1, .int r2, .int r3, .int r4, .int r5, .int r6, .int r7, .int r8, .ref a9, .ref a10, .ref a11, .ref a12, .ref a13, .ref a14, .ref a15, .ref a16])), (a9, .inl (nz_cI g, 6, .inl f9)), (a10, .inl (nz_cI g, 6, .inl f10)), (a11, .inl (nz_cI g, 6, .inl f11)), (a12, .inl (nz_cI g, 5, .inl f12)), (a13, .inl (nz_cI g, 5, .inl f13)), (a14, .inl (nz_cI g, 5, .inl f14)), (a15, .inl (nz_cI g, 5, .inl f15)), (a16, .inl (nz_cI g, 48, .inl f16))])) sz) (yz_a y) (yz_s y) 0 0 (va_A wc0 sz)) : ∀ (n1 : Nat) (x2 : Int32) (ef0 : Nat → Int32), nz_it (fun _ _ => False) (S_X3_bindByTimes_2 r8 f16 K) n1 x2 ef0 → nz_V y g 0 0 [(eo, .inr (3, [.ref ea0])), (ea0, .inl (nz_cI g, 36, .inl ef0)), (o, .inr (5, [.int r0, .int r1, .int r2, .int r3, .int r4, .int r5, .int r6, .int r7, .int r8, .ref a9, .ref a10, .ref a11, .ref a12, .ref a13, .ref a14, .ref a15, .ref a16])), (a9, .inl (nz_cI g, 6, .inl f9)), (a10, .inl (nz_cI g, 6, .inl f10)), (a11, .inl (nz_cI g, 6, .inl f11)), (a12, .inl (nz_cI g, 5, .inl f12)), (a13, .inl (nz_cI g, 5, .inl f13)), (a14, .inl (nz_cI g, 5, .inl f14)), (a15, .inl (nz_cI g, 5, .inl f15)), (a16, .inl (nz_cI g, 48, .inl f16))] 2 [(0, .ref eo), (1, .ref o), (2, .int x2)] [] := by
  intro n1
  induction n1 with
  | zero =>
    intro x2 ef0 h
    exact h.elim
  | succ n1 hR2 =>
    intro x2 ef0 h
    have h : S_X3_bindByTimes_2 r8 f16 K (nz_it (fun _ _ => False) (S_X3_bindByTimes_2 r8 f16 K) n1) x2 ef0 := h
    unfold S_X3_bindByTimes_2 at h
    refine nz_iload_n F dX3_bindByTimes_2 rfl 2 rfl ?_
    refine nz_aload_n F dX3_bindByTimes_3 rfl 1 rfl ?_
    refine nz_getN F iw_X3_bindByTimes_5 2 rfl rfl 8 (by decide) rfl fn_X3_bindByTimes_35 rfl dX3_bindByTimes_4 ?_
    refine nz_icmp_ge (tgt := 89) F dX3_bindByTimes_7 (by decide) (fun c1 => ?_) (fun c1 => ?_)
    · have h := h.1 c1
      exact nz_vret F hQ ef0 h rfl dX3_bindByTimes_89
    · have h := h.2 c1
      refine nz_iload_n F dX3_bindByTimes_10 rfl 2 rfl ?_
      refine nz_iconst (v := 4) F dX3_bindByTimes_11 (by decide) ?_
      refine nz_imul F dX3_bindByTimes_12 ?_
      refine nz_istore_n (lv' := [(3, .int (x2 * 4)), (0, .ref eo), (1, .ref o), (2, .int x2)]) F dX3_bindByTimes_13 rfl (by decide) rfl ?_
      refine nz_aload_n F dX3_bindByTimes_14 rfl 2 rfl ?_
      refine nz_getN F iw_X3_bindByTimes_5 2 rfl rfl 16 (by decide) rfl fn_X3_bindByTimes_38 rfl dX3_bindByTimes_15 ?_
      refine nz_iload_n F dX3_bindByTimes_18 rfl 0 rfl ?_
      obtain ⟨i2, h⟩ := h
      refine nz_iald F 10 rfl i2 dX3_bindByTimes_19 ?_
      refine nz_istore (lv' := [(4, .int (f16 (x2 * 4).toNatClampNeg)), (3, .int (x2 * 4)), (0, .ref eo), (1, .ref o), (2, .int x2)]) F dX3_bindByTimes_20 (by decide) rfl ?_
      refine nz_aload_n F dX3_bindByTimes_22 rfl 3 rfl ?_
      refine nz_getN F iw_X3_bindByTimes_5 2 rfl rfl 16 (by decide) rfl fn_X3_bindByTimes_38 rfl dX3_bindByTimes_23 ?_
      refine nz_iload_n F dX3_bindByTimes_26 rfl 1 rfl ?_
      refine nz_iconst (v := 1) F dX3_bindByTimes_27 (by decide) ?_
      refine nz_iadd F dX3_bindByTimes_28 ?_
      obtain ⟨i3, h⟩ := h
      refine nz_iald F 10 rfl i3 dX3_bindByTimes_29 ?_
      refine nz_istore (lv' := [(5, .int (f16 ((x2 * 4) + 1).toNatClampNeg)), (4, .int (f16 (x2 * 4).toNatClampNeg)), (3, .int (x2 * 4)), (0, .ref eo), (1, .ref o), (2, .int x2)]) F dX3_bindByTimes_30 (by decide) rfl ?_
      refine nz_aload_n F dX3_bindByTimes_32 rfl 4 rfl ?_
      refine nz_getN F iw_X3_bindByTimes_5 2 rfl rfl 16 (by decide) rfl fn_X3_bindByTimes_38 rfl dX3_bindByTimes_33 ?_
      refine nz_iload_n F dX3_bindByTimes_36 rfl 2 rfl ?_
      refine nz_iconst (v := 2) F dX3_bindByTimes_37 (by decide) ?_
      refine nz_iadd F dX3_bindByTimes_38 ?_
      obtain ⟨i4, h⟩ := h
      refine nz_iald F 10 rfl i4 dX3_bindByTimes_39 ?_
      refine nz_istore (lv' := [(6, .int (f16 ((x2 * 4) + 2).toNatClampNeg)), (5, .int (f16 ((x2 * 4) + 1).toNatClampNeg)), (4, .int (f16 (x2 * 4).toNatClampNeg)), (3, .int (x2 * 4)), (0, .ref eo), (1, .ref o), (2, .int x2)]) F dX3_bindByTimes_40 (by decide) rfl ?_
      refine nz_aload_n F dX3_bindByTimes_42 rfl 5 rfl ?_
      refine nz_getN F iw_X3_bindByTimes_5 2 rfl rfl 16 (by decide) rfl fn_X3_bindByTimes_38 rfl dX3_bindByTimes_43 ?_
      refine nz_iload_n F dX3_bindByTimes_46 rfl 3 rfl ?_
      refine nz_iconst (v := 3) F dX3_bindByTimes_47 (by decide) ?_
      refine nz_iadd F dX3_bindByTimes_48 ?_
      obtain ⟨i5, h⟩ := h
      refine nz_iald F 10 rfl i5 dX3_bindByTimes_49 ?_
      refine nz_istore (lv' := [(7, .int (f16 ((x2 * 4) + 3).toNatClampNeg)), (6, .int (f16 ((x2 * 4) + 2).toNatClampNeg)), (5, .int (f16 ((x2 * 4) + 1).toNatClampNeg)), (4, .int (f16 (x2 * 4).toNatClampNeg)), (3, .int (x2 * 4)), (0, .ref eo), (1, .ref o), (2, .int x2)]) F dX3_bindByTimes_50 (by decide) rfl ?_
      refine nz_aload_n F dX3_bindByTimes_52 rfl 5 rfl ?_
      refine nz_iload F dX3_bindByTimes_53 3 rfl ?_
      refine nz_iload F dX3_bindByTimes_55 2 rfl ?_
      refine nz_iload F dX3_bindByTimes_57 1 rfl ?_
      refine nz_iload F dX3_bindByTimes_59 0 rfl ?_
      refine nz_iconst (v := 1) F dX3_bindByTimes_61 (by decide) ?_
      refine nz_iadd F dX3_bindByTimes_62 ?_
      refine nz_imul F dX3_bindByTimes_63 ?_
      refine nz_iconst (v := 1) F dX3_bindByTimes_64 (by decide) ?_
      refine nz_isub F dX3_bindByTimes_65 ?_
      refine k_X3_bind eo ea0 ef0 (f16 (x2 * 4).toNatClampNeg) (f16 ((x2 * 4) + 1).toNatClampNeg) (((f16 ((x2 * 4) + 2).toNatClampNeg) * ((f16 ((x2 * 4) + 3).toNatClampNeg) + 1)) - 1) (fun hM => nz_runV F gX3_bindByTimes_X3_bind rfl hd_X3_bind rfl hM dX3_bindByTimes_66 [0, 1] rfl rfl 0 rfl rfl rfl (Nat.le_of_ble_eq_true rfl) rfl) h (fun m6 => [(eo, .inr (3, [.ref ea0])), (ea0, .inl (nz_cI g, 36, .inl m6)), (o, .inr (5, [.int r0, .int r1, .int r2, .int r3, .int r4, .int r5, .int r6, .int r7, .int r8, .ref a9, .ref a10, .ref a11, .ref a12, .ref a13, .ref a14, .ref a15, .ref a16])), (a9, .inl (nz_cI g, 6, .inl f9)), (a10, .inl (nz_cI g, 6, .inl f10)), (a11, .inl (nz_cI g, 6, .inl f11)), (a12, .inl (nz_cI g, 5, .inl f12)), (a13, .inl (nz_cI g, 5, .inl f13)), (a14, .inl (nz_cI g, 5, .inl f14)), (a15, .inl (nz_cI g, 5, .inl f15)), (a16, .inl (nz_cI g, 48, .inl f16))]) (fun _ => rfl) (fun m6 h => ?_)
      refine nz_aload_n F dX3_bindByTimes_69 rfl 5 rfl ?_
      refine nz_iload F dX3_bindByTimes_70 2 rfl ?_
      refine nz_iload F dX3_bindByTimes_72 3 rfl ?_
      refine nz_iload F dX3_bindByTimes_74 1 rfl ?_
      refine nz_ineg F dX3_bindByTimes_76 ?_
      refine nz_iload F dX3_bindByTimes_77 0 rfl ?_
      refine nz_imul F dX3_bindByTimes_79 ?_
      refine k_X3_bind eo ea0 m6 (f16 ((x2 * 4) + 1).toNatClampNeg) (f16 (x2 * 4).toNatClampNeg) ((-(f16 ((x2 * 4) + 2).toNatClampNeg)) * (f16 ((x2 * 4) + 3).toNatClampNeg)) (fun hM => nz_runV F gX3_bindByTimes_X3_bind rfl hd_X3_bind rfl hM dX3_bindByTimes_80 [0, 1] rfl rfl 0 rfl rfl rfl (Nat.le_of_ble_eq_true rfl) rfl) h (fun m7 => [(eo, .inr (3, [.ref ea0])), (ea0, .inl (nz_cI g, 36, .inl m7)), (o, .inr (5, [.int r0, .int r1, .int r2, .int r3, .int r4, .int r5, .int r6, .int r7, .int r8, .ref a9, .ref a10, .ref a11, .ref a12, .ref a13, .ref a14, .ref a15, .ref a16])), (a9, .inl (nz_cI g, 6, .inl f9)), (a10, .inl (nz_cI g, 6, .inl f10)), (a11, .inl (nz_cI g, 6, .inl f11)), (a12, .inl (nz_cI g, 5, .inl f12)), (a13, .inl (nz_cI g, 5, .inl f13)), (a14, .inl (nz_cI g, 5, .inl f14)), (a15, .inl (nz_cI g, 5, .inl f15)), (a16, .inl (nz_cI g, 48, .inl f16))]) (fun _ => rfl) (fun m7 h => ?_)
      refine nz_iinc (v := (x2 + 1)) (j := 7) (lv' := [(2, .int (x2 + 1)), (7, .int (f16 ((x2 * 4) + 3).toNatClampNeg)), (6, .int (f16 ((x2 * 4) + 2).toNatClampNeg)), (5, .int (f16 ((x2 * 4) + 1).toNatClampNeg)), (4, .int (f16 (x2 * 4).toNatClampNeg)), (3, .int (x2 * 4)), (0, .ref eo), (1, .ref o)]) F dX3_bindByTimes_83 rfl rfl (by decide) rfl ?_
      refine nz_goto (tgt := 2) F dX3_bindByTimes_86 (by decide) ?_
      refine nz_ls (lv' := [(0, .ref eo), (1, .ref o), (2, .int (x2 + 1))]) [6, 7, 0] rfl ?_
      exact hR2 (x2 + 1) m7 h
def wp_X3_bindByTimes (ef0 : Nat → Int32) (r8 : Int32) (f16 : Nat → Int32) (K : (Nat → Int32) → Prop) : Prop := (∃ n, nz_it (fun _ _ => False) (S_X3_bindByTimes_2 r8 f16 K) n 0 ef0)
set_option maxHeartbeats 4000000 in
set_option maxRecDepth 100000 in
theorem c_X3_bindByTimes (l : Launch) (g : nz_G) (eo : Nat) (ea0 : Nat) (o : Nat) (a9 : Nat) (a10 : Nat) (a11 : Nat) (a12 : Nat) (a13 : Nat) (a14 : Nat) (a15 : Nat) (a16 : Nat) (ef0 : Nat → Int32) (r0 : Int32) (r1 : Int32) (r2 : Int32) (r3 : Int32) (r4 : Int32) (r5 : Int32) (r6 : Int32) (r7 : Int32) (r8 : Int32) (f9 : Nat → Int32) (f10 : Nat → Int32) (f11 : Nat → Int32) (f12 : Nat → Int32) (f13 : Nat → Int32) (f14 : Nat → Int32) (f15 : Nat → Int32) (f16 : Nat → Int32) (K : (Nat → Int32) → Prop) (h : wp_X3_bindByTimes ef0 r8 f16 K) : nz_M l yX3_bindByTimes wsX3_bindByTimes rm_X3_bindByTimes g [.ref eo, .ref o] [(eo, .inr (3, [.ref ea0])), (ea0, .inl (nz_cI g, 36, .inl ef0)), (o, .inr (5, [.int r0, .int r1, .int r2, .int r3, .int r4, .int r5, .int r6, .int r7, .int r8, .ref a9, .ref a10, .ref a11, .ref a12, .ref a13, .ref a14, .ref a15, .ref a16])), (a9, .inl (nz_cI g, 6, .inl f9)), (a10, .inl (nz_cI g, 6, .inl f10)), (a11, .inl (nz_cI g, 6, .inl f11)), (a12, .inl (nz_cI g, 5, .inl f12)), (a13, .inl (nz_cI g, 5, .inl f13)), (a14, .inl (nz_cI g, 5, .inl f14)), (a15, .inl (nz_cI g, 5, .inl f15)), (a16, .inl (nz_cI g, 48, .inl f16))] (nz_Qv g [(eo, .inr (3, [.ref ea0])), (ea0, .inl (nz_cI g, 36, .inl ef0)), (o, .inr (5, [.int r0, .int r1, .int r2, .int r3, .int r4, .int r5, .int r6, .int r7, .int r8, .ref a9, .ref a10, .ref a11, .ref a12, .ref a13, .ref a14, .ref a15, .ref a16])), (a9, .inl (nz_cI g, 6, .inl f9)), (a10, .inl (nz_cI g, 6, .inl f10)), (a11, .inl (nz_cI g, 6, .inl f11)), (a12, .inl (nz_cI g, 5, .inl f12)), (a13, .inl (nz_cI g, 5, .inl f13)), (a14, .inl (nz_cI g, 5, .inl f14)), (a15, .inl (nz_cI g, 5, .inl f15)), (a16, .inl (nz_cI g, 48, .inl f16))] (fun (u : (Nat → Int32)) => K u) (fun u => [(eo, .inr (3, [.ref ea0])), (ea0, .inl (nz_cI g, 36, .inl u)), (o, .inr (5, [.int r0, .int r1, .int r2, .int r3, .int r4, .int r5, .int r6, .int r7, .int r8, .ref a9, .ref a10, .ref a11, .ref a12, .ref a13, .ref a14, .ref a15, .ref a16])), (a9, .inl (nz_cI g, 6, .inl f9)), (a10, .inl (nz_cI g, 6, .inl f10)), (a11, .inl (nz_cI g, 6, .inl f11)), (a12, .inl (nz_cI g, 5, .inl f12)), (a13, .inl (nz_cI g, 5, .inl f13)), (a14, .inl (nz_cI g, 5, .inl f14)), (a15, .inl (nz_cI g, 5, .inl f15)), (a16, .inl (nz_cI g, 48, .inl f16))])) := by
  refine nz_M.of (bytes := cX3_bindByTimes) (nL := 8) (ret := none) (own := RX3) (by decide) rfl rfl ⟨rfl, rfl⟩ rfl ?_
  intro y F hl hQ
  obtain ⟨sz, hQ⟩ := hQ
  refine nz_ent (lv' := [(0, .ref eo), (1, .ref o)]) rfl ?_
  unfold wp_X3_bindByTimes at h
  refine nz_iconst (v := 0) F dX3_bindByTimes_0 (by decide) ?_
  refine nz_istore_n (lv' := [(2, .int 0), (0, .ref eo), (1, .ref o)]) F dX3_bindByTimes_1 rfl (by decide) rfl ?_
  refine nz_ls (lv' := [(0, .ref eo), (1, .ref o), (2, .int 0)]) [1, 2, 0] rfl ?_
  obtain ⟨n1, h⟩ := h
  exact t_X3_bindByTimes_2 F eo ea0 o a9 a10 a11 a12 a13 a14 a15 a16 r0 r1 r2 r3 r4 r5 r6 r7 r8 f9 f10 f11 f12 f13 f14 f15 f16 hQ n1 0 ef0 h
theorem k_X3_bindByTimes {y : nz_Y} {g : nz_G} {k n : Nat} {ws : va_W} {pc : Nat} {ls : List (Nat × Value)} {st rest : List Value} {av : Array Value} {isC : List Nat} {K : (Nat → Int32) → Prop} (eo : Nat) (ea0 : Nat) (o : Nat) (a9 : Nat) (a10 : Nat) (a11 : Nat) (a12 : Nat) (a13 : Nat) (a14 : Nat) (a15 : Nat) (a16 : Nat) (ef0 : Nat → Int32) (r0 : Int32) (r1 : Int32) (r2 : Int32) (r3 : Int32) (r4 : Int32) (r5 : Int32) (r6 : Int32) (r7 : Int32) (r8 : Int32) (f9 : Nat → Int32) (f10 : Nat → Int32) (f11 : Nat → Int32) (f12 : Nat → Int32) (f13 : Nat → Int32) (f14 : Nat → Int32) (f15 : Nat → Int32) (f16 : Nat → Int32) (run : nz_M (yz_l y) yX3_bindByTimes wsX3_bindByTimes rm_X3_bindByTimes g [.ref eo, .ref o] [(eo, .inr (3, [.ref ea0])), (ea0, .inl (nz_cI g, 36, .inl ef0)), (o, .inr (5, [.int r0, .int r1, .int r2, .int r3, .int r4, .int r5, .int r6, .int r7, .int r8, .ref a9, .ref a10, .ref a11, .ref a12, .ref a13, .ref a14, .ref a15, .ref a16])), (a9, .inl (nz_cI g, 6, .inl f9)), (a10, .inl (nz_cI g, 6, .inl f10)), (a11, .inl (nz_cI g, 6, .inl f11)), (a12, .inl (nz_cI g, 5, .inl f12)), (a13, .inl (nz_cI g, 5, .inl f13)), (a14, .inl (nz_cI g, 5, .inl f14)), (a15, .inl (nz_cI g, 5, .inl f15)), (a16, .inl (nz_cI g, 48, .inl f16))] (nz_Qv g [(eo, .inr (3, [.ref ea0])), (ea0, .inl (nz_cI g, 36, .inl ef0)), (o, .inr (5, [.int r0, .int r1, .int r2, .int r3, .int r4, .int r5, .int r6, .int r7, .int r8, .ref a9, .ref a10, .ref a11, .ref a12, .ref a13, .ref a14, .ref a15, .ref a16])), (a9, .inl (nz_cI g, 6, .inl f9)), (a10, .inl (nz_cI g, 6, .inl f10)), (a11, .inl (nz_cI g, 6, .inl f11)), (a12, .inl (nz_cI g, 5, .inl f12)), (a13, .inl (nz_cI g, 5, .inl f13)), (a14, .inl (nz_cI g, 5, .inl f14)), (a15, .inl (nz_cI g, 5, .inl f15)), (a16, .inl (nz_cI g, 48, .inl f16))] (fun (u : (Nat → Int32)) => K u) (fun u => [(eo, .inr (3, [.ref ea0])), (ea0, .inl (nz_cI g, 36, .inl u)), (o, .inr (5, [.int r0, .int r1, .int r2, .int r3, .int r4, .int r5, .int r6, .int r7, .int r8, .ref a9, .ref a10, .ref a11, .ref a12, .ref a13, .ref a14, .ref a15, .ref a16])), (a9, .inl (nz_cI g, 6, .inl f9)), (a10, .inl (nz_cI g, 6, .inl f10)), (a11, .inl (nz_cI g, 6, .inl f11)), (a12, .inl (nz_cI g, 5, .inl f12)), (a13, .inl (nz_cI g, 5, .inl f13)), (a14, .inl (nz_cI g, 5, .inl f14)), (a15, .inl (nz_cI g, 5, .inl f15)), (a16, .inl (nz_cI g, 48, .inl f16))])) → nz_C y g k n ws pc ls st rest [(eo, .inr (3, [.ref ea0])), (ea0, .inl (nz_cI g, 36, .inl ef0)), (o, .inr (5, [.int r0, .int r1, .int r2, .int r3, .int r4, .int r5, .int r6, .int r7, .int r8, .ref a9, .ref a10, .ref a11, .ref a12, .ref a13, .ref a14, .ref a15, .ref a16])), (a9, .inl (nz_cI g, 6, .inl f9)), (a10, .inl (nz_cI g, 6, .inl f10)), (a11, .inl (nz_cI g, 6, .inl f11)), (a12, .inl (nz_cI g, 5, .inl f12)), (a13, .inl (nz_cI g, 5, .inl f13)), (a14, .inl (nz_cI g, 5, .inl f14)), (a15, .inl (nz_cI g, 5, .inl f15)), (a16, .inl (nz_cI g, 48, .inl f16))] (nz_Qv g [(eo, .inr (3, [.ref ea0])), (ea0, .inl (nz_cI g, 36, .inl ef0)), (o, .inr (5, [.int r0, .int r1, .int r2, .int r3, .int r4, .int r5, .int r6, .int r7, .int r8, .ref a9, .ref a10, .ref a11, .ref a12, .ref a13, .ref a14, .ref a15, .ref a16])), (a9, .inl (nz_cI g, 6, .inl f9)), (a10, .inl (nz_cI g, 6, .inl f10)), (a11, .inl (nz_cI g, 6, .inl f11)), (a12, .inl (nz_cI g, 5, .inl f12)), (a13, .inl (nz_cI g, 5, .inl f13)), (a14, .inl (nz_cI g, 5, .inl f14)), (a15, .inl (nz_cI g, 5, .inl f15)), (a16, .inl (nz_cI g, 48, .inl f16))] (fun (u : (Nat → Int32)) => K u) (fun u => [(eo, .inr (3, [.ref ea0])), (ea0, .inl (nz_cI g, 36, .inl u)), (o, .inr (5, [.int r0, .int r1, .int r2, .int r3, .int r4, .int r5, .int r6, .int r7, .int r8, .ref a9, .ref a10, .ref a11, .ref a12, .ref a13, .ref a14, .ref a15, .ref a16])), (a9, .inl (nz_cI g, 6, .inl f9)), (a10, .inl (nz_cI g, 6, .inl f10)), (a11, .inl (nz_cI g, 6, .inl f11)), (a12, .inl (nz_cI g, 5, .inl f12)), (a13, .inl (nz_cI g, 5, .inl f13)), (a14, .inl (nz_cI g, 5, .inl f14)), (a15, .inl (nz_cI g, 5, .inl f15)), (a16, .inl (nz_cI g, 48, .inl f16))])) av isC) (h : wp_X3_bindByTimes ef0 r8 f16 K) (ws' : (Nat → Int32) → va_W) (hm : ∀ (m0 : (Nat → Int32)), nz_mrg ws isC [(eo, .inr (3, [.ref ea0])), (ea0, .inl (nz_cI g, 36, .inl m0)), (o, .inr (5, [.int r0, .int r1, .int r2, .int r3, .int r4, .int r5, .int r6, .int r7, .int r8, .ref a9, .ref a10, .ref a11, .ref a12, .ref a13, .ref a14, .ref a15, .ref a16])), (a9, .inl (nz_cI g, 6, .inl f9)), (a10, .inl (nz_cI g, 6, .inl f10)), (a11, .inl (nz_cI g, 6, .inl f11)), (a12, .inl (nz_cI g, 5, .inl f12)), (a13, .inl (nz_cI g, 5, .inl f13)), (a14, .inl (nz_cI g, 5, .inl f14)), (a15, .inl (nz_cI g, 5, .inl f15)), (a16, .inl (nz_cI g, 48, .inl f16))] = ws' m0) (kk : ∀ (m0 : (Nat → Int32)), K m0 → nz_V y g k n (ws' m0) (pc + 3) ls (rest)) : nz_V y g k n ws pc ls st :=
  nz_cv (ws' := fun u => ws' u) (run (c_X3_bindByTimes (yz_l y) g eo ea0 o a9 a10 a11 a12 a13 a14 a15 a16 ef0 r0 r1 r2 r3 r4 r5 r6 r7 r8 f9 f10 f11 f12 f13 f14 f15 f16 K h)) (fun _ => rfl) (fun u => hm u) (fun u h => kk u h)
theorem dX3_fit_0 : decode cX3_fit 0 = .ok (.aload_n 0, 1) := by decide +kernel
theorem dX3_fit_1 : decode cX3_fit 1 = .ok (.aload_n 1, 1) := by decide +kernel
theorem dX3_fit_2 : decode cX3_fit 2 = .ok (.invokevirtual 17, 3) := by decide +kernel
theorem dX3_fit_5 : decode cX3_fit 5 = .ok (.aload_n 0, 1) := by decide +kernel
theorem dX3_fit_6 : decode cX3_fit 6 = .ok (.aload_n 1, 1) := by decide +kernel
theorem dX3_fit_7 : decode cX3_fit 7 = .ok (.invokevirtual 21, 3) := by decide +kernel
theorem dX3_fit_10 : decode cX3_fit 10 = .ok (.aload_n 0, 1) := by decide +kernel
theorem dX3_fit_11 : decode cX3_fit 11 = .ok (.aload_n 1, 1) := by decide +kernel
theorem dX3_fit_12 : decode cX3_fit 12 = .ok (.getfield 24, 3) := by decide +kernel
theorem dX3_fit_15 : decode cX3_fit 15 = .ok (.invokevirtual 28, 3) := by decide +kernel
theorem dX3_fit_18 : decode cX3_fit 18 = .ok (.iconst 0, 1) := by decide +kernel
theorem dX3_fit_19 : decode cX3_fit 19 = .ok (.istore_n 2, 1) := by decide +kernel
theorem dX3_fit_20 : decode cX3_fit 20 = .ok (.iload_n 2, 1) := by decide +kernel
theorem dX3_fit_21 : decode cX3_fit 21 = .ok (.aload_n 1, 1) := by decide +kernel
theorem dX3_fit_22 : decode cX3_fit 22 = .ok (.getfield 24, 3) := by decide +kernel
theorem dX3_fit_25 : decode cX3_fit 25 = .ok (.if_icmp .ge 25, 3) := by decide +kernel
theorem dX3_fit_28 : decode cX3_fit 28 = .ok (.aload_n 0, 1) := by decide +kernel
theorem dX3_fit_29 : decode cX3_fit 29 = .ok (.getfield 13, 3) := by decide +kernel
theorem dX3_fit_32 : decode cX3_fit 32 = .ok (.iload_n 2, 1) := by decide +kernel
theorem dX3_fit_33 : decode cX3_fit 33 = .ok (.bipush 6, 2) := by decide +kernel
theorem dX3_fit_35 : decode cX3_fit 35 = .ok (.imul, 1) := by decide +kernel
theorem dX3_fit_36 : decode cX3_fit 36 = .ok (.iload_n 2, 1) := by decide +kernel
theorem dX3_fit_37 : decode cX3_fit 37 = .ok (.iadd, 1) := by decide +kernel
theorem dX3_fit_38 : decode cX3_fit 38 = .ok (.iaload, 1) := by decide +kernel
theorem dX3_fit_39 : decode cX3_fit 39 = .ok (.ifCond .ge 5, 3) := by decide +kernel
theorem dX3_fit_42 : decode cX3_fit 42 = .ok (.iconst 0, 1) := by decide +kernel
theorem dX3_fit_43 : decode cX3_fit 43 = .ok (.ireturn, 1) := by decide +kernel
theorem dX3_fit_44 : decode cX3_fit 44 = .ok (.iinc 2 1, 3) := by decide +kernel
theorem dX3_fit_47 : decode cX3_fit 47 = .ok (.goto (-27), 3) := by decide +kernel
theorem dX3_fit_50 : decode cX3_fit 50 = .ok (.iconst 1, 1) := by decide +kernel
theorem dX3_fit_51 : decode cX3_fit 51 = .ok (.ireturn, 1) := by decide +kernel
set_option maxRecDepth 20000 in
theorem ggX3_fit_X3_bindByRoad : GoodIn wsX3_fit wsX3_bindByRoad := goodIn_r _ [6, 1, 23, 24, 25, 26, 27, 28, 29, 30, 31, 32, 33, 34, 35, 36, 37, 38, 39, 40] rfl (by decide +kernel)
set_option maxRecDepth 20000 in
theorem gX3_fit_X3_bindByRoad : GoodIn wsX3_fit (wsV RX3 17 RX3 yX3_bindByRoad wsX3_bindByRoad) := goodIn_app (goodIn_r _ [2, 3, 4, 5] rfl (by decide +kernel)) ggX3_fit_X3_bindByRoad
set_option maxRecDepth 20000 in
theorem ggX3_fit_X3_bindByTimes : GoodIn wsX3_fit wsX3_bindByTimes := goodIn_r _ [10, 11, 12, 13, 5, 14, 1, 15, 16, 17, 18, 23, 24, 25, 26, 27, 28, 29, 30, 31, 32, 33, 34, 35, 36, 37, 38, 39, 40] rfl (by decide +kernel)
set_option maxRecDepth 20000 in
theorem gX3_fit_X3_bindByTimes : GoodIn wsX3_fit (wsV RX3 21 RX3 yX3_bindByTimes wsX3_bindByTimes) := goodIn_app (goodIn_r _ [7, 8, 9, 5] rfl (by decide +kernel)) ggX3_fit_X3_bindByTimes
set_option maxRecDepth 20000 in
theorem ggX3_fit_X3_shorten : GoodIn wsX3_fit wsX3_shorten := goodIn_r _ [22, 1, 11, 12, 13, 5, 14, 15, 16, 17, 18, 40] rfl (by decide +kernel)
set_option maxRecDepth 20000 in
theorem gX3_fit_X3_shorten : GoodIn wsX3_fit (wsV RX3 28 RX3 yX3_shorten wsX3_shorten) := goodIn_app (goodIn_r _ [19, 20, 21, 5] rfl (by decide +kernel)) ggX3_fit_X3_shorten
theorem hd_X3_bindByRoad : yX3_bindByRoad.cls = RX3 ∧ yX3_bindByRoad.cls ≠ "java/lang/invoke/MethodHandle" ∧ yX3_bindByRoad.cls ≠ "java/lang/invoke/VarHandle" ∧ (parseMethodDescriptor yX3_bindByRoad.desc).map (fun d => d.parameters.length) = some 1 := by decide +kernel
theorem hd_X3_bindByTimes : yX3_bindByTimes.cls = RX3 ∧ yX3_bindByTimes.cls ≠ "java/lang/invoke/MethodHandle" ∧ yX3_bindByTimes.cls ≠ "java/lang/invoke/VarHandle" ∧ (parseMethodDescriptor yX3_bindByTimes.desc).map (fun d => d.parameters.length) = some 1 := by decide +kernel
theorem hd_X3_shorten : yX3_shorten.cls = RX3 ∧ yX3_shorten.cls ≠ "java/lang/invoke/MethodHandle" ∧ yX3_shorten.cls ≠ "java/lang/invoke/VarHandle" ∧ (parseMethodDescriptor yX3_shorten.desc).map (fun d => d.parameters.length) = some 1 := by decide +kernel
/-! X3_fit -/
abbrev rm_X3_fit : Room := { frames := 3, cells := 0, slots := 0, locals := 71 }
theorem iw_X3_fit_5 : ∀ w ∈ wsX50, w ∈ wsX3_fit := fun _ h => List.mem_cons_of_mem _ (List.mem_append_left _ (List.mem_append_right _ h))
theorem iw_X3_fit_3 : ∀ w ∈ wsX30, w ∈ wsX3_fit := fun _ h => List.mem_cons_of_mem _ (List.mem_append_right _ h)
theorem fn_X3_fit_24 : Cond.fieldLinkNest RX3 24 "NightStones$Road" "stones" "I" RX7 ∈ nz_nest := List.mem_of_getElem? (i := 17) rfl
theorem fl_X3_fit_13 : Cond.fieldLink RX3 13 "NightStones$Lengths" "bounds" "[I" ∈ wsX3_fit := List.mem_of_getElem? (i := 1) rfl
def S_X3_fit_20 (r6 : Int32) (ef0 : Nat → Int32) (K : Int32 → (Nat → Int32) → Prop) (R20 : Int32 → Prop) (x2 : Int32) : Prop := ((r6 ≤ x2 → K 1 ef0) ∧ (¬ (r6 ≤ x2) → (vp_in ((x2 * 6) + x2) 36 ∧ ((0 ≤ (ef0 ((x2 * 6) + x2).toNatClampNeg) → R20 (x2 + 1)) ∧ (¬ (0 ≤ (ef0 ((x2 * 6) + x2).toNatClampNeg)) → K 0 ef0)))))
set_option maxHeartbeats 4000000 in
set_option maxRecDepth 100000 in
theorem t_X3_fit_20 {y : nz_Y} {g : nz_G} (F : nz_F y g cX3_fit 3 wsX3_fit RX3 (some .boolean) rm_X3_fit) {wc0 : va_W} {sz : Nat} {K : Int32 → (Nat → Int32) → Prop} (eo : Nat) (ea0 : Nat) (o : Nat) (a9 : Nat) (a10 : Nat) (a11 : Nat) (a12 : Nat) (a13 : Nat) (a14 : Nat) (a15 : Nat) (a16 : Nat) (r0 : Int32) (r1 : Int32) (r2 : Int32) (r3 : Int32) (r4 : Int32) (r5 : Int32) (r6 : Int32) (r7 : Int32) (r8 : Int32) (f9 : Nat → Int32) (f10 : Nat → Int32) (f11 : Nat → Int32) (f12 : Nat → Int32) (f13 : Nat → Int32) (f14 : Nat → Int32) (f15 : Nat → Int32) (f16 : Nat → Int32) (ef0 : Nat → Int32) (hQ : yz_A y = va_A wc0 sz ∧ yz_Q y = MQ (yz_b y) ((nz_Qi g wc0 (fun r (u : (Nat → Int32)) => K r u) (fun u => [(eo, .inr (3, [.ref ea0])), (ea0, .inl (nz_cI g, 36, .inl u)), (o, .inr (5, [.int r0, .int r1, .int r2, .int r3, .int r4, .int r5, .int r6, .int r7, .int r8, .ref a9, .ref a10, .ref a11, .ref a12, .ref a13, .ref a14, .ref a15, .ref a16])), (a9, .inl (nz_cI g, 6, .inl f9)), (a10, .inl (nz_cI g, 6, .inl f10)), (a11, .inl (nz_cI g, 6, .inl f11)), (a12, .inl (nz_cI g, 5, .inl f12)), (a13, .inl (nz_cI g, 5, .inl f13)), (a14, .inl (nz_cI g, 5, .inl f14)), (a15, .inl (nz_cI g, 5, .inl f15)), (a16, .inl (nz_cI g, 48, .inl f16))])) sz) (yz_a y) (yz_s y) 0 0 (va_A wc0 sz)) : ∀ (n1 : Nat) (x2 : Int32), nz_it (fun _ => False) (S_X3_fit_20 r6 ef0 K) n1 x2 → nz_V y g 0 0 [(eo, .inr (3, [.ref ea0])), (ea0, .inl (nz_cI g, 36, .inl ef0)), (o, .inr (5, [.int r0, .int r1, .int r2, .int r3, .int r4, .int r5, .int r6, .int r7, .int r8, .ref a9, .ref a10, .ref a11, .ref a12, .ref a13, .ref a14, .ref a15, .ref a16])), (a9, .inl (nz_cI g, 6, .inl f9)), (a10, .inl (nz_cI g, 6, .inl f10)), (a11, .inl (nz_cI g, 6, .inl f11)), (a12, .inl (nz_cI g, 5, .inl f12)), (a13, .inl (nz_cI g, 5, .inl f13)), (a14, .inl (nz_cI g, 5, .inl f14)), (a15, .inl (nz_cI g, 5, .inl f15)), (a16, .inl (nz_cI g, 48, .inl f16))] 20 [(0, .ref eo), (1, .ref o), (2, .int x2)] [] := by
  intro n1
  induction n1 with
  | zero =>
    intro x2 h
    exact h.elim
  | succ n1 hR20 =>
    intro x2 h
    have h : S_X3_fit_20 r6 ef0 K (nz_it (fun _ => False) (S_X3_fit_20 r6 ef0 K) n1) x2 := h
    unfold S_X3_fit_20 at h
    refine nz_iload_n F dX3_fit_20 rfl 2 rfl ?_
    refine nz_aload_n F dX3_fit_21 rfl 1 rfl ?_
    refine nz_getN F iw_X3_fit_5 2 rfl rfl 6 (by decide) rfl fn_X3_fit_24 rfl dX3_fit_22 ?_
    refine nz_icmp_ge (tgt := 50) F dX3_fit_25 (by decide) (fun c4 => ?_) (fun c4 => ?_)
    · have h := h.1 c4
      refine nz_iconst (v := 1) F dX3_fit_50 (by decide) ?_
      exact nz_zret F hQ ef0 h rfl (by decide) dX3_fit_51
    · have h := h.2 c4
      refine nz_aload_n F dX3_fit_28 rfl 0 rfl ?_
      refine nz_get F iw_X3_fit_3 0 rfl rfl 0 (by decide) rfl fl_X3_fit_13 rfl dX3_fit_29 ?_
      refine nz_iload_n F dX3_fit_32 rfl 2 rfl ?_
      refine nz_bipush (v := 6) F dX3_fit_33 (by decide) ?_
      refine nz_imul F dX3_fit_35 ?_
      refine nz_iload_n F dX3_fit_36 rfl 2 rfl ?_
      refine nz_iadd F dX3_fit_37 ?_
      obtain ⟨i5, h⟩ := h
      refine nz_iald F 1 rfl i5 dX3_fit_38 ?_
      refine nz_if_ge (tgt := 44) F dX3_fit_39 (by decide) (fun c6 => ?_) (fun c6 => ?_)
      · have h := h.1 c6
        refine nz_iinc (v := (x2 + 1)) (j := 2) (lv' := [(2, .int (x2 + 1)), (0, .ref eo), (1, .ref o)]) F dX3_fit_44 rfl rfl (by decide) rfl ?_
        refine nz_goto (tgt := 20) F dX3_fit_47 (by decide) ?_
        refine nz_ls (lv' := [(0, .ref eo), (1, .ref o), (2, .int (x2 + 1))]) [1, 2, 0] rfl ?_
        exact hR20 (x2 + 1) h
      · have h := h.2 c6
        refine nz_iconst (v := 0) F dX3_fit_42 (by decide) ?_
        exact nz_zret F hQ ef0 h rfl (by decide) dX3_fit_43
def wp_X3_fit (ef0 : Nat → Int32) (r1 : Int32) (r6 : Int32) (r8 : Int32) (f16 : Nat → Int32) (K : Int32 → (Nat → Int32) → Prop) : Prop := wp_X3_bindByRoad ef0 r1 r6 (fun m1 => wp_X3_bindByTimes m1 r8 f16 (fun m2 => wp_X3_shorten m2 r6 (fun m3 => (∃ n, nz_it (fun _ => False) (S_X3_fit_20 r6 m3 K) n 0))))
set_option maxHeartbeats 4000000 in
set_option maxRecDepth 100000 in
theorem c_X3_fit (l : Launch) (g : nz_G) (eo : Nat) (ea0 : Nat) (o : Nat) (a9 : Nat) (a10 : Nat) (a11 : Nat) (a12 : Nat) (a13 : Nat) (a14 : Nat) (a15 : Nat) (a16 : Nat) (ef0 : Nat → Int32) (r0 : Int32) (r1 : Int32) (r2 : Int32) (r3 : Int32) (r4 : Int32) (r5 : Int32) (r6 : Int32) (r7 : Int32) (r8 : Int32) (f9 : Nat → Int32) (f10 : Nat → Int32) (f11 : Nat → Int32) (f12 : Nat → Int32) (f13 : Nat → Int32) (f14 : Nat → Int32) (f15 : Nat → Int32) (f16 : Nat → Int32) (K : Int32 → (Nat → Int32) → Prop) (h : wp_X3_fit ef0 r1 r6 r8 f16 K) : nz_M l yX3_fit wsX3_fit rm_X3_fit g [.ref eo, .ref o] [(eo, .inr (3, [.ref ea0])), (ea0, .inl (nz_cI g, 36, .inl ef0)), (o, .inr (5, [.int r0, .int r1, .int r2, .int r3, .int r4, .int r5, .int r6, .int r7, .int r8, .ref a9, .ref a10, .ref a11, .ref a12, .ref a13, .ref a14, .ref a15, .ref a16])), (a9, .inl (nz_cI g, 6, .inl f9)), (a10, .inl (nz_cI g, 6, .inl f10)), (a11, .inl (nz_cI g, 6, .inl f11)), (a12, .inl (nz_cI g, 5, .inl f12)), (a13, .inl (nz_cI g, 5, .inl f13)), (a14, .inl (nz_cI g, 5, .inl f14)), (a15, .inl (nz_cI g, 5, .inl f15)), (a16, .inl (nz_cI g, 48, .inl f16))] (nz_Qi g [(eo, .inr (3, [.ref ea0])), (ea0, .inl (nz_cI g, 36, .inl ef0)), (o, .inr (5, [.int r0, .int r1, .int r2, .int r3, .int r4, .int r5, .int r6, .int r7, .int r8, .ref a9, .ref a10, .ref a11, .ref a12, .ref a13, .ref a14, .ref a15, .ref a16])), (a9, .inl (nz_cI g, 6, .inl f9)), (a10, .inl (nz_cI g, 6, .inl f10)), (a11, .inl (nz_cI g, 6, .inl f11)), (a12, .inl (nz_cI g, 5, .inl f12)), (a13, .inl (nz_cI g, 5, .inl f13)), (a14, .inl (nz_cI g, 5, .inl f14)), (a15, .inl (nz_cI g, 5, .inl f15)), (a16, .inl (nz_cI g, 48, .inl f16))] (fun r (u : (Nat → Int32)) => K r u) (fun u => [(eo, .inr (3, [.ref ea0])), (ea0, .inl (nz_cI g, 36, .inl u)), (o, .inr (5, [.int r0, .int r1, .int r2, .int r3, .int r4, .int r5, .int r6, .int r7, .int r8, .ref a9, .ref a10, .ref a11, .ref a12, .ref a13, .ref a14, .ref a15, .ref a16])), (a9, .inl (nz_cI g, 6, .inl f9)), (a10, .inl (nz_cI g, 6, .inl f10)), (a11, .inl (nz_cI g, 6, .inl f11)), (a12, .inl (nz_cI g, 5, .inl f12)), (a13, .inl (nz_cI g, 5, .inl f13)), (a14, .inl (nz_cI g, 5, .inl f14)), (a15, .inl (nz_cI g, 5, .inl f15)), (a16, .inl (nz_cI g, 48, .inl f16))])) := by
  refine nz_M.of (bytes := cX3_fit) (nL := 3) (ret := (some .boolean)) (own := RX3) (by decide) rfl rfl ⟨rfl, rfl⟩ rfl ?_
  intro y F hl hQ
  obtain ⟨sz, hQ⟩ := hQ
  refine nz_ent (lv' := [(0, .ref eo), (1, .ref o)]) rfl ?_
  unfold wp_X3_fit at h
  refine nz_aload_n F dX3_fit_0 rfl 0 rfl ?_
  refine nz_aload_n F dX3_fit_1 rfl 1 rfl ?_
  refine k_X3_bindByRoad eo ea0 o a9 a10 a11 a12 a13 a14 a15 a16 ef0 r0 r1 r2 r3 r4 r5 r6 r7 r8 f9 f10 f11 f12 f13 f14 f15 f16 (fun hM => nz_runV F gX3_fit_X3_bindByRoad rfl hd_X3_bindByRoad rfl hM dX3_fit_2 [0, 1, 2, 3, 4, 5, 6, 7, 8, 9, 10] rfl rfl 0 rfl rfl rfl (Nat.le_of_ble_eq_true rfl) rfl) h (fun m1 => [(eo, .inr (3, [.ref ea0])), (ea0, .inl (nz_cI g, 36, .inl m1)), (o, .inr (5, [.int r0, .int r1, .int r2, .int r3, .int r4, .int r5, .int r6, .int r7, .int r8, .ref a9, .ref a10, .ref a11, .ref a12, .ref a13, .ref a14, .ref a15, .ref a16])), (a9, .inl (nz_cI g, 6, .inl f9)), (a10, .inl (nz_cI g, 6, .inl f10)), (a11, .inl (nz_cI g, 6, .inl f11)), (a12, .inl (nz_cI g, 5, .inl f12)), (a13, .inl (nz_cI g, 5, .inl f13)), (a14, .inl (nz_cI g, 5, .inl f14)), (a15, .inl (nz_cI g, 5, .inl f15)), (a16, .inl (nz_cI g, 48, .inl f16))]) (fun _ => rfl) (fun m1 h => ?_)
  refine nz_aload_n F dX3_fit_5 rfl 0 rfl ?_
  refine nz_aload_n F dX3_fit_6 rfl 1 rfl ?_
  refine k_X3_bindByTimes eo ea0 o a9 a10 a11 a12 a13 a14 a15 a16 m1 r0 r1 r2 r3 r4 r5 r6 r7 r8 f9 f10 f11 f12 f13 f14 f15 f16 (fun hM => nz_runV F gX3_fit_X3_bindByTimes rfl hd_X3_bindByTimes rfl hM dX3_fit_7 [0, 1, 2, 3, 4, 5, 6, 7, 8, 9, 10] rfl rfl 0 rfl rfl rfl (Nat.le_of_ble_eq_true rfl) rfl) h (fun m2 => [(eo, .inr (3, [.ref ea0])), (ea0, .inl (nz_cI g, 36, .inl m2)), (o, .inr (5, [.int r0, .int r1, .int r2, .int r3, .int r4, .int r5, .int r6, .int r7, .int r8, .ref a9, .ref a10, .ref a11, .ref a12, .ref a13, .ref a14, .ref a15, .ref a16])), (a9, .inl (nz_cI g, 6, .inl f9)), (a10, .inl (nz_cI g, 6, .inl f10)), (a11, .inl (nz_cI g, 6, .inl f11)), (a12, .inl (nz_cI g, 5, .inl f12)), (a13, .inl (nz_cI g, 5, .inl f13)), (a14, .inl (nz_cI g, 5, .inl f14)), (a15, .inl (nz_cI g, 5, .inl f15)), (a16, .inl (nz_cI g, 48, .inl f16))]) (fun _ => rfl) (fun m2 h => ?_)
  refine nz_aload_n F dX3_fit_10 rfl 0 rfl ?_
  refine nz_aload_n F dX3_fit_11 rfl 1 rfl ?_
  refine nz_getN F iw_X3_fit_5 2 rfl rfl 6 (by decide) rfl fn_X3_fit_24 rfl dX3_fit_12 ?_
  refine k_X3_shorten eo ea0 m2 r6 (fun hM => nz_runV F gX3_fit_X3_shorten rfl hd_X3_shorten rfl hM dX3_fit_15 [0, 1] rfl rfl 0 rfl rfl rfl (Nat.le_of_ble_eq_true rfl) rfl) h (fun m3 => [(eo, .inr (3, [.ref ea0])), (ea0, .inl (nz_cI g, 36, .inl m3)), (o, .inr (5, [.int r0, .int r1, .int r2, .int r3, .int r4, .int r5, .int r6, .int r7, .int r8, .ref a9, .ref a10, .ref a11, .ref a12, .ref a13, .ref a14, .ref a15, .ref a16])), (a9, .inl (nz_cI g, 6, .inl f9)), (a10, .inl (nz_cI g, 6, .inl f10)), (a11, .inl (nz_cI g, 6, .inl f11)), (a12, .inl (nz_cI g, 5, .inl f12)), (a13, .inl (nz_cI g, 5, .inl f13)), (a14, .inl (nz_cI g, 5, .inl f14)), (a15, .inl (nz_cI g, 5, .inl f15)), (a16, .inl (nz_cI g, 48, .inl f16))]) (fun _ => rfl) (fun m3 h => ?_)
  refine nz_iconst (v := 0) F dX3_fit_18 (by decide) ?_
  refine nz_istore_n (lv' := [(2, .int 0), (0, .ref eo), (1, .ref o)]) F dX3_fit_19 rfl (by decide) rfl ?_
  refine nz_ls (lv' := [(0, .ref eo), (1, .ref o), (2, .int 0)]) [1, 2, 0] rfl ?_
  obtain ⟨n1, h⟩ := h
  exact t_X3_fit_20 F eo ea0 o a9 a10 a11 a12 a13 a14 a15 a16 r0 r1 r2 r3 r4 r5 r6 r7 r8 f9 f10 f11 f12 f13 f14 f15 f16 m3 hQ n1 0 h
theorem k_X3_fit {y : nz_Y} {g : nz_G} {k n : Nat} {ws : va_W} {pc : Nat} {ls : List (Nat × Value)} {st rest : List Value} {av : Array Value} {isC : List Nat} {K : Int32 → (Nat → Int32) → Prop} (eo : Nat) (ea0 : Nat) (o : Nat) (a9 : Nat) (a10 : Nat) (a11 : Nat) (a12 : Nat) (a13 : Nat) (a14 : Nat) (a15 : Nat) (a16 : Nat) (ef0 : Nat → Int32) (r0 : Int32) (r1 : Int32) (r2 : Int32) (r3 : Int32) (r4 : Int32) (r5 : Int32) (r6 : Int32) (r7 : Int32) (r8 : Int32) (f9 : Nat → Int32) (f10 : Nat → Int32) (f11 : Nat → Int32) (f12 : Nat → Int32) (f13 : Nat → Int32) (f14 : Nat → Int32) (f15 : Nat → Int32) (f16 : Nat → Int32) (run : nz_M (yz_l y) yX3_fit wsX3_fit rm_X3_fit g [.ref eo, .ref o] [(eo, .inr (3, [.ref ea0])), (ea0, .inl (nz_cI g, 36, .inl ef0)), (o, .inr (5, [.int r0, .int r1, .int r2, .int r3, .int r4, .int r5, .int r6, .int r7, .int r8, .ref a9, .ref a10, .ref a11, .ref a12, .ref a13, .ref a14, .ref a15, .ref a16])), (a9, .inl (nz_cI g, 6, .inl f9)), (a10, .inl (nz_cI g, 6, .inl f10)), (a11, .inl (nz_cI g, 6, .inl f11)), (a12, .inl (nz_cI g, 5, .inl f12)), (a13, .inl (nz_cI g, 5, .inl f13)), (a14, .inl (nz_cI g, 5, .inl f14)), (a15, .inl (nz_cI g, 5, .inl f15)), (a16, .inl (nz_cI g, 48, .inl f16))] (nz_Qi g [(eo, .inr (3, [.ref ea0])), (ea0, .inl (nz_cI g, 36, .inl ef0)), (o, .inr (5, [.int r0, .int r1, .int r2, .int r3, .int r4, .int r5, .int r6, .int r7, .int r8, .ref a9, .ref a10, .ref a11, .ref a12, .ref a13, .ref a14, .ref a15, .ref a16])), (a9, .inl (nz_cI g, 6, .inl f9)), (a10, .inl (nz_cI g, 6, .inl f10)), (a11, .inl (nz_cI g, 6, .inl f11)), (a12, .inl (nz_cI g, 5, .inl f12)), (a13, .inl (nz_cI g, 5, .inl f13)), (a14, .inl (nz_cI g, 5, .inl f14)), (a15, .inl (nz_cI g, 5, .inl f15)), (a16, .inl (nz_cI g, 48, .inl f16))] (fun r (u : (Nat → Int32)) => K r u) (fun u => [(eo, .inr (3, [.ref ea0])), (ea0, .inl (nz_cI g, 36, .inl u)), (o, .inr (5, [.int r0, .int r1, .int r2, .int r3, .int r4, .int r5, .int r6, .int r7, .int r8, .ref a9, .ref a10, .ref a11, .ref a12, .ref a13, .ref a14, .ref a15, .ref a16])), (a9, .inl (nz_cI g, 6, .inl f9)), (a10, .inl (nz_cI g, 6, .inl f10)), (a11, .inl (nz_cI g, 6, .inl f11)), (a12, .inl (nz_cI g, 5, .inl f12)), (a13, .inl (nz_cI g, 5, .inl f13)), (a14, .inl (nz_cI g, 5, .inl f14)), (a15, .inl (nz_cI g, 5, .inl f15)), (a16, .inl (nz_cI g, 48, .inl f16))])) → nz_C y g k n ws pc ls st rest [(eo, .inr (3, [.ref ea0])), (ea0, .inl (nz_cI g, 36, .inl ef0)), (o, .inr (5, [.int r0, .int r1, .int r2, .int r3, .int r4, .int r5, .int r6, .int r7, .int r8, .ref a9, .ref a10, .ref a11, .ref a12, .ref a13, .ref a14, .ref a15, .ref a16])), (a9, .inl (nz_cI g, 6, .inl f9)), (a10, .inl (nz_cI g, 6, .inl f10)), (a11, .inl (nz_cI g, 6, .inl f11)), (a12, .inl (nz_cI g, 5, .inl f12)), (a13, .inl (nz_cI g, 5, .inl f13)), (a14, .inl (nz_cI g, 5, .inl f14)), (a15, .inl (nz_cI g, 5, .inl f15)), (a16, .inl (nz_cI g, 48, .inl f16))] (nz_Qi g [(eo, .inr (3, [.ref ea0])), (ea0, .inl (nz_cI g, 36, .inl ef0)), (o, .inr (5, [.int r0, .int r1, .int r2, .int r3, .int r4, .int r5, .int r6, .int r7, .int r8, .ref a9, .ref a10, .ref a11, .ref a12, .ref a13, .ref a14, .ref a15, .ref a16])), (a9, .inl (nz_cI g, 6, .inl f9)), (a10, .inl (nz_cI g, 6, .inl f10)), (a11, .inl (nz_cI g, 6, .inl f11)), (a12, .inl (nz_cI g, 5, .inl f12)), (a13, .inl (nz_cI g, 5, .inl f13)), (a14, .inl (nz_cI g, 5, .inl f14)), (a15, .inl (nz_cI g, 5, .inl f15)), (a16, .inl (nz_cI g, 48, .inl f16))] (fun r (u : (Nat → Int32)) => K r u) (fun u => [(eo, .inr (3, [.ref ea0])), (ea0, .inl (nz_cI g, 36, .inl u)), (o, .inr (5, [.int r0, .int r1, .int r2, .int r3, .int r4, .int r5, .int r6, .int r7, .int r8, .ref a9, .ref a10, .ref a11, .ref a12, .ref a13, .ref a14, .ref a15, .ref a16])), (a9, .inl (nz_cI g, 6, .inl f9)), (a10, .inl (nz_cI g, 6, .inl f10)), (a11, .inl (nz_cI g, 6, .inl f11)), (a12, .inl (nz_cI g, 5, .inl f12)), (a13, .inl (nz_cI g, 5, .inl f13)), (a14, .inl (nz_cI g, 5, .inl f14)), (a15, .inl (nz_cI g, 5, .inl f15)), (a16, .inl (nz_cI g, 48, .inl f16))])) av isC) (h : wp_X3_fit ef0 r1 r6 r8 f16 K) (ws' : (Nat → Int32) → va_W) (hm : ∀ (m0 : (Nat → Int32)), nz_mrg ws isC [(eo, .inr (3, [.ref ea0])), (ea0, .inl (nz_cI g, 36, .inl m0)), (o, .inr (5, [.int r0, .int r1, .int r2, .int r3, .int r4, .int r5, .int r6, .int r7, .int r8, .ref a9, .ref a10, .ref a11, .ref a12, .ref a13, .ref a14, .ref a15, .ref a16])), (a9, .inl (nz_cI g, 6, .inl f9)), (a10, .inl (nz_cI g, 6, .inl f10)), (a11, .inl (nz_cI g, 6, .inl f11)), (a12, .inl (nz_cI g, 5, .inl f12)), (a13, .inl (nz_cI g, 5, .inl f13)), (a14, .inl (nz_cI g, 5, .inl f14)), (a15, .inl (nz_cI g, 5, .inl f15)), (a16, .inl (nz_cI g, 48, .inl f16))] = ws' m0) (kk : ∀ (r : Int32) (m0 : (Nat → Int32)), K r m0 → nz_V y g k n (ws' m0) (pc + 3) ls (.int r :: rest)) : nz_V y g k n ws pc ls st :=
  nz_ci (ws' := fun u => ws' u) (run (c_X3_fit (yz_l y) g eo ea0 o a9 a10 a11 a12 a13 a14 a15 a16 ef0 r0 r1 r2 r3 r4 r5 r6 r7 r8 f9 f10 f11 f12 f13 f14 f15 f16 K h)) (fun _ => rfl) (fun u => hm u) (fun r u h => kk r u h)
