theorem dX8_restore_0 : decode cX8_restore 0 = .ok (.aload_n 0, 1) := by decide +kernel
theorem dX8_restore_1 : decode cX8_restore 1 = .ok (.iconst 0, 1) := by decide +kernel
theorem dX8_restore_2 : decode cX8_restore 2 = .ok (.putfield 50, 3) := by decide +kernel
theorem dX8_restore_5 : decode cX8_restore 5 = .ok (.iload_n 1, 1) := by decide +kernel
theorem dX8_restore_6 : decode cX8_restore 6 = .ok (.i2l, 1) := by decide +kernel
theorem dX8_restore_7 : decode cX8_restore 7 = .ok (.lconst 0, 1) := by decide +kernel
theorem dX8_restore_8 : decode cX8_restore 8 = .ok (.lconst 1, 1) := by decide +kernel
theorem dX8_restore_9 : decode cX8_restore 9 = .ok (.invokestatic 60, 3) := by decide +kernel
theorem dX8_restore_12 : decode cX8_restore 12 = .ok (.ifCond .ne 6, 3) := by decide +kernel
theorem dX8_restore_15 : decode cX8_restore 15 = .ok (.ldc 70, 2) := by decide +kernel
theorem dX8_restore_17 : decode cX8_restore 17 = .ok (.ireturn, 1) := by decide +kernel
theorem dX8_restore_18 : decode cX8_restore 18 = .ok (.aload_n 0, 1) := by decide +kernel
theorem dX8_restore_19 : decode cX8_restore 19 = .ok (.getfield 40, 3) := by decide +kernel
theorem dX8_restore_22 : decode cX8_restore 22 = .ok (.iload_n 1, 1) := by decide +kernel
theorem dX8_restore_23 : decode cX8_restore 23 = .ok (.baload, 1) := by decide +kernel
theorem dX8_restore_24 : decode cX8_restore 24 = .ok (.ifCond .ne 6, 3) := by decide +kernel
theorem dX8_restore_27 : decode cX8_restore 27 = .ok (.ldc 196, 2) := by decide +kernel
theorem dX8_restore_29 : decode cX8_restore 29 = .ok (.ireturn, 1) := by decide +kernel
theorem dX8_restore_30 : decode cX8_restore 30 = .ok (.iconst 0, 1) := by decide +kernel
theorem dX8_restore_31 : decode cX8_restore 31 = .ok (.istore_n 2, 1) := by decide +kernel
theorem dX8_restore_32 : decode cX8_restore 32 = .ok (.iload_n 2, 1) := by decide +kernel
theorem dX8_restore_33 : decode cX8_restore 33 = .ok (.bipush 94, 2) := by decide +kernel
theorem dX8_restore_35 : decode cX8_restore 35 = .ok (.if_icmp .ge 26, 3) := by decide +kernel
theorem dX8_restore_38 : decode cX8_restore 38 = .ok (.aload_n 0, 1) := by decide +kernel
theorem dX8_restore_39 : decode cX8_restore 39 = .ok (.getfield 19, 3) := by decide +kernel
theorem dX8_restore_42 : decode cX8_restore 42 = .ok (.iload_n 2, 1) := by decide +kernel
theorem dX8_restore_43 : decode cX8_restore 43 = .ok (.aload_n 0, 1) := by decide +kernel
theorem dX8_restore_44 : decode cX8_restore 44 = .ok (.getfield 44, 3) := by decide +kernel
theorem dX8_restore_47 : decode cX8_restore 47 = .ok (.bipush 94, 2) := by decide +kernel
theorem dX8_restore_49 : decode cX8_restore 49 = .ok (.iload_n 1, 1) := by decide +kernel
theorem dX8_restore_50 : decode cX8_restore 50 = .ok (.imul, 1) := by decide +kernel
theorem dX8_restore_51 : decode cX8_restore 51 = .ok (.iload_n 2, 1) := by decide +kernel
theorem dX8_restore_52 : decode cX8_restore 52 = .ok (.iadd, 1) := by decide +kernel
theorem dX8_restore_53 : decode cX8_restore 53 = .ok (.iaload, 1) := by decide +kernel
theorem dX8_restore_54 : decode cX8_restore 54 = .ok (.iastore, 1) := by decide +kernel
theorem dX8_restore_55 : decode cX8_restore 55 = .ok (.iinc 2 1, 3) := by decide +kernel
theorem dX8_restore_58 : decode cX8_restore 58 = .ok (.goto (-26), 3) := by decide +kernel
theorem dX8_restore_61 : decode cX8_restore 61 = .ok (.aload_n 0, 1) := by decide +kernel
theorem dX8_restore_62 : decode cX8_restore 62 = .ok (.iconst 0, 1) := by decide +kernel
theorem dX8_restore_63 : decode cX8_restore 63 = .ok (.putfield 177, 3) := by decide +kernel
theorem dX8_restore_66 : decode cX8_restore 66 = .ok (.iconst 1, 1) := by decide +kernel
theorem dX8_restore_67 : decode cX8_restore 67 = .ok (.ireturn, 1) := by decide +kernel
set_option maxRecDepth 20000 in
theorem ggX8_restore_X8_in : GoodIn wsX8_restore wsX8_in := goodIn_r _ [11] rfl (by decide +kernel)
set_option maxRecDepth 20000 in
theorem gX8_restore_X8_in : GoodIn wsX8_restore (va_wsS RX8 60 yX8_in wsX8_in) := goodIn_app (goodIn_r _ [8, 9, 10] rfl (by decide +kernel)) ggX8_restore_X8_in
/-! X8_restore -/
abbrev rm_X8_restore : Room := { frames := 1, cells := 0, slots := 0, locals := 25 }
theorem iw_X8_restore_8 : ∀ w ∈ wsX80, w ∈ wsX8_restore := fun _ h => List.mem_cons_of_mem _ (List.mem_append_right _ h)
theorem fl_X8_restore_50 : Cond.fieldLink RX8 50 "NightStonesModel" "thrown" "I" ∈ wsX8_restore := List.mem_of_getElem? (i := 1) rfl
theorem fl_X8_restore_40 : Cond.fieldLink RX8 40 "NightStonesModel" "isKept" "[Z" ∈ wsX8_restore := List.mem_of_getElem? (i := 3) rfl
theorem fl_X8_restore_177 : Cond.fieldLink RX8 177 "NightStonesModel" "acts" "I" ∈ wsX8_restore := List.mem_of_getElem? (i := 7) rfl
theorem fl_X8_restore_19 : Cond.fieldLink RX8 19 "NightStonesModel" "road" "[I" ∈ wsX8_restore := List.mem_of_getElem? (i := 5) rfl
theorem fl_X8_restore_44 : Cond.fieldLink RX8 44 "NightStonesModel" "kept" "[I" ∈ wsX8_restore := List.mem_of_getElem? (i := 6) rfl
theorem wd_X8_restore_c196 : Cond.constant RX8 196 (-1000002) ∈ wsX8_restore := List.mem_of_getElem? (i := 4) rfl
theorem wd_X8_restore_c70 : Cond.constant RX8 70 (-1000001) ∈ wsX8_restore := List.mem_of_getElem? (i := 2) rfl
def S_X8_restore_32 (X : Nat → Nat → Int32) (v1 : Int32) (c0_0 : Int32) (K : Int32 → (Nat → Nat → Int32) → Prop) (R32 : Int32 → (Nat → Int32) → Prop) (x2 : Int32) (c4_c : Nat → Int32) : Prop := ((94 ≤ x2 → K 1 (va_up (va_up X 0 (upd (upd (X 0) 0 c0_0) 8 0)) 4 c4_c)) ∧ (¬ (94 ≤ x2) → (vp_in ((94 * v1) + x2) 188 ∧ (vp_in x2 94 ∧ R32 (x2 + 1) (upd c4_c x2.toNatClampNeg ((X 12) ((94 * v1) + x2).toNatClampNeg))))))
set_option maxHeartbeats 4000000 in
set_option maxRecDepth 100000 in
theorem t_X8_restore_32 {y : nz_Y} {g : nz_G} (F : nz_F y g cX8_restore 3 wsX8_restore RX8 (some .int) rm_X8_restore) {wc0 : va_W} {sz : Nat} {K : Int32 → (Nat → Nat → Int32) → Prop} (a : Nat → Nat) (X : Nat → Nat → Int32) (v1 : Int32) (c0_0 : Int32) (c0_8 : Int32) (hQ : yz_A y = va_A wc0 sz ∧ yz_Q y = MQ (yz_b y) ((nz_Qi g wc0 (fun r (u : Nat → Nat → Int32) => K r u) (fun u => nz_wM g a u)) sz) (yz_a y) (yz_s y) 0 0 (va_A wc0 sz)) : ∀ (n1 : Nat) (x2 : Int32) (c4_c : Nat → Int32), nz_it (fun _ _ => False) (S_X8_restore_32 X v1 c0_0 K) n1 x2 c4_c → nz_V y g 0 0 [((a 0), .inr (8, [.int c0_0, .int (X 0 1), .ref (a 1), .ref (a 2), .ref (a 3), .ref (a 4), .ref (a 5), .ref (a 6), .int c0_8, .ref (a 7), .int (X 0 10), .int (X 0 11), .int (X 0 12), .int (X 0 13), .int (X 0 14), .int (X 0 15), .int (X 0 16), .int (X 0 17), .int (X 0 18), .ref (a 8), .ref (a 9), .ref (a 10), .ref (a 11), .ref (a 12), .ref (a 13), .int (X 0 25)])), ((a 1), .inl (nz_cI g, 8, .inl (X 1))), ((a 2), .inl (nz_cI g, 8, .inl (X 2))), ((a 3), .inl (nz_cI g, 320, .inl (X 3))), ((a 4), .inl (nz_cI g, 94, .inl c4_c)), ((a 5), .inl (nz_cI g, 94, .inl (X 5))), ((a 6), .inl (nz_cI g, 168, .inl (X 6))), ((a 7), .inl (nz_cI g, 400, .inl (X 7))), ((a 8), .inl (nz_cI g, 6, .inl (X 8))), ((a 9), .inl (nz_cI g, 49, .inl (X 9))), ((a 10), .inl (nz_cI g, 6, .inl (X 10))), ((a 11), .inl (nz_cZ g, 2, .inl (X 11))), ((a 12), .inl (nz_cI g, 188, .inl (X 12))), ((a 13), .inl (nz_cI g, 16, .inl (X 13)))] 32 [(0, .ref (a 0)), (1, .int v1), (2, .int x2)] [] := by
  intro n1
  induction n1 with
  | zero =>
    intro x2 c4_c h
    exact h.elim
  | succ n1 hR32 =>
    intro x2 c4_c h
    have h : S_X8_restore_32 X v1 c0_0 K (nz_it (fun _ _ => False) (S_X8_restore_32 X v1 c0_0 K) n1) x2 c4_c := h
    unfold S_X8_restore_32 at h
    refine nz_iload_n F dX8_restore_32 rfl 2 rfl ?_
    refine nz_bipush (v := 94) F dX8_restore_33 (by decide) ?_
    refine nz_icmp_ge (tgt := 61) F dX8_restore_35 (by decide) (fun c5 => ?_) (fun c5 => ?_)
    · have h := h.1 c5
      refine nz_aload_n F dX8_restore_61 rfl 0 rfl ?_
      refine nz_iconst (v := 0) F dX8_restore_62 (by decide) ?_
      refine nz_put (ws' := [((a 0), .inr (8, [.int c0_0, .int (X 0 1), .ref (a 1), .ref (a 2), .ref (a 3), .ref (a 4), .ref (a 5), .ref (a 6), .int 0, .ref (a 7), .int (X 0 10), .int (X 0 11), .int (X 0 12), .int (X 0 13), .int (X 0 14), .int (X 0 15), .int (X 0 16), .int (X 0 17), .int (X 0 18), .ref (a 8), .ref (a 9), .ref (a 10), .ref (a 11), .ref (a 12), .ref (a 13), .int (X 0 25)])), ((a 1), .inl (nz_cI g, 8, .inl (X 1))), ((a 2), .inl (nz_cI g, 8, .inl (X 2))), ((a 3), .inl (nz_cI g, 320, .inl (X 3))), ((a 4), .inl (nz_cI g, 94, .inl c4_c)), ((a 5), .inl (nz_cI g, 94, .inl (X 5))), ((a 6), .inl (nz_cI g, 168, .inl (X 6))), ((a 7), .inl (nz_cI g, 400, .inl (X 7))), ((a 8), .inl (nz_cI g, 6, .inl (X 8))), ((a 9), .inl (nz_cI g, 49, .inl (X 9))), ((a 10), .inl (nz_cI g, 6, .inl (X 10))), ((a 11), .inl (nz_cZ g, 2, .inl (X 11))), ((a 12), .inl (nz_cI g, 188, .inl (X 12))), ((a 13), .inl (nz_cI g, 16, .inl (X 13)))]) F iw_X8_restore_8 tyX8 tyX8_ok nmX8 0 rfl rfl 8 (by decide) rfl fl_X8_restore_177 rfl rfl (Nat.le_of_ble_eq_true rfl) dX8_restore_63 rfl ?_
      refine nz_iconst (v := 1) F dX8_restore_66 (by decide) ?_
      exact nz_iret F hQ (va_up (va_up X 0 (upd (upd (X 0) 0 c0_0) 8 0)) 4 c4_c) h rfl dX8_restore_67
    · have h := h.2 c5
      refine nz_aload_n F dX8_restore_38 rfl 0 rfl ?_
      refine nz_get F iw_X8_restore_8 0 rfl rfl 5 (by decide) rfl fl_X8_restore_19 rfl dX8_restore_39 ?_
      refine nz_iload_n F dX8_restore_42 rfl 2 rfl ?_
      refine nz_aload_n F dX8_restore_43 rfl 0 rfl ?_
      refine nz_get F iw_X8_restore_8 0 rfl rfl 23 (by decide) rfl fl_X8_restore_44 rfl dX8_restore_44 ?_
      refine nz_bipush (v := 94) F dX8_restore_47 (by decide) ?_
      refine nz_iload_n F dX8_restore_49 rfl 1 rfl ?_
      refine nz_imul F dX8_restore_50 ?_
      refine nz_iload_n F dX8_restore_51 rfl 2 rfl ?_
      refine nz_iadd F dX8_restore_52 ?_
      obtain ⟨i6, h⟩ := h
      refine nz_iald F 12 rfl i6 dX8_restore_53 ?_
      obtain ⟨i7, h⟩ := h
      refine nz_iast (ws' := [((a 0), .inr (8, [.int c0_0, .int (X 0 1), .ref (a 1), .ref (a 2), .ref (a 3), .ref (a 4), .ref (a 5), .ref (a 6), .int c0_8, .ref (a 7), .int (X 0 10), .int (X 0 11), .int (X 0 12), .int (X 0 13), .int (X 0 14), .int (X 0 15), .int (X 0 16), .int (X 0 17), .int (X 0 18), .ref (a 8), .ref (a 9), .ref (a 10), .ref (a 11), .ref (a 12), .ref (a 13), .int (X 0 25)])), ((a 1), .inl (nz_cI g, 8, .inl (X 1))), ((a 2), .inl (nz_cI g, 8, .inl (X 2))), ((a 3), .inl (nz_cI g, 320, .inl (X 3))), ((a 4), .inl (nz_cI g, 94, .inl (upd c4_c x2.toNatClampNeg ((X 12) ((94 * v1) + x2).toNatClampNeg)))), ((a 5), .inl (nz_cI g, 94, .inl (X 5))), ((a 6), .inl (nz_cI g, 168, .inl (X 6))), ((a 7), .inl (nz_cI g, 400, .inl (X 7))), ((a 8), .inl (nz_cI g, 6, .inl (X 8))), ((a 9), .inl (nz_cI g, 49, .inl (X 9))), ((a 10), .inl (nz_cI g, 6, .inl (X 10))), ((a 11), .inl (nz_cZ g, 2, .inl (X 11))), ((a 12), .inl (nz_cI g, 188, .inl (X 12))), ((a 13), .inl (nz_cI g, 16, .inl (X 13)))]) F 4 rfl i7 dX8_restore_54 rfl ?_
      refine nz_iinc (v := (x2 + 1)) (j := 2) (lv' := [(2, .int (x2 + 1)), (0, .ref (a 0)), (1, .int v1)]) F dX8_restore_55 rfl rfl (by decide) rfl ?_
      refine nz_goto (tgt := 32) F dX8_restore_58 (by decide) ?_
      refine nz_ls (lv' := [(0, .ref (a 0)), (1, .int v1), (2, .int (x2 + 1))]) [1, 2, 0] rfl ?_
      exact hR32 (x2 + 1) (upd c4_c x2.toNatClampNeg ((X 12) ((94 * v1) + x2).toNatClampNeg)) h
def wp_X8_restore (X : Nat → Nat → Int32) (v1 : Int32) (K : Int32 → (Nat → Nat → Int32) → Prop) : Prop := wp_X8_in ((v1 : Int32).toInt64) 0 1 (fun q1 => ((¬ q1 = 0 → (vp_in v1 2 ∧ ((¬ ((X 11) v1.toNatClampNeg) = 0 → (∃ n, nz_it (fun _ _ => False) (S_X8_restore_32 X v1 0 K) n 0 (X 4))) ∧ (((X 11) v1.toNatClampNeg) = 0 → K (-1000002 : Int32) (va_up X 0 (upd (X 0) 0 0)))))) ∧ (q1 = 0 → K (-1000001 : Int32) (va_up X 0 (upd (X 0) 0 0)))))
set_option maxHeartbeats 4000000 in
set_option maxRecDepth 100000 in
theorem c_X8_restore (l : Launch) (g : nz_G) (a : Nat → Nat) (X : Nat → Nat → Int32) (v1 : Int32) (K : Int32 → (Nat → Nat → Int32) → Prop) (h : wp_X8_restore X v1 K) : nz_M l yX8_restore wsX8_restore rm_X8_restore g [.ref (a 0), .int v1] (nz_wM g a X) (nz_Qi g (nz_wM g a X) (fun r (u : Nat → Nat → Int32) => K r u) (fun u => nz_wM g a u)) := by
  refine nz_M.of (bytes := cX8_restore) (nL := 3) (ret := (some .int)) (own := RX8) (by decide) rfl rfl ⟨rfl, rfl⟩ rfl ?_
  intro y F hl hQ
  obtain ⟨sz, hQ⟩ := hQ
  refine nz_ent (lv' := [(0, .ref (a 0)), (1, .int v1)]) rfl ?_
  unfold wp_X8_restore at h
  refine nz_aload_n F dX8_restore_0 rfl 0 rfl ?_
  refine nz_iconst (v := 0) F dX8_restore_1 (by decide) ?_
  refine nz_put (ws' := [((a 0), .inr (8, [.int 0, .int (X 0 1), .ref (a 1), .ref (a 2), .ref (a 3), .ref (a 4), .ref (a 5), .ref (a 6), .int (X 0 8), .ref (a 7), .int (X 0 10), .int (X 0 11), .int (X 0 12), .int (X 0 13), .int (X 0 14), .int (X 0 15), .int (X 0 16), .int (X 0 17), .int (X 0 18), .ref (a 8), .ref (a 9), .ref (a 10), .ref (a 11), .ref (a 12), .ref (a 13), .int (X 0 25)])), ((a 1), .inl (nz_cI g, 8, .inl (X 1))), ((a 2), .inl (nz_cI g, 8, .inl (X 2))), ((a 3), .inl (nz_cI g, 320, .inl (X 3))), ((a 4), .inl (nz_cI g, 94, .inl (X 4))), ((a 5), .inl (nz_cI g, 94, .inl (X 5))), ((a 6), .inl (nz_cI g, 168, .inl (X 6))), ((a 7), .inl (nz_cI g, 400, .inl (X 7))), ((a 8), .inl (nz_cI g, 6, .inl (X 8))), ((a 9), .inl (nz_cI g, 49, .inl (X 9))), ((a 10), .inl (nz_cI g, 6, .inl (X 10))), ((a 11), .inl (nz_cZ g, 2, .inl (X 11))), ((a 12), .inl (nz_cI g, 188, .inl (X 12))), ((a 13), .inl (nz_cI g, 16, .inl (X 13)))]) F iw_X8_restore_8 tyX8 tyX8_ok nmX8 0 rfl rfl 0 (by decide) rfl fl_X8_restore_50 rfl rfl (Nat.le_of_ble_eq_true rfl) dX8_restore_2 rfl ?_
  refine nz_iload_n F dX8_restore_5 rfl 1 rfl ?_
  refine nz_i2l (v := ((v1 : Int32).toInt64)) F dX8_restore_6 rfl ?_
  refine nz_lconst (v := 0) F dX8_restore_7 (by decide) ?_
  refine nz_lconst (v := 1) F dX8_restore_8 (by decide) ?_
  refine k_X8_in ((v1 : Int32).toInt64) 0 1 (fun hM => nz_runS F gX8_restore_X8_in rfl hd_X8_in.2 rfl hM dX8_restore_9 [] rfl rfl rfl (Nat.le_of_ble_eq_true rfl) rfl) h ([((a 0), .inr (8, [.int 0, .int (X 0 1), .ref (a 1), .ref (a 2), .ref (a 3), .ref (a 4), .ref (a 5), .ref (a 6), .int (X 0 8), .ref (a 7), .int (X 0 10), .int (X 0 11), .int (X 0 12), .int (X 0 13), .int (X 0 14), .int (X 0 15), .int (X 0 16), .int (X 0 17), .int (X 0 18), .ref (a 8), .ref (a 9), .ref (a 10), .ref (a 11), .ref (a 12), .ref (a 13), .int (X 0 25)])), ((a 1), .inl (nz_cI g, 8, .inl (X 1))), ((a 2), .inl (nz_cI g, 8, .inl (X 2))), ((a 3), .inl (nz_cI g, 320, .inl (X 3))), ((a 4), .inl (nz_cI g, 94, .inl (X 4))), ((a 5), .inl (nz_cI g, 94, .inl (X 5))), ((a 6), .inl (nz_cI g, 168, .inl (X 6))), ((a 7), .inl (nz_cI g, 400, .inl (X 7))), ((a 8), .inl (nz_cI g, 6, .inl (X 8))), ((a 9), .inl (nz_cI g, 49, .inl (X 9))), ((a 10), .inl (nz_cI g, 6, .inl (X 10))), ((a 11), .inl (nz_cZ g, 2, .inl (X 11))), ((a 12), .inl (nz_cI g, 188, .inl (X 12))), ((a 13), .inl (nz_cI g, 16, .inl (X 13)))]) (rfl) (fun q1 h => ?_)
  refine nz_if_ne (tgt := 18) F dX8_restore_12 (by decide) (fun c2 => ?_) (fun c2 => ?_)
  · have h := h.1 c2
    refine nz_aload_n F dX8_restore_18 rfl 0 rfl ?_
    refine nz_get F iw_X8_restore_8 0 rfl rfl 22 (by decide) rfl fl_X8_restore_40 rfl dX8_restore_19 ?_
    refine nz_iload_n F dX8_restore_22 rfl 1 rfl ?_
    obtain ⟨i3, h⟩ := h
    refine nz_zald F 11 rfl i3 dX8_restore_23 ?_
    refine nz_if_ne (tgt := 30) F dX8_restore_24 (by decide) (fun c4 => ?_) (fun c4 => ?_)
    · have h := h.1 c4
      refine nz_iconst (v := 0) F dX8_restore_30 (by decide) ?_
      refine nz_istore_n (lv' := [(2, .int 0), (0, .ref (a 0)), (1, .int v1)]) F dX8_restore_31 rfl (by decide) rfl ?_
      refine nz_ls (lv' := [(0, .ref (a 0)), (1, .int v1), (2, .int 0)]) [1, 2, 0] rfl ?_
      obtain ⟨n1, h⟩ := h
      exact t_X8_restore_32 F a X v1 0 (X 0 8) hQ n1 0 (X 4) h
    · have h := h.2 c4
      refine nz_ldc (v := (-1000002 : Int32)) F wd_X8_restore_c196 dX8_restore_27 ?_
      exact nz_iret F hQ (va_up X 0 (upd (X 0) 0 0)) h rfl dX8_restore_29
  · have h := h.2 c2
    refine nz_ldc (v := (-1000001 : Int32)) F wd_X8_restore_c70 dX8_restore_15 ?_
    exact nz_iret F hQ (va_up X 0 (upd (X 0) 0 0)) h rfl dX8_restore_17
theorem k_X8_restore {y : nz_Y} {g : nz_G} {k n : Nat} {ws : va_W} {pc : Nat} {ls : List (Nat × Value)} {st rest : List Value} {av : Array Value} {isC : List Nat} {K : Int32 → (Nat → Nat → Int32) → Prop} (a : Nat → Nat) (X : Nat → Nat → Int32) (v1 : Int32) (run : nz_M (yz_l y) yX8_restore wsX8_restore rm_X8_restore g [.ref (a 0), .int v1] (nz_wM g a X) (nz_Qi g (nz_wM g a X) (fun r (u : Nat → Nat → Int32) => K r u) (fun u => nz_wM g a u)) → nz_C y g k n ws pc ls st rest (nz_wM g a X) (nz_Qi g (nz_wM g a X) (fun r (u : Nat → Nat → Int32) => K r u) (fun u => nz_wM g a u)) av isC) (h : wp_X8_restore X v1 K) (ws' : (Nat → Nat → Int32) → va_W) (hm : ∀ (m0 : (Nat → Nat → Int32)), nz_mrg ws isC (nz_wM g a m0) = ws' m0) (kk : ∀ (r : Int32) (m0 : (Nat → Nat → Int32)), K r m0 → nz_V y g k n (ws' m0) (pc + 3) ls (.int r :: rest)) : nz_V y g k n ws pc ls st :=
  nz_ci (ws' := fun u => ws' u) (run (c_X8_restore (yz_l y) g a X v1 K h)) (fun _ => rfl) (fun u => hm u) (fun r u h => kk r u h)
theorem dX8_kind_0 : decode cX8_kind 0 = .ok (.aload_n 0, 1) := by decide +kernel
theorem dX8_kind_1 : decode cX8_kind 1 = .ok (.iconst 0, 1) := by decide +kernel
theorem dX8_kind_2 : decode cX8_kind 2 = .ok (.putfield 50, 3) := by decide +kernel
theorem dX8_kind_5 : decode cX8_kind 5 = .ok (.aload_n 0, 1) := by decide +kernel
theorem dX8_kind_6 : decode cX8_kind 6 = .ok (.iload_n 1, 1) := by decide +kernel
theorem dX8_kind_7 : decode cX8_kind 7 = .ok (.invokevirtual 255, 3) := by decide +kernel
theorem dX8_kind_10 : decode cX8_kind 10 = .ok (.ifCond .eq 12, 3) := by decide +kernel
theorem dX8_kind_13 : decode cX8_kind 13 = .ok (.aload_n 0, 1) := by decide +kernel
theorem dX8_kind_14 : decode cX8_kind 14 = .ok (.iload_n 1, 1) := by decide +kernel
theorem dX8_kind_15 : decode cX8_kind 15 = .ok (.iconst 0, 1) := by decide +kernel
theorem dX8_kind_16 : decode cX8_kind 16 = .ok (.invokevirtual 183, 3) := by decide +kernel
theorem dX8_kind_19 : decode cX8_kind 19 = .ok (.goto 5, 3) := by decide +kernel
theorem dX8_kind_22 : decode cX8_kind 22 = .ok (.ldc 70, 2) := by decide +kernel
theorem dX8_kind_24 : decode cX8_kind 24 = .ok (.ireturn, 1) := by decide +kernel
set_option maxRecDepth 20000 in
theorem ggX8_kind_X8_isMover : GoodIn wsX8_kind wsX8_isMover := goodIn_r _ [7, 8, 9, 10, 6, 11, 16, 17, 18, 19, 20, 21, 22, 23, 24, 25, 26, 27, 28, 29, 30, 31, 32, 33, 34, 35, 36, 37, 38, 39, 40, 41] rfl (by decide +kernel)
set_option maxRecDepth 20000 in
theorem gX8_kind_X8_isMover : GoodIn wsX8_kind (wsV RX8 255 RX8 yX8_isMover wsX8_isMover) := goodIn_app (goodIn_r _ [3, 4, 5, 6] rfl (by decide +kernel)) ggX8_kind_X8_isMover
set_option maxRecDepth 20000 in
theorem ggX8_kind_X8_of : GoodIn wsX8_kind wsX8_of := goodIn_r _ [15, 8, 16, 17, 18, 19, 20, 21, 22, 23, 24, 25, 26, 27, 28, 29, 30, 31, 32, 33, 34, 35, 36, 37, 38, 39, 40, 41] rfl (by decide +kernel)
set_option maxRecDepth 20000 in
theorem gX8_kind_X8_of : GoodIn wsX8_kind (wsV RX8 183 RX8 yX8_of wsX8_of) := goodIn_app (goodIn_r _ [12, 13, 14, 6] rfl (by decide +kernel)) ggX8_kind_X8_of
theorem hd_X8_isMover : yX8_isMover.cls = RX8 ∧ yX8_isMover.cls ≠ "java/lang/invoke/MethodHandle" ∧ yX8_isMover.cls ≠ "java/lang/invoke/VarHandle" ∧ (parseMethodDescriptor yX8_isMover.desc).map (fun d => d.parameters.length) = some 1 := by decide +kernel
/-! X8_kind -/
abbrev rm_X8_kind : Room := { frames := 2, cells := 0, slots := 0, locals := 46 }
theorem iw_X8_kind_8 : ∀ w ∈ wsX80, w ∈ wsX8_kind := fun _ h => List.mem_cons_of_mem _ (List.mem_append_right _ h)
theorem fl_X8_kind_50 : Cond.fieldLink RX8 50 "NightStonesModel" "thrown" "I" ∈ wsX8_kind := List.mem_of_getElem? (i := 1) rfl
theorem wd_X8_kind_c70 : Cond.constant RX8 70 (-1000001) ∈ wsX8_kind := List.mem_of_getElem? (i := 2) rfl
def wp_X8_kind (X : Nat → Nat → Int32) (v1 : Int32) (K : Int32 → (Nat → Nat → Int32) → Prop) : Prop := wp_X8_isMover (X 4) v1 (fun q1 => ((q1 = 0 → K (-1000001 : Int32) (va_up X 0 (upd (X 0) 0 0))) ∧ (¬ (q1 = 0) → wp_X8_of (X 4) v1 0 (fun q3 => K q3 (va_up X 0 (upd (X 0) 0 0))))))
set_option maxHeartbeats 4000000 in
set_option maxRecDepth 100000 in
theorem c_X8_kind (l : Launch) (g : nz_G) (a : Nat → Nat) (X : Nat → Nat → Int32) (v1 : Int32) (K : Int32 → (Nat → Nat → Int32) → Prop) (h : wp_X8_kind X v1 K) : nz_M l yX8_kind wsX8_kind rm_X8_kind g [.ref (a 0), .int v1] (nz_wM g a X) (nz_Qi g (nz_wM g a X) (fun r (u : Nat → Nat → Int32) => K r u) (fun u => nz_wM g a u)) := by
  refine nz_M.of (bytes := cX8_kind) (nL := 2) (ret := (some .int)) (own := RX8) (by decide) rfl rfl ⟨rfl, rfl⟩ rfl ?_
  intro y F hl hQ
  obtain ⟨sz, hQ⟩ := hQ
  refine nz_ent (lv' := [(0, .ref (a 0)), (1, .int v1)]) rfl ?_
  unfold wp_X8_kind at h
  refine nz_aload_n F dX8_kind_0 rfl 0 rfl ?_
  refine nz_iconst (v := 0) F dX8_kind_1 (by decide) ?_
  refine nz_put (ws' := [((a 0), .inr (8, [.int 0, .int (X 0 1), .ref (a 1), .ref (a 2), .ref (a 3), .ref (a 4), .ref (a 5), .ref (a 6), .int (X 0 8), .ref (a 7), .int (X 0 10), .int (X 0 11), .int (X 0 12), .int (X 0 13), .int (X 0 14), .int (X 0 15), .int (X 0 16), .int (X 0 17), .int (X 0 18), .ref (a 8), .ref (a 9), .ref (a 10), .ref (a 11), .ref (a 12), .ref (a 13), .int (X 0 25)])), ((a 1), .inl (nz_cI g, 8, .inl (X 1))), ((a 2), .inl (nz_cI g, 8, .inl (X 2))), ((a 3), .inl (nz_cI g, 320, .inl (X 3))), ((a 4), .inl (nz_cI g, 94, .inl (X 4))), ((a 5), .inl (nz_cI g, 94, .inl (X 5))), ((a 6), .inl (nz_cI g, 168, .inl (X 6))), ((a 7), .inl (nz_cI g, 400, .inl (X 7))), ((a 8), .inl (nz_cI g, 6, .inl (X 8))), ((a 9), .inl (nz_cI g, 49, .inl (X 9))), ((a 10), .inl (nz_cI g, 6, .inl (X 10))), ((a 11), .inl (nz_cZ g, 2, .inl (X 11))), ((a 12), .inl (nz_cI g, 188, .inl (X 12))), ((a 13), .inl (nz_cI g, 16, .inl (X 13)))]) F iw_X8_kind_8 tyX8 tyX8_ok nmX8 0 rfl rfl 0 (by decide) rfl fl_X8_kind_50 rfl rfl (Nat.le_of_ble_eq_true rfl) dX8_kind_2 rfl ?_
  refine nz_aload_n F dX8_kind_5 rfl 0 rfl ?_
  refine nz_iload_n F dX8_kind_6 rfl 1 rfl ?_
  refine k_X8_isMover (a 0) (a 1) (a 2) (a 3) (a 4) (a 5) (a 6) (a 7) (a 8) (a 9) (a 10) (a 11) (a 12) (a 13) 0 (X 0 1) (X 0 8) (X 0 10) (X 0 11) (X 0 12) (X 0 13) (X 0 14) (X 0 15) (X 0 16) (X 0 17) (X 0 18) (X 0 25) (X 1) (X 2) (X 3) (X 4) (X 5) (X 6) (X 7) (X 8) (X 9) (X 10) (X 11) (X 12) (X 13) v1 (fun hM => nz_runV F gX8_kind_X8_isMover rfl hd_X8_isMover rfl hM dX8_kind_7 [0, 1, 2, 3, 4, 5, 6, 7, 8, 9, 10, 11, 12, 13] rfl rfl 0 rfl rfl rfl (Nat.le_of_ble_eq_true rfl) rfl) h ([((a 0), .inr (8, [.int 0, .int (X 0 1), .ref (a 1), .ref (a 2), .ref (a 3), .ref (a 4), .ref (a 5), .ref (a 6), .int (X 0 8), .ref (a 7), .int (X 0 10), .int (X 0 11), .int (X 0 12), .int (X 0 13), .int (X 0 14), .int (X 0 15), .int (X 0 16), .int (X 0 17), .int (X 0 18), .ref (a 8), .ref (a 9), .ref (a 10), .ref (a 11), .ref (a 12), .ref (a 13), .int (X 0 25)])), ((a 1), .inl (nz_cI g, 8, .inl (X 1))), ((a 2), .inl (nz_cI g, 8, .inl (X 2))), ((a 3), .inl (nz_cI g, 320, .inl (X 3))), ((a 4), .inl (nz_cI g, 94, .inl (X 4))), ((a 5), .inl (nz_cI g, 94, .inl (X 5))), ((a 6), .inl (nz_cI g, 168, .inl (X 6))), ((a 7), .inl (nz_cI g, 400, .inl (X 7))), ((a 8), .inl (nz_cI g, 6, .inl (X 8))), ((a 9), .inl (nz_cI g, 49, .inl (X 9))), ((a 10), .inl (nz_cI g, 6, .inl (X 10))), ((a 11), .inl (nz_cZ g, 2, .inl (X 11))), ((a 12), .inl (nz_cI g, 188, .inl (X 12))), ((a 13), .inl (nz_cI g, 16, .inl (X 13)))]) (rfl) (fun q1 h => ?_)
  refine nz_if_eq (tgt := 22) F dX8_kind_10 (by decide) (fun c2 => ?_) (fun c2 => ?_)
  · have h := h.1 c2
    refine nz_ldc (v := (-1000001 : Int32)) F wd_X8_kind_c70 dX8_kind_22 ?_
    exact nz_iret F hQ (va_up X 0 (upd (X 0) 0 0)) h rfl dX8_kind_24
  · have h := h.2 c2
    refine nz_aload_n F dX8_kind_13 rfl 0 rfl ?_
    refine nz_iload_n F dX8_kind_14 rfl 1 rfl ?_
    refine nz_iconst (v := 0) F dX8_kind_15 (by decide) ?_
    refine k_X8_of (a 0) (a 1) (a 2) (a 3) (a 4) (a 5) (a 6) (a 7) (a 8) (a 9) (a 10) (a 11) (a 12) (a 13) 0 (X 0 1) (X 0 8) (X 0 10) (X 0 11) (X 0 12) (X 0 13) (X 0 14) (X 0 15) (X 0 16) (X 0 17) (X 0 18) (X 0 25) (X 1) (X 2) (X 3) (X 4) (X 5) (X 6) (X 7) (X 8) (X 9) (X 10) (X 11) (X 12) (X 13) v1 0 (fun hM => nz_runV F gX8_kind_X8_of rfl hd_X8_of rfl hM dX8_kind_16 [0, 1, 2, 3, 4, 5, 6, 7, 8, 9, 10, 11, 12, 13] rfl rfl 0 rfl rfl rfl (Nat.le_of_ble_eq_true rfl) rfl) h ([((a 0), .inr (8, [.int 0, .int (X 0 1), .ref (a 1), .ref (a 2), .ref (a 3), .ref (a 4), .ref (a 5), .ref (a 6), .int (X 0 8), .ref (a 7), .int (X 0 10), .int (X 0 11), .int (X 0 12), .int (X 0 13), .int (X 0 14), .int (X 0 15), .int (X 0 16), .int (X 0 17), .int (X 0 18), .ref (a 8), .ref (a 9), .ref (a 10), .ref (a 11), .ref (a 12), .ref (a 13), .int (X 0 25)])), ((a 1), .inl (nz_cI g, 8, .inl (X 1))), ((a 2), .inl (nz_cI g, 8, .inl (X 2))), ((a 3), .inl (nz_cI g, 320, .inl (X 3))), ((a 4), .inl (nz_cI g, 94, .inl (X 4))), ((a 5), .inl (nz_cI g, 94, .inl (X 5))), ((a 6), .inl (nz_cI g, 168, .inl (X 6))), ((a 7), .inl (nz_cI g, 400, .inl (X 7))), ((a 8), .inl (nz_cI g, 6, .inl (X 8))), ((a 9), .inl (nz_cI g, 49, .inl (X 9))), ((a 10), .inl (nz_cI g, 6, .inl (X 10))), ((a 11), .inl (nz_cZ g, 2, .inl (X 11))), ((a 12), .inl (nz_cI g, 188, .inl (X 12))), ((a 13), .inl (nz_cI g, 16, .inl (X 13)))]) (rfl) (fun q3 h => ?_)
    refine nz_goto (tgt := 24) F dX8_kind_19 (by decide) ?_
    exact nz_iret F hQ (va_up X 0 (upd (X 0) 0 0)) h rfl dX8_kind_24
theorem k_X8_kind {y : nz_Y} {g : nz_G} {k n : Nat} {ws : va_W} {pc : Nat} {ls : List (Nat × Value)} {st rest : List Value} {av : Array Value} {isC : List Nat} {K : Int32 → (Nat → Nat → Int32) → Prop} (a : Nat → Nat) (X : Nat → Nat → Int32) (v1 : Int32) (run : nz_M (yz_l y) yX8_kind wsX8_kind rm_X8_kind g [.ref (a 0), .int v1] (nz_wM g a X) (nz_Qi g (nz_wM g a X) (fun r (u : Nat → Nat → Int32) => K r u) (fun u => nz_wM g a u)) → nz_C y g k n ws pc ls st rest (nz_wM g a X) (nz_Qi g (nz_wM g a X) (fun r (u : Nat → Nat → Int32) => K r u) (fun u => nz_wM g a u)) av isC) (h : wp_X8_kind X v1 K) (ws' : (Nat → Nat → Int32) → va_W) (hm : ∀ (m0 : (Nat → Nat → Int32)), nz_mrg ws isC (nz_wM g a m0) = ws' m0) (kk : ∀ (r : Int32) (m0 : (Nat → Nat → Int32)), K r m0 → nz_V y g k n (ws' m0) (pc + 3) ls (.int r :: rest)) : nz_V y g k n ws pc ls st :=
  nz_ci (ws' := fun u => ws' u) (run (c_X8_kind (yz_l y) g a X v1 K h)) (fun _ => rfl) (fun u => hm u) (fun r u h => kk r u h)
theorem dX8_as_0 : decode cX8_as 0 = .ok (.aload_n 0, 1) := by decide +kernel
theorem dX8_as_1 : decode cX8_as 1 = .ok (.iconst 0, 1) := by decide +kernel
theorem dX8_as_2 : decode cX8_as 2 = .ok (.putfield 50, 3) := by decide +kernel
theorem dX8_as_5 : decode cX8_as 5 = .ok (.aload_n 0, 1) := by decide +kernel
theorem dX8_as_6 : decode cX8_as 6 = .ok (.iload_n 1, 1) := by decide +kernel
theorem dX8_as_7 : decode cX8_as 7 = .ok (.invokevirtual 255, 3) := by decide +kernel
theorem dX8_as_10 : decode cX8_as 10 = .ok (.ifCond .eq 15, 3) := by decide +kernel
theorem dX8_as_13 : decode cX8_as 13 = .ok (.iload_n 2, 1) := by decide +kernel
theorem dX8_as_14 : decode cX8_as 14 = .ok (.i2l, 1) := by decide +kernel
theorem dX8_as_15 : decode cX8_as 15 = .ok (.lconst 0, 1) := by decide +kernel
theorem dX8_as_16 : decode cX8_as 16 = .ok (.ldc2_w 258, 3) := by decide +kernel
theorem dX8_as_19 : decode cX8_as 19 = .ok (.invokestatic 60, 3) := by decide +kernel
theorem dX8_as_22 : decode cX8_as 22 = .ok (.ifCond .ne 6, 3) := by decide +kernel
theorem dX8_as_25 : decode cX8_as 25 = .ok (.ldc 70, 2) := by decide +kernel
theorem dX8_as_27 : decode cX8_as 27 = .ok (.ireturn, 1) := by decide +kernel
theorem dX8_as_28 : decode cX8_as 28 = .ok (.aload_n 0, 1) := by decide +kernel
theorem dX8_as_29 : decode cX8_as 29 = .ok (.iconst 0, 1) := by decide +kernel
theorem dX8_as_30 : decode cX8_as 30 = .ok (.putfield 54, 3) := by decide +kernel
theorem dX8_as_33 : decode cX8_as 33 = .ok (.aload_n 0, 1) := by decide +kernel
theorem dX8_as_34 : decode cX8_as 34 = .ok (.iload_n 1, 1) := by decide +kernel
theorem dX8_as_35 : decode cX8_as 35 = .ok (.iconst 0, 1) := by decide +kernel
theorem dX8_as_36 : decode cX8_as 36 = .ok (.invokevirtual 183, 3) := by decide +kernel
theorem dX8_as_39 : decode cX8_as 39 = .ok (.iload_n 2, 1) := by decide +kernel
theorem dX8_as_40 : decode cX8_as 40 = .ok (.invokestatic 260, 3) := by decide +kernel
theorem dX8_as_43 : decode cX8_as 43 = .ok (.ifCond .eq 7, 3) := by decide +kernel
theorem dX8_as_46 : decode cX8_as 46 = .ok (.iload_n 1, 1) := by decide +kernel
theorem dX8_as_47 : decode cX8_as 47 = .ok (.goto 8, 3) := by decide +kernel
theorem dX8_as_50 : decode cX8_as 50 = .ok (.aload_n 0, 1) := by decide +kernel
theorem dX8_as_51 : decode cX8_as 51 = .ok (.iconst 3, 1) := by decide +kernel
theorem dX8_as_52 : decode cX8_as 52 = .ok (.invokevirtual 71, 3) := by decide +kernel
theorem dX8_as_55 : decode cX8_as 55 = .ok (.ireturn, 1) := by decide +kernel
set_option maxRecDepth 20000 in
theorem ggX8_as_X8_finding : GoodIn wsX8_as wsX8_finding := goodIn_r _ [24, 4, 25, 26, 27, 28, 29, 30, 31, 32, 33, 34, 35, 36, 37, 38, 39, 40, 41, 42, 43, 44, 45, 46, 47, 48, 49, 50, 51] rfl (by decide +kernel)
set_option maxRecDepth 20000 in
theorem gX8_as_X8_finding : GoodIn wsX8_as (wsV RX8 71 RX8 yX8_finding wsX8_finding) := goodIn_app (goodIn_r _ [21, 22, 23, 8] rfl (by decide +kernel)) ggX8_as_X8_finding
set_option maxRecDepth 20000 in
theorem ggX8_as_X8_in : GoodIn wsX8_as wsX8_in := goodIn_r _ [13] rfl (by decide +kernel)
set_option maxRecDepth 20000 in
theorem gX8_as_X8_in : GoodIn wsX8_as (va_wsS RX8 60 yX8_in wsX8_in) := goodIn_app (goodIn_r _ [11, 12, 8] rfl (by decide +kernel)) ggX8_as_X8_in
set_option maxRecDepth 20000 in
theorem ggX8_as_X8_isMover : GoodIn wsX8_as wsX8_isMover := goodIn_r _ [9, 10, 11, 12, 8, 13, 26, 27, 28, 29, 30, 31, 32, 33, 34, 35, 36, 37, 38, 39, 40, 41, 42, 43, 44, 45, 46, 47, 48, 49, 50, 51] rfl (by decide +kernel)
set_option maxRecDepth 20000 in
theorem gX8_as_X8_isMover : GoodIn wsX8_as (wsV RX8 255 RX8 yX8_isMover wsX8_isMover) := goodIn_app (goodIn_r _ [5, 6, 7, 8] rfl (by decide +kernel)) ggX8_as_X8_isMover
set_option maxRecDepth 20000 in
theorem ggX8_as_X8_isOf : GoodIn wsX8_as wsX8_isOf := goodIn_r _ [20] rfl (by decide +kernel)
set_option maxRecDepth 20000 in
theorem gX8_as_X8_isOf : GoodIn wsX8_as (va_wsS RX8 260 yX8_isOf wsX8_isOf) := goodIn_app (goodIn_r _ [18, 19, 8] rfl (by decide +kernel)) ggX8_as_X8_isOf
set_option maxRecDepth 20000 in
theorem ggX8_as_X8_of : GoodIn wsX8_as wsX8_of := goodIn_r _ [17, 10, 26, 27, 28, 29, 30, 31, 32, 33, 34, 35, 36, 37, 38, 39, 40, 41, 42, 43, 44, 45, 46, 47, 48, 49, 50, 51] rfl (by decide +kernel)
set_option maxRecDepth 20000 in
theorem gX8_as_X8_of : GoodIn wsX8_as (wsV RX8 183 RX8 yX8_of wsX8_of) := goodIn_app (goodIn_r _ [14, 15, 16, 8] rfl (by decide +kernel)) ggX8_as_X8_of
theorem hd_X8_isOf : yX8_isOf.cls = RX8 ∧ yX8_isOf.cls ≠ "java/lang/invoke/MethodHandle" ∧ yX8_isOf.cls ≠ "java/lang/invoke/VarHandle" ∧ (parseMethodDescriptor yX8_isOf.desc).map (fun d => d.parameters.length) = some 2 := by decide +kernel
/-! X8_as -/
abbrev rm_X8_as : Room := { frames := 2, cells := 0, slots := 0, locals := 46 }
theorem iw_X8_as_8 : ∀ w ∈ wsX80, w ∈ wsX8_as := fun _ h => List.mem_cons_of_mem _ (List.mem_append_right _ h)
theorem fl_X8_as_50 : Cond.fieldLink RX8 50 "NightStonesModel" "thrown" "I" ∈ wsX8_as := List.mem_of_getElem? (i := 1) rfl
theorem wd_X8_as_c70 : Cond.constant RX8 70 (-1000001) ∈ wsX8_as := List.mem_of_getElem? (i := 3) rfl
theorem wd_X8_as_c258 : Cond.constantLong RX8 258 (5) ∈ wsX8_as := List.mem_of_getElem? (i := 2) rfl
theorem fl_X8_as_54 : Cond.fieldLink RX8 54 "NightStonesModel" "status" "I" ∈ wsX8_as := List.mem_of_getElem? (i := 4) rfl
def wp_X8_as (X : Nat → Nat → Int32) (v1 : Int32) (v2 : Int32) (K : Int32 → (Nat → Nat → Int32) → Prop) : Prop := wp_X8_isMover (X 4) v1 (fun q1 => ((q1 = 0 → K (-1000001 : Int32) (va_up X 0 (upd (X 0) 0 0))) ∧ (¬ (q1 = 0) → wp_X8_in ((v2 : Int32).toInt64) 0 5 (fun q3 => ((¬ q3 = 0 → wp_X8_of (X 4) v1 0 (fun q5 => wp_X8_isOf q5 v2 (fun q6 => ((q6 = 0 → wp_X8_finding 3 (fun q8 m9 => K q8 (va_up X 0 (upd (upd (X 0) 0 0) 1 m9)))) ∧ (¬ (q6 = 0) → K v1 (va_up X 0 (upd (upd (X 0) 0 0) 1 0))))))) ∧ (q3 = 0 → K (-1000001 : Int32) (va_up X 0 (upd (X 0) 0 0))))))))
set_option maxHeartbeats 4000000 in
set_option maxRecDepth 100000 in
theorem c_X8_as (l : Launch) (g : nz_G) (a : Nat → Nat) (X : Nat → Nat → Int32) (v1 : Int32) (v2 : Int32) (K : Int32 → (Nat → Nat → Int32) → Prop) (h : wp_X8_as X v1 v2 K) : nz_M l yX8_as wsX8_as rm_X8_as g [.ref (a 0), .int v1, .int v2] (nz_wM g a X) (nz_Qi g (nz_wM g a X) (fun r (u : Nat → Nat → Int32) => K r u) (fun u => nz_wM g a u)) := by
  refine nz_M.of (bytes := cX8_as) (nL := 3) (ret := (some .int)) (own := RX8) (by decide) rfl rfl ⟨rfl, rfl⟩ rfl ?_
  intro y F hl hQ
  obtain ⟨sz, hQ⟩ := hQ
  refine nz_ent (lv' := [(0, .ref (a 0)), (1, .int v1), (2, .int v2)]) rfl ?_
  unfold wp_X8_as at h
  refine nz_aload_n F dX8_as_0 rfl 0 rfl ?_
  refine nz_iconst (v := 0) F dX8_as_1 (by decide) ?_
  refine nz_put (ws' := [((a 0), .inr (8, [.int 0, .int (X 0 1), .ref (a 1), .ref (a 2), .ref (a 3), .ref (a 4), .ref (a 5), .ref (a 6), .int (X 0 8), .ref (a 7), .int (X 0 10), .int (X 0 11), .int (X 0 12), .int (X 0 13), .int (X 0 14), .int (X 0 15), .int (X 0 16), .int (X 0 17), .int (X 0 18), .ref (a 8), .ref (a 9), .ref (a 10), .ref (a 11), .ref (a 12), .ref (a 13), .int (X 0 25)])), ((a 1), .inl (nz_cI g, 8, .inl (X 1))), ((a 2), .inl (nz_cI g, 8, .inl (X 2))), ((a 3), .inl (nz_cI g, 320, .inl (X 3))), ((a 4), .inl (nz_cI g, 94, .inl (X 4))), ((a 5), .inl (nz_cI g, 94, .inl (X 5))), ((a 6), .inl (nz_cI g, 168, .inl (X 6))), ((a 7), .inl (nz_cI g, 400, .inl (X 7))), ((a 8), .inl (nz_cI g, 6, .inl (X 8))), ((a 9), .inl (nz_cI g, 49, .inl (X 9))), ((a 10), .inl (nz_cI g, 6, .inl (X 10))), ((a 11), .inl (nz_cZ g, 2, .inl (X 11))), ((a 12), .inl (nz_cI g, 188, .inl (X 12))), ((a 13), .inl (nz_cI g, 16, .inl (X 13)))]) F iw_X8_as_8 tyX8 tyX8_ok nmX8 0 rfl rfl 0 (by decide) rfl fl_X8_as_50 rfl rfl (Nat.le_of_ble_eq_true rfl) dX8_as_2 rfl ?_
  refine nz_aload_n F dX8_as_5 rfl 0 rfl ?_
  refine nz_iload_n F dX8_as_6 rfl 1 rfl ?_
  refine k_X8_isMover (a 0) (a 1) (a 2) (a 3) (a 4) (a 5) (a 6) (a 7) (a 8) (a 9) (a 10) (a 11) (a 12) (a 13) 0 (X 0 1) (X 0 8) (X 0 10) (X 0 11) (X 0 12) (X 0 13) (X 0 14) (X 0 15) (X 0 16) (X 0 17) (X 0 18) (X 0 25) (X 1) (X 2) (X 3) (X 4) (X 5) (X 6) (X 7) (X 8) (X 9) (X 10) (X 11) (X 12) (X 13) v1 (fun hM => nz_runV F gX8_as_X8_isMover rfl hd_X8_isMover rfl hM dX8_as_7 [0, 1, 2, 3, 4, 5, 6, 7, 8, 9, 10, 11, 12, 13] rfl rfl 0 rfl rfl rfl (Nat.le_of_ble_eq_true rfl) rfl) h ([((a 0), .inr (8, [.int 0, .int (X 0 1), .ref (a 1), .ref (a 2), .ref (a 3), .ref (a 4), .ref (a 5), .ref (a 6), .int (X 0 8), .ref (a 7), .int (X 0 10), .int (X 0 11), .int (X 0 12), .int (X 0 13), .int (X 0 14), .int (X 0 15), .int (X 0 16), .int (X 0 17), .int (X 0 18), .ref (a 8), .ref (a 9), .ref (a 10), .ref (a 11), .ref (a 12), .ref (a 13), .int (X 0 25)])), ((a 1), .inl (nz_cI g, 8, .inl (X 1))), ((a 2), .inl (nz_cI g, 8, .inl (X 2))), ((a 3), .inl (nz_cI g, 320, .inl (X 3))), ((a 4), .inl (nz_cI g, 94, .inl (X 4))), ((a 5), .inl (nz_cI g, 94, .inl (X 5))), ((a 6), .inl (nz_cI g, 168, .inl (X 6))), ((a 7), .inl (nz_cI g, 400, .inl (X 7))), ((a 8), .inl (nz_cI g, 6, .inl (X 8))), ((a 9), .inl (nz_cI g, 49, .inl (X 9))), ((a 10), .inl (nz_cI g, 6, .inl (X 10))), ((a 11), .inl (nz_cZ g, 2, .inl (X 11))), ((a 12), .inl (nz_cI g, 188, .inl (X 12))), ((a 13), .inl (nz_cI g, 16, .inl (X 13)))]) (rfl) (fun q1 h => ?_)
  refine nz_if_eq (tgt := 25) F dX8_as_10 (by decide) (fun c2 => ?_) (fun c2 => ?_)
  · have h := h.1 c2
    refine nz_ldc (v := (-1000001 : Int32)) F wd_X8_as_c70 dX8_as_25 ?_
    exact nz_iret F hQ (va_up X 0 (upd (X 0) 0 0)) h rfl dX8_as_27
  · have h := h.2 c2
    refine nz_iload_n F dX8_as_13 rfl 2 rfl ?_
    refine nz_i2l (v := ((v2 : Int32).toInt64)) F dX8_as_14 rfl ?_
    refine nz_lconst (v := 0) F dX8_as_15 (by decide) ?_
    refine nz_ldc2 (v := 5) F wd_X8_as_c258 dX8_as_16 ?_
    refine k_X8_in ((v2 : Int32).toInt64) 0 5 (fun hM => nz_runS F gX8_as_X8_in rfl hd_X8_in.2 rfl hM dX8_as_19 [] rfl rfl rfl (Nat.le_of_ble_eq_true rfl) rfl) h ([((a 0), .inr (8, [.int 0, .int (X 0 1), .ref (a 1), .ref (a 2), .ref (a 3), .ref (a 4), .ref (a 5), .ref (a 6), .int (X 0 8), .ref (a 7), .int (X 0 10), .int (X 0 11), .int (X 0 12), .int (X 0 13), .int (X 0 14), .int (X 0 15), .int (X 0 16), .int (X 0 17), .int (X 0 18), .ref (a 8), .ref (a 9), .ref (a 10), .ref (a 11), .ref (a 12), .ref (a 13), .int (X 0 25)])), ((a 1), .inl (nz_cI g, 8, .inl (X 1))), ((a 2), .inl (nz_cI g, 8, .inl (X 2))), ((a 3), .inl (nz_cI g, 320, .inl (X 3))), ((a 4), .inl (nz_cI g, 94, .inl (X 4))), ((a 5), .inl (nz_cI g, 94, .inl (X 5))), ((a 6), .inl (nz_cI g, 168, .inl (X 6))), ((a 7), .inl (nz_cI g, 400, .inl (X 7))), ((a 8), .inl (nz_cI g, 6, .inl (X 8))), ((a 9), .inl (nz_cI g, 49, .inl (X 9))), ((a 10), .inl (nz_cI g, 6, .inl (X 10))), ((a 11), .inl (nz_cZ g, 2, .inl (X 11))), ((a 12), .inl (nz_cI g, 188, .inl (X 12))), ((a 13), .inl (nz_cI g, 16, .inl (X 13)))]) (rfl) (fun q3 h => ?_)
    refine nz_if_ne (tgt := 28) F dX8_as_22 (by decide) (fun c4 => ?_) (fun c4 => ?_)
    · have h := h.1 c4
      refine nz_aload_n F dX8_as_28 rfl 0 rfl ?_
      refine nz_iconst (v := 0) F dX8_as_29 (by decide) ?_
      refine nz_put (ws' := [((a 0), .inr (8, [.int 0, .int 0, .ref (a 1), .ref (a 2), .ref (a 3), .ref (a 4), .ref (a 5), .ref (a 6), .int (X 0 8), .ref (a 7), .int (X 0 10), .int (X 0 11), .int (X 0 12), .int (X 0 13), .int (X 0 14), .int (X 0 15), .int (X 0 16), .int (X 0 17), .int (X 0 18), .ref (a 8), .ref (a 9), .ref (a 10), .ref (a 11), .ref (a 12), .ref (a 13), .int (X 0 25)])), ((a 1), .inl (nz_cI g, 8, .inl (X 1))), ((a 2), .inl (nz_cI g, 8, .inl (X 2))), ((a 3), .inl (nz_cI g, 320, .inl (X 3))), ((a 4), .inl (nz_cI g, 94, .inl (X 4))), ((a 5), .inl (nz_cI g, 94, .inl (X 5))), ((a 6), .inl (nz_cI g, 168, .inl (X 6))), ((a 7), .inl (nz_cI g, 400, .inl (X 7))), ((a 8), .inl (nz_cI g, 6, .inl (X 8))), ((a 9), .inl (nz_cI g, 49, .inl (X 9))), ((a 10), .inl (nz_cI g, 6, .inl (X 10))), ((a 11), .inl (nz_cZ g, 2, .inl (X 11))), ((a 12), .inl (nz_cI g, 188, .inl (X 12))), ((a 13), .inl (nz_cI g, 16, .inl (X 13)))]) F iw_X8_as_8 tyX8 tyX8_ok nmX8 0 rfl rfl 1 (by decide) rfl fl_X8_as_54 rfl rfl (Nat.le_of_ble_eq_true rfl) dX8_as_30 rfl ?_
      refine nz_aload_n F dX8_as_33 rfl 0 rfl ?_
      refine nz_iload_n F dX8_as_34 rfl 1 rfl ?_
      refine nz_iconst (v := 0) F dX8_as_35 (by decide) ?_
      refine k_X8_of (a 0) (a 1) (a 2) (a 3) (a 4) (a 5) (a 6) (a 7) (a 8) (a 9) (a 10) (a 11) (a 12) (a 13) 0 0 (X 0 8) (X 0 10) (X 0 11) (X 0 12) (X 0 13) (X 0 14) (X 0 15) (X 0 16) (X 0 17) (X 0 18) (X 0 25) (X 1) (X 2) (X 3) (X 4) (X 5) (X 6) (X 7) (X 8) (X 9) (X 10) (X 11) (X 12) (X 13) v1 0 (fun hM => nz_runV F gX8_as_X8_of rfl hd_X8_of rfl hM dX8_as_36 [0, 1, 2, 3, 4, 5, 6, 7, 8, 9, 10, 11, 12, 13] rfl rfl 0 rfl rfl rfl (Nat.le_of_ble_eq_true rfl) rfl) h ([((a 0), .inr (8, [.int 0, .int 0, .ref (a 1), .ref (a 2), .ref (a 3), .ref (a 4), .ref (a 5), .ref (a 6), .int (X 0 8), .ref (a 7), .int (X 0 10), .int (X 0 11), .int (X 0 12), .int (X 0 13), .int (X 0 14), .int (X 0 15), .int (X 0 16), .int (X 0 17), .int (X 0 18), .ref (a 8), .ref (a 9), .ref (a 10), .ref (a 11), .ref (a 12), .ref (a 13), .int (X 0 25)])), ((a 1), .inl (nz_cI g, 8, .inl (X 1))), ((a 2), .inl (nz_cI g, 8, .inl (X 2))), ((a 3), .inl (nz_cI g, 320, .inl (X 3))), ((a 4), .inl (nz_cI g, 94, .inl (X 4))), ((a 5), .inl (nz_cI g, 94, .inl (X 5))), ((a 6), .inl (nz_cI g, 168, .inl (X 6))), ((a 7), .inl (nz_cI g, 400, .inl (X 7))), ((a 8), .inl (nz_cI g, 6, .inl (X 8))), ((a 9), .inl (nz_cI g, 49, .inl (X 9))), ((a 10), .inl (nz_cI g, 6, .inl (X 10))), ((a 11), .inl (nz_cZ g, 2, .inl (X 11))), ((a 12), .inl (nz_cI g, 188, .inl (X 12))), ((a 13), .inl (nz_cI g, 16, .inl (X 13)))]) (rfl) (fun q5 h => ?_)
      refine nz_iload_n F dX8_as_39 rfl 2 rfl ?_
      refine k_X8_isOf q5 v2 (fun hM => nz_runS F gX8_as_X8_isOf rfl hd_X8_isOf.2 rfl hM dX8_as_40 [] rfl rfl rfl (Nat.le_of_ble_eq_true rfl) rfl) h ([((a 0), .inr (8, [.int 0, .int 0, .ref (a 1), .ref (a 2), .ref (a 3), .ref (a 4), .ref (a 5), .ref (a 6), .int (X 0 8), .ref (a 7), .int (X 0 10), .int (X 0 11), .int (X 0 12), .int (X 0 13), .int (X 0 14), .int (X 0 15), .int (X 0 16), .int (X 0 17), .int (X 0 18), .ref (a 8), .ref (a 9), .ref (a 10), .ref (a 11), .ref (a 12), .ref (a 13), .int (X 0 25)])), ((a 1), .inl (nz_cI g, 8, .inl (X 1))), ((a 2), .inl (nz_cI g, 8, .inl (X 2))), ((a 3), .inl (nz_cI g, 320, .inl (X 3))), ((a 4), .inl (nz_cI g, 94, .inl (X 4))), ((a 5), .inl (nz_cI g, 94, .inl (X 5))), ((a 6), .inl (nz_cI g, 168, .inl (X 6))), ((a 7), .inl (nz_cI g, 400, .inl (X 7))), ((a 8), .inl (nz_cI g, 6, .inl (X 8))), ((a 9), .inl (nz_cI g, 49, .inl (X 9))), ((a 10), .inl (nz_cI g, 6, .inl (X 10))), ((a 11), .inl (nz_cZ g, 2, .inl (X 11))), ((a 12), .inl (nz_cI g, 188, .inl (X 12))), ((a 13), .inl (nz_cI g, 16, .inl (X 13)))]) (rfl) (fun q6 h => ?_)
      refine nz_if_eq (tgt := 50) F dX8_as_43 (by decide) (fun c7 => ?_) (fun c7 => ?_)
      · have h := h.1 c7
        refine nz_aload_n F dX8_as_50 rfl 0 rfl ?_
        refine nz_iconst (v := 3) F dX8_as_51 (by decide) ?_
        refine k_X8_finding (a 0) (a 1) (a 2) (a 3) (a 4) (a 5) (a 6) (a 7) (a 8) (a 9) (a 10) (a 11) (a 12) (a 13) 0 0 (X 0 8) (X 0 10) (X 0 11) (X 0 12) (X 0 13) (X 0 14) (X 0 15) (X 0 16) (X 0 17) (X 0 18) (X 0 25) (X 1) (X 2) (X 3) (X 4) (X 5) (X 6) (X 7) (X 8) (X 9) (X 10) (X 11) (X 12) (X 13) 3 (fun hM => nz_runV F gX8_as_X8_finding rfl hd_X8_finding rfl hM dX8_as_52 [0, 1, 2, 3, 4, 5, 6, 7, 8, 9, 10, 11, 12, 13] rfl rfl 0 rfl rfl rfl (Nat.le_of_ble_eq_true rfl) rfl) h (fun m9 => [((a 0), .inr (8, [.int 0, .int m9, .ref (a 1), .ref (a 2), .ref (a 3), .ref (a 4), .ref (a 5), .ref (a 6), .int (X 0 8), .ref (a 7), .int (X 0 10), .int (X 0 11), .int (X 0 12), .int (X 0 13), .int (X 0 14), .int (X 0 15), .int (X 0 16), .int (X 0 17), .int (X 0 18), .ref (a 8), .ref (a 9), .ref (a 10), .ref (a 11), .ref (a 12), .ref (a 13), .int (X 0 25)])), ((a 1), .inl (nz_cI g, 8, .inl (X 1))), ((a 2), .inl (nz_cI g, 8, .inl (X 2))), ((a 3), .inl (nz_cI g, 320, .inl (X 3))), ((a 4), .inl (nz_cI g, 94, .inl (X 4))), ((a 5), .inl (nz_cI g, 94, .inl (X 5))), ((a 6), .inl (nz_cI g, 168, .inl (X 6))), ((a 7), .inl (nz_cI g, 400, .inl (X 7))), ((a 8), .inl (nz_cI g, 6, .inl (X 8))), ((a 9), .inl (nz_cI g, 49, .inl (X 9))), ((a 10), .inl (nz_cI g, 6, .inl (X 10))), ((a 11), .inl (nz_cZ g, 2, .inl (X 11))), ((a 12), .inl (nz_cI g, 188, .inl (X 12))), ((a 13), .inl (nz_cI g, 16, .inl (X 13)))]) (fun _ => rfl) (fun q8 m9 h => ?_)
        exact nz_iret F hQ (va_up X 0 (upd (upd (X 0) 0 0) 1 m9)) h rfl dX8_as_55
      · have h := h.2 c7
        refine nz_iload_n F dX8_as_46 rfl 1 rfl ?_
        refine nz_goto (tgt := 55) F dX8_as_47 (by decide) ?_
        exact nz_iret F hQ (va_up X 0 (upd (upd (X 0) 0 0) 1 0)) h rfl dX8_as_55
    · have h := h.2 c4
      refine nz_ldc (v := (-1000001 : Int32)) F wd_X8_as_c70 dX8_as_25 ?_
      exact nz_iret F hQ (va_up X 0 (upd (X 0) 0 0)) h rfl dX8_as_27
theorem k_X8_as {y : nz_Y} {g : nz_G} {k n : Nat} {ws : va_W} {pc : Nat} {ls : List (Nat × Value)} {st rest : List Value} {av : Array Value} {isC : List Nat} {K : Int32 → (Nat → Nat → Int32) → Prop} (a : Nat → Nat) (X : Nat → Nat → Int32) (v1 : Int32) (v2 : Int32) (run : nz_M (yz_l y) yX8_as wsX8_as rm_X8_as g [.ref (a 0), .int v1, .int v2] (nz_wM g a X) (nz_Qi g (nz_wM g a X) (fun r (u : Nat → Nat → Int32) => K r u) (fun u => nz_wM g a u)) → nz_C y g k n ws pc ls st rest (nz_wM g a X) (nz_Qi g (nz_wM g a X) (fun r (u : Nat → Nat → Int32) => K r u) (fun u => nz_wM g a u)) av isC) (h : wp_X8_as X v1 v2 K) (ws' : (Nat → Nat → Int32) → va_W) (hm : ∀ (m0 : (Nat → Nat → Int32)), nz_mrg ws isC (nz_wM g a m0) = ws' m0) (kk : ∀ (r : Int32) (m0 : (Nat → Nat → Int32)), K r m0 → nz_V y g k n (ws' m0) (pc + 3) ls (.int r :: rest)) : nz_V y g k n ws pc ls st :=
  nz_ci (ws' := fun u => ws' u) (run (c_X8_as (yz_l y) g a X v1 v2 K h)) (fun _ => rfl) (fun u => hm u) (fun r u h => kk r u h)
theorem dX8_ask_0 : decode cX8_ask 0 = .ok (.aload_n 0, 1) := by decide +kernel
theorem dX8_ask_1 : decode cX8_ask 1 = .ok (.iconst 0, 1) := by decide +kernel
theorem dX8_ask_2 : decode cX8_ask 2 = .ok (.putfield 50, 3) := by decide +kernel
theorem dX8_ask_5 : decode cX8_ask 5 = .ok (.aload_n 0, 1) := by decide +kernel
theorem dX8_ask_6 : decode cX8_ask 6 = .ok (.iload_n 1, 1) := by decide +kernel
theorem dX8_ask_7 : decode cX8_ask 7 = .ok (.invokevirtual 255, 3) := by decide +kernel
theorem dX8_ask_10 : decode cX8_ask 10 = .ok (.ifCond .eq 13, 3) := by decide +kernel
theorem dX8_ask_13 : decode cX8_ask 13 = .ok (.iload_n 2, 1) := by decide +kernel
theorem dX8_ask_14 : decode cX8_ask 14 = .ok (.i2l, 1) := by decide +kernel
theorem dX8_ask_15 : decode cX8_ask 15 = .ok (.lconst 0, 1) := by decide +kernel
theorem dX8_ask_16 : decode cX8_ask 16 = .ok (.lconst 1, 1) := by decide +kernel
theorem dX8_ask_17 : decode cX8_ask 17 = .ok (.invokestatic 60, 3) := by decide +kernel
theorem dX8_ask_20 : decode cX8_ask 20 = .ok (.ifCond .ne 6, 3) := by decide +kernel
theorem dX8_ask_23 : decode cX8_ask 23 = .ok (.ldc 70, 2) := by decide +kernel
theorem dX8_ask_25 : decode cX8_ask 25 = .ok (.ireturn, 1) := by decide +kernel
theorem dX8_ask_26 : decode cX8_ask 26 = .ok (.aload_n 0, 1) := by decide +kernel
theorem dX8_ask_27 : decode cX8_ask 27 = .ok (.iconst 0, 1) := by decide +kernel
theorem dX8_ask_28 : decode cX8_ask 28 = .ok (.putfield 263, 3) := by decide +kernel
theorem dX8_ask_31 : decode cX8_ask 31 = .ok (.iload_n 2, 1) := by decide +kernel
theorem dX8_ask_32 : decode cX8_ask 32 = .ok (.ifCond .ne 11, 3) := by decide +kernel
theorem dX8_ask_35 : decode cX8_ask 35 = .ok (.aload_n 0, 1) := by decide +kernel
theorem dX8_ask_36 : decode cX8_ask 36 = .ok (.iload_n 1, 1) := by decide +kernel
theorem dX8_ask_37 : decode cX8_ask 37 = .ok (.invokevirtual 278, 3) := by decide +kernel
theorem dX8_ask_40 : decode cX8_ask 40 = .ok (.goto 8, 3) := by decide +kernel
theorem dX8_ask_43 : decode cX8_ask 43 = .ok (.aload_n 0, 1) := by decide +kernel
theorem dX8_ask_44 : decode cX8_ask 44 = .ok (.iload_n 1, 1) := by decide +kernel
theorem dX8_ask_45 : decode cX8_ask 45 = .ok (.invokevirtual 275, 3) := by decide +kernel
theorem dX8_ask_48 : decode cX8_ask 48 = .ok (.ireturn, 1) := by decide +kernel
set_option maxRecDepth 20000 in
theorem ggX8_ask_X8_in : GoodIn wsX8_ask wsX8_in := goodIn_r _ [12] rfl (by decide +kernel)
set_option maxRecDepth 20000 in
theorem gX8_ask_X8_in : GoodIn wsX8_ask (va_wsS RX8 60 yX8_in wsX8_in) := goodIn_app (goodIn_r _ [10, 11, 7] rfl (by decide +kernel)) ggX8_ask_X8_in
set_option maxRecDepth 20000 in
theorem ggX8_ask_X8_isMover : GoodIn wsX8_ask wsX8_isMover := goodIn_r _ [8, 9, 10, 11, 7, 12, 42, 43, 44, 45, 46, 47, 48, 49, 50, 51, 52, 53, 54, 55, 56, 57, 58, 59, 60, 61, 62, 63, 64, 65, 66, 67] rfl (by decide +kernel)
set_option maxRecDepth 20000 in
theorem gX8_ask_X8_isMover : GoodIn wsX8_ask (wsV RX8 255 RX8 yX8_isMover wsX8_isMover) := goodIn_app (goodIn_r _ [4, 5, 6, 7] rfl (by decide +kernel)) ggX8_ask_X8_isMover
set_option maxRecDepth 20000 in
theorem ggX8_ask_X8_markOf : GoodIn wsX8_ask wsX8_markOf := goodIn_r _ [37, 17, 18, 19, 7, 20, 9, 25, 26, 27, 28, 3, 29, 21, 22, 23, 24, 30, 31, 32, 33, 38, 39, 40, 41, 42, 43, 44, 45, 46, 47, 48, 49, 50, 51, 52, 53, 54, 55, 56, 57, 58, 59, 60, 61, 62, 63, 64, 65, 66, 67] rfl (by decide +kernel)
set_option maxRecDepth 20000 in
theorem gX8_ask_X8_markOf : GoodIn wsX8_ask (wsV RX8 275 RX8 yX8_markOf wsX8_markOf) := goodIn_app (goodIn_r _ [34, 35, 36, 7] rfl (by decide +kernel)) ggX8_ask_X8_markOf
set_option maxRecDepth 20000 in
theorem ggX8_ask_X8_sizeOf : GoodIn wsX8_ask wsX8_sizeOf := goodIn_r _ [16, 17, 18, 19, 7, 20, 9, 21, 22, 23, 24, 25, 26, 27, 28, 3, 29, 30, 31, 32, 33, 34, 35, 36, 37, 38, 39, 40, 41, 42, 43, 44, 45, 46, 47, 48, 49, 50, 51, 52, 53, 54, 55, 56, 57, 58, 59, 60, 61, 62, 63, 64, 65, 66, 67] rfl (by decide +kernel)
set_option maxRecDepth 20000 in
theorem gX8_ask_X8_sizeOf : GoodIn wsX8_ask (wsV RX8 278 RX8 yX8_sizeOf wsX8_sizeOf) := goodIn_app (goodIn_r _ [13, 14, 15, 7] rfl (by decide +kernel)) ggX8_ask_X8_sizeOf
theorem hd_X8_sizeOf : yX8_sizeOf.cls = RX8 ∧ yX8_sizeOf.cls ≠ "java/lang/invoke/MethodHandle" ∧ yX8_sizeOf.cls ≠ "java/lang/invoke/VarHandle" ∧ (parseMethodDescriptor yX8_sizeOf.desc).map (fun d => d.parameters.length) = some 1 := by decide +kernel
/-! X8_ask -/
abbrev rm_X8_ask : Room := { frames := 5, cells := 0, slots := 0, locals := 111 }
theorem iw_X8_ask_8 : ∀ w ∈ wsX80, w ∈ wsX8_ask := fun _ h => List.mem_cons_of_mem _ (List.mem_append_right _ h)
theorem fl_X8_ask_50 : Cond.fieldLink RX8 50 "NightStonesModel" "thrown" "I" ∈ wsX8_ask := List.mem_of_getElem? (i := 1) rfl
theorem wd_X8_ask_c70 : Cond.constant RX8 70 (-1000001) ∈ wsX8_ask := List.mem_of_getElem? (i := 2) rfl
theorem fl_X8_ask_263 : Cond.fieldLink RX8 263 "NightStonesModel" "traced" "I" ∈ wsX8_ask := List.mem_of_getElem? (i := 3) rfl
def wp_X8_ask (X : Nat → Nat → Int32) (v1 : Int32) (v2 : Int32) (K : Int32 → (Nat → Nat → Int32) → Prop) : Prop := wp_X8_isMover (X 4) v1 (fun q1 => ((q1 = 0 → K (-1000001 : Int32) (va_up X 0 (upd (X 0) 0 0))) ∧ (¬ (q1 = 0) → wp_X8_in ((v2 : Int32).toInt64) 0 1 (fun q3 => ((¬ q3 = 0 → ((¬ v2 = 0 → wp_X8_markOf 0 (X 4) (X 13) v1 (fun q6 m7 m8 => K q6 (va_up (va_up X 0 (upd (upd (X 0) 0 0) 25 m7)) 13 m8))) ∧ (v2 = 0 → wp_X8_sizeOf 0 (X 4) (X 13) v1 (fun q9 m10 m11 => K q9 (va_up (va_up X 0 (upd (upd (X 0) 0 0) 25 m10)) 13 m11))))) ∧ (q3 = 0 → K (-1000001 : Int32) (va_up X 0 (upd (X 0) 0 0))))))))
set_option maxHeartbeats 4000000 in
set_option maxRecDepth 100000 in
theorem c_X8_ask (l : Launch) (g : nz_G) (a : Nat → Nat) (X : Nat → Nat → Int32) (v1 : Int32) (v2 : Int32) (K : Int32 → (Nat → Nat → Int32) → Prop) (h : wp_X8_ask X v1 v2 K) : nz_M l yX8_ask wsX8_ask rm_X8_ask g [.ref (a 0), .int v1, .int v2] (nz_wM g a X) (nz_Qi g (nz_wM g a X) (fun r (u : Nat → Nat → Int32) => K r u) (fun u => nz_wM g a u)) := by
  refine nz_M.of (bytes := cX8_ask) (nL := 3) (ret := (some .int)) (own := RX8) (by decide) rfl rfl ⟨rfl, rfl⟩ rfl ?_
  intro y F hl hQ
  obtain ⟨sz, hQ⟩ := hQ
  refine nz_ent (lv' := [(0, .ref (a 0)), (1, .int v1), (2, .int v2)]) rfl ?_
  unfold wp_X8_ask at h
  refine nz_aload_n F dX8_ask_0 rfl 0 rfl ?_
  refine nz_iconst (v := 0) F dX8_ask_1 (by decide) ?_
  refine nz_put (ws' := [((a 0), .inr (8, [.int 0, .int (X 0 1), .ref (a 1), .ref (a 2), .ref (a 3), .ref (a 4), .ref (a 5), .ref (a 6), .int (X 0 8), .ref (a 7), .int (X 0 10), .int (X 0 11), .int (X 0 12), .int (X 0 13), .int (X 0 14), .int (X 0 15), .int (X 0 16), .int (X 0 17), .int (X 0 18), .ref (a 8), .ref (a 9), .ref (a 10), .ref (a 11), .ref (a 12), .ref (a 13), .int (X 0 25)])), ((a 1), .inl (nz_cI g, 8, .inl (X 1))), ((a 2), .inl (nz_cI g, 8, .inl (X 2))), ((a 3), .inl (nz_cI g, 320, .inl (X 3))), ((a 4), .inl (nz_cI g, 94, .inl (X 4))), ((a 5), .inl (nz_cI g, 94, .inl (X 5))), ((a 6), .inl (nz_cI g, 168, .inl (X 6))), ((a 7), .inl (nz_cI g, 400, .inl (X 7))), ((a 8), .inl (nz_cI g, 6, .inl (X 8))), ((a 9), .inl (nz_cI g, 49, .inl (X 9))), ((a 10), .inl (nz_cI g, 6, .inl (X 10))), ((a 11), .inl (nz_cZ g, 2, .inl (X 11))), ((a 12), .inl (nz_cI g, 188, .inl (X 12))), ((a 13), .inl (nz_cI g, 16, .inl (X 13)))]) F iw_X8_ask_8 tyX8 tyX8_ok nmX8 0 rfl rfl 0 (by decide) rfl fl_X8_ask_50 rfl rfl (Nat.le_of_ble_eq_true rfl) dX8_ask_2 rfl ?_
  refine nz_aload_n F dX8_ask_5 rfl 0 rfl ?_
  refine nz_iload_n F dX8_ask_6 rfl 1 rfl ?_
  refine k_X8_isMover (a 0) (a 1) (a 2) (a 3) (a 4) (a 5) (a 6) (a 7) (a 8) (a 9) (a 10) (a 11) (a 12) (a 13) 0 (X 0 1) (X 0 8) (X 0 10) (X 0 11) (X 0 12) (X 0 13) (X 0 14) (X 0 15) (X 0 16) (X 0 17) (X 0 18) (X 0 25) (X 1) (X 2) (X 3) (X 4) (X 5) (X 6) (X 7) (X 8) (X 9) (X 10) (X 11) (X 12) (X 13) v1 (fun hM => nz_runV F gX8_ask_X8_isMover rfl hd_X8_isMover rfl hM dX8_ask_7 [0, 1, 2, 3, 4, 5, 6, 7, 8, 9, 10, 11, 12, 13] rfl rfl 0 rfl rfl rfl (Nat.le_of_ble_eq_true rfl) rfl) h ([((a 0), .inr (8, [.int 0, .int (X 0 1), .ref (a 1), .ref (a 2), .ref (a 3), .ref (a 4), .ref (a 5), .ref (a 6), .int (X 0 8), .ref (a 7), .int (X 0 10), .int (X 0 11), .int (X 0 12), .int (X 0 13), .int (X 0 14), .int (X 0 15), .int (X 0 16), .int (X 0 17), .int (X 0 18), .ref (a 8), .ref (a 9), .ref (a 10), .ref (a 11), .ref (a 12), .ref (a 13), .int (X 0 25)])), ((a 1), .inl (nz_cI g, 8, .inl (X 1))), ((a 2), .inl (nz_cI g, 8, .inl (X 2))), ((a 3), .inl (nz_cI g, 320, .inl (X 3))), ((a 4), .inl (nz_cI g, 94, .inl (X 4))), ((a 5), .inl (nz_cI g, 94, .inl (X 5))), ((a 6), .inl (nz_cI g, 168, .inl (X 6))), ((a 7), .inl (nz_cI g, 400, .inl (X 7))), ((a 8), .inl (nz_cI g, 6, .inl (X 8))), ((a 9), .inl (nz_cI g, 49, .inl (X 9))), ((a 10), .inl (nz_cI g, 6, .inl (X 10))), ((a 11), .inl (nz_cZ g, 2, .inl (X 11))), ((a 12), .inl (nz_cI g, 188, .inl (X 12))), ((a 13), .inl (nz_cI g, 16, .inl (X 13)))]) (rfl) (fun q1 h => ?_)
  refine nz_if_eq (tgt := 23) F dX8_ask_10 (by decide) (fun c2 => ?_) (fun c2 => ?_)
  · have h := h.1 c2
    refine nz_ldc (v := (-1000001 : Int32)) F wd_X8_ask_c70 dX8_ask_23 ?_
    exact nz_iret F hQ (va_up X 0 (upd (X 0) 0 0)) h rfl dX8_ask_25
  · have h := h.2 c2
    refine nz_iload_n F dX8_ask_13 rfl 2 rfl ?_
    refine nz_i2l (v := ((v2 : Int32).toInt64)) F dX8_ask_14 rfl ?_
    refine nz_lconst (v := 0) F dX8_ask_15 (by decide) ?_
    refine nz_lconst (v := 1) F dX8_ask_16 (by decide) ?_
    refine k_X8_in ((v2 : Int32).toInt64) 0 1 (fun hM => nz_runS F gX8_ask_X8_in rfl hd_X8_in.2 rfl hM dX8_ask_17 [] rfl rfl rfl (Nat.le_of_ble_eq_true rfl) rfl) h ([((a 0), .inr (8, [.int 0, .int (X 0 1), .ref (a 1), .ref (a 2), .ref (a 3), .ref (a 4), .ref (a 5), .ref (a 6), .int (X 0 8), .ref (a 7), .int (X 0 10), .int (X 0 11), .int (X 0 12), .int (X 0 13), .int (X 0 14), .int (X 0 15), .int (X 0 16), .int (X 0 17), .int (X 0 18), .ref (a 8), .ref (a 9), .ref (a 10), .ref (a 11), .ref (a 12), .ref (a 13), .int (X 0 25)])), ((a 1), .inl (nz_cI g, 8, .inl (X 1))), ((a 2), .inl (nz_cI g, 8, .inl (X 2))), ((a 3), .inl (nz_cI g, 320, .inl (X 3))), ((a 4), .inl (nz_cI g, 94, .inl (X 4))), ((a 5), .inl (nz_cI g, 94, .inl (X 5))), ((a 6), .inl (nz_cI g, 168, .inl (X 6))), ((a 7), .inl (nz_cI g, 400, .inl (X 7))), ((a 8), .inl (nz_cI g, 6, .inl (X 8))), ((a 9), .inl (nz_cI g, 49, .inl (X 9))), ((a 10), .inl (nz_cI g, 6, .inl (X 10))), ((a 11), .inl (nz_cZ g, 2, .inl (X 11))), ((a 12), .inl (nz_cI g, 188, .inl (X 12))), ((a 13), .inl (nz_cI g, 16, .inl (X 13)))]) (rfl) (fun q3 h => ?_)
    refine nz_if_ne (tgt := 26) F dX8_ask_20 (by decide) (fun c4 => ?_) (fun c4 => ?_)
    · have h := h.1 c4
      refine nz_aload_n F dX8_ask_26 rfl 0 rfl ?_
      refine nz_iconst (v := 0) F dX8_ask_27 (by decide) ?_
      refine nz_put (ws' := [((a 0), .inr (8, [.int 0, .int (X 0 1), .ref (a 1), .ref (a 2), .ref (a 3), .ref (a 4), .ref (a 5), .ref (a 6), .int (X 0 8), .ref (a 7), .int (X 0 10), .int (X 0 11), .int (X 0 12), .int (X 0 13), .int (X 0 14), .int (X 0 15), .int (X 0 16), .int (X 0 17), .int (X 0 18), .ref (a 8), .ref (a 9), .ref (a 10), .ref (a 11), .ref (a 12), .ref (a 13), .int 0])), ((a 1), .inl (nz_cI g, 8, .inl (X 1))), ((a 2), .inl (nz_cI g, 8, .inl (X 2))), ((a 3), .inl (nz_cI g, 320, .inl (X 3))), ((a 4), .inl (nz_cI g, 94, .inl (X 4))), ((a 5), .inl (nz_cI g, 94, .inl (X 5))), ((a 6), .inl (nz_cI g, 168, .inl (X 6))), ((a 7), .inl (nz_cI g, 400, .inl (X 7))), ((a 8), .inl (nz_cI g, 6, .inl (X 8))), ((a 9), .inl (nz_cI g, 49, .inl (X 9))), ((a 10), .inl (nz_cI g, 6, .inl (X 10))), ((a 11), .inl (nz_cZ g, 2, .inl (X 11))), ((a 12), .inl (nz_cI g, 188, .inl (X 12))), ((a 13), .inl (nz_cI g, 16, .inl (X 13)))]) F iw_X8_ask_8 tyX8 tyX8_ok nmX8 0 rfl rfl 25 (by decide) rfl fl_X8_ask_263 rfl rfl (Nat.le_of_ble_eq_true rfl) dX8_ask_28 rfl ?_
      refine nz_iload_n F dX8_ask_31 rfl 2 rfl ?_
      refine nz_if_ne (tgt := 43) F dX8_ask_32 (by decide) (fun c5 => ?_) (fun c5 => ?_)
      · have h := h.1 c5
        refine nz_aload_n F dX8_ask_43 rfl 0 rfl ?_
        refine nz_iload_n F dX8_ask_44 rfl 1 rfl ?_
        refine k_X8_markOf (a 0) (a 1) (a 2) (a 3) (a 4) (a 5) (a 6) (a 7) (a 8) (a 9) (a 10) (a 11) (a 12) (a 13) 0 (X 0 1) (X 0 8) (X 0 10) (X 0 11) (X 0 12) (X 0 13) (X 0 14) (X 0 15) (X 0 16) (X 0 17) (X 0 18) 0 (X 1) (X 2) (X 3) (X 4) (X 5) (X 6) (X 7) (X 8) (X 9) (X 10) (X 11) (X 12) (X 13) v1 (fun hM => nz_runV F gX8_ask_X8_markOf rfl hd_X8_markOf rfl hM dX8_ask_45 [0, 1, 2, 3, 4, 5, 6, 7, 8, 9, 10, 11, 12, 13] rfl rfl 0 rfl rfl rfl (Nat.le_of_ble_eq_true rfl) rfl) h (fun m7 m8 => [((a 0), .inr (8, [.int 0, .int (X 0 1), .ref (a 1), .ref (a 2), .ref (a 3), .ref (a 4), .ref (a 5), .ref (a 6), .int (X 0 8), .ref (a 7), .int (X 0 10), .int (X 0 11), .int (X 0 12), .int (X 0 13), .int (X 0 14), .int (X 0 15), .int (X 0 16), .int (X 0 17), .int (X 0 18), .ref (a 8), .ref (a 9), .ref (a 10), .ref (a 11), .ref (a 12), .ref (a 13), .int m7])), ((a 1), .inl (nz_cI g, 8, .inl (X 1))), ((a 2), .inl (nz_cI g, 8, .inl (X 2))), ((a 3), .inl (nz_cI g, 320, .inl (X 3))), ((a 4), .inl (nz_cI g, 94, .inl (X 4))), ((a 5), .inl (nz_cI g, 94, .inl (X 5))), ((a 6), .inl (nz_cI g, 168, .inl (X 6))), ((a 7), .inl (nz_cI g, 400, .inl (X 7))), ((a 8), .inl (nz_cI g, 6, .inl (X 8))), ((a 9), .inl (nz_cI g, 49, .inl (X 9))), ((a 10), .inl (nz_cI g, 6, .inl (X 10))), ((a 11), .inl (nz_cZ g, 2, .inl (X 11))), ((a 12), .inl (nz_cI g, 188, .inl (X 12))), ((a 13), .inl (nz_cI g, 16, .inl m8))]) (fun _ _ => rfl) (fun q6 m7 m8 h => ?_)
        exact nz_iret F hQ (va_up (va_up X 0 (upd (upd (X 0) 0 0) 25 m7)) 13 m8) h rfl dX8_ask_48
      · have h := h.2 c5
        refine nz_aload_n F dX8_ask_35 rfl 0 rfl ?_
        refine nz_iload_n F dX8_ask_36 rfl 1 rfl ?_
        refine k_X8_sizeOf (a 0) (a 1) (a 2) (a 3) (a 4) (a 5) (a 6) (a 7) (a 8) (a 9) (a 10) (a 11) (a 12) (a 13) 0 (X 0 1) (X 0 8) (X 0 10) (X 0 11) (X 0 12) (X 0 13) (X 0 14) (X 0 15) (X 0 16) (X 0 17) (X 0 18) 0 (X 1) (X 2) (X 3) (X 4) (X 5) (X 6) (X 7) (X 8) (X 9) (X 10) (X 11) (X 12) (X 13) v1 (fun hM => nz_runV F gX8_ask_X8_sizeOf rfl hd_X8_sizeOf rfl hM dX8_ask_37 [0, 1, 2, 3, 4, 5, 6, 7, 8, 9, 10, 11, 12, 13] rfl rfl 0 rfl rfl rfl (Nat.le_of_ble_eq_true rfl) rfl) h (fun m10 m11 => [((a 0), .inr (8, [.int 0, .int (X 0 1), .ref (a 1), .ref (a 2), .ref (a 3), .ref (a 4), .ref (a 5), .ref (a 6), .int (X 0 8), .ref (a 7), .int (X 0 10), .int (X 0 11), .int (X 0 12), .int (X 0 13), .int (X 0 14), .int (X 0 15), .int (X 0 16), .int (X 0 17), .int (X 0 18), .ref (a 8), .ref (a 9), .ref (a 10), .ref (a 11), .ref (a 12), .ref (a 13), .int m10])), ((a 1), .inl (nz_cI g, 8, .inl (X 1))), ((a 2), .inl (nz_cI g, 8, .inl (X 2))), ((a 3), .inl (nz_cI g, 320, .inl (X 3))), ((a 4), .inl (nz_cI g, 94, .inl (X 4))), ((a 5), .inl (nz_cI g, 94, .inl (X 5))), ((a 6), .inl (nz_cI g, 168, .inl (X 6))), ((a 7), .inl (nz_cI g, 400, .inl (X 7))), ((a 8), .inl (nz_cI g, 6, .inl (X 8))), ((a 9), .inl (nz_cI g, 49, .inl (X 9))), ((a 10), .inl (nz_cI g, 6, .inl (X 10))), ((a 11), .inl (nz_cZ g, 2, .inl (X 11))), ((a 12), .inl (nz_cI g, 188, .inl (X 12))), ((a 13), .inl (nz_cI g, 16, .inl m11))]) (fun _ _ => rfl) (fun q9 m10 m11 h => ?_)
        refine nz_goto (tgt := 48) F dX8_ask_40 (by decide) ?_
        exact nz_iret F hQ (va_up (va_up X 0 (upd (upd (X 0) 0 0) 25 m10)) 13 m11) h rfl dX8_ask_48
    · have h := h.2 c4
      refine nz_ldc (v := (-1000001 : Int32)) F wd_X8_ask_c70 dX8_ask_23 ?_
      exact nz_iret F hQ (va_up X 0 (upd (X 0) 0 0)) h rfl dX8_ask_25
theorem k_X8_ask {y : nz_Y} {g : nz_G} {k n : Nat} {ws : va_W} {pc : Nat} {ls : List (Nat × Value)} {st rest : List Value} {av : Array Value} {isC : List Nat} {K : Int32 → (Nat → Nat → Int32) → Prop} (a : Nat → Nat) (X : Nat → Nat → Int32) (v1 : Int32) (v2 : Int32) (run : nz_M (yz_l y) yX8_ask wsX8_ask rm_X8_ask g [.ref (a 0), .int v1, .int v2] (nz_wM g a X) (nz_Qi g (nz_wM g a X) (fun r (u : Nat → Nat → Int32) => K r u) (fun u => nz_wM g a u)) → nz_C y g k n ws pc ls st rest (nz_wM g a X) (nz_Qi g (nz_wM g a X) (fun r (u : Nat → Nat → Int32) => K r u) (fun u => nz_wM g a u)) av isC) (h : wp_X8_ask X v1 v2 K) (ws' : (Nat → Nat → Int32) → va_W) (hm : ∀ (m0 : (Nat → Nat → Int32)), nz_mrg ws isC (nz_wM g a m0) = ws' m0) (kk : ∀ (r : Int32) (m0 : (Nat → Nat → Int32)), K r m0 → nz_V y g k n (ws' m0) (pc + 3) ls (.int r :: rest)) : nz_V y g k n ws pc ls st :=
  nz_ci (ws' := fun u => ws' u) (run (c_X8_ask (yz_l y) g a X v1 v2 K h)) (fun _ => rfl) (fun u => hm u) (fun r u h => kk r u h)
theorem dX8_trace_0 : decode cX8_trace 0 = .ok (.aload_n 0, 1) := by decide +kernel
theorem dX8_trace_1 : decode cX8_trace 1 = .ok (.iconst 0, 1) := by decide +kernel
theorem dX8_trace_2 : decode cX8_trace 2 = .ok (.putfield 50, 3) := by decide +kernel
theorem dX8_trace_5 : decode cX8_trace 5 = .ok (.iload_n 1, 1) := by decide +kernel
theorem dX8_trace_6 : decode cX8_trace 6 = .ok (.i2l, 1) := by decide +kernel
theorem dX8_trace_7 : decode cX8_trace 7 = .ok (.lconst 0, 1) := by decide +kernel
theorem dX8_trace_8 : decode cX8_trace 8 = .ok (.aload_n 0, 1) := by decide +kernel
theorem dX8_trace_9 : decode cX8_trace 9 = .ok (.getfield 263, 3) := by decide +kernel
theorem dX8_trace_12 : decode cX8_trace 12 = .ok (.iconst 1, 1) := by decide +kernel
theorem dX8_trace_13 : decode cX8_trace 13 = .ok (.isub, 1) := by decide +kernel
theorem dX8_trace_14 : decode cX8_trace 14 = .ok (.i2l, 1) := by decide +kernel
theorem dX8_trace_15 : decode cX8_trace 15 = .ok (.invokestatic 60, 3) := by decide +kernel
theorem dX8_trace_18 : decode cX8_trace 18 = .ok (.ifCond .eq 12, 3) := by decide +kernel
theorem dX8_trace_21 : decode cX8_trace 21 = .ok (.aload_n 0, 1) := by decide +kernel
theorem dX8_trace_22 : decode cX8_trace 22 = .ok (.getfield 47, 3) := by decide +kernel
theorem dX8_trace_25 : decode cX8_trace 25 = .ok (.iload_n 1, 1) := by decide +kernel
theorem dX8_trace_26 : decode cX8_trace 26 = .ok (.iaload, 1) := by decide +kernel
theorem dX8_trace_27 : decode cX8_trace 27 = .ok (.goto 5, 3) := by decide +kernel
theorem dX8_trace_30 : decode cX8_trace 30 = .ok (.ldc 86, 2) := by decide +kernel
theorem dX8_trace_32 : decode cX8_trace 32 = .ok (.ireturn, 1) := by decide +kernel
set_option maxRecDepth 20000 in
theorem ggX8_trace_X8_in : GoodIn wsX8_trace wsX8_in := goodIn_r _ [8] rfl (by decide +kernel)
set_option maxRecDepth 20000 in
theorem gX8_trace_X8_in : GoodIn wsX8_trace (va_wsS RX8 60 yX8_in wsX8_in) := goodIn_app (goodIn_r _ [5, 6, 7] rfl (by decide +kernel)) ggX8_trace_X8_in
/-! X8_trace -/
abbrev rm_X8_trace : Room := { frames := 1, cells := 0, slots := 0, locals := 25 }
theorem iw_X8_trace_8 : ∀ w ∈ wsX80, w ∈ wsX8_trace := fun _ h => List.mem_cons_of_mem _ (List.mem_append_right _ h)
theorem fl_X8_trace_50 : Cond.fieldLink RX8 50 "NightStonesModel" "thrown" "I" ∈ wsX8_trace := List.mem_of_getElem? (i := 1) rfl
theorem fl_X8_trace_263 : Cond.fieldLink RX8 263 "NightStonesModel" "traced" "I" ∈ wsX8_trace := List.mem_of_getElem? (i := 2) rfl
theorem wd_X8_trace_c86 : Cond.constant RX8 86 (-1000000) ∈ wsX8_trace := List.mem_of_getElem? (i := 4) rfl
theorem fl_X8_trace_47 : Cond.fieldLink RX8 47 "NightStonesModel" "trace" "[I" ∈ wsX8_trace := List.mem_of_getElem? (i := 3) rfl
def wp_X8_trace (X : Nat → Nat → Int32) (v1 : Int32) (K : Int32 → (Nat → Nat → Int32) → Prop) : Prop := wp_X8_in ((v1 : Int32).toInt64) 0 ((((X 0 25) - 1) : Int32).toInt64) (fun q1 => ((q1 = 0 → K (-1000000 : Int32) (va_up X 0 (upd (X 0) 0 0))) ∧ (¬ (q1 = 0) → (vp_in v1 16 ∧ K ((X 13) v1.toNatClampNeg) (va_up X 0 (upd (X 0) 0 0))))))
set_option maxHeartbeats 4000000 in
set_option maxRecDepth 100000 in
theorem c_X8_trace (l : Launch) (g : nz_G) (a : Nat → Nat) (X : Nat → Nat → Int32) (v1 : Int32) (K : Int32 → (Nat → Nat → Int32) → Prop) (h : wp_X8_trace X v1 K) : nz_M l yX8_trace wsX8_trace rm_X8_trace g [.ref (a 0), .int v1] (nz_wM g a X) (nz_Qi g (nz_wM g a X) (fun r (u : Nat → Nat → Int32) => K r u) (fun u => nz_wM g a u)) := by
  refine nz_M.of (bytes := cX8_trace) (nL := 2) (ret := (some .int)) (own := RX8) (by decide) rfl rfl ⟨rfl, rfl⟩ rfl ?_
  intro y F hl hQ
  obtain ⟨sz, hQ⟩ := hQ
  refine nz_ent (lv' := [(0, .ref (a 0)), (1, .int v1)]) rfl ?_
  unfold wp_X8_trace at h
  refine nz_aload_n F dX8_trace_0 rfl 0 rfl ?_
  refine nz_iconst (v := 0) F dX8_trace_1 (by decide) ?_
  refine nz_put (ws' := [((a 0), .inr (8, [.int 0, .int (X 0 1), .ref (a 1), .ref (a 2), .ref (a 3), .ref (a 4), .ref (a 5), .ref (a 6), .int (X 0 8), .ref (a 7), .int (X 0 10), .int (X 0 11), .int (X 0 12), .int (X 0 13), .int (X 0 14), .int (X 0 15), .int (X 0 16), .int (X 0 17), .int (X 0 18), .ref (a 8), .ref (a 9), .ref (a 10), .ref (a 11), .ref (a 12), .ref (a 13), .int (X 0 25)])), ((a 1), .inl (nz_cI g, 8, .inl (X 1))), ((a 2), .inl (nz_cI g, 8, .inl (X 2))), ((a 3), .inl (nz_cI g, 320, .inl (X 3))), ((a 4), .inl (nz_cI g, 94, .inl (X 4))), ((a 5), .inl (nz_cI g, 94, .inl (X 5))), ((a 6), .inl (nz_cI g, 168, .inl (X 6))), ((a 7), .inl (nz_cI g, 400, .inl (X 7))), ((a 8), .inl (nz_cI g, 6, .inl (X 8))), ((a 9), .inl (nz_cI g, 49, .inl (X 9))), ((a 10), .inl (nz_cI g, 6, .inl (X 10))), ((a 11), .inl (nz_cZ g, 2, .inl (X 11))), ((a 12), .inl (nz_cI g, 188, .inl (X 12))), ((a 13), .inl (nz_cI g, 16, .inl (X 13)))]) F iw_X8_trace_8 tyX8 tyX8_ok nmX8 0 rfl rfl 0 (by decide) rfl fl_X8_trace_50 rfl rfl (Nat.le_of_ble_eq_true rfl) dX8_trace_2 rfl ?_
  refine nz_iload_n F dX8_trace_5 rfl 1 rfl ?_
  refine nz_i2l (v := ((v1 : Int32).toInt64)) F dX8_trace_6 rfl ?_
  refine nz_lconst (v := 0) F dX8_trace_7 (by decide) ?_
  refine nz_aload_n F dX8_trace_8 rfl 0 rfl ?_
  refine nz_get F iw_X8_trace_8 0 rfl rfl 25 (by decide) rfl fl_X8_trace_263 rfl dX8_trace_9 ?_
  refine nz_iconst (v := 1) F dX8_trace_12 (by decide) ?_
  refine nz_isub F dX8_trace_13 ?_
  refine nz_i2l (v := ((((X 0 25) - 1) : Int32).toInt64)) F dX8_trace_14 rfl ?_
  refine k_X8_in ((v1 : Int32).toInt64) 0 ((((X 0 25) - 1) : Int32).toInt64) (fun hM => nz_runS F gX8_trace_X8_in rfl hd_X8_in.2 rfl hM dX8_trace_15 [] rfl rfl rfl (Nat.le_of_ble_eq_true rfl) rfl) h ([((a 0), .inr (8, [.int 0, .int (X 0 1), .ref (a 1), .ref (a 2), .ref (a 3), .ref (a 4), .ref (a 5), .ref (a 6), .int (X 0 8), .ref (a 7), .int (X 0 10), .int (X 0 11), .int (X 0 12), .int (X 0 13), .int (X 0 14), .int (X 0 15), .int (X 0 16), .int (X 0 17), .int (X 0 18), .ref (a 8), .ref (a 9), .ref (a 10), .ref (a 11), .ref (a 12), .ref (a 13), .int (X 0 25)])), ((a 1), .inl (nz_cI g, 8, .inl (X 1))), ((a 2), .inl (nz_cI g, 8, .inl (X 2))), ((a 3), .inl (nz_cI g, 320, .inl (X 3))), ((a 4), .inl (nz_cI g, 94, .inl (X 4))), ((a 5), .inl (nz_cI g, 94, .inl (X 5))), ((a 6), .inl (nz_cI g, 168, .inl (X 6))), ((a 7), .inl (nz_cI g, 400, .inl (X 7))), ((a 8), .inl (nz_cI g, 6, .inl (X 8))), ((a 9), .inl (nz_cI g, 49, .inl (X 9))), ((a 10), .inl (nz_cI g, 6, .inl (X 10))), ((a 11), .inl (nz_cZ g, 2, .inl (X 11))), ((a 12), .inl (nz_cI g, 188, .inl (X 12))), ((a 13), .inl (nz_cI g, 16, .inl (X 13)))]) (rfl) (fun q1 h => ?_)
  refine nz_if_eq (tgt := 30) F dX8_trace_18 (by decide) (fun c2 => ?_) (fun c2 => ?_)
  · have h := h.1 c2
    refine nz_ldc (v := (-1000000 : Int32)) F wd_X8_trace_c86 dX8_trace_30 ?_
    exact nz_iret F hQ (va_up X 0 (upd (X 0) 0 0)) h rfl dX8_trace_32
  · have h := h.2 c2
    refine nz_aload_n F dX8_trace_21 rfl 0 rfl ?_
    refine nz_get F iw_X8_trace_8 0 rfl rfl 24 (by decide) rfl fl_X8_trace_47 rfl dX8_trace_22 ?_
    refine nz_iload_n F dX8_trace_25 rfl 1 rfl ?_
    obtain ⟨i3, h⟩ := h
    refine nz_iald F 13 rfl i3 dX8_trace_26 ?_
    refine nz_goto (tgt := 32) F dX8_trace_27 (by decide) ?_
    exact nz_iret F hQ (va_up X 0 (upd (X 0) 0 0)) h rfl dX8_trace_32
theorem k_X8_trace {y : nz_Y} {g : nz_G} {k n : Nat} {ws : va_W} {pc : Nat} {ls : List (Nat × Value)} {st rest : List Value} {av : Array Value} {isC : List Nat} {K : Int32 → (Nat → Nat → Int32) → Prop} (a : Nat → Nat) (X : Nat → Nat → Int32) (v1 : Int32) (run : nz_M (yz_l y) yX8_trace wsX8_trace rm_X8_trace g [.ref (a 0), .int v1] (nz_wM g a X) (nz_Qi g (nz_wM g a X) (fun r (u : Nat → Nat → Int32) => K r u) (fun u => nz_wM g a u)) → nz_C y g k n ws pc ls st rest (nz_wM g a X) (nz_Qi g (nz_wM g a X) (fun r (u : Nat → Nat → Int32) => K r u) (fun u => nz_wM g a u)) av isC) (h : wp_X8_trace X v1 K) (ws' : (Nat → Nat → Int32) → va_W) (hm : ∀ (m0 : (Nat → Nat → Int32)), nz_mrg ws isC (nz_wM g a m0) = ws' m0) (kk : ∀ (r : Int32) (m0 : (Nat → Nat → Int32)), K r m0 → nz_V y g k n (ws' m0) (pc + 3) ls (.int r :: rest)) : nz_V y g k n ws pc ls st :=
  nz_ci (ws' := fun u => ws' u) (run (c_X8_trace (yz_l y) g a X v1 K h)) (fun _ => rfl) (fun u => hm u) (fun r u h => kk r u h)
theorem dX8_count_0 : decode cX8_count 0 = .ok (.aload_n 0, 1) := by decide +kernel
theorem dX8_count_1 : decode cX8_count 1 = .ok (.iconst 0, 1) := by decide +kernel
theorem dX8_count_2 : decode cX8_count 2 = .ok (.putfield 50, 3) := by decide +kernel
theorem dX8_count_5 : decode cX8_count 5 = .ok (.iconst 0, 1) := by decide +kernel
theorem dX8_count_6 : decode cX8_count 6 = .ok (.istore_n 2, 1) := by decide +kernel
theorem dX8_count_7 : decode cX8_count 7 = .ok (.iload_n 1, 1) := by decide +kernel
theorem dX8_count_8 : decode cX8_count 8 = .ok (.tableswitch 117 0 6 #[44, 77, 84, 91, 99, 104, 112], 44) := by decide +kernel
theorem dX8_count_52 : decode cX8_count 52 = .ok (.iconst 0, 1) := by decide +kernel
theorem dX8_count_53 : decode cX8_count 53 = .ok (.istore_n 3, 1) := by decide +kernel
theorem dX8_count_54 : decode cX8_count 54 = .ok (.iload_n 3, 1) := by decide +kernel
theorem dX8_count_55 : decode cX8_count 55 = .ok (.bipush 8, 2) := by decide +kernel
theorem dX8_count_57 : decode cX8_count 57 = .ok (.if_icmp .ge 26, 3) := by decide +kernel
theorem dX8_count_60 : decode cX8_count 60 = .ok (.iload_n 2, 1) := by decide +kernel
theorem dX8_count_61 : decode cX8_count 61 = .ok (.aload_n 0, 1) := by decide +kernel
theorem dX8_count_62 : decode cX8_count 62 = .ok (.getfield 7, 3) := by decide +kernel
theorem dX8_count_65 : decode cX8_count 65 = .ok (.iload_n 3, 1) := by decide +kernel
theorem dX8_count_66 : decode cX8_count 66 = .ok (.iaload, 1) := by decide +kernel
theorem dX8_count_67 : decode cX8_count 67 = .ok (.ifCond .lt 7, 3) := by decide +kernel
theorem dX8_count_70 : decode cX8_count 70 = .ok (.iconst 1, 1) := by decide +kernel
theorem dX8_count_71 : decode cX8_count 71 = .ok (.goto 4, 3) := by decide +kernel
theorem dX8_count_74 : decode cX8_count 74 = .ok (.iconst 0, 1) := by decide +kernel
theorem dX8_count_75 : decode cX8_count 75 = .ok (.iadd, 1) := by decide +kernel
theorem dX8_count_76 : decode cX8_count 76 = .ok (.istore_n 2, 1) := by decide +kernel
theorem dX8_count_77 : decode cX8_count 77 = .ok (.iinc 3 1, 3) := by decide +kernel
theorem dX8_count_80 : decode cX8_count 80 = .ok (.goto (-26), 3) := by decide +kernel
theorem dX8_count_83 : decode cX8_count 83 = .ok (.iload_n 2, 1) := by decide +kernel
theorem dX8_count_84 : decode cX8_count 84 = .ok (.ireturn, 1) := by decide +kernel
theorem dX8_count_85 : decode cX8_count 85 = .ok (.aload_n 0, 1) := by decide +kernel
theorem dX8_count_86 : decode cX8_count 86 = .ok (.getfield 19, 3) := by decide +kernel
theorem dX8_count_89 : decode cX8_count 89 = .ok (.iconst 4, 1) := by decide +kernel
theorem dX8_count_90 : decode cX8_count 90 = .ok (.iaload, 1) := by decide +kernel
theorem dX8_count_91 : decode cX8_count 91 = .ok (.ireturn, 1) := by decide +kernel
theorem dX8_count_92 : decode cX8_count 92 = .ok (.aload_n 0, 1) := by decide +kernel
theorem dX8_count_93 : decode cX8_count 93 = .ok (.getfield 19, 3) := by decide +kernel
theorem dX8_count_96 : decode cX8_count 96 = .ok (.iconst 5, 1) := by decide +kernel
theorem dX8_count_97 : decode cX8_count 97 = .ok (.iaload, 1) := by decide +kernel
theorem dX8_count_98 : decode cX8_count 98 = .ok (.ireturn, 1) := by decide +kernel
theorem dX8_count_99 : decode cX8_count 99 = .ok (.aload_n 0, 1) := by decide +kernel
theorem dX8_count_100 : decode cX8_count 100 = .ok (.getfield 19, 3) := by decide +kernel
theorem dX8_count_103 : decode cX8_count 103 = .ok (.bipush 6, 2) := by decide +kernel
theorem dX8_count_105 : decode cX8_count 105 = .ok (.iaload, 1) := by decide +kernel
theorem dX8_count_106 : decode cX8_count 106 = .ok (.ireturn, 1) := by decide +kernel
theorem dX8_count_107 : decode cX8_count 107 = .ok (.aload_n 0, 1) := by decide +kernel
theorem dX8_count_108 : decode cX8_count 108 = .ok (.getfield 177, 3) := by decide +kernel
theorem dX8_count_111 : decode cX8_count 111 = .ok (.ireturn, 1) := by decide +kernel
theorem dX8_count_112 : decode cX8_count 112 = .ok (.aload_n 0, 1) := by decide +kernel
theorem dX8_count_113 : decode cX8_count 113 = .ok (.getfield 19, 3) := by decide +kernel
theorem dX8_count_116 : decode cX8_count 116 = .ok (.bipush 7, 2) := by decide +kernel
theorem dX8_count_118 : decode cX8_count 118 = .ok (.iaload, 1) := by decide +kernel
theorem dX8_count_119 : decode cX8_count 119 = .ok (.ireturn, 1) := by decide +kernel
theorem dX8_count_120 : decode cX8_count 120 = .ok (.aload_n 0, 1) := by decide +kernel
theorem dX8_count_121 : decode cX8_count 121 = .ok (.getfield 77, 3) := by decide +kernel
theorem dX8_count_124 : decode cX8_count 124 = .ok (.ireturn, 1) := by decide +kernel
theorem dX8_count_125 : decode cX8_count 125 = .ok (.ldc 70, 2) := by decide +kernel
theorem dX8_count_127 : decode cX8_count 127 = .ok (.ireturn, 1) := by decide +kernel
/-! X8_count -/
abbrev rm_X8_count : Room := { frames := 0, cells := 0, slots := 0, locals := 0 }
theorem iw_X8_count_8 : ∀ w ∈ wsX80, w ∈ wsX8_count := fun _ h => List.mem_cons_of_mem _ (List.mem_append_right _ h)
theorem fl_X8_count_50 : Cond.fieldLink RX8 50 "NightStonesModel" "thrown" "I" ∈ wsX8_count := List.mem_of_getElem? (i := 1) rfl
theorem fl_X8_count_7 : Cond.fieldLink RX8 7 "NightStonesModel" "lane" "[I" ∈ wsX8_count := List.mem_of_getElem? (i := 2) rfl
theorem fl_X8_count_19 : Cond.fieldLink RX8 19 "NightStonesModel" "road" "[I" ∈ wsX8_count := List.mem_of_getElem? (i := 3) rfl
theorem fl_X8_count_177 : Cond.fieldLink RX8 177 "NightStonesModel" "acts" "I" ∈ wsX8_count := List.mem_of_getElem? (i := 4) rfl
theorem fl_X8_count_77 : Cond.fieldLink RX8 77 "NightStonesModel" "taped" "I" ∈ wsX8_count := List.mem_of_getElem? (i := 5) rfl
theorem wd_X8_count_c70 : Cond.constant RX8 70 (-1000001) ∈ wsX8_count := List.mem_of_getElem? (i := 6) rfl
def S_X8_count_54 (X : Nat → Nat → Int32) (c0_0 : Int32) (K : Int32 → (Nat → Nat → Int32) → Prop) (R54 : Int32 → Int32 → Prop) (x2 : Int32) (x3 : Int32) : Prop := ((8 ≤ x3 → K x2 (va_up X 0 (upd (X 0) 0 c0_0))) ∧ (¬ (8 ≤ x3) → (vp_in x3 8 ∧ ((((X 1) x3.toNatClampNeg) < 0 → R54 (x2 + 0) (x3 + 1)) ∧ (¬ (((X 1) x3.toNatClampNeg) < 0) → R54 (x2 + 1) (x3 + 1))))))
set_option maxHeartbeats 4000000 in
set_option maxRecDepth 100000 in
theorem t_X8_count_54 {y : nz_Y} {g : nz_G} (F : nz_F y g cX8_count 4 wsX8_count RX8 (some .int) rm_X8_count) {wc0 : va_W} {sz : Nat} {K : Int32 → (Nat → Nat → Int32) → Prop} (a : Nat → Nat) (X : Nat → Nat → Int32) (v1 : Int32) (c0_0 : Int32) (hQ : yz_A y = va_A wc0 sz ∧ yz_Q y = MQ (yz_b y) ((nz_Qi g wc0 (fun r (u : Nat → Nat → Int32) => K r u) (fun u => nz_wM g a u)) sz) (yz_a y) (yz_s y) 0 0 (va_A wc0 sz)) : ∀ (n1 : Nat) (x2 : Int32) (x3 : Int32), nz_it (fun _ _ => False) (S_X8_count_54 X c0_0 K) n1 x2 x3 → nz_V y g 0 0 [((a 0), .inr (8, [.int c0_0, .int (X 0 1), .ref (a 1), .ref (a 2), .ref (a 3), .ref (a 4), .ref (a 5), .ref (a 6), .int (X 0 8), .ref (a 7), .int (X 0 10), .int (X 0 11), .int (X 0 12), .int (X 0 13), .int (X 0 14), .int (X 0 15), .int (X 0 16), .int (X 0 17), .int (X 0 18), .ref (a 8), .ref (a 9), .ref (a 10), .ref (a 11), .ref (a 12), .ref (a 13), .int (X 0 25)])), ((a 1), .inl (nz_cI g, 8, .inl (X 1))), ((a 2), .inl (nz_cI g, 8, .inl (X 2))), ((a 3), .inl (nz_cI g, 320, .inl (X 3))), ((a 4), .inl (nz_cI g, 94, .inl (X 4))), ((a 5), .inl (nz_cI g, 94, .inl (X 5))), ((a 6), .inl (nz_cI g, 168, .inl (X 6))), ((a 7), .inl (nz_cI g, 400, .inl (X 7))), ((a 8), .inl (nz_cI g, 6, .inl (X 8))), ((a 9), .inl (nz_cI g, 49, .inl (X 9))), ((a 10), .inl (nz_cI g, 6, .inl (X 10))), ((a 11), .inl (nz_cZ g, 2, .inl (X 11))), ((a 12), .inl (nz_cI g, 188, .inl (X 12))), ((a 13), .inl (nz_cI g, 16, .inl (X 13)))] 54 [(0, .ref (a 0)), (2, .int x2), (3, .int x3)] [] := by
  intro n1
  induction n1 with
  | zero =>
    intro x2 x3 h
    exact h.elim
  | succ n1 hR54 =>
    intro x2 x3 h
    have h : S_X8_count_54 X c0_0 K (nz_it (fun _ _ => False) (S_X8_count_54 X c0_0 K) n1) x2 x3 := h
    unfold S_X8_count_54 at h
    refine nz_iload_n F dX8_count_54 rfl 2 rfl ?_
    refine nz_bipush (v := 8) F dX8_count_55 (by decide) ?_
    refine nz_icmp_ge (tgt := 83) F dX8_count_57 (by decide) (fun c2 => ?_) (fun c2 => ?_)
    · have h := h.1 c2
      refine nz_iload_n F dX8_count_83 rfl 1 rfl ?_
      exact nz_iret F hQ (va_up X 0 (upd (X 0) 0 c0_0)) h rfl dX8_count_84
    · have h := h.2 c2
      refine nz_iload_n F dX8_count_60 rfl 1 rfl ?_
      refine nz_aload_n F dX8_count_61 rfl 0 rfl ?_
      refine nz_get F iw_X8_count_8 0 rfl rfl 2 (by decide) rfl fl_X8_count_7 rfl dX8_count_62 ?_
      refine nz_iload_n F dX8_count_65 rfl 2 rfl ?_
      obtain ⟨i3, h⟩ := h
      refine nz_iald F 1 rfl i3 dX8_count_66 ?_
      refine nz_if_lt (tgt := 74) F dX8_count_67 (by decide) (fun c4 => ?_) (fun c4 => ?_)
      · have h := h.1 c4
        refine nz_iconst (v := 0) F dX8_count_74 (by decide) ?_
        refine nz_iadd F dX8_count_75 ?_
        refine nz_istore_n (lv' := [(2, .int (x2 + 0)), (0, .ref (a 0)), (3, .int x3)]) F dX8_count_76 rfl (by decide) rfl ?_
        refine nz_iinc (v := (x3 + 1)) (j := 2) (lv' := [(3, .int (x3 + 1)), (2, .int (x2 + 0)), (0, .ref (a 0))]) F dX8_count_77 rfl rfl (by decide) rfl ?_
        refine nz_goto (tgt := 54) F dX8_count_80 (by decide) ?_
        refine nz_ls (lv' := [(0, .ref (a 0)), (2, .int (x2 + 0)), (3, .int (x3 + 1))]) [2, 1, 0] rfl ?_
        exact hR54 (x2 + 0) (x3 + 1) h
      · have h := h.2 c4
        refine nz_iconst (v := 1) F dX8_count_70 (by decide) ?_
        refine nz_goto (tgt := 75) F dX8_count_71 (by decide) ?_
        refine nz_iadd F dX8_count_75 ?_
        refine nz_istore_n (lv' := [(2, .int (x2 + 1)), (0, .ref (a 0)), (3, .int x3)]) F dX8_count_76 rfl (by decide) rfl ?_
        refine nz_iinc (v := (x3 + 1)) (j := 2) (lv' := [(3, .int (x3 + 1)), (2, .int (x2 + 1)), (0, .ref (a 0))]) F dX8_count_77 rfl rfl (by decide) rfl ?_
        refine nz_goto (tgt := 54) F dX8_count_80 (by decide) ?_
        refine nz_ls (lv' := [(0, .ref (a 0)), (2, .int (x2 + 1)), (3, .int (x3 + 1))]) [2, 1, 0] rfl ?_
        exact hR54 (x2 + 1) (x3 + 1) h
def wp_X8_count (X : Nat → Nat → Int32) (v1 : Int32) (K : Int32 → (Nat → Nat → Int32) → Prop) : Prop := ((v1 = 0 → (∃ n, nz_it (fun _ _ => False) (S_X8_count_54 X 0 K) n 0 0)) ∧ (¬ v1 = 0 → ((v1 = 1 → K ((X 4) 4) (va_up X 0 (upd (X 0) 0 0))) ∧ (¬ v1 = 1 → ((v1 = 2 → K ((X 4) 5) (va_up X 0 (upd (X 0) 0 0))) ∧ (¬ v1 = 2 → ((v1 = 3 → K ((X 4) 6) (va_up X 0 (upd (X 0) 0 0))) ∧ (¬ v1 = 3 → ((v1 = 4 → K (X 0 8) (va_up X 0 (upd (X 0) 0 0))) ∧ (¬ v1 = 4 → ((v1 = 5 → K ((X 4) 7) (va_up X 0 (upd (X 0) 0 0))) ∧ (¬ v1 = 5 → ((v1 = 6 → K (X 0 10) (va_up X 0 (upd (X 0) 0 0))) ∧ (¬ v1 = 6 → K (-1000001 : Int32) (va_up X 0 (upd (X 0) 0 0))))))))))))))))
set_option maxHeartbeats 4000000 in
set_option maxRecDepth 100000 in
theorem c_X8_count (l : Launch) (g : nz_G) (a : Nat → Nat) (X : Nat → Nat → Int32) (v1 : Int32) (K : Int32 → (Nat → Nat → Int32) → Prop) (h : wp_X8_count X v1 K) : nz_M l yX8_count wsX8_count rm_X8_count g [.ref (a 0), .int v1] (nz_wM g a X) (nz_Qi g (nz_wM g a X) (fun r (u : Nat → Nat → Int32) => K r u) (fun u => nz_wM g a u)) := by
  refine nz_M.of (bytes := cX8_count) (nL := 4) (ret := (some .int)) (own := RX8) (by decide) rfl rfl ⟨rfl, rfl⟩ rfl ?_
  intro y F hl hQ
  obtain ⟨sz, hQ⟩ := hQ
  refine nz_ent (lv' := [(0, .ref (a 0)), (1, .int v1)]) rfl ?_
  unfold wp_X8_count at h
  refine nz_aload_n F dX8_count_0 rfl 0 rfl ?_
  refine nz_iconst (v := 0) F dX8_count_1 (by decide) ?_
  refine nz_put (ws' := [((a 0), .inr (8, [.int 0, .int (X 0 1), .ref (a 1), .ref (a 2), .ref (a 3), .ref (a 4), .ref (a 5), .ref (a 6), .int (X 0 8), .ref (a 7), .int (X 0 10), .int (X 0 11), .int (X 0 12), .int (X 0 13), .int (X 0 14), .int (X 0 15), .int (X 0 16), .int (X 0 17), .int (X 0 18), .ref (a 8), .ref (a 9), .ref (a 10), .ref (a 11), .ref (a 12), .ref (a 13), .int (X 0 25)])), ((a 1), .inl (nz_cI g, 8, .inl (X 1))), ((a 2), .inl (nz_cI g, 8, .inl (X 2))), ((a 3), .inl (nz_cI g, 320, .inl (X 3))), ((a 4), .inl (nz_cI g, 94, .inl (X 4))), ((a 5), .inl (nz_cI g, 94, .inl (X 5))), ((a 6), .inl (nz_cI g, 168, .inl (X 6))), ((a 7), .inl (nz_cI g, 400, .inl (X 7))), ((a 8), .inl (nz_cI g, 6, .inl (X 8))), ((a 9), .inl (nz_cI g, 49, .inl (X 9))), ((a 10), .inl (nz_cI g, 6, .inl (X 10))), ((a 11), .inl (nz_cZ g, 2, .inl (X 11))), ((a 12), .inl (nz_cI g, 188, .inl (X 12))), ((a 13), .inl (nz_cI g, 16, .inl (X 13)))]) F iw_X8_count_8 tyX8 tyX8_ok nmX8 0 rfl rfl 0 (by decide) rfl fl_X8_count_50 rfl rfl (Nat.le_of_ble_eq_true rfl) dX8_count_2 rfl ?_
  refine nz_iconst (v := 0) F dX8_count_5 (by decide) ?_
  refine nz_istore_n (lv' := [(2, .int 0), (0, .ref (a 0)), (1, .int v1)]) F dX8_count_6 rfl (by decide) rfl ?_
  refine nz_iload_n F dX8_count_7 rfl 2 rfl ?_
  by_cases c1 : v1 = 0
  · have h := h.1 c1
    refine nz_tin (tgt := 52) (off := 44) F dX8_count_8 (by rw [c1]; decide) (by rw [c1]; decide) (by rw [c1]; rfl) (by decide) ?_
    refine nz_iconst (v := 0) F dX8_count_52 (by decide) ?_
    refine nz_istore_n (lv' := [(3, .int 0), (2, .int 0), (0, .ref (a 0)), (1, .int v1)]) F dX8_count_53 rfl (by decide) rfl ?_
    refine nz_ls (lv' := [(0, .ref (a 0)), (2, .int 0), (3, .int 0)]) [2, 1, 0] rfl ?_
    obtain ⟨n1, h⟩ := h
    exact t_X8_count_54 F a X v1 0 hQ n1 0 0 h
  · have h := h.2 c1
    by_cases c5 : v1 = 1
    · have h := h.1 c5
      refine nz_tin (tgt := 85) (off := 77) F dX8_count_8 (by rw [c5]; decide) (by rw [c5]; decide) (by rw [c5]; rfl) (by decide) ?_
      refine nz_aload_n F dX8_count_85 rfl 1 rfl ?_
      refine nz_get F iw_X8_count_8 0 rfl rfl 5 (by decide) rfl fl_X8_count_19 rfl dX8_count_86 ?_
      refine nz_iconst (v := 4) F dX8_count_89 (by decide) ?_
      refine nz_iald F 4 rfl (nz_inC rfl) dX8_count_90 ?_
      refine nz_vi (z := ((X 4) 4)) rfl ?_
      exact nz_iret F hQ (va_up X 0 (upd (X 0) 0 0)) h rfl dX8_count_91
    · have h := h.2 c5
      by_cases c6 : v1 = 2
      · have h := h.1 c6
        refine nz_tin (tgt := 92) (off := 84) F dX8_count_8 (by rw [c6]; decide) (by rw [c6]; decide) (by rw [c6]; rfl) (by decide) ?_
        refine nz_aload_n F dX8_count_92 rfl 1 rfl ?_
        refine nz_get F iw_X8_count_8 0 rfl rfl 5 (by decide) rfl fl_X8_count_19 rfl dX8_count_93 ?_
        refine nz_iconst (v := 5) F dX8_count_96 (by decide) ?_
        refine nz_iald F 4 rfl (nz_inC rfl) dX8_count_97 ?_
        refine nz_vi (z := ((X 4) 5)) rfl ?_
        exact nz_iret F hQ (va_up X 0 (upd (X 0) 0 0)) h rfl dX8_count_98
      · have h := h.2 c6
        by_cases c7 : v1 = 3
        · have h := h.1 c7
          refine nz_tin (tgt := 99) (off := 91) F dX8_count_8 (by rw [c7]; decide) (by rw [c7]; decide) (by rw [c7]; rfl) (by decide) ?_
          refine nz_aload_n F dX8_count_99 rfl 1 rfl ?_
          refine nz_get F iw_X8_count_8 0 rfl rfl 5 (by decide) rfl fl_X8_count_19 rfl dX8_count_100 ?_
          refine nz_bipush (v := 6) F dX8_count_103 (by decide) ?_
          refine nz_iald F 4 rfl (nz_inC rfl) dX8_count_105 ?_
          refine nz_vi (z := ((X 4) 6)) rfl ?_
          exact nz_iret F hQ (va_up X 0 (upd (X 0) 0 0)) h rfl dX8_count_106
        · have h := h.2 c7
          by_cases c8 : v1 = 4
          · have h := h.1 c8
            refine nz_tin (tgt := 107) (off := 99) F dX8_count_8 (by rw [c8]; decide) (by rw [c8]; decide) (by rw [c8]; rfl) (by decide) ?_
            refine nz_aload_n F dX8_count_107 rfl 1 rfl ?_
            refine nz_get F iw_X8_count_8 0 rfl rfl 8 (by decide) rfl fl_X8_count_177 rfl dX8_count_108 ?_
            exact nz_iret F hQ (va_up X 0 (upd (X 0) 0 0)) h rfl dX8_count_111
          · have h := h.2 c8
            by_cases c9 : v1 = 5
            · have h := h.1 c9
              refine nz_tin (tgt := 112) (off := 104) F dX8_count_8 (by rw [c9]; decide) (by rw [c9]; decide) (by rw [c9]; rfl) (by decide) ?_
              refine nz_aload_n F dX8_count_112 rfl 1 rfl ?_
              refine nz_get F iw_X8_count_8 0 rfl rfl 5 (by decide) rfl fl_X8_count_19 rfl dX8_count_113 ?_
              refine nz_bipush (v := 7) F dX8_count_116 (by decide) ?_
              refine nz_iald F 4 rfl (nz_inC rfl) dX8_count_118 ?_
              refine nz_vi (z := ((X 4) 7)) rfl ?_
              exact nz_iret F hQ (va_up X 0 (upd (X 0) 0 0)) h rfl dX8_count_119
            · have h := h.2 c9
              by_cases c10 : v1 = 6
              · have h := h.1 c10
                refine nz_tin (tgt := 120) (off := 112) F dX8_count_8 (by rw [c10]; decide) (by rw [c10]; decide) (by rw [c10]; rfl) (by decide) ?_
                refine nz_aload_n F dX8_count_120 rfl 1 rfl ?_
                refine nz_get F iw_X8_count_8 0 rfl rfl 10 (by decide) rfl fl_X8_count_77 rfl dX8_count_121 ?_
                exact nz_iret F hQ (va_up X 0 (upd (X 0) 0 0)) h rfl dX8_count_124
              · have h := h.2 c10
                refine nz_tout (tgt := 125) F dX8_count_8 (nz_osw (lo := 0) (hi := 6) (fun j h1 h2 => by have e0 : ¬ (v1 : Int32).toInt = (0 : Int) := nz_nq c1; have e1 : ¬ (v1 : Int32).toInt = (1 : Int) := nz_nq c5; have e2 : ¬ (v1 : Int32).toInt = (2 : Int) := nz_nq c6; have e3 : ¬ (v1 : Int32).toInt = (3 : Int) := nz_nq c7; have e4 : ¬ (v1 : Int32).toInt = (4 : Int) := nz_nq c8; have e5 : ¬ (v1 : Int32).toInt = (5 : Int) := nz_nq c9; have e6 : ¬ (v1 : Int32).toInt = (6 : Int) := nz_nq c10; omega)) (by decide) ?_
                refine nz_ldc (v := (-1000001 : Int32)) F wd_X8_count_c70 dX8_count_125 ?_
                exact nz_iret F hQ (va_up X 0 (upd (X 0) 0 0)) h rfl dX8_count_127
theorem k_X8_count {y : nz_Y} {g : nz_G} {k n : Nat} {ws : va_W} {pc : Nat} {ls : List (Nat × Value)} {st rest : List Value} {av : Array Value} {isC : List Nat} {K : Int32 → (Nat → Nat → Int32) → Prop} (a : Nat → Nat) (X : Nat → Nat → Int32) (v1 : Int32) (run : nz_M (yz_l y) yX8_count wsX8_count rm_X8_count g [.ref (a 0), .int v1] (nz_wM g a X) (nz_Qi g (nz_wM g a X) (fun r (u : Nat → Nat → Int32) => K r u) (fun u => nz_wM g a u)) → nz_C y g k n ws pc ls st rest (nz_wM g a X) (nz_Qi g (nz_wM g a X) (fun r (u : Nat → Nat → Int32) => K r u) (fun u => nz_wM g a u)) av isC) (h : wp_X8_count X v1 K) (ws' : (Nat → Nat → Int32) → va_W) (hm : ∀ (m0 : (Nat → Nat → Int32)), nz_mrg ws isC (nz_wM g a m0) = ws' m0) (kk : ∀ (r : Int32) (m0 : (Nat → Nat → Int32)), K r m0 → nz_V y g k n (ws' m0) (pc + 3) ls (.int r :: rest)) : nz_V y g k n ws pc ls st :=
  nz_ci (ws' := fun u => ws' u) (run (c_X8_count (yz_l y) g a X v1 K h)) (fun _ => rfl) (fun u => hm u) (fun r u h => kk r u h)
theorem dX8_status_0 : decode cX8_status 0 = .ok (.aload_n 0, 1) := by decide +kernel
theorem dX8_status_1 : decode cX8_status 1 = .ok (.iconst 0, 1) := by decide +kernel
theorem dX8_status_2 : decode cX8_status 2 = .ok (.putfield 50, 3) := by decide +kernel
theorem dX8_status_5 : decode cX8_status 5 = .ok (.aload_n 0, 1) := by decide +kernel
theorem dX8_status_6 : decode cX8_status 6 = .ok (.getfield 54, 3) := by decide +kernel
theorem dX8_status_9 : decode cX8_status 9 = .ok (.ireturn, 1) := by decide +kernel
/-! X8_status -/
abbrev rm_X8_status : Room := { frames := 0, cells := 0, slots := 0, locals := 0 }
theorem iw_X8_status_8 : ∀ w ∈ wsX80, w ∈ wsX8_status := fun _ h => List.mem_cons_of_mem _ (List.mem_append_right _ h)
theorem fl_X8_status_50 : Cond.fieldLink RX8 50 "NightStonesModel" "thrown" "I" ∈ wsX8_status := List.mem_of_getElem? (i := 1) rfl
theorem fl_X8_status_54 : Cond.fieldLink RX8 54 "NightStonesModel" "status" "I" ∈ wsX8_status := List.mem_of_getElem? (i := 2) rfl
def wp_X8_status (X : Nat → Nat → Int32) (K : Int32 → (Nat → Nat → Int32) → Prop) : Prop := K (X 0 1) (va_up X 0 (upd (X 0) 0 0))
set_option maxHeartbeats 4000000 in
set_option maxRecDepth 100000 in
theorem c_X8_status (l : Launch) (g : nz_G) (a : Nat → Nat) (X : Nat → Nat → Int32) (K : Int32 → (Nat → Nat → Int32) → Prop) (h : wp_X8_status X K) : nz_M l yX8_status wsX8_status rm_X8_status g [.ref (a 0)] (nz_wM g a X) (nz_Qi g (nz_wM g a X) (fun r (u : Nat → Nat → Int32) => K r u) (fun u => nz_wM g a u)) := by
  refine nz_M.of (bytes := cX8_status) (nL := 1) (ret := (some .int)) (own := RX8) (by decide) rfl rfl ⟨rfl, rfl⟩ rfl ?_
  intro y F hl hQ
  obtain ⟨sz, hQ⟩ := hQ
  refine nz_ent (lv' := [(0, .ref (a 0))]) rfl ?_
  unfold wp_X8_status at h
  refine nz_aload_n F dX8_status_0 rfl 0 rfl ?_
  refine nz_iconst (v := 0) F dX8_status_1 (by decide) ?_
  refine nz_put (ws' := [((a 0), .inr (8, [.int 0, .int (X 0 1), .ref (a 1), .ref (a 2), .ref (a 3), .ref (a 4), .ref (a 5), .ref (a 6), .int (X 0 8), .ref (a 7), .int (X 0 10), .int (X 0 11), .int (X 0 12), .int (X 0 13), .int (X 0 14), .int (X 0 15), .int (X 0 16), .int (X 0 17), .int (X 0 18), .ref (a 8), .ref (a 9), .ref (a 10), .ref (a 11), .ref (a 12), .ref (a 13), .int (X 0 25)])), ((a 1), .inl (nz_cI g, 8, .inl (X 1))), ((a 2), .inl (nz_cI g, 8, .inl (X 2))), ((a 3), .inl (nz_cI g, 320, .inl (X 3))), ((a 4), .inl (nz_cI g, 94, .inl (X 4))), ((a 5), .inl (nz_cI g, 94, .inl (X 5))), ((a 6), .inl (nz_cI g, 168, .inl (X 6))), ((a 7), .inl (nz_cI g, 400, .inl (X 7))), ((a 8), .inl (nz_cI g, 6, .inl (X 8))), ((a 9), .inl (nz_cI g, 49, .inl (X 9))), ((a 10), .inl (nz_cI g, 6, .inl (X 10))), ((a 11), .inl (nz_cZ g, 2, .inl (X 11))), ((a 12), .inl (nz_cI g, 188, .inl (X 12))), ((a 13), .inl (nz_cI g, 16, .inl (X 13)))]) F iw_X8_status_8 tyX8 tyX8_ok nmX8 0 rfl rfl 0 (by decide) rfl fl_X8_status_50 rfl rfl (Nat.le_of_ble_eq_true rfl) dX8_status_2 rfl ?_
  refine nz_aload_n F dX8_status_5 rfl 0 rfl ?_
  refine nz_get F iw_X8_status_8 0 rfl rfl 1 (by decide) rfl fl_X8_status_54 rfl dX8_status_6 ?_
  exact nz_iret F hQ (va_up X 0 (upd (X 0) 0 0)) h rfl dX8_status_9
theorem k_X8_status {y : nz_Y} {g : nz_G} {k n : Nat} {ws : va_W} {pc : Nat} {ls : List (Nat × Value)} {st rest : List Value} {av : Array Value} {isC : List Nat} {K : Int32 → (Nat → Nat → Int32) → Prop} (a : Nat → Nat) (X : Nat → Nat → Int32) (run : nz_M (yz_l y) yX8_status wsX8_status rm_X8_status g [.ref (a 0)] (nz_wM g a X) (nz_Qi g (nz_wM g a X) (fun r (u : Nat → Nat → Int32) => K r u) (fun u => nz_wM g a u)) → nz_C y g k n ws pc ls st rest (nz_wM g a X) (nz_Qi g (nz_wM g a X) (fun r (u : Nat → Nat → Int32) => K r u) (fun u => nz_wM g a u)) av isC) (h : wp_X8_status X K) (ws' : (Nat → Nat → Int32) → va_W) (hm : ∀ (m0 : (Nat → Nat → Int32)), nz_mrg ws isC (nz_wM g a m0) = ws' m0) (kk : ∀ (r : Int32) (m0 : (Nat → Nat → Int32)), K r m0 → nz_V y g k n (ws' m0) (pc + 3) ls (.int r :: rest)) : nz_V y g k n ws pc ls st :=
  nz_ci (ws' := fun u => ws' u) (run (c_X8_status (yz_l y) g a X K h)) (fun _ => rfl) (fun u => hm u) (fun r u h => kk r u h)
