theorem dX8_who_0 : decode cX8_who 0 = .ok (.aload_n 0, 1) := by decide +kernel
theorem dX8_who_1 : decode cX8_who 1 = .ok (.iconst 0, 1) := by decide +kernel
theorem dX8_who_2 : decode cX8_who 2 = .ok (.putfield 50, 3) := by decide +kernel
theorem dX8_who_5 : decode cX8_who 5 = .ok (.aload_n 0, 1) := by decide +kernel
theorem dX8_who_6 : decode cX8_who 6 = .ok (.invokevirtual 192, 3) := by decide +kernel
theorem dX8_who_9 : decode cX8_who 9 = .ok (.ifCond .ne 6, 3) := by decide +kernel
theorem dX8_who_12 : decode cX8_who 12 = .ok (.ldc 196, 2) := by decide +kernel
theorem dX8_who_14 : decode cX8_who 14 = .ok (.ireturn, 1) := by decide +kernel
theorem dX8_who_15 : decode cX8_who 15 = .ok (.iload_n 1, 1) := by decide +kernel
theorem dX8_who_16 : decode cX8_who 16 = .ok (.i2l, 1) := by decide +kernel
theorem dX8_who_17 : decode cX8_who 17 = .ok (.lconst 0, 1) := by decide +kernel
theorem dX8_who_18 : decode cX8_who 18 = .ok (.ldc2_w 237, 3) := by decide +kernel
theorem dX8_who_21 : decode cX8_who 21 = .ok (.invokestatic 60, 3) := by decide +kernel
theorem dX8_who_24 : decode cX8_who 24 = .ok (.ifCond .eq 13, 3) := by decide +kernel
theorem dX8_who_27 : decode cX8_who 27 = .ok (.iload_n 2, 1) := by decide +kernel
theorem dX8_who_28 : decode cX8_who 28 = .ok (.i2l, 1) := by decide +kernel
theorem dX8_who_29 : decode cX8_who 29 = .ok (.lconst 0, 1) := by decide +kernel
theorem dX8_who_30 : decode cX8_who 30 = .ok (.lconst 1, 1) := by decide +kernel
theorem dX8_who_31 : decode cX8_who 31 = .ok (.invokestatic 60, 3) := by decide +kernel
theorem dX8_who_34 : decode cX8_who 34 = .ok (.ifCond .ne 6, 3) := by decide +kernel
theorem dX8_who_37 : decode cX8_who 37 = .ok (.ldc 70, 2) := by decide +kernel
theorem dX8_who_39 : decode cX8_who 39 = .ok (.ireturn, 1) := by decide +kernel
theorem dX8_who_40 : decode cX8_who 40 = .ok (.iconst 0, 1) := by decide +kernel
theorem dX8_who_41 : decode cX8_who 41 = .ok (.istore_n 3, 1) := by decide +kernel
theorem dX8_who_42 : decode cX8_who 42 = .ok (.ldc 86, 2) := by decide +kernel
theorem dX8_who_44 : decode cX8_who 44 = .ok (.istore 4, 2) := by decide +kernel
theorem dX8_who_46 : decode cX8_who 46 = .ok (.iconst 1, 1) := by decide +kernel
theorem dX8_who_47 : decode cX8_who 47 = .ok (.aload_n 0, 1) := by decide +kernel
theorem dX8_who_48 : decode cX8_who 48 = .ok (.getfield 19, 3) := by decide +kernel
theorem dX8_who_51 : decode cX8_who 51 = .ok (.iconst 5, 1) := by decide +kernel
theorem dX8_who_52 : decode cX8_who 52 = .ok (.iaload, 1) := by decide +kernel
theorem dX8_who_53 : decode cX8_who 53 = .ok (.ishl, 1) := by decide +kernel
theorem dX8_who_54 : decode cX8_who 54 = .ok (.iconst 1, 1) := by decide +kernel
theorem dX8_who_55 : decode cX8_who 55 = .ok (.isub, 1) := by decide +kernel
theorem dX8_who_56 : decode cX8_who 56 = .ok (.istore 5, 2) := by decide +kernel
theorem dX8_who_58 : decode cX8_who 58 = .ok (.iload 5, 2) := by decide +kernel
theorem dX8_who_60 : decode cX8_who 60 = .ok (.ifCond .lt 26, 3) := by decide +kernel
theorem dX8_who_63 : decode cX8_who 63 = .ok (.aload_n 0, 1) := by decide +kernel
theorem dX8_who_64 : decode cX8_who 64 = .ok (.iload_n 1, 1) := by decide +kernel
theorem dX8_who_65 : decode cX8_who 65 = .ok (.iload 5, 2) := by decide +kernel
theorem dX8_who_67 : decode cX8_who 67 = .ok (.invokevirtual 239, 3) := by decide +kernel
theorem dX8_who_70 : decode cX8_who 70 = .ok (.ifCond .eq 10, 3) := by decide +kernel
theorem dX8_who_73 : decode cX8_who 73 = .ok (.iinc 3 1, 3) := by decide +kernel
theorem dX8_who_76 : decode cX8_who 76 = .ok (.iload 5, 2) := by decide +kernel
theorem dX8_who_78 : decode cX8_who 78 = .ok (.istore 4, 2) := by decide +kernel
theorem dX8_who_80 : decode cX8_who 80 = .ok (.iinc 5 (-1), 3) := by decide +kernel
theorem dX8_who_83 : decode cX8_who 83 = .ok (.goto (-25), 3) := by decide +kernel
theorem dX8_who_86 : decode cX8_who 86 = .ok (.iload_n 2, 1) := by decide +kernel
theorem dX8_who_87 : decode cX8_who 87 = .ok (.ifCond .ne 7, 3) := by decide +kernel
theorem dX8_who_90 : decode cX8_who 90 = .ok (.iload_n 3, 1) := by decide +kernel
theorem dX8_who_91 : decode cX8_who 91 = .ok (.goto 5, 3) := by decide +kernel
theorem dX8_who_94 : decode cX8_who 94 = .ok (.iload 4, 2) := by decide +kernel
theorem dX8_who_96 : decode cX8_who 96 = .ok (.ireturn, 1) := by decide +kernel
set_option maxRecDepth 20000 in
theorem ggX8_who_X8_in : GoodIn wsX8_who wsX8_in := goodIn_r _ [14] rfl (by decide +kernel)
set_option maxRecDepth 20000 in
theorem gX8_who_X8_in : GoodIn wsX8_who (va_wsS RX8 60 yX8_in wsX8_in) := goodIn_app (goodIn_r _ [12, 13, 10] rfl (by decide +kernel)) ggX8_who_X8_in
set_option maxRecDepth 20000 in
theorem ggX8_who_X8_isThere : GoodIn wsX8_who wsX8_isThere := goodIn_r _ [11, 6, 44, 45, 46, 47, 48, 49, 50, 51, 52, 53, 54, 55, 56, 57, 58, 59, 60, 61, 62, 63, 64, 65, 66, 67, 68, 69] rfl (by decide +kernel)
set_option maxRecDepth 20000 in
theorem gX8_who_X8_isThere : GoodIn wsX8_who (wsV RX8 192 RX8 yX8_isThere wsX8_isThere) := goodIn_app (goodIn_r _ [7, 8, 9, 10] rfl (by decide +kernel)) ggX8_who_X8_isThere
set_option maxRecDepth 20000 in
theorem ggX8_who_X8_standsBy : GoodIn wsX8_who wsX8_standsBy := goodIn_r _ [18, 6, 19, 20, 21, 22, 10, 23, 24, 25, 26, 27, 28, 29, 30, 31, 32, 33, 34, 35, 36, 37, 38, 39, 40, 41, 42, 43, 44, 45, 46, 47, 48, 49, 50, 51, 52, 53, 54, 55, 56, 57, 58, 59, 60, 61, 62, 63, 64, 65, 66, 67, 68, 69] rfl (by decide +kernel)
set_option maxRecDepth 20000 in
theorem gX8_who_X8_standsBy : GoodIn wsX8_who (wsV RX8 239 RX8 yX8_standsBy wsX8_standsBy) := goodIn_app (goodIn_r _ [15, 16, 17, 10] rfl (by decide +kernel)) ggX8_who_X8_standsBy
theorem hd_X8_standsBy : yX8_standsBy.cls = RX8 ∧ yX8_standsBy.cls ≠ "java/lang/invoke/MethodHandle" ∧ yX8_standsBy.cls ≠ "java/lang/invoke/VarHandle" ∧ (parseMethodDescriptor yX8_standsBy.desc).map (fun d => d.parameters.length) = some 2 := by decide +kernel
/-! X8_who -/
abbrev rm_X8_who : Room := { frames := 4, cells := 0, slots := 0, locals := 98 }
theorem iw_X8_who_8 : ∀ w ∈ wsX80, w ∈ wsX8_who := fun _ h => List.mem_cons_of_mem _ (List.mem_append_right _ h)
theorem fl_X8_who_50 : Cond.fieldLink RX8 50 "NightStonesModel" "thrown" "I" ∈ wsX8_who := List.mem_of_getElem? (i := 1) rfl
theorem wd_X8_who_c237 : Cond.constantLong RX8 237 (9) ∈ wsX8_who := List.mem_of_getElem? (i := 3) rfl
theorem wd_X8_who_c70 : Cond.constant RX8 70 (-1000001) ∈ wsX8_who := List.mem_of_getElem? (i := 4) rfl
theorem wd_X8_who_c86 : Cond.constant RX8 86 (-1000000) ∈ wsX8_who := List.mem_of_getElem? (i := 5) rfl
theorem fl_X8_who_19 : Cond.fieldLink RX8 19 "NightStonesModel" "road" "[I" ∈ wsX8_who := List.mem_of_getElem? (i := 6) rfl
theorem wd_X8_who_c196 : Cond.constant RX8 196 (-1000002) ∈ wsX8_who := List.mem_of_getElem? (i := 2) rfl
def S_X8_who_58 (X : Nat → Nat → Int32) (v1 : Int32) (v2 : Int32) (c0_0 : Int32) (K : Int32 → (Nat → Nat → Int32) → Prop) (R58 : Int32 → Int32 → Int32 → (Nat → Int32) → Prop) (x3 : Int32) (x4 : Int32) (x5 : Int32) (c8_c : Nat → Int32) : Prop := ((x5 < 0 → ((¬ v2 = 0 → K x4 (va_up (va_up X 0 (upd (X 0) 0 c0_0)) 8 c8_c)) ∧ (v2 = 0 → K x3 (va_up (va_up X 0 (upd (X 0) 0 c0_0)) 8 c8_c)))) ∧ (¬ (x5 < 0) → wp_X8_standsBy (X 4) c8_c v1 x5 (fun q9 m10 => ((q9 = 0 → R58 x3 x4 (x5 + (-1 : Int32)) m10) ∧ (¬ (q9 = 0) → R58 (x3 + 1) x5 (x5 + (-1 : Int32)) m10)))))
set_option maxHeartbeats 4000000 in
set_option maxRecDepth 100000 in
theorem t_X8_who_58 {y : nz_Y} {g : nz_G} (F : nz_F y g cX8_who 6 wsX8_who RX8 (some .int) rm_X8_who) {wc0 : va_W} {sz : Nat} {K : Int32 → (Nat → Nat → Int32) → Prop} (a : Nat → Nat) (X : Nat → Nat → Int32) (v1 : Int32) (v2 : Int32) (c0_0 : Int32) (hQ : yz_A y = va_A wc0 sz ∧ yz_Q y = MQ (yz_b y) ((nz_Qi g wc0 (fun r (u : Nat → Nat → Int32) => K r u) (fun u => nz_wM g a u)) sz) (yz_a y) (yz_s y) 0 0 (va_A wc0 sz)) : ∀ (n1 : Nat) (x3 : Int32) (x4 : Int32) (x5 : Int32) (c8_c : Nat → Int32), nz_it (fun _ _ _ _ => False) (S_X8_who_58 X v1 v2 c0_0 K) n1 x3 x4 x5 c8_c → nz_V y g 0 0 [((a 0), .inr (8, [.int c0_0, .int (X 0 1), .ref (a 1), .ref (a 2), .ref (a 3), .ref (a 4), .ref (a 5), .ref (a 6), .int (X 0 8), .ref (a 7), .int (X 0 10), .int (X 0 11), .int (X 0 12), .int (X 0 13), .int (X 0 14), .int (X 0 15), .int (X 0 16), .int (X 0 17), .int (X 0 18), .ref (a 8), .ref (a 9), .ref (a 10), .ref (a 11), .ref (a 12), .ref (a 13), .int (X 0 25)])), ((a 1), .inl (nz_cI g, 8, .inl (X 1))), ((a 2), .inl (nz_cI g, 8, .inl (X 2))), ((a 3), .inl (nz_cI g, 320, .inl (X 3))), ((a 4), .inl (nz_cI g, 94, .inl (X 4))), ((a 5), .inl (nz_cI g, 94, .inl (X 5))), ((a 6), .inl (nz_cI g, 168, .inl (X 6))), ((a 7), .inl (nz_cI g, 400, .inl (X 7))), ((a 8), .inl (nz_cI g, 6, .inl c8_c)), ((a 9), .inl (nz_cI g, 49, .inl (X 9))), ((a 10), .inl (nz_cI g, 6, .inl (X 10))), ((a 11), .inl (nz_cZ g, 2, .inl (X 11))), ((a 12), .inl (nz_cI g, 188, .inl (X 12))), ((a 13), .inl (nz_cI g, 16, .inl (X 13)))] 58 [(0, .ref (a 0)), (1, .int v1), (2, .int v2), (3, .int x3), (4, .int x4), (5, .int x5)] [] := by
  intro n1
  induction n1 with
  | zero =>
    intro x3 x4 x5 c8_c h
    exact h.elim
  | succ n1 hR58 =>
    intro x3 x4 x5 c8_c h
    have h : S_X8_who_58 X v1 v2 c0_0 K (nz_it (fun _ _ _ _ => False) (S_X8_who_58 X v1 v2 c0_0 K) n1) x3 x4 x5 c8_c := h
    unfold S_X8_who_58 at h
    refine nz_iload F dX8_who_58 5 rfl ?_
    refine nz_if_lt (tgt := 86) F dX8_who_60 (by decide) (fun c7 => ?_) (fun c7 => ?_)
    · have h := h.1 c7
      refine nz_iload_n F dX8_who_86 rfl 2 rfl ?_
      refine nz_if_ne (tgt := 94) F dX8_who_87 (by decide) (fun c8 => ?_) (fun c8 => ?_)
      · have h := h.1 c8
        refine nz_iload F dX8_who_94 4 rfl ?_
        exact nz_iret F hQ (va_up (va_up X 0 (upd (X 0) 0 c0_0)) 8 c8_c) h rfl dX8_who_96
      · have h := h.2 c8
        refine nz_iload_n F dX8_who_90 rfl 3 rfl ?_
        refine nz_goto (tgt := 96) F dX8_who_91 (by decide) ?_
        exact nz_iret F hQ (va_up (va_up X 0 (upd (X 0) 0 c0_0)) 8 c8_c) h rfl dX8_who_96
    · have h := h.2 c7
      refine nz_aload_n F dX8_who_63 rfl 0 rfl ?_
      refine nz_iload_n F dX8_who_64 rfl 1 rfl ?_
      refine nz_iload F dX8_who_65 5 rfl ?_
      refine k_X8_standsBy (a 0) (a 1) (a 2) (a 3) (a 4) (a 5) (a 6) (a 7) (a 8) (a 9) (a 10) (a 11) (a 12) (a 13) c0_0 (X 0 1) (X 0 8) (X 0 10) (X 0 11) (X 0 12) (X 0 13) (X 0 14) (X 0 15) (X 0 16) (X 0 17) (X 0 18) (X 0 25) (X 1) (X 2) (X 3) (X 4) (X 5) (X 6) (X 7) c8_c (X 9) (X 10) (X 11) (X 12) (X 13) v1 x5 (fun hM => nz_runV F gX8_who_X8_standsBy rfl hd_X8_standsBy rfl hM dX8_who_67 [0, 1, 2, 3, 4, 5, 6, 7, 8, 9, 10, 11, 12, 13] rfl rfl 0 rfl rfl rfl (Nat.le_of_ble_eq_true rfl) rfl) h (fun m10 => [((a 0), .inr (8, [.int c0_0, .int (X 0 1), .ref (a 1), .ref (a 2), .ref (a 3), .ref (a 4), .ref (a 5), .ref (a 6), .int (X 0 8), .ref (a 7), .int (X 0 10), .int (X 0 11), .int (X 0 12), .int (X 0 13), .int (X 0 14), .int (X 0 15), .int (X 0 16), .int (X 0 17), .int (X 0 18), .ref (a 8), .ref (a 9), .ref (a 10), .ref (a 11), .ref (a 12), .ref (a 13), .int (X 0 25)])), ((a 1), .inl (nz_cI g, 8, .inl (X 1))), ((a 2), .inl (nz_cI g, 8, .inl (X 2))), ((a 3), .inl (nz_cI g, 320, .inl (X 3))), ((a 4), .inl (nz_cI g, 94, .inl (X 4))), ((a 5), .inl (nz_cI g, 94, .inl (X 5))), ((a 6), .inl (nz_cI g, 168, .inl (X 6))), ((a 7), .inl (nz_cI g, 400, .inl (X 7))), ((a 8), .inl (nz_cI g, 6, .inl m10)), ((a 9), .inl (nz_cI g, 49, .inl (X 9))), ((a 10), .inl (nz_cI g, 6, .inl (X 10))), ((a 11), .inl (nz_cZ g, 2, .inl (X 11))), ((a 12), .inl (nz_cI g, 188, .inl (X 12))), ((a 13), .inl (nz_cI g, 16, .inl (X 13)))]) (fun _ => rfl) (fun q9 m10 h => ?_)
      refine nz_if_eq (tgt := 80) F dX8_who_70 (by decide) (fun c11 => ?_) (fun c11 => ?_)
      · have h := h.1 c11
        refine nz_iinc (v := (x5 + (-1 : Int32))) (j := 5) (lv' := [(5, .int (x5 + (-1 : Int32))), (0, .ref (a 0)), (1, .int v1), (2, .int v2), (3, .int x3), (4, .int x4)]) F dX8_who_80 rfl rfl (by decide) rfl ?_
        refine nz_goto (tgt := 58) F dX8_who_83 (by decide) ?_
        refine nz_ls (lv' := [(0, .ref (a 0)), (1, .int v1), (2, .int v2), (3, .int x3), (4, .int x4), (5, .int (x5 + (-1 : Int32)))]) [1, 2, 3, 4, 5, 0] rfl ?_
        exact hR58 x3 x4 (x5 + (-1 : Int32)) m10 h
      · have h := h.2 c11
        refine nz_iinc (v := (x3 + 1)) (j := 3) (lv' := [(3, .int (x3 + 1)), (0, .ref (a 0)), (1, .int v1), (2, .int v2), (4, .int x4), (5, .int x5)]) F dX8_who_73 rfl rfl (by decide) rfl ?_
        refine nz_iload F dX8_who_76 5 rfl ?_
        refine nz_istore (lv' := [(4, .int x5), (3, .int (x3 + 1)), (0, .ref (a 0)), (1, .int v1), (2, .int v2), (5, .int x5)]) F dX8_who_78 (by decide) rfl ?_
        refine nz_iinc (v := (x5 + (-1 : Int32))) (j := 5) (lv' := [(5, .int (x5 + (-1 : Int32))), (4, .int x5), (3, .int (x3 + 1)), (0, .ref (a 0)), (1, .int v1), (2, .int v2)]) F dX8_who_80 rfl rfl (by decide) rfl ?_
        refine nz_goto (tgt := 58) F dX8_who_83 (by decide) ?_
        refine nz_ls (lv' := [(0, .ref (a 0)), (1, .int v1), (2, .int v2), (3, .int (x3 + 1)), (4, .int x5), (5, .int (x5 + (-1 : Int32)))]) [3, 4, 5, 2, 1, 0] rfl ?_
        exact hR58 (x3 + 1) x5 (x5 + (-1 : Int32)) m10 h
def wp_X8_who (X : Nat → Nat → Int32) (v1 : Int32) (v2 : Int32) (K : Int32 → (Nat → Nat → Int32) → Prop) : Prop := wp_X8_isThere (X 4) (fun q1 => ((¬ q1 = 0 → wp_X8_in ((v1 : Int32).toInt64) 0 9 (fun q3 => ((q3 = 0 → K (-1000001 : Int32) (va_up X 0 (upd (X 0) 0 0))) ∧ (¬ (q3 = 0) → wp_X8_in ((v2 : Int32).toInt64) 0 1 (fun q5 => ((¬ q5 = 0 → (∃ n, nz_it (fun _ _ _ _ => False) (S_X8_who_58 X v1 v2 0 K) n 0 (-1000000 : Int32) ((1 <<< (((X 4) 5) &&& 31)) - 1) (X 8))) ∧ (q5 = 0 → K (-1000001 : Int32) (va_up X 0 (upd (X 0) 0 0))))))))) ∧ (q1 = 0 → K (-1000002 : Int32) (va_up X 0 (upd (X 0) 0 0)))))
set_option maxHeartbeats 4000000 in
set_option maxRecDepth 100000 in
theorem c_X8_who (l : Launch) (g : nz_G) (a : Nat → Nat) (X : Nat → Nat → Int32) (v1 : Int32) (v2 : Int32) (K : Int32 → (Nat → Nat → Int32) → Prop) (h : wp_X8_who X v1 v2 K) : nz_M l yX8_who wsX8_who rm_X8_who g [.ref (a 0), .int v1, .int v2] (nz_wM g a X) (nz_Qi g (nz_wM g a X) (fun r (u : Nat → Nat → Int32) => K r u) (fun u => nz_wM g a u)) := by
  refine nz_M.of (bytes := cX8_who) (nL := 6) (ret := (some .int)) (own := RX8) (by decide) rfl rfl ⟨rfl, rfl⟩ rfl ?_
  intro y F hl hQ
  obtain ⟨sz, hQ⟩ := hQ
  refine nz_ent (lv' := [(0, .ref (a 0)), (1, .int v1), (2, .int v2)]) rfl ?_
  unfold wp_X8_who at h
  refine nz_aload_n F dX8_who_0 rfl 0 rfl ?_
  refine nz_iconst (v := 0) F dX8_who_1 (by decide) ?_
  refine nz_put (ws' := [((a 0), .inr (8, [.int 0, .int (X 0 1), .ref (a 1), .ref (a 2), .ref (a 3), .ref (a 4), .ref (a 5), .ref (a 6), .int (X 0 8), .ref (a 7), .int (X 0 10), .int (X 0 11), .int (X 0 12), .int (X 0 13), .int (X 0 14), .int (X 0 15), .int (X 0 16), .int (X 0 17), .int (X 0 18), .ref (a 8), .ref (a 9), .ref (a 10), .ref (a 11), .ref (a 12), .ref (a 13), .int (X 0 25)])), ((a 1), .inl (nz_cI g, 8, .inl (X 1))), ((a 2), .inl (nz_cI g, 8, .inl (X 2))), ((a 3), .inl (nz_cI g, 320, .inl (X 3))), ((a 4), .inl (nz_cI g, 94, .inl (X 4))), ((a 5), .inl (nz_cI g, 94, .inl (X 5))), ((a 6), .inl (nz_cI g, 168, .inl (X 6))), ((a 7), .inl (nz_cI g, 400, .inl (X 7))), ((a 8), .inl (nz_cI g, 6, .inl (X 8))), ((a 9), .inl (nz_cI g, 49, .inl (X 9))), ((a 10), .inl (nz_cI g, 6, .inl (X 10))), ((a 11), .inl (nz_cZ g, 2, .inl (X 11))), ((a 12), .inl (nz_cI g, 188, .inl (X 12))), ((a 13), .inl (nz_cI g, 16, .inl (X 13)))]) F iw_X8_who_8 tyX8 tyX8_ok nmX8 0 rfl rfl 0 (by decide) rfl fl_X8_who_50 rfl rfl (Nat.le_of_ble_eq_true rfl) dX8_who_2 rfl ?_
  refine nz_aload_n F dX8_who_5 rfl 0 rfl ?_
  refine k_X8_isThere (a 0) (a 1) (a 2) (a 3) (a 4) (a 5) (a 6) (a 7) (a 8) (a 9) (a 10) (a 11) (a 12) (a 13) 0 (X 0 1) (X 0 8) (X 0 10) (X 0 11) (X 0 12) (X 0 13) (X 0 14) (X 0 15) (X 0 16) (X 0 17) (X 0 18) (X 0 25) (X 1) (X 2) (X 3) (X 4) (X 5) (X 6) (X 7) (X 8) (X 9) (X 10) (X 11) (X 12) (X 13) (fun hM => nz_runV F gX8_who_X8_isThere rfl hd_X8_isThere rfl hM dX8_who_6 [0, 1, 2, 3, 4, 5, 6, 7, 8, 9, 10, 11, 12, 13] rfl rfl 0 rfl rfl rfl (Nat.le_of_ble_eq_true rfl) rfl) h ([((a 0), .inr (8, [.int 0, .int (X 0 1), .ref (a 1), .ref (a 2), .ref (a 3), .ref (a 4), .ref (a 5), .ref (a 6), .int (X 0 8), .ref (a 7), .int (X 0 10), .int (X 0 11), .int (X 0 12), .int (X 0 13), .int (X 0 14), .int (X 0 15), .int (X 0 16), .int (X 0 17), .int (X 0 18), .ref (a 8), .ref (a 9), .ref (a 10), .ref (a 11), .ref (a 12), .ref (a 13), .int (X 0 25)])), ((a 1), .inl (nz_cI g, 8, .inl (X 1))), ((a 2), .inl (nz_cI g, 8, .inl (X 2))), ((a 3), .inl (nz_cI g, 320, .inl (X 3))), ((a 4), .inl (nz_cI g, 94, .inl (X 4))), ((a 5), .inl (nz_cI g, 94, .inl (X 5))), ((a 6), .inl (nz_cI g, 168, .inl (X 6))), ((a 7), .inl (nz_cI g, 400, .inl (X 7))), ((a 8), .inl (nz_cI g, 6, .inl (X 8))), ((a 9), .inl (nz_cI g, 49, .inl (X 9))), ((a 10), .inl (nz_cI g, 6, .inl (X 10))), ((a 11), .inl (nz_cZ g, 2, .inl (X 11))), ((a 12), .inl (nz_cI g, 188, .inl (X 12))), ((a 13), .inl (nz_cI g, 16, .inl (X 13)))]) (rfl) (fun q1 h => ?_)
  refine nz_if_ne (tgt := 15) F dX8_who_9 (by decide) (fun c2 => ?_) (fun c2 => ?_)
  · have h := h.1 c2
    refine nz_iload_n F dX8_who_15 rfl 1 rfl ?_
    refine nz_i2l (v := ((v1 : Int32).toInt64)) F dX8_who_16 rfl ?_
    refine nz_lconst (v := 0) F dX8_who_17 (by decide) ?_
    refine nz_ldc2 (v := 9) F wd_X8_who_c237 dX8_who_18 ?_
    refine k_X8_in ((v1 : Int32).toInt64) 0 9 (fun hM => nz_runS F gX8_who_X8_in rfl hd_X8_in.2 rfl hM dX8_who_21 [] rfl rfl rfl (Nat.le_of_ble_eq_true rfl) rfl) h ([((a 0), .inr (8, [.int 0, .int (X 0 1), .ref (a 1), .ref (a 2), .ref (a 3), .ref (a 4), .ref (a 5), .ref (a 6), .int (X 0 8), .ref (a 7), .int (X 0 10), .int (X 0 11), .int (X 0 12), .int (X 0 13), .int (X 0 14), .int (X 0 15), .int (X 0 16), .int (X 0 17), .int (X 0 18), .ref (a 8), .ref (a 9), .ref (a 10), .ref (a 11), .ref (a 12), .ref (a 13), .int (X 0 25)])), ((a 1), .inl (nz_cI g, 8, .inl (X 1))), ((a 2), .inl (nz_cI g, 8, .inl (X 2))), ((a 3), .inl (nz_cI g, 320, .inl (X 3))), ((a 4), .inl (nz_cI g, 94, .inl (X 4))), ((a 5), .inl (nz_cI g, 94, .inl (X 5))), ((a 6), .inl (nz_cI g, 168, .inl (X 6))), ((a 7), .inl (nz_cI g, 400, .inl (X 7))), ((a 8), .inl (nz_cI g, 6, .inl (X 8))), ((a 9), .inl (nz_cI g, 49, .inl (X 9))), ((a 10), .inl (nz_cI g, 6, .inl (X 10))), ((a 11), .inl (nz_cZ g, 2, .inl (X 11))), ((a 12), .inl (nz_cI g, 188, .inl (X 12))), ((a 13), .inl (nz_cI g, 16, .inl (X 13)))]) (rfl) (fun q3 h => ?_)
    refine nz_if_eq (tgt := 37) F dX8_who_24 (by decide) (fun c4 => ?_) (fun c4 => ?_)
    · have h := h.1 c4
      refine nz_ldc (v := (-1000001 : Int32)) F wd_X8_who_c70 dX8_who_37 ?_
      exact nz_iret F hQ (va_up X 0 (upd (X 0) 0 0)) h rfl dX8_who_39
    · have h := h.2 c4
      refine nz_iload_n F dX8_who_27 rfl 2 rfl ?_
      refine nz_i2l (v := ((v2 : Int32).toInt64)) F dX8_who_28 rfl ?_
      refine nz_lconst (v := 0) F dX8_who_29 (by decide) ?_
      refine nz_lconst (v := 1) F dX8_who_30 (by decide) ?_
      refine k_X8_in ((v2 : Int32).toInt64) 0 1 (fun hM => nz_runS F gX8_who_X8_in rfl hd_X8_in.2 rfl hM dX8_who_31 [] rfl rfl rfl (Nat.le_of_ble_eq_true rfl) rfl) h ([((a 0), .inr (8, [.int 0, .int (X 0 1), .ref (a 1), .ref (a 2), .ref (a 3), .ref (a 4), .ref (a 5), .ref (a 6), .int (X 0 8), .ref (a 7), .int (X 0 10), .int (X 0 11), .int (X 0 12), .int (X 0 13), .int (X 0 14), .int (X 0 15), .int (X 0 16), .int (X 0 17), .int (X 0 18), .ref (a 8), .ref (a 9), .ref (a 10), .ref (a 11), .ref (a 12), .ref (a 13), .int (X 0 25)])), ((a 1), .inl (nz_cI g, 8, .inl (X 1))), ((a 2), .inl (nz_cI g, 8, .inl (X 2))), ((a 3), .inl (nz_cI g, 320, .inl (X 3))), ((a 4), .inl (nz_cI g, 94, .inl (X 4))), ((a 5), .inl (nz_cI g, 94, .inl (X 5))), ((a 6), .inl (nz_cI g, 168, .inl (X 6))), ((a 7), .inl (nz_cI g, 400, .inl (X 7))), ((a 8), .inl (nz_cI g, 6, .inl (X 8))), ((a 9), .inl (nz_cI g, 49, .inl (X 9))), ((a 10), .inl (nz_cI g, 6, .inl (X 10))), ((a 11), .inl (nz_cZ g, 2, .inl (X 11))), ((a 12), .inl (nz_cI g, 188, .inl (X 12))), ((a 13), .inl (nz_cI g, 16, .inl (X 13)))]) (rfl) (fun q5 h => ?_)
      refine nz_if_ne (tgt := 40) F dX8_who_34 (by decide) (fun c6 => ?_) (fun c6 => ?_)
      · have h := h.1 c6
        refine nz_iconst (v := 0) F dX8_who_40 (by decide) ?_
        refine nz_istore_n (lv' := [(3, .int 0), (0, .ref (a 0)), (1, .int v1), (2, .int v2)]) F dX8_who_41 rfl (by decide) rfl ?_
        refine nz_ldc (v := (-1000000 : Int32)) F wd_X8_who_c86 dX8_who_42 ?_
        refine nz_istore (lv' := [(4, .int (-1000000 : Int32)), (3, .int 0), (0, .ref (a 0)), (1, .int v1), (2, .int v2)]) F dX8_who_44 (by decide) rfl ?_
        refine nz_iconst (v := 1) F dX8_who_46 (by decide) ?_
        refine nz_aload_n F dX8_who_47 rfl 2 rfl ?_
        refine nz_get F iw_X8_who_8 0 rfl rfl 5 (by decide) rfl fl_X8_who_19 rfl dX8_who_48 ?_
        refine nz_iconst (v := 5) F dX8_who_51 (by decide) ?_
        refine nz_iald F 4 rfl (nz_inC rfl) dX8_who_52 ?_
        refine nz_vi (z := ((X 4) 5)) rfl ?_
        refine nz_ishl F dX8_who_53 ?_
        refine nz_iconst (v := 1) F dX8_who_54 (by decide) ?_
        refine nz_isub F dX8_who_55 ?_
        refine nz_istore (lv' := [(5, .int ((1 <<< (((X 4) 5) &&& 31)) - 1)), (4, .int (-1000000 : Int32)), (3, .int 0), (0, .ref (a 0)), (1, .int v1), (2, .int v2)]) F dX8_who_56 (by decide) rfl ?_
        refine nz_ls (lv' := [(0, .ref (a 0)), (1, .int v1), (2, .int v2), (3, .int 0), (4, .int (-1000000 : Int32)), (5, .int ((1 <<< (((X 4) 5) &&& 31)) - 1))]) [3, 4, 5, 2, 1, 0] rfl ?_
        obtain ⟨n1, h⟩ := h
        exact t_X8_who_58 F a X v1 v2 0 hQ n1 0 (-1000000 : Int32) ((1 <<< (((X 4) 5) &&& 31)) - 1) (X 8) h
      · have h := h.2 c6
        refine nz_ldc (v := (-1000001 : Int32)) F wd_X8_who_c70 dX8_who_37 ?_
        exact nz_iret F hQ (va_up X 0 (upd (X 0) 0 0)) h rfl dX8_who_39
  · have h := h.2 c2
    refine nz_ldc (v := (-1000002 : Int32)) F wd_X8_who_c196 dX8_who_12 ?_
    exact nz_iret F hQ (va_up X 0 (upd (X 0) 0 0)) h rfl dX8_who_14
theorem k_X8_who {y : nz_Y} {g : nz_G} {k n : Nat} {ws : va_W} {pc : Nat} {ls : List (Nat × Value)} {st rest : List Value} {av : Array Value} {isC : List Nat} {K : Int32 → (Nat → Nat → Int32) → Prop} (a : Nat → Nat) (X : Nat → Nat → Int32) (v1 : Int32) (v2 : Int32) (run : nz_M (yz_l y) yX8_who wsX8_who rm_X8_who g [.ref (a 0), .int v1, .int v2] (nz_wM g a X) (nz_Qi g (nz_wM g a X) (fun r (u : Nat → Nat → Int32) => K r u) (fun u => nz_wM g a u)) → nz_C y g k n ws pc ls st rest (nz_wM g a X) (nz_Qi g (nz_wM g a X) (fun r (u : Nat → Nat → Int32) => K r u) (fun u => nz_wM g a u)) av isC) (h : wp_X8_who X v1 v2 K) (ws' : (Nat → Nat → Int32) → va_W) (hm : ∀ (m0 : (Nat → Nat → Int32)), nz_mrg ws isC (nz_wM g a m0) = ws' m0) (kk : ∀ (r : Int32) (m0 : (Nat → Nat → Int32)), K r m0 → nz_V y g k n (ws' m0) (pc + 3) ls (.int r :: rest)) : nz_V y g k n ws pc ls st :=
  nz_ci (ws' := fun u => ws' u) (run (c_X8_who (yz_l y) g a X v1 v2 K h)) (fun _ => rfl) (fun u => hm u) (fun r u h => kk r u h)
theorem dX8_dare_0 : decode cX8_dare 0 = .ok (.aload_n 0, 1) := by decide +kernel
theorem dX8_dare_1 : decode cX8_dare 1 = .ok (.iconst 0, 1) := by decide +kernel
theorem dX8_dare_2 : decode cX8_dare 2 = .ok (.putfield 50, 3) := by decide +kernel
theorem dX8_dare_5 : decode cX8_dare 5 = .ok (.aload_n 0, 1) := by decide +kernel
theorem dX8_dare_6 : decode cX8_dare 6 = .ok (.invokevirtual 192, 3) := by decide +kernel
theorem dX8_dare_9 : decode cX8_dare 9 = .ok (.ifCond .ne 6, 3) := by decide +kernel
theorem dX8_dare_12 : decode cX8_dare 12 = .ok (.ldc 196, 2) := by decide +kernel
theorem dX8_dare_14 : decode cX8_dare 14 = .ok (.ireturn, 1) := by decide +kernel
theorem dX8_dare_15 : decode cX8_dare 15 = .ok (.iload_n 1, 1) := by decide +kernel
theorem dX8_dare_16 : decode cX8_dare 16 = .ok (.i2l, 1) := by decide +kernel
theorem dX8_dare_17 : decode cX8_dare 17 = .ok (.lconst 0, 1) := by decide +kernel
theorem dX8_dare_18 : decode cX8_dare 18 = .ok (.ldc2_w 247, 3) := by decide +kernel
theorem dX8_dare_21 : decode cX8_dare 21 = .ok (.invokestatic 60, 3) := by decide +kernel
theorem dX8_dare_24 : decode cX8_dare 24 = .ok (.ifCond .eq 13, 3) := by decide +kernel
theorem dX8_dare_27 : decode cX8_dare 27 = .ok (.iload_n 2, 1) := by decide +kernel
theorem dX8_dare_28 : decode cX8_dare 28 = .ok (.i2l, 1) := by decide +kernel
theorem dX8_dare_29 : decode cX8_dare 29 = .ok (.lconst 0, 1) := by decide +kernel
theorem dX8_dare_30 : decode cX8_dare 30 = .ok (.lconst 1, 1) := by decide +kernel
theorem dX8_dare_31 : decode cX8_dare 31 = .ok (.invokestatic 60, 3) := by decide +kernel
theorem dX8_dare_34 : decode cX8_dare 34 = .ok (.ifCond .ne 6, 3) := by decide +kernel
theorem dX8_dare_37 : decode cX8_dare 37 = .ok (.ldc 70, 2) := by decide +kernel
theorem dX8_dare_39 : decode cX8_dare 39 = .ok (.ireturn, 1) := by decide +kernel
theorem dX8_dare_40 : decode cX8_dare 40 = .ok (.aload_n 0, 1) := by decide +kernel
theorem dX8_dare_41 : decode cX8_dare 41 = .ok (.iload_n 1, 1) := by decide +kernel
theorem dX8_dare_42 : decode cX8_dare 42 = .ok (.aload_n 0, 1) := by decide +kernel
theorem dX8_dare_43 : decode cX8_dare 43 = .ok (.getfield 19, 3) := by decide +kernel
theorem dX8_dare_46 : decode cX8_dare 46 = .ok (.iconst 1, 1) := by decide +kernel
theorem dX8_dare_47 : decode cX8_dare 47 = .ok (.iaload, 1) := by decide +kernel
theorem dX8_dare_48 : decode cX8_dare 48 = .ok (.invokevirtual 249, 3) := by decide +kernel
theorem dX8_dare_51 : decode cX8_dare 51 = .ok (.istore_n 3, 1) := by decide +kernel
theorem dX8_dare_52 : decode cX8_dare 52 = .ok (.iload_n 3, 1) := by decide +kernel
theorem dX8_dare_53 : decode cX8_dare 53 = .ok (.ifCond .ge 8, 3) := by decide +kernel
theorem dX8_dare_56 : decode cX8_dare 56 = .ok (.iload_n 3, 1) := by decide +kernel
theorem dX8_dare_57 : decode cX8_dare 57 = .ok (.ineg, 1) := by decide +kernel
theorem dX8_dare_58 : decode cX8_dare 58 = .ok (.goto 4, 3) := by decide +kernel
theorem dX8_dare_61 : decode cX8_dare 61 = .ok (.iload_n 3, 1) := by decide +kernel
theorem dX8_dare_62 : decode cX8_dare 62 = .ok (.istore 4, 2) := by decide +kernel
theorem dX8_dare_64 : decode cX8_dare 64 = .ok (.ldc 246, 2) := by decide +kernel
theorem dX8_dare_66 : decode cX8_dare 66 = .ok (.istore 5, 2) := by decide +kernel
theorem dX8_dare_68 : decode cX8_dare 68 = .ok (.iload 5, 2) := by decide +kernel
theorem dX8_dare_70 : decode cX8_dare 70 = .ok (.ifCond .eq 21, 3) := by decide +kernel
theorem dX8_dare_73 : decode cX8_dare 73 = .ok (.iload 4, 2) := by decide +kernel
theorem dX8_dare_75 : decode cX8_dare 75 = .ok (.iload 5, 2) := by decide +kernel
theorem dX8_dare_77 : decode cX8_dare 77 = .ok (.irem, 1) := by decide +kernel
theorem dX8_dare_78 : decode cX8_dare 78 = .ok (.istore 6, 2) := by decide +kernel
theorem dX8_dare_80 : decode cX8_dare 80 = .ok (.iload 5, 2) := by decide +kernel
theorem dX8_dare_82 : decode cX8_dare 82 = .ok (.istore 4, 2) := by decide +kernel
theorem dX8_dare_84 : decode cX8_dare 84 = .ok (.iload 6, 2) := by decide +kernel
theorem dX8_dare_86 : decode cX8_dare 86 = .ok (.istore 5, 2) := by decide +kernel
theorem dX8_dare_88 : decode cX8_dare 88 = .ok (.goto (-20), 3) := by decide +kernel
theorem dX8_dare_91 : decode cX8_dare 91 = .ok (.iload_n 2, 1) := by decide +kernel
theorem dX8_dare_92 : decode cX8_dare 92 = .ok (.ifCond .ne 7, 3) := by decide +kernel
theorem dX8_dare_95 : decode cX8_dare 95 = .ok (.iload_n 3, 1) := by decide +kernel
theorem dX8_dare_96 : decode cX8_dare 96 = .ok (.goto 5, 3) := by decide +kernel
theorem dX8_dare_99 : decode cX8_dare 99 = .ok (.ldc 246, 2) := by decide +kernel
theorem dX8_dare_101 : decode cX8_dare 101 = .ok (.iload 4, 2) := by decide +kernel
theorem dX8_dare_103 : decode cX8_dare 103 = .ok (.idiv, 1) := by decide +kernel
theorem dX8_dare_104 : decode cX8_dare 104 = .ok (.ireturn, 1) := by decide +kernel
set_option maxRecDepth 20000 in
theorem ggX8_dare_X8_brings : GoodIn wsX8_dare wsX8_brings := goodIn_r _ [18, 5, 6, 19, 20, 10, 21, 22, 23, 24, 25, 26, 27, 28, 29, 30, 31, 32, 33, 34, 35, 36, 37, 38, 39, 40, 41, 42, 43, 44, 45, 46, 47] rfl (by decide +kernel)
set_option maxRecDepth 20000 in
theorem gX8_dare_X8_brings : GoodIn wsX8_dare (wsV RX8 249 RX8 yX8_brings wsX8_brings) := goodIn_app (goodIn_r _ [15, 16, 17, 10] rfl (by decide +kernel)) ggX8_dare_X8_brings
set_option maxRecDepth 20000 in
theorem ggX8_dare_X8_in : GoodIn wsX8_dare wsX8_in := goodIn_r _ [14] rfl (by decide +kernel)
set_option maxRecDepth 20000 in
theorem gX8_dare_X8_in : GoodIn wsX8_dare (va_wsS RX8 60 yX8_in wsX8_in) := goodIn_app (goodIn_r _ [12, 13, 10] rfl (by decide +kernel)) ggX8_dare_X8_in
set_option maxRecDepth 20000 in
theorem ggX8_dare_X8_isThere : GoodIn wsX8_dare wsX8_isThere := goodIn_r _ [11, 5, 22, 23, 24, 25, 26, 27, 28, 29, 30, 31, 32, 33, 34, 35, 36, 37, 38, 39, 40, 41, 42, 43, 44, 45, 46, 47] rfl (by decide +kernel)
set_option maxRecDepth 20000 in
theorem gX8_dare_X8_isThere : GoodIn wsX8_dare (wsV RX8 192 RX8 yX8_isThere wsX8_isThere) := goodIn_app (goodIn_r _ [7, 8, 9, 10] rfl (by decide +kernel)) ggX8_dare_X8_isThere
/-! X8_dare -/
abbrev rm_X8_dare : Room := { frames := 2, cells := 0, slots := 0, locals := 46 }
theorem iw_X8_dare_8 : ∀ w ∈ wsX80, w ∈ wsX8_dare := fun _ h => List.mem_cons_of_mem _ (List.mem_append_right _ h)
theorem fl_X8_dare_50 : Cond.fieldLink RX8 50 "NightStonesModel" "thrown" "I" ∈ wsX8_dare := List.mem_of_getElem? (i := 1) rfl
theorem wd_X8_dare_c247 : Cond.constantLong RX8 247 (3) ∈ wsX8_dare := List.mem_of_getElem? (i := 3) rfl
theorem wd_X8_dare_c70 : Cond.constant RX8 70 (-1000001) ∈ wsX8_dare := List.mem_of_getElem? (i := 4) rfl
theorem fl_X8_dare_19 : Cond.fieldLink RX8 19 "NightStonesModel" "road" "[I" ∈ wsX8_dare := List.mem_of_getElem? (i := 5) rfl
theorem wd_X8_dare_c246 : Cond.constant RX8 246 (1000000) ∈ wsX8_dare := List.mem_of_getElem? (i := 6) rfl
theorem wd_X8_dare_c196 : Cond.constant RX8 196 (-1000002) ∈ wsX8_dare := List.mem_of_getElem? (i := 2) rfl
def S_X8_dare_68 (X : Nat → Nat → Int32) (v2 : Int32) (x3 : Int32) (c0_0 : Int32) (K : Int32 → (Nat → Nat → Int32) → Prop) (R68 : Int32 → Int32 → Prop) (x4 : Int32) (x5 : Int32) : Prop := ((x5 = 0 → ((¬ v2 = 0 → (¬ x4 = 0 ∧ K (1000000 / x4) (va_up X 0 (upd (X 0) 0 c0_0)))) ∧ (v2 = 0 → (¬ x4 = 0 ∧ K (x3 / x4) (va_up X 0 (upd (X 0) 0 c0_0)))))) ∧ (¬ (x5 = 0) → (¬ x5 = 0 ∧ R68 x5 (x4 - x4 / x5 * x5))))
set_option maxHeartbeats 4000000 in
set_option maxRecDepth 100000 in
theorem t_X8_dare_68 {y : nz_Y} {g : nz_G} (F : nz_F y g cX8_dare 7 wsX8_dare RX8 (some .int) rm_X8_dare) {wc0 : va_W} {sz : Nat} {K : Int32 → (Nat → Nat → Int32) → Prop} (a : Nat → Nat) (X : Nat → Nat → Int32) (v1 : Int32) (v2 : Int32) (x3 : Int32) (c0_0 : Int32) (hQ : yz_A y = va_A wc0 sz ∧ yz_Q y = MQ (yz_b y) ((nz_Qi g wc0 (fun r (u : Nat → Nat → Int32) => K r u) (fun u => nz_wM g a u)) sz) (yz_a y) (yz_s y) 0 0 (va_A wc0 sz)) : ∀ (n1 : Nat) (x4 : Int32) (x5 : Int32), nz_it (fun _ _ => False) (S_X8_dare_68 X v2 x3 c0_0 K) n1 x4 x5 → nz_V y g 0 0 [((a 0), .inr (8, [.int c0_0, .int (X 0 1), .ref (a 1), .ref (a 2), .ref (a 3), .ref (a 4), .ref (a 5), .ref (a 6), .int (X 0 8), .ref (a 7), .int (X 0 10), .int (X 0 11), .int (X 0 12), .int (X 0 13), .int (X 0 14), .int (X 0 15), .int (X 0 16), .int (X 0 17), .int (X 0 18), .ref (a 8), .ref (a 9), .ref (a 10), .ref (a 11), .ref (a 12), .ref (a 13), .int (X 0 25)])), ((a 1), .inl (nz_cI g, 8, .inl (X 1))), ((a 2), .inl (nz_cI g, 8, .inl (X 2))), ((a 3), .inl (nz_cI g, 320, .inl (X 3))), ((a 4), .inl (nz_cI g, 94, .inl (X 4))), ((a 5), .inl (nz_cI g, 94, .inl (X 5))), ((a 6), .inl (nz_cI g, 168, .inl (X 6))), ((a 7), .inl (nz_cI g, 400, .inl (X 7))), ((a 8), .inl (nz_cI g, 6, .inl (X 8))), ((a 9), .inl (nz_cI g, 49, .inl (X 9))), ((a 10), .inl (nz_cI g, 6, .inl (X 10))), ((a 11), .inl (nz_cZ g, 2, .inl (X 11))), ((a 12), .inl (nz_cI g, 188, .inl (X 12))), ((a 13), .inl (nz_cI g, 16, .inl (X 13)))] 68 [(2, .int v2), (3, .int x3), (4, .int x4), (5, .int x5)] [] := by
  intro n1
  induction n1 with
  | zero =>
    intro x4 x5 h
    exact h.elim
  | succ n1 hR68 =>
    intro x4 x5 h
    have h : S_X8_dare_68 X v2 x3 c0_0 K (nz_it (fun _ _ => False) (S_X8_dare_68 X v2 x3 c0_0 K) n1) x4 x5 := h
    unfold S_X8_dare_68 at h
    refine nz_iload F dX8_dare_68 3 rfl ?_
    refine nz_if_eq (tgt := 91) F dX8_dare_70 (by decide) (fun c9 => ?_) (fun c9 => ?_)
    · have h := h.1 c9
      refine nz_iload_n F dX8_dare_91 rfl 0 rfl ?_
      refine nz_if_ne (tgt := 99) F dX8_dare_92 (by decide) (fun c10 => ?_) (fun c10 => ?_)
      · have h := h.1 c10
        refine nz_ldc (v := 1000000) F wd_X8_dare_c246 dX8_dare_99 ?_
        refine nz_iload F dX8_dare_101 2 rfl ?_
        obtain ⟨c11, h⟩ := h
        refine nz_idiv F dX8_dare_103 c11 ?_
        exact nz_iret F hQ (va_up X 0 (upd (X 0) 0 c0_0)) h rfl dX8_dare_104
      · have h := h.2 c10
        refine nz_iload_n F dX8_dare_95 rfl 1 rfl ?_
        refine nz_goto (tgt := 101) F dX8_dare_96 (by decide) ?_
        refine nz_iload F dX8_dare_101 2 rfl ?_
        obtain ⟨c12, h⟩ := h
        refine nz_idiv F dX8_dare_103 c12 ?_
        exact nz_iret F hQ (va_up X 0 (upd (X 0) 0 c0_0)) h rfl dX8_dare_104
    · have h := h.2 c9
      refine nz_iload F dX8_dare_73 2 rfl ?_
      refine nz_iload F dX8_dare_75 3 rfl ?_
      obtain ⟨c13, h⟩ := h
      refine nz_irem F dX8_dare_77 c13 ?_
      refine nz_istore (lv' := [(6, .int (x4 - x4 / x5 * x5)), (2, .int v2), (3, .int x3), (4, .int x4), (5, .int x5)]) F dX8_dare_78 (by decide) rfl ?_
      refine nz_iload F dX8_dare_80 4 rfl ?_
      refine nz_istore (lv' := [(4, .int x5), (6, .int (x4 - x4 / x5 * x5)), (2, .int v2), (3, .int x3), (5, .int x5)]) F dX8_dare_82 (by decide) rfl ?_
      refine nz_iload F dX8_dare_84 1 rfl ?_
      refine nz_istore (lv' := [(5, .int (x4 - x4 / x5 * x5)), (4, .int x5), (6, .int (x4 - x4 / x5 * x5)), (2, .int v2), (3, .int x3)]) F dX8_dare_86 (by decide) rfl ?_
      refine nz_goto (tgt := 68) F dX8_dare_88 (by decide) ?_
      refine nz_ls (lv' := [(2, .int v2), (3, .int x3), (4, .int x5), (5, .int (x4 - x4 / x5 * x5))]) [3, 4, 1, 0] rfl ?_
      exact hR68 x5 (x4 - x4 / x5 * x5) h
def wp_X8_dare (X : Nat → Nat → Int32) (v1 : Int32) (v2 : Int32) (K : Int32 → (Nat → Nat → Int32) → Prop) : Prop := wp_X8_isThere (X 4) (fun q1 => ((¬ q1 = 0 → wp_X8_in ((v1 : Int32).toInt64) 0 3 (fun q3 => ((q3 = 0 → K (-1000001 : Int32) (va_up X 0 (upd (X 0) 0 0))) ∧ (¬ (q3 = 0) → wp_X8_in ((v2 : Int32).toInt64) 0 1 (fun q5 => ((¬ q5 = 0 → wp_X8_brings (X 4) v1 ((X 4) 1) (fun q7 => ((0 ≤ q7 → (∃ n, nz_it (fun _ _ => False) (S_X8_dare_68 X v2 q7 0 K) n q7 1000000)) ∧ (¬ (0 ≤ q7) → (∃ n, nz_it (fun _ _ => False) (S_X8_dare_68 X v2 q7 0 K) n (-q7) 1000000))))) ∧ (q5 = 0 → K (-1000001 : Int32) (va_up X 0 (upd (X 0) 0 0))))))))) ∧ (q1 = 0 → K (-1000002 : Int32) (va_up X 0 (upd (X 0) 0 0)))))
set_option maxHeartbeats 4000000 in
set_option maxRecDepth 100000 in
theorem c_X8_dare (l : Launch) (g : nz_G) (a : Nat → Nat) (X : Nat → Nat → Int32) (v1 : Int32) (v2 : Int32) (K : Int32 → (Nat → Nat → Int32) → Prop) (h : wp_X8_dare X v1 v2 K) : nz_M l yX8_dare wsX8_dare rm_X8_dare g [.ref (a 0), .int v1, .int v2] (nz_wM g a X) (nz_Qi g (nz_wM g a X) (fun r (u : Nat → Nat → Int32) => K r u) (fun u => nz_wM g a u)) := by
  refine nz_M.of (bytes := cX8_dare) (nL := 7) (ret := (some .int)) (own := RX8) (by decide) rfl rfl ⟨rfl, rfl⟩ rfl ?_
  intro y F hl hQ
  obtain ⟨sz, hQ⟩ := hQ
  refine nz_ent (lv' := [(0, .ref (a 0)), (1, .int v1), (2, .int v2)]) rfl ?_
  unfold wp_X8_dare at h
  refine nz_aload_n F dX8_dare_0 rfl 0 rfl ?_
  refine nz_iconst (v := 0) F dX8_dare_1 (by decide) ?_
  refine nz_put (ws' := [((a 0), .inr (8, [.int 0, .int (X 0 1), .ref (a 1), .ref (a 2), .ref (a 3), .ref (a 4), .ref (a 5), .ref (a 6), .int (X 0 8), .ref (a 7), .int (X 0 10), .int (X 0 11), .int (X 0 12), .int (X 0 13), .int (X 0 14), .int (X 0 15), .int (X 0 16), .int (X 0 17), .int (X 0 18), .ref (a 8), .ref (a 9), .ref (a 10), .ref (a 11), .ref (a 12), .ref (a 13), .int (X 0 25)])), ((a 1), .inl (nz_cI g, 8, .inl (X 1))), ((a 2), .inl (nz_cI g, 8, .inl (X 2))), ((a 3), .inl (nz_cI g, 320, .inl (X 3))), ((a 4), .inl (nz_cI g, 94, .inl (X 4))), ((a 5), .inl (nz_cI g, 94, .inl (X 5))), ((a 6), .inl (nz_cI g, 168, .inl (X 6))), ((a 7), .inl (nz_cI g, 400, .inl (X 7))), ((a 8), .inl (nz_cI g, 6, .inl (X 8))), ((a 9), .inl (nz_cI g, 49, .inl (X 9))), ((a 10), .inl (nz_cI g, 6, .inl (X 10))), ((a 11), .inl (nz_cZ g, 2, .inl (X 11))), ((a 12), .inl (nz_cI g, 188, .inl (X 12))), ((a 13), .inl (nz_cI g, 16, .inl (X 13)))]) F iw_X8_dare_8 tyX8 tyX8_ok nmX8 0 rfl rfl 0 (by decide) rfl fl_X8_dare_50 rfl rfl (Nat.le_of_ble_eq_true rfl) dX8_dare_2 rfl ?_
  refine nz_aload_n F dX8_dare_5 rfl 0 rfl ?_
  refine k_X8_isThere (a 0) (a 1) (a 2) (a 3) (a 4) (a 5) (a 6) (a 7) (a 8) (a 9) (a 10) (a 11) (a 12) (a 13) 0 (X 0 1) (X 0 8) (X 0 10) (X 0 11) (X 0 12) (X 0 13) (X 0 14) (X 0 15) (X 0 16) (X 0 17) (X 0 18) (X 0 25) (X 1) (X 2) (X 3) (X 4) (X 5) (X 6) (X 7) (X 8) (X 9) (X 10) (X 11) (X 12) (X 13) (fun hM => nz_runV F gX8_dare_X8_isThere rfl hd_X8_isThere rfl hM dX8_dare_6 [0, 1, 2, 3, 4, 5, 6, 7, 8, 9, 10, 11, 12, 13] rfl rfl 0 rfl rfl rfl (Nat.le_of_ble_eq_true rfl) rfl) h ([((a 0), .inr (8, [.int 0, .int (X 0 1), .ref (a 1), .ref (a 2), .ref (a 3), .ref (a 4), .ref (a 5), .ref (a 6), .int (X 0 8), .ref (a 7), .int (X 0 10), .int (X 0 11), .int (X 0 12), .int (X 0 13), .int (X 0 14), .int (X 0 15), .int (X 0 16), .int (X 0 17), .int (X 0 18), .ref (a 8), .ref (a 9), .ref (a 10), .ref (a 11), .ref (a 12), .ref (a 13), .int (X 0 25)])), ((a 1), .inl (nz_cI g, 8, .inl (X 1))), ((a 2), .inl (nz_cI g, 8, .inl (X 2))), ((a 3), .inl (nz_cI g, 320, .inl (X 3))), ((a 4), .inl (nz_cI g, 94, .inl (X 4))), ((a 5), .inl (nz_cI g, 94, .inl (X 5))), ((a 6), .inl (nz_cI g, 168, .inl (X 6))), ((a 7), .inl (nz_cI g, 400, .inl (X 7))), ((a 8), .inl (nz_cI g, 6, .inl (X 8))), ((a 9), .inl (nz_cI g, 49, .inl (X 9))), ((a 10), .inl (nz_cI g, 6, .inl (X 10))), ((a 11), .inl (nz_cZ g, 2, .inl (X 11))), ((a 12), .inl (nz_cI g, 188, .inl (X 12))), ((a 13), .inl (nz_cI g, 16, .inl (X 13)))]) (rfl) (fun q1 h => ?_)
  refine nz_if_ne (tgt := 15) F dX8_dare_9 (by decide) (fun c2 => ?_) (fun c2 => ?_)
  · have h := h.1 c2
    refine nz_iload_n F dX8_dare_15 rfl 1 rfl ?_
    refine nz_i2l (v := ((v1 : Int32).toInt64)) F dX8_dare_16 rfl ?_
    refine nz_lconst (v := 0) F dX8_dare_17 (by decide) ?_
    refine nz_ldc2 (v := 3) F wd_X8_dare_c247 dX8_dare_18 ?_
    refine k_X8_in ((v1 : Int32).toInt64) 0 3 (fun hM => nz_runS F gX8_dare_X8_in rfl hd_X8_in.2 rfl hM dX8_dare_21 [] rfl rfl rfl (Nat.le_of_ble_eq_true rfl) rfl) h ([((a 0), .inr (8, [.int 0, .int (X 0 1), .ref (a 1), .ref (a 2), .ref (a 3), .ref (a 4), .ref (a 5), .ref (a 6), .int (X 0 8), .ref (a 7), .int (X 0 10), .int (X 0 11), .int (X 0 12), .int (X 0 13), .int (X 0 14), .int (X 0 15), .int (X 0 16), .int (X 0 17), .int (X 0 18), .ref (a 8), .ref (a 9), .ref (a 10), .ref (a 11), .ref (a 12), .ref (a 13), .int (X 0 25)])), ((a 1), .inl (nz_cI g, 8, .inl (X 1))), ((a 2), .inl (nz_cI g, 8, .inl (X 2))), ((a 3), .inl (nz_cI g, 320, .inl (X 3))), ((a 4), .inl (nz_cI g, 94, .inl (X 4))), ((a 5), .inl (nz_cI g, 94, .inl (X 5))), ((a 6), .inl (nz_cI g, 168, .inl (X 6))), ((a 7), .inl (nz_cI g, 400, .inl (X 7))), ((a 8), .inl (nz_cI g, 6, .inl (X 8))), ((a 9), .inl (nz_cI g, 49, .inl (X 9))), ((a 10), .inl (nz_cI g, 6, .inl (X 10))), ((a 11), .inl (nz_cZ g, 2, .inl (X 11))), ((a 12), .inl (nz_cI g, 188, .inl (X 12))), ((a 13), .inl (nz_cI g, 16, .inl (X 13)))]) (rfl) (fun q3 h => ?_)
    refine nz_if_eq (tgt := 37) F dX8_dare_24 (by decide) (fun c4 => ?_) (fun c4 => ?_)
    · have h := h.1 c4
      refine nz_ldc (v := (-1000001 : Int32)) F wd_X8_dare_c70 dX8_dare_37 ?_
      exact nz_iret F hQ (va_up X 0 (upd (X 0) 0 0)) h rfl dX8_dare_39
    · have h := h.2 c4
      refine nz_iload_n F dX8_dare_27 rfl 2 rfl ?_
      refine nz_i2l (v := ((v2 : Int32).toInt64)) F dX8_dare_28 rfl ?_
      refine nz_lconst (v := 0) F dX8_dare_29 (by decide) ?_
      refine nz_lconst (v := 1) F dX8_dare_30 (by decide) ?_
      refine k_X8_in ((v2 : Int32).toInt64) 0 1 (fun hM => nz_runS F gX8_dare_X8_in rfl hd_X8_in.2 rfl hM dX8_dare_31 [] rfl rfl rfl (Nat.le_of_ble_eq_true rfl) rfl) h ([((a 0), .inr (8, [.int 0, .int (X 0 1), .ref (a 1), .ref (a 2), .ref (a 3), .ref (a 4), .ref (a 5), .ref (a 6), .int (X 0 8), .ref (a 7), .int (X 0 10), .int (X 0 11), .int (X 0 12), .int (X 0 13), .int (X 0 14), .int (X 0 15), .int (X 0 16), .int (X 0 17), .int (X 0 18), .ref (a 8), .ref (a 9), .ref (a 10), .ref (a 11), .ref (a 12), .ref (a 13), .int (X 0 25)])), ((a 1), .inl (nz_cI g, 8, .inl (X 1))), ((a 2), .inl (nz_cI g, 8, .inl (X 2))), ((a 3), .inl (nz_cI g, 320, .inl (X 3))), ((a 4), .inl (nz_cI g, 94, .inl (X 4))), ((a 5), .inl (nz_cI g, 94, .inl (X 5))), ((a 6), .inl (nz_cI g, 168, .inl (X 6))), ((a 7), .inl (nz_cI g, 400, .inl (X 7))), ((a 8), .inl (nz_cI g, 6, .inl (X 8))), ((a 9), .inl (nz_cI g, 49, .inl (X 9))), ((a 10), .inl (nz_cI g, 6, .inl (X 10))), ((a 11), .inl (nz_cZ g, 2, .inl (X 11))), ((a 12), .inl (nz_cI g, 188, .inl (X 12))), ((a 13), .inl (nz_cI g, 16, .inl (X 13)))]) (rfl) (fun q5 h => ?_)
      refine nz_if_ne (tgt := 40) F dX8_dare_34 (by decide) (fun c6 => ?_) (fun c6 => ?_)
      · have h := h.1 c6
        refine nz_aload_n F dX8_dare_40 rfl 0 rfl ?_
        refine nz_iload_n F dX8_dare_41 rfl 1 rfl ?_
        refine nz_aload_n F dX8_dare_42 rfl 0 rfl ?_
        refine nz_get F iw_X8_dare_8 0 rfl rfl 5 (by decide) rfl fl_X8_dare_19 rfl dX8_dare_43 ?_
        refine nz_iconst (v := 1) F dX8_dare_46 (by decide) ?_
        refine nz_iald F 4 rfl (nz_inC rfl) dX8_dare_47 ?_
        refine nz_vi (z := ((X 4) 1)) rfl ?_
        refine k_X8_brings (a 0) (a 1) (a 2) (a 3) (a 4) (a 5) (a 6) (a 7) (a 8) (a 9) (a 10) (a 11) (a 12) (a 13) 0 (X 0 1) (X 0 8) (X 0 10) (X 0 11) (X 0 12) (X 0 13) (X 0 14) (X 0 15) (X 0 16) (X 0 17) (X 0 18) (X 0 25) (X 1) (X 2) (X 3) (X 4) (X 5) (X 6) (X 7) (X 8) (X 9) (X 10) (X 11) (X 12) (X 13) v1 ((X 4) 1) (fun hM => nz_runV F gX8_dare_X8_brings rfl hd_X8_brings rfl hM dX8_dare_48 [0, 1, 2, 3, 4, 5, 6, 7, 8, 9, 10, 11, 12, 13] rfl rfl 0 rfl rfl rfl (Nat.le_of_ble_eq_true rfl) rfl) h ([((a 0), .inr (8, [.int 0, .int (X 0 1), .ref (a 1), .ref (a 2), .ref (a 3), .ref (a 4), .ref (a 5), .ref (a 6), .int (X 0 8), .ref (a 7), .int (X 0 10), .int (X 0 11), .int (X 0 12), .int (X 0 13), .int (X 0 14), .int (X 0 15), .int (X 0 16), .int (X 0 17), .int (X 0 18), .ref (a 8), .ref (a 9), .ref (a 10), .ref (a 11), .ref (a 12), .ref (a 13), .int (X 0 25)])), ((a 1), .inl (nz_cI g, 8, .inl (X 1))), ((a 2), .inl (nz_cI g, 8, .inl (X 2))), ((a 3), .inl (nz_cI g, 320, .inl (X 3))), ((a 4), .inl (nz_cI g, 94, .inl (X 4))), ((a 5), .inl (nz_cI g, 94, .inl (X 5))), ((a 6), .inl (nz_cI g, 168, .inl (X 6))), ((a 7), .inl (nz_cI g, 400, .inl (X 7))), ((a 8), .inl (nz_cI g, 6, .inl (X 8))), ((a 9), .inl (nz_cI g, 49, .inl (X 9))), ((a 10), .inl (nz_cI g, 6, .inl (X 10))), ((a 11), .inl (nz_cZ g, 2, .inl (X 11))), ((a 12), .inl (nz_cI g, 188, .inl (X 12))), ((a 13), .inl (nz_cI g, 16, .inl (X 13)))]) (rfl) (fun q7 h => ?_)
        refine nz_istore_n (lv' := [(3, .int q7), (0, .ref (a 0)), (1, .int v1), (2, .int v2)]) F dX8_dare_51 rfl (by decide) rfl ?_
        refine nz_iload_n F dX8_dare_52 rfl 0 rfl ?_
        refine nz_if_ge (tgt := 61) F dX8_dare_53 (by decide) (fun c8 => ?_) (fun c8 => ?_)
        · have h := h.1 c8
          refine nz_iload_n F dX8_dare_61 rfl 0 rfl ?_
          refine nz_istore (lv' := [(4, .int q7), (3, .int q7), (0, .ref (a 0)), (1, .int v1), (2, .int v2)]) F dX8_dare_62 (by decide) rfl ?_
          refine nz_ldc (v := 1000000) F wd_X8_dare_c246 dX8_dare_64 ?_
          refine nz_istore (lv' := [(5, .int 1000000), (4, .int q7), (3, .int q7), (0, .ref (a 0)), (1, .int v1), (2, .int v2)]) F dX8_dare_66 (by decide) rfl ?_
          refine nz_ls (lv' := [(2, .int v2), (3, .int q7), (4, .int q7), (5, .int 1000000)]) [5, 2, 1, 0] rfl ?_
          obtain ⟨n1, h⟩ := h
          exact t_X8_dare_68 F a X v1 v2 q7 0 hQ n1 q7 1000000 h
        · have h := h.2 c8
          refine nz_iload_n F dX8_dare_56 rfl 0 rfl ?_
          refine nz_ineg F dX8_dare_57 ?_
          refine nz_goto (tgt := 62) F dX8_dare_58 (by decide) ?_
          refine nz_istore (lv' := [(4, .int (-q7)), (3, .int q7), (0, .ref (a 0)), (1, .int v1), (2, .int v2)]) F dX8_dare_62 (by decide) rfl ?_
          refine nz_ldc (v := 1000000) F wd_X8_dare_c246 dX8_dare_64 ?_
          refine nz_istore (lv' := [(5, .int 1000000), (4, .int (-q7)), (3, .int q7), (0, .ref (a 0)), (1, .int v1), (2, .int v2)]) F dX8_dare_66 (by decide) rfl ?_
          refine nz_ls (lv' := [(2, .int v2), (3, .int q7), (4, .int (-q7)), (5, .int 1000000)]) [5, 2, 1, 0] rfl ?_
          obtain ⟨n1, h⟩ := h
          exact t_X8_dare_68 F a X v1 v2 q7 0 hQ n1 (-q7) 1000000 h
      · have h := h.2 c6
        refine nz_ldc (v := (-1000001 : Int32)) F wd_X8_dare_c70 dX8_dare_37 ?_
        exact nz_iret F hQ (va_up X 0 (upd (X 0) 0 0)) h rfl dX8_dare_39
  · have h := h.2 c2
    refine nz_ldc (v := (-1000002 : Int32)) F wd_X8_dare_c196 dX8_dare_12 ?_
    exact nz_iret F hQ (va_up X 0 (upd (X 0) 0 0)) h rfl dX8_dare_14
theorem k_X8_dare {y : nz_Y} {g : nz_G} {k n : Nat} {ws : va_W} {pc : Nat} {ls : List (Nat × Value)} {st rest : List Value} {av : Array Value} {isC : List Nat} {K : Int32 → (Nat → Nat → Int32) → Prop} (a : Nat → Nat) (X : Nat → Nat → Int32) (v1 : Int32) (v2 : Int32) (run : nz_M (yz_l y) yX8_dare wsX8_dare rm_X8_dare g [.ref (a 0), .int v1, .int v2] (nz_wM g a X) (nz_Qi g (nz_wM g a X) (fun r (u : Nat → Nat → Int32) => K r u) (fun u => nz_wM g a u)) → nz_C y g k n ws pc ls st rest (nz_wM g a X) (nz_Qi g (nz_wM g a X) (fun r (u : Nat → Nat → Int32) => K r u) (fun u => nz_wM g a u)) av isC) (h : wp_X8_dare X v1 v2 K) (ws' : (Nat → Nat → Int32) → va_W) (hm : ∀ (m0 : (Nat → Nat → Int32)), nz_mrg ws isC (nz_wM g a m0) = ws' m0) (kk : ∀ (r : Int32) (m0 : (Nat → Nat → Int32)), K r m0 → nz_V y g k n (ws' m0) (pc + 3) ls (.int r :: rest)) : nz_V y g k n ws pc ls st :=
  nz_ci (ws' := fun u => ws' u) (run (c_X8_dare (yz_l y) g a X v1 v2 K h)) (fun _ => rfl) (fun u => hm u) (fun r u h => kk r u h)
theorem dX8_best_0 : decode cX8_best 0 = .ok (.aload_n 0, 1) := by decide +kernel
theorem dX8_best_1 : decode cX8_best 1 = .ok (.iconst 0, 1) := by decide +kernel
theorem dX8_best_2 : decode cX8_best 2 = .ok (.putfield 50, 3) := by decide +kernel
theorem dX8_best_5 : decode cX8_best 5 = .ok (.aload_n 0, 1) := by decide +kernel
theorem dX8_best_6 : decode cX8_best 6 = .ok (.invokevirtual 192, 3) := by decide +kernel
theorem dX8_best_9 : decode cX8_best 9 = .ok (.ifCond .ne 6, 3) := by decide +kernel
theorem dX8_best_12 : decode cX8_best 12 = .ok (.ldc 196, 2) := by decide +kernel
theorem dX8_best_14 : decode cX8_best 14 = .ok (.ireturn, 1) := by decide +kernel
theorem dX8_best_15 : decode cX8_best 15 = .ok (.iload_n 1, 1) := by decide +kernel
theorem dX8_best_16 : decode cX8_best 16 = .ok (.i2l, 1) := by decide +kernel
theorem dX8_best_17 : decode cX8_best 17 = .ok (.lconst 0, 1) := by decide +kernel
theorem dX8_best_18 : decode cX8_best 18 = .ok (.lconst 1, 1) := by decide +kernel
theorem dX8_best_19 : decode cX8_best 19 = .ok (.invokestatic 60, 3) := by decide +kernel
theorem dX8_best_22 : decode cX8_best 22 = .ok (.ifCond .ne 6, 3) := by decide +kernel
theorem dX8_best_25 : decode cX8_best 25 = .ok (.ldc 70, 2) := by decide +kernel
theorem dX8_best_27 : decode cX8_best 27 = .ok (.ireturn, 1) := by decide +kernel
theorem dX8_best_28 : decode cX8_best 28 = .ok (.iload_n 1, 1) := by decide +kernel
theorem dX8_best_29 : decode cX8_best 29 = .ok (.ifCond .ne 14, 3) := by decide +kernel
theorem dX8_best_32 : decode cX8_best 32 = .ok (.aload_n 0, 1) := by decide +kernel
theorem dX8_best_33 : decode cX8_best 33 = .ok (.aload_n 0, 1) := by decide +kernel
theorem dX8_best_34 : decode cX8_best 34 = .ok (.getfield 19, 3) := by decide +kernel
theorem dX8_best_37 : decode cX8_best 37 = .ok (.iconst 1, 1) := by decide +kernel
theorem dX8_best_38 : decode cX8_best 38 = .ok (.iaload, 1) := by decide +kernel
theorem dX8_best_39 : decode cX8_best 39 = .ok (.invokevirtual 252, 3) := by decide +kernel
theorem dX8_best_42 : decode cX8_best 42 = .ok (.ireturn, 1) := by decide +kernel
theorem dX8_best_43 : decode cX8_best 43 = .ok (.bipush 20, 2) := by decide +kernel
theorem dX8_best_45 : decode cX8_best 45 = .ok (.istore_n 2, 1) := by decide +kernel
theorem dX8_best_46 : decode cX8_best 46 = .ok (.aload_n 0, 1) := by decide +kernel
theorem dX8_best_47 : decode cX8_best 47 = .ok (.iload_n 2, 1) := by decide +kernel
theorem dX8_best_48 : decode cX8_best 48 = .ok (.invokevirtual 252, 3) := by decide +kernel
theorem dX8_best_51 : decode cX8_best 51 = .ok (.ifCond .le 9, 3) := by decide +kernel
theorem dX8_best_54 : decode cX8_best 54 = .ok (.iinc 2 (-1), 3) := by decide +kernel
theorem dX8_best_57 : decode cX8_best 57 = .ok (.goto (-11), 3) := by decide +kernel
theorem dX8_best_60 : decode cX8_best 60 = .ok (.iload_n 2, 1) := by decide +kernel
theorem dX8_best_61 : decode cX8_best 61 = .ok (.ireturn, 1) := by decide +kernel
set_option maxRecDepth 20000 in
theorem ggX8_best_X8_bestBy : GoodIn wsX8_best wsX8_bestBy := goodIn_r _ [16, 17, 18, 19, 8, 20, 4, 21, 22, 23, 24, 25, 26, 27, 28, 29, 30, 31, 32, 33, 34, 35, 36, 37, 38, 39, 40, 41, 42, 43, 44, 45, 46, 47, 48, 49, 50] rfl (by decide +kernel)
set_option maxRecDepth 20000 in
theorem gX8_best_X8_bestBy : GoodIn wsX8_best (wsV RX8 252 RX8 yX8_bestBy wsX8_bestBy) := goodIn_app (goodIn_r _ [13, 14, 15, 8] rfl (by decide +kernel)) ggX8_best_X8_bestBy
set_option maxRecDepth 20000 in
theorem ggX8_best_X8_in : GoodIn wsX8_best wsX8_in := goodIn_r _ [12] rfl (by decide +kernel)
set_option maxRecDepth 20000 in
theorem gX8_best_X8_in : GoodIn wsX8_best (va_wsS RX8 60 yX8_in wsX8_in) := goodIn_app (goodIn_r _ [10, 11, 8] rfl (by decide +kernel)) ggX8_best_X8_in
set_option maxRecDepth 20000 in
theorem ggX8_best_X8_isThere : GoodIn wsX8_best wsX8_isThere := goodIn_r _ [9, 4, 25, 26, 27, 28, 29, 30, 31, 32, 33, 34, 35, 36, 37, 38, 39, 40, 41, 42, 43, 44, 45, 46, 47, 48, 49, 50] rfl (by decide +kernel)
set_option maxRecDepth 20000 in
theorem gX8_best_X8_isThere : GoodIn wsX8_best (wsV RX8 192 RX8 yX8_isThere wsX8_isThere) := goodIn_app (goodIn_r _ [5, 6, 7, 8] rfl (by decide +kernel)) ggX8_best_X8_isThere
theorem hd_X8_bestBy : yX8_bestBy.cls = RX8 ∧ yX8_bestBy.cls ≠ "java/lang/invoke/MethodHandle" ∧ yX8_bestBy.cls ≠ "java/lang/invoke/VarHandle" ∧ (parseMethodDescriptor yX8_bestBy.desc).map (fun d => d.parameters.length) = some 1 := by decide +kernel
/-! X8_best -/
abbrev rm_X8_best : Room := { frames := 3, cells := 0, slots := 0, locals := 69 }
theorem iw_X8_best_8 : ∀ w ∈ wsX80, w ∈ wsX8_best := fun _ h => List.mem_cons_of_mem _ (List.mem_append_right _ h)
theorem fl_X8_best_50 : Cond.fieldLink RX8 50 "NightStonesModel" "thrown" "I" ∈ wsX8_best := List.mem_of_getElem? (i := 1) rfl
theorem fl_X8_best_19 : Cond.fieldLink RX8 19 "NightStonesModel" "road" "[I" ∈ wsX8_best := List.mem_of_getElem? (i := 4) rfl
theorem wd_X8_best_c70 : Cond.constant RX8 70 (-1000001) ∈ wsX8_best := List.mem_of_getElem? (i := 3) rfl
theorem wd_X8_best_c196 : Cond.constant RX8 196 (-1000002) ∈ wsX8_best := List.mem_of_getElem? (i := 2) rfl
def S_X8_best_46 (X : Nat → Nat → Int32) (c0_0 : Int32) (K : Int32 → (Nat → Nat → Int32) → Prop) (R46 : Int32 → Prop) (x2 : Int32) : Prop := wp_X8_bestBy (X 4) x2 (fun q6 => ((q6 ≤ 0 → K x2 (va_up X 0 (upd (X 0) 0 c0_0))) ∧ (¬ (q6 ≤ 0) → R46 (x2 + (-1 : Int32)))))
set_option maxHeartbeats 4000000 in
set_option maxRecDepth 100000 in
theorem t_X8_best_46 {y : nz_Y} {g : nz_G} (F : nz_F y g cX8_best 3 wsX8_best RX8 (some .int) rm_X8_best) {wc0 : va_W} {sz : Nat} {K : Int32 → (Nat → Nat → Int32) → Prop} (a : Nat → Nat) (X : Nat → Nat → Int32) (v1 : Int32) (c0_0 : Int32) (hQ : yz_A y = va_A wc0 sz ∧ yz_Q y = MQ (yz_b y) ((nz_Qi g wc0 (fun r (u : Nat → Nat → Int32) => K r u) (fun u => nz_wM g a u)) sz) (yz_a y) (yz_s y) 0 0 (va_A wc0 sz)) : ∀ (n1 : Nat) (x2 : Int32), nz_it (fun _ => False) (S_X8_best_46 X c0_0 K) n1 x2 → nz_V y g 0 0 [((a 0), .inr (8, [.int c0_0, .int (X 0 1), .ref (a 1), .ref (a 2), .ref (a 3), .ref (a 4), .ref (a 5), .ref (a 6), .int (X 0 8), .ref (a 7), .int (X 0 10), .int (X 0 11), .int (X 0 12), .int (X 0 13), .int (X 0 14), .int (X 0 15), .int (X 0 16), .int (X 0 17), .int (X 0 18), .ref (a 8), .ref (a 9), .ref (a 10), .ref (a 11), .ref (a 12), .ref (a 13), .int (X 0 25)])), ((a 1), .inl (nz_cI g, 8, .inl (X 1))), ((a 2), .inl (nz_cI g, 8, .inl (X 2))), ((a 3), .inl (nz_cI g, 320, .inl (X 3))), ((a 4), .inl (nz_cI g, 94, .inl (X 4))), ((a 5), .inl (nz_cI g, 94, .inl (X 5))), ((a 6), .inl (nz_cI g, 168, .inl (X 6))), ((a 7), .inl (nz_cI g, 400, .inl (X 7))), ((a 8), .inl (nz_cI g, 6, .inl (X 8))), ((a 9), .inl (nz_cI g, 49, .inl (X 9))), ((a 10), .inl (nz_cI g, 6, .inl (X 10))), ((a 11), .inl (nz_cZ g, 2, .inl (X 11))), ((a 12), .inl (nz_cI g, 188, .inl (X 12))), ((a 13), .inl (nz_cI g, 16, .inl (X 13)))] 46 [(0, .ref (a 0)), (2, .int x2)] [] := by
  intro n1
  induction n1 with
  | zero =>
    intro x2 h
    exact h.elim
  | succ n1 hR46 =>
    intro x2 h
    have h : S_X8_best_46 X c0_0 K (nz_it (fun _ => False) (S_X8_best_46 X c0_0 K) n1) x2 := h
    unfold S_X8_best_46 at h
    refine nz_aload_n F dX8_best_46 rfl 0 rfl ?_
    refine nz_iload_n F dX8_best_47 rfl 1 rfl ?_
    refine k_X8_bestBy (a 0) (a 1) (a 2) (a 3) (a 4) (a 5) (a 6) (a 7) (a 8) (a 9) (a 10) (a 11) (a 12) (a 13) c0_0 (X 0 1) (X 0 8) (X 0 10) (X 0 11) (X 0 12) (X 0 13) (X 0 14) (X 0 15) (X 0 16) (X 0 17) (X 0 18) (X 0 25) (X 1) (X 2) (X 3) (X 4) (X 5) (X 6) (X 7) (X 8) (X 9) (X 10) (X 11) (X 12) (X 13) x2 (fun hM => nz_runV F gX8_best_X8_bestBy rfl hd_X8_bestBy rfl hM dX8_best_48 [0, 1, 2, 3, 4, 5, 6, 7, 8, 9, 10, 11, 12, 13] rfl rfl 0 rfl rfl rfl (Nat.le_of_ble_eq_true rfl) rfl) h ([((a 0), .inr (8, [.int c0_0, .int (X 0 1), .ref (a 1), .ref (a 2), .ref (a 3), .ref (a 4), .ref (a 5), .ref (a 6), .int (X 0 8), .ref (a 7), .int (X 0 10), .int (X 0 11), .int (X 0 12), .int (X 0 13), .int (X 0 14), .int (X 0 15), .int (X 0 16), .int (X 0 17), .int (X 0 18), .ref (a 8), .ref (a 9), .ref (a 10), .ref (a 11), .ref (a 12), .ref (a 13), .int (X 0 25)])), ((a 1), .inl (nz_cI g, 8, .inl (X 1))), ((a 2), .inl (nz_cI g, 8, .inl (X 2))), ((a 3), .inl (nz_cI g, 320, .inl (X 3))), ((a 4), .inl (nz_cI g, 94, .inl (X 4))), ((a 5), .inl (nz_cI g, 94, .inl (X 5))), ((a 6), .inl (nz_cI g, 168, .inl (X 6))), ((a 7), .inl (nz_cI g, 400, .inl (X 7))), ((a 8), .inl (nz_cI g, 6, .inl (X 8))), ((a 9), .inl (nz_cI g, 49, .inl (X 9))), ((a 10), .inl (nz_cI g, 6, .inl (X 10))), ((a 11), .inl (nz_cZ g, 2, .inl (X 11))), ((a 12), .inl (nz_cI g, 188, .inl (X 12))), ((a 13), .inl (nz_cI g, 16, .inl (X 13)))]) (rfl) (fun q6 h => ?_)
    refine nz_if_le (tgt := 60) F dX8_best_51 (by decide) (fun c7 => ?_) (fun c7 => ?_)
    · have h := h.1 c7
      refine nz_iload_n F dX8_best_60 rfl 1 rfl ?_
      exact nz_iret F hQ (va_up X 0 (upd (X 0) 0 c0_0)) h rfl dX8_best_61
    · have h := h.2 c7
      refine nz_iinc (v := (x2 + (-1 : Int32))) (j := 1) (lv' := [(2, .int (x2 + (-1 : Int32))), (0, .ref (a 0))]) F dX8_best_54 rfl rfl (by decide) rfl ?_
      refine nz_goto (tgt := 46) F dX8_best_57 (by decide) ?_
      refine nz_ls (lv' := [(0, .ref (a 0)), (2, .int (x2 + (-1 : Int32)))]) [1, 0] rfl ?_
      exact hR46 (x2 + (-1 : Int32)) h
def wp_X8_best (X : Nat → Nat → Int32) (v1 : Int32) (K : Int32 → (Nat → Nat → Int32) → Prop) : Prop := wp_X8_isThere (X 4) (fun q1 => ((¬ q1 = 0 → wp_X8_in ((v1 : Int32).toInt64) 0 1 (fun q3 => ((¬ q3 = 0 → ((¬ v1 = 0 → (∃ n, nz_it (fun _ => False) (S_X8_best_46 X 0 K) n 20)) ∧ (v1 = 0 → wp_X8_bestBy (X 4) ((X 4) 1) (fun q8 => K q8 (va_up X 0 (upd (X 0) 0 0)))))) ∧ (q3 = 0 → K (-1000001 : Int32) (va_up X 0 (upd (X 0) 0 0)))))) ∧ (q1 = 0 → K (-1000002 : Int32) (va_up X 0 (upd (X 0) 0 0)))))
set_option maxHeartbeats 4000000 in
set_option maxRecDepth 100000 in
theorem c_X8_best (l : Launch) (g : nz_G) (a : Nat → Nat) (X : Nat → Nat → Int32) (v1 : Int32) (K : Int32 → (Nat → Nat → Int32) → Prop) (h : wp_X8_best X v1 K) : nz_M l yX8_best wsX8_best rm_X8_best g [.ref (a 0), .int v1] (nz_wM g a X) (nz_Qi g (nz_wM g a X) (fun r (u : Nat → Nat → Int32) => K r u) (fun u => nz_wM g a u)) := by
  refine nz_M.of (bytes := cX8_best) (nL := 3) (ret := (some .int)) (own := RX8) (by decide) rfl rfl ⟨rfl, rfl⟩ rfl ?_
  intro y F hl hQ
  obtain ⟨sz, hQ⟩ := hQ
  refine nz_ent (lv' := [(0, .ref (a 0)), (1, .int v1)]) rfl ?_
  unfold wp_X8_best at h
  refine nz_aload_n F dX8_best_0 rfl 0 rfl ?_
  refine nz_iconst (v := 0) F dX8_best_1 (by decide) ?_
  refine nz_put (ws' := [((a 0), .inr (8, [.int 0, .int (X 0 1), .ref (a 1), .ref (a 2), .ref (a 3), .ref (a 4), .ref (a 5), .ref (a 6), .int (X 0 8), .ref (a 7), .int (X 0 10), .int (X 0 11), .int (X 0 12), .int (X 0 13), .int (X 0 14), .int (X 0 15), .int (X 0 16), .int (X 0 17), .int (X 0 18), .ref (a 8), .ref (a 9), .ref (a 10), .ref (a 11), .ref (a 12), .ref (a 13), .int (X 0 25)])), ((a 1), .inl (nz_cI g, 8, .inl (X 1))), ((a 2), .inl (nz_cI g, 8, .inl (X 2))), ((a 3), .inl (nz_cI g, 320, .inl (X 3))), ((a 4), .inl (nz_cI g, 94, .inl (X 4))), ((a 5), .inl (nz_cI g, 94, .inl (X 5))), ((a 6), .inl (nz_cI g, 168, .inl (X 6))), ((a 7), .inl (nz_cI g, 400, .inl (X 7))), ((a 8), .inl (nz_cI g, 6, .inl (X 8))), ((a 9), .inl (nz_cI g, 49, .inl (X 9))), ((a 10), .inl (nz_cI g, 6, .inl (X 10))), ((a 11), .inl (nz_cZ g, 2, .inl (X 11))), ((a 12), .inl (nz_cI g, 188, .inl (X 12))), ((a 13), .inl (nz_cI g, 16, .inl (X 13)))]) F iw_X8_best_8 tyX8 tyX8_ok nmX8 0 rfl rfl 0 (by decide) rfl fl_X8_best_50 rfl rfl (Nat.le_of_ble_eq_true rfl) dX8_best_2 rfl ?_
  refine nz_aload_n F dX8_best_5 rfl 0 rfl ?_
  refine k_X8_isThere (a 0) (a 1) (a 2) (a 3) (a 4) (a 5) (a 6) (a 7) (a 8) (a 9) (a 10) (a 11) (a 12) (a 13) 0 (X 0 1) (X 0 8) (X 0 10) (X 0 11) (X 0 12) (X 0 13) (X 0 14) (X 0 15) (X 0 16) (X 0 17) (X 0 18) (X 0 25) (X 1) (X 2) (X 3) (X 4) (X 5) (X 6) (X 7) (X 8) (X 9) (X 10) (X 11) (X 12) (X 13) (fun hM => nz_runV F gX8_best_X8_isThere rfl hd_X8_isThere rfl hM dX8_best_6 [0, 1, 2, 3, 4, 5, 6, 7, 8, 9, 10, 11, 12, 13] rfl rfl 0 rfl rfl rfl (Nat.le_of_ble_eq_true rfl) rfl) h ([((a 0), .inr (8, [.int 0, .int (X 0 1), .ref (a 1), .ref (a 2), .ref (a 3), .ref (a 4), .ref (a 5), .ref (a 6), .int (X 0 8), .ref (a 7), .int (X 0 10), .int (X 0 11), .int (X 0 12), .int (X 0 13), .int (X 0 14), .int (X 0 15), .int (X 0 16), .int (X 0 17), .int (X 0 18), .ref (a 8), .ref (a 9), .ref (a 10), .ref (a 11), .ref (a 12), .ref (a 13), .int (X 0 25)])), ((a 1), .inl (nz_cI g, 8, .inl (X 1))), ((a 2), .inl (nz_cI g, 8, .inl (X 2))), ((a 3), .inl (nz_cI g, 320, .inl (X 3))), ((a 4), .inl (nz_cI g, 94, .inl (X 4))), ((a 5), .inl (nz_cI g, 94, .inl (X 5))), ((a 6), .inl (nz_cI g, 168, .inl (X 6))), ((a 7), .inl (nz_cI g, 400, .inl (X 7))), ((a 8), .inl (nz_cI g, 6, .inl (X 8))), ((a 9), .inl (nz_cI g, 49, .inl (X 9))), ((a 10), .inl (nz_cI g, 6, .inl (X 10))), ((a 11), .inl (nz_cZ g, 2, .inl (X 11))), ((a 12), .inl (nz_cI g, 188, .inl (X 12))), ((a 13), .inl (nz_cI g, 16, .inl (X 13)))]) (rfl) (fun q1 h => ?_)
  refine nz_if_ne (tgt := 15) F dX8_best_9 (by decide) (fun c2 => ?_) (fun c2 => ?_)
  · have h := h.1 c2
    refine nz_iload_n F dX8_best_15 rfl 1 rfl ?_
    refine nz_i2l (v := ((v1 : Int32).toInt64)) F dX8_best_16 rfl ?_
    refine nz_lconst (v := 0) F dX8_best_17 (by decide) ?_
    refine nz_lconst (v := 1) F dX8_best_18 (by decide) ?_
    refine k_X8_in ((v1 : Int32).toInt64) 0 1 (fun hM => nz_runS F gX8_best_X8_in rfl hd_X8_in.2 rfl hM dX8_best_19 [] rfl rfl rfl (Nat.le_of_ble_eq_true rfl) rfl) h ([((a 0), .inr (8, [.int 0, .int (X 0 1), .ref (a 1), .ref (a 2), .ref (a 3), .ref (a 4), .ref (a 5), .ref (a 6), .int (X 0 8), .ref (a 7), .int (X 0 10), .int (X 0 11), .int (X 0 12), .int (X 0 13), .int (X 0 14), .int (X 0 15), .int (X 0 16), .int (X 0 17), .int (X 0 18), .ref (a 8), .ref (a 9), .ref (a 10), .ref (a 11), .ref (a 12), .ref (a 13), .int (X 0 25)])), ((a 1), .inl (nz_cI g, 8, .inl (X 1))), ((a 2), .inl (nz_cI g, 8, .inl (X 2))), ((a 3), .inl (nz_cI g, 320, .inl (X 3))), ((a 4), .inl (nz_cI g, 94, .inl (X 4))), ((a 5), .inl (nz_cI g, 94, .inl (X 5))), ((a 6), .inl (nz_cI g, 168, .inl (X 6))), ((a 7), .inl (nz_cI g, 400, .inl (X 7))), ((a 8), .inl (nz_cI g, 6, .inl (X 8))), ((a 9), .inl (nz_cI g, 49, .inl (X 9))), ((a 10), .inl (nz_cI g, 6, .inl (X 10))), ((a 11), .inl (nz_cZ g, 2, .inl (X 11))), ((a 12), .inl (nz_cI g, 188, .inl (X 12))), ((a 13), .inl (nz_cI g, 16, .inl (X 13)))]) (rfl) (fun q3 h => ?_)
    refine nz_if_ne (tgt := 28) F dX8_best_22 (by decide) (fun c4 => ?_) (fun c4 => ?_)
    · have h := h.1 c4
      refine nz_iload_n F dX8_best_28 rfl 1 rfl ?_
      refine nz_if_ne (tgt := 43) F dX8_best_29 (by decide) (fun c5 => ?_) (fun c5 => ?_)
      · have h := h.1 c5
        refine nz_bipush (v := 20) F dX8_best_43 (by decide) ?_
        refine nz_istore_n (lv' := [(2, .int 20), (0, .ref (a 0)), (1, .int v1)]) F dX8_best_45 rfl (by decide) rfl ?_
        refine nz_ls (lv' := [(0, .ref (a 0)), (2, .int 20)]) [1, 0] rfl ?_
        obtain ⟨n1, h⟩ := h
        exact t_X8_best_46 F a X v1 0 hQ n1 20 h
      · have h := h.2 c5
        refine nz_aload_n F dX8_best_32 rfl 0 rfl ?_
        refine nz_aload_n F dX8_best_33 rfl 0 rfl ?_
        refine nz_get F iw_X8_best_8 0 rfl rfl 5 (by decide) rfl fl_X8_best_19 rfl dX8_best_34 ?_
        refine nz_iconst (v := 1) F dX8_best_37 (by decide) ?_
        refine nz_iald F 4 rfl (nz_inC rfl) dX8_best_38 ?_
        refine nz_vi (z := ((X 4) 1)) rfl ?_
        refine k_X8_bestBy (a 0) (a 1) (a 2) (a 3) (a 4) (a 5) (a 6) (a 7) (a 8) (a 9) (a 10) (a 11) (a 12) (a 13) 0 (X 0 1) (X 0 8) (X 0 10) (X 0 11) (X 0 12) (X 0 13) (X 0 14) (X 0 15) (X 0 16) (X 0 17) (X 0 18) (X 0 25) (X 1) (X 2) (X 3) (X 4) (X 5) (X 6) (X 7) (X 8) (X 9) (X 10) (X 11) (X 12) (X 13) ((X 4) 1) (fun hM => nz_runV F gX8_best_X8_bestBy rfl hd_X8_bestBy rfl hM dX8_best_39 [0, 1, 2, 3, 4, 5, 6, 7, 8, 9, 10, 11, 12, 13] rfl rfl 0 rfl rfl rfl (Nat.le_of_ble_eq_true rfl) rfl) h ([((a 0), .inr (8, [.int 0, .int (X 0 1), .ref (a 1), .ref (a 2), .ref (a 3), .ref (a 4), .ref (a 5), .ref (a 6), .int (X 0 8), .ref (a 7), .int (X 0 10), .int (X 0 11), .int (X 0 12), .int (X 0 13), .int (X 0 14), .int (X 0 15), .int (X 0 16), .int (X 0 17), .int (X 0 18), .ref (a 8), .ref (a 9), .ref (a 10), .ref (a 11), .ref (a 12), .ref (a 13), .int (X 0 25)])), ((a 1), .inl (nz_cI g, 8, .inl (X 1))), ((a 2), .inl (nz_cI g, 8, .inl (X 2))), ((a 3), .inl (nz_cI g, 320, .inl (X 3))), ((a 4), .inl (nz_cI g, 94, .inl (X 4))), ((a 5), .inl (nz_cI g, 94, .inl (X 5))), ((a 6), .inl (nz_cI g, 168, .inl (X 6))), ((a 7), .inl (nz_cI g, 400, .inl (X 7))), ((a 8), .inl (nz_cI g, 6, .inl (X 8))), ((a 9), .inl (nz_cI g, 49, .inl (X 9))), ((a 10), .inl (nz_cI g, 6, .inl (X 10))), ((a 11), .inl (nz_cZ g, 2, .inl (X 11))), ((a 12), .inl (nz_cI g, 188, .inl (X 12))), ((a 13), .inl (nz_cI g, 16, .inl (X 13)))]) (rfl) (fun q8 h => ?_)
        exact nz_iret F hQ (va_up X 0 (upd (X 0) 0 0)) h rfl dX8_best_42
    · have h := h.2 c4
      refine nz_ldc (v := (-1000001 : Int32)) F wd_X8_best_c70 dX8_best_25 ?_
      exact nz_iret F hQ (va_up X 0 (upd (X 0) 0 0)) h rfl dX8_best_27
  · have h := h.2 c2
    refine nz_ldc (v := (-1000002 : Int32)) F wd_X8_best_c196 dX8_best_12 ?_
    exact nz_iret F hQ (va_up X 0 (upd (X 0) 0 0)) h rfl dX8_best_14
theorem k_X8_best {y : nz_Y} {g : nz_G} {k n : Nat} {ws : va_W} {pc : Nat} {ls : List (Nat × Value)} {st rest : List Value} {av : Array Value} {isC : List Nat} {K : Int32 → (Nat → Nat → Int32) → Prop} (a : Nat → Nat) (X : Nat → Nat → Int32) (v1 : Int32) (run : nz_M (yz_l y) yX8_best wsX8_best rm_X8_best g [.ref (a 0), .int v1] (nz_wM g a X) (nz_Qi g (nz_wM g a X) (fun r (u : Nat → Nat → Int32) => K r u) (fun u => nz_wM g a u)) → nz_C y g k n ws pc ls st rest (nz_wM g a X) (nz_Qi g (nz_wM g a X) (fun r (u : Nat → Nat → Int32) => K r u) (fun u => nz_wM g a u)) av isC) (h : wp_X8_best X v1 K) (ws' : (Nat → Nat → Int32) → va_W) (hm : ∀ (m0 : (Nat → Nat → Int32)), nz_mrg ws isC (nz_wM g a m0) = ws' m0) (kk : ∀ (r : Int32) (m0 : (Nat → Nat → Int32)), K r m0 → nz_V y g k n (ws' m0) (pc + 3) ls (.int r :: rest)) : nz_V y g k n ws pc ls st :=
  nz_ci (ws' := fun u => ws' u) (run (c_X8_best (yz_l y) g a X v1 K h)) (fun _ => rfl) (fun u => hm u) (fun r u h => kk r u h)
theorem dX8_image_0 : decode cX8_image 0 = .ok (.aload_n 0, 1) := by decide +kernel
theorem dX8_image_1 : decode cX8_image 1 = .ok (.iconst 0, 1) := by decide +kernel
theorem dX8_image_2 : decode cX8_image 2 = .ok (.putfield 50, 3) := by decide +kernel
theorem dX8_image_5 : decode cX8_image 5 = .ok (.iload_n 1, 1) := by decide +kernel
theorem dX8_image_6 : decode cX8_image 6 = .ok (.i2l, 1) := by decide +kernel
theorem dX8_image_7 : decode cX8_image 7 = .ok (.lconst 0, 1) := by decide +kernel
theorem dX8_image_8 : decode cX8_image 8 = .ok (.lconst 1, 1) := by decide +kernel
theorem dX8_image_9 : decode cX8_image 9 = .ok (.invokestatic 60, 3) := by decide +kernel
theorem dX8_image_12 : decode cX8_image 12 = .ok (.ifCond .ne 6, 3) := by decide +kernel
theorem dX8_image_15 : decode cX8_image 15 = .ok (.ldc 70, 2) := by decide +kernel
theorem dX8_image_17 : decode cX8_image 17 = .ok (.ireturn, 1) := by decide +kernel
theorem dX8_image_18 : decode cX8_image 18 = .ok (.aload_n 0, 1) := by decide +kernel
theorem dX8_image_19 : decode cX8_image 19 = .ok (.invokevirtual 192, 3) := by decide +kernel
theorem dX8_image_22 : decode cX8_image 22 = .ok (.ifCond .ne 6, 3) := by decide +kernel
theorem dX8_image_25 : decode cX8_image 25 = .ok (.ldc 196, 2) := by decide +kernel
theorem dX8_image_27 : decode cX8_image 27 = .ok (.ireturn, 1) := by decide +kernel
theorem dX8_image_28 : decode cX8_image 28 = .ok (.iconst 0, 1) := by decide +kernel
theorem dX8_image_29 : decode cX8_image 29 = .ok (.istore_n 2, 1) := by decide +kernel
theorem dX8_image_30 : decode cX8_image 30 = .ok (.iload_n 2, 1) := by decide +kernel
theorem dX8_image_31 : decode cX8_image 31 = .ok (.bipush 94, 2) := by decide +kernel
theorem dX8_image_33 : decode cX8_image 33 = .ok (.if_icmp .ge 26, 3) := by decide +kernel
theorem dX8_image_36 : decode cX8_image 36 = .ok (.aload_n 0, 1) := by decide +kernel
theorem dX8_image_37 : decode cX8_image 37 = .ok (.getfield 44, 3) := by decide +kernel
theorem dX8_image_40 : decode cX8_image 40 = .ok (.bipush 94, 2) := by decide +kernel
theorem dX8_image_42 : decode cX8_image 42 = .ok (.iload_n 1, 1) := by decide +kernel
theorem dX8_image_43 : decode cX8_image 43 = .ok (.imul, 1) := by decide +kernel
theorem dX8_image_44 : decode cX8_image 44 = .ok (.iload_n 2, 1) := by decide +kernel
theorem dX8_image_45 : decode cX8_image 45 = .ok (.iadd, 1) := by decide +kernel
theorem dX8_image_46 : decode cX8_image 46 = .ok (.aload_n 0, 1) := by decide +kernel
theorem dX8_image_47 : decode cX8_image 47 = .ok (.getfield 19, 3) := by decide +kernel
theorem dX8_image_50 : decode cX8_image 50 = .ok (.iload_n 2, 1) := by decide +kernel
theorem dX8_image_51 : decode cX8_image 51 = .ok (.iaload, 1) := by decide +kernel
theorem dX8_image_52 : decode cX8_image 52 = .ok (.iastore, 1) := by decide +kernel
theorem dX8_image_53 : decode cX8_image 53 = .ok (.iinc 2 1, 3) := by decide +kernel
theorem dX8_image_56 : decode cX8_image 56 = .ok (.goto (-26), 3) := by decide +kernel
theorem dX8_image_59 : decode cX8_image 59 = .ok (.aload_n 0, 1) := by decide +kernel
theorem dX8_image_60 : decode cX8_image 60 = .ok (.getfield 40, 3) := by decide +kernel
theorem dX8_image_63 : decode cX8_image 63 = .ok (.iload_n 1, 1) := by decide +kernel
theorem dX8_image_64 : decode cX8_image 64 = .ok (.iconst 1, 1) := by decide +kernel
theorem dX8_image_65 : decode cX8_image 65 = .ok (.bastore, 1) := by decide +kernel
theorem dX8_image_66 : decode cX8_image 66 = .ok (.iconst 1, 1) := by decide +kernel
theorem dX8_image_67 : decode cX8_image 67 = .ok (.ireturn, 1) := by decide +kernel
set_option maxRecDepth 20000 in
theorem ggX8_image_X8_in : GoodIn wsX8_image wsX8_in := goodIn_r _ [10] rfl (by decide +kernel)
set_option maxRecDepth 20000 in
theorem gX8_image_X8_in : GoodIn wsX8_image (va_wsS RX8 60 yX8_in wsX8_in) := goodIn_app (goodIn_r _ [7, 8, 9] rfl (by decide +kernel)) ggX8_image_X8_in
set_option maxRecDepth 20000 in
theorem ggX8_image_X8_isThere : GoodIn wsX8_image wsX8_isThere := goodIn_r _ [14, 5, 15, 16, 17, 18, 19, 20, 21, 22, 23, 24, 25, 26, 27, 28, 29, 30, 31, 32, 33, 34, 35, 36, 37, 38, 39, 40] rfl (by decide +kernel)
set_option maxRecDepth 20000 in
theorem gX8_image_X8_isThere : GoodIn wsX8_image (wsV RX8 192 RX8 yX8_isThere wsX8_isThere) := goodIn_app (goodIn_r _ [11, 12, 13, 9] rfl (by decide +kernel)) ggX8_image_X8_isThere
/-! X8_image -/
abbrev rm_X8_image : Room := { frames := 1, cells := 0, slots := 0, locals := 25 }
theorem iw_X8_image_8 : ∀ w ∈ wsX80, w ∈ wsX8_image := fun _ h => List.mem_cons_of_mem _ (List.mem_append_right _ h)
theorem fl_X8_image_50 : Cond.fieldLink RX8 50 "NightStonesModel" "thrown" "I" ∈ wsX8_image := List.mem_of_getElem? (i := 1) rfl
theorem fl_X8_image_40 : Cond.fieldLink RX8 40 "NightStonesModel" "isKept" "[Z" ∈ wsX8_image := List.mem_of_getElem? (i := 6) rfl
theorem fl_X8_image_44 : Cond.fieldLink RX8 44 "NightStonesModel" "kept" "[I" ∈ wsX8_image := List.mem_of_getElem? (i := 4) rfl
theorem fl_X8_image_19 : Cond.fieldLink RX8 19 "NightStonesModel" "road" "[I" ∈ wsX8_image := List.mem_of_getElem? (i := 5) rfl
theorem wd_X8_image_c196 : Cond.constant RX8 196 (-1000002) ∈ wsX8_image := List.mem_of_getElem? (i := 3) rfl
theorem wd_X8_image_c70 : Cond.constant RX8 70 (-1000001) ∈ wsX8_image := List.mem_of_getElem? (i := 2) rfl
def S_X8_image_30 (X : Nat → Nat → Int32) (v1 : Int32) (c0_0 : Int32) (c11_c : Nat → Int32) (K : Int32 → (Nat → Nat → Int32) → Prop) (R30 : Int32 → (Nat → Int32) → Prop) (x2 : Int32) (c12_c : Nat → Int32) : Prop := ((94 ≤ x2 → (vp_in v1 2 ∧ K 1 (va_up (va_up (va_up X 0 (upd (X 0) 0 c0_0)) 11 (upd c11_c v1.toNatClampNeg 1)) 12 c12_c))) ∧ (¬ (94 ≤ x2) → (vp_in x2 94 ∧ (vp_in ((94 * v1) + x2) 188 ∧ R30 (x2 + 1) (upd c12_c ((94 * v1) + x2).toNatClampNeg ((X 4) x2.toNatClampNeg))))))
set_option maxHeartbeats 4000000 in
set_option maxRecDepth 100000 in
theorem t_X8_image_30 {y : nz_Y} {g : nz_G} (F : nz_F y g cX8_image 3 wsX8_image RX8 (some .int) rm_X8_image) {wc0 : va_W} {sz : Nat} {K : Int32 → (Nat → Nat → Int32) → Prop} (a : Nat → Nat) (X : Nat → Nat → Int32) (v1 : Int32) (c0_0 : Int32) (c11_c : Nat → Int32) (hQ : yz_A y = va_A wc0 sz ∧ yz_Q y = MQ (yz_b y) ((nz_Qi g wc0 (fun r (u : Nat → Nat → Int32) => K r u) (fun u => nz_wM g a u)) sz) (yz_a y) (yz_s y) 0 0 (va_A wc0 sz)) : ∀ (n1 : Nat) (x2 : Int32) (c12_c : Nat → Int32), nz_it (fun _ _ => False) (S_X8_image_30 X v1 c0_0 c11_c K) n1 x2 c12_c → nz_V y g 0 0 [((a 0), .inr (8, [.int c0_0, .int (X 0 1), .ref (a 1), .ref (a 2), .ref (a 3), .ref (a 4), .ref (a 5), .ref (a 6), .int (X 0 8), .ref (a 7), .int (X 0 10), .int (X 0 11), .int (X 0 12), .int (X 0 13), .int (X 0 14), .int (X 0 15), .int (X 0 16), .int (X 0 17), .int (X 0 18), .ref (a 8), .ref (a 9), .ref (a 10), .ref (a 11), .ref (a 12), .ref (a 13), .int (X 0 25)])), ((a 1), .inl (nz_cI g, 8, .inl (X 1))), ((a 2), .inl (nz_cI g, 8, .inl (X 2))), ((a 3), .inl (nz_cI g, 320, .inl (X 3))), ((a 4), .inl (nz_cI g, 94, .inl (X 4))), ((a 5), .inl (nz_cI g, 94, .inl (X 5))), ((a 6), .inl (nz_cI g, 168, .inl (X 6))), ((a 7), .inl (nz_cI g, 400, .inl (X 7))), ((a 8), .inl (nz_cI g, 6, .inl (X 8))), ((a 9), .inl (nz_cI g, 49, .inl (X 9))), ((a 10), .inl (nz_cI g, 6, .inl (X 10))), ((a 11), .inl (nz_cZ g, 2, .inl c11_c)), ((a 12), .inl (nz_cI g, 188, .inl c12_c)), ((a 13), .inl (nz_cI g, 16, .inl (X 13)))] 30 [(0, .ref (a 0)), (1, .int v1), (2, .int x2)] [] := by
  intro n1
  induction n1 with
  | zero =>
    intro x2 c12_c h
    exact h.elim
  | succ n1 hR30 =>
    intro x2 c12_c h
    have h : S_X8_image_30 X v1 c0_0 c11_c K (nz_it (fun _ _ => False) (S_X8_image_30 X v1 c0_0 c11_c K) n1) x2 c12_c := h
    unfold S_X8_image_30 at h
    refine nz_iload_n F dX8_image_30 rfl 2 rfl ?_
    refine nz_bipush (v := 94) F dX8_image_31 (by decide) ?_
    refine nz_icmp_ge (tgt := 59) F dX8_image_33 (by decide) (fun c5 => ?_) (fun c5 => ?_)
    · have h := h.1 c5
      refine nz_aload_n F dX8_image_59 rfl 0 rfl ?_
      refine nz_get F iw_X8_image_8 0 rfl rfl 22 (by decide) rfl fl_X8_image_40 rfl dX8_image_60 ?_
      refine nz_iload_n F dX8_image_63 rfl 1 rfl ?_
      refine nz_iconst (v := 1) F dX8_image_64 (by decide) ?_
      obtain ⟨i6, h⟩ := h
      refine nz_zast (ws' := [((a 0), .inr (8, [.int c0_0, .int (X 0 1), .ref (a 1), .ref (a 2), .ref (a 3), .ref (a 4), .ref (a 5), .ref (a 6), .int (X 0 8), .ref (a 7), .int (X 0 10), .int (X 0 11), .int (X 0 12), .int (X 0 13), .int (X 0 14), .int (X 0 15), .int (X 0 16), .int (X 0 17), .int (X 0 18), .ref (a 8), .ref (a 9), .ref (a 10), .ref (a 11), .ref (a 12), .ref (a 13), .int (X 0 25)])), ((a 1), .inl (nz_cI g, 8, .inl (X 1))), ((a 2), .inl (nz_cI g, 8, .inl (X 2))), ((a 3), .inl (nz_cI g, 320, .inl (X 3))), ((a 4), .inl (nz_cI g, 94, .inl (X 4))), ((a 5), .inl (nz_cI g, 94, .inl (X 5))), ((a 6), .inl (nz_cI g, 168, .inl (X 6))), ((a 7), .inl (nz_cI g, 400, .inl (X 7))), ((a 8), .inl (nz_cI g, 6, .inl (X 8))), ((a 9), .inl (nz_cI g, 49, .inl (X 9))), ((a 10), .inl (nz_cI g, 6, .inl (X 10))), ((a 11), .inl (nz_cZ g, 2, .inl (upd c11_c v1.toNatClampNeg 1))), ((a 12), .inl (nz_cI g, 188, .inl c12_c)), ((a 13), .inl (nz_cI g, 16, .inl (X 13)))]) F 11 rfl i6 (by decide) dX8_image_65 rfl ?_
      refine nz_iconst (v := 1) F dX8_image_66 (by decide) ?_
      exact nz_iret F hQ (va_up (va_up (va_up X 0 (upd (X 0) 0 c0_0)) 11 (upd c11_c v1.toNatClampNeg 1)) 12 c12_c) h rfl dX8_image_67
    · have h := h.2 c5
      refine nz_aload_n F dX8_image_36 rfl 0 rfl ?_
      refine nz_get F iw_X8_image_8 0 rfl rfl 23 (by decide) rfl fl_X8_image_44 rfl dX8_image_37 ?_
      refine nz_bipush (v := 94) F dX8_image_40 (by decide) ?_
      refine nz_iload_n F dX8_image_42 rfl 1 rfl ?_
      refine nz_imul F dX8_image_43 ?_
      refine nz_iload_n F dX8_image_44 rfl 2 rfl ?_
      refine nz_iadd F dX8_image_45 ?_
      refine nz_aload_n F dX8_image_46 rfl 0 rfl ?_
      refine nz_get F iw_X8_image_8 0 rfl rfl 5 (by decide) rfl fl_X8_image_19 rfl dX8_image_47 ?_
      refine nz_iload_n F dX8_image_50 rfl 2 rfl ?_
      obtain ⟨i7, h⟩ := h
      refine nz_iald F 4 rfl i7 dX8_image_51 ?_
      obtain ⟨i8, h⟩ := h
      refine nz_iast (ws' := [((a 0), .inr (8, [.int c0_0, .int (X 0 1), .ref (a 1), .ref (a 2), .ref (a 3), .ref (a 4), .ref (a 5), .ref (a 6), .int (X 0 8), .ref (a 7), .int (X 0 10), .int (X 0 11), .int (X 0 12), .int (X 0 13), .int (X 0 14), .int (X 0 15), .int (X 0 16), .int (X 0 17), .int (X 0 18), .ref (a 8), .ref (a 9), .ref (a 10), .ref (a 11), .ref (a 12), .ref (a 13), .int (X 0 25)])), ((a 1), .inl (nz_cI g, 8, .inl (X 1))), ((a 2), .inl (nz_cI g, 8, .inl (X 2))), ((a 3), .inl (nz_cI g, 320, .inl (X 3))), ((a 4), .inl (nz_cI g, 94, .inl (X 4))), ((a 5), .inl (nz_cI g, 94, .inl (X 5))), ((a 6), .inl (nz_cI g, 168, .inl (X 6))), ((a 7), .inl (nz_cI g, 400, .inl (X 7))), ((a 8), .inl (nz_cI g, 6, .inl (X 8))), ((a 9), .inl (nz_cI g, 49, .inl (X 9))), ((a 10), .inl (nz_cI g, 6, .inl (X 10))), ((a 11), .inl (nz_cZ g, 2, .inl c11_c)), ((a 12), .inl (nz_cI g, 188, .inl (upd c12_c ((94 * v1) + x2).toNatClampNeg ((X 4) x2.toNatClampNeg)))), ((a 13), .inl (nz_cI g, 16, .inl (X 13)))]) F 12 rfl i8 dX8_image_52 rfl ?_
      refine nz_iinc (v := (x2 + 1)) (j := 2) (lv' := [(2, .int (x2 + 1)), (0, .ref (a 0)), (1, .int v1)]) F dX8_image_53 rfl rfl (by decide) rfl ?_
      refine nz_goto (tgt := 30) F dX8_image_56 (by decide) ?_
      refine nz_ls (lv' := [(0, .ref (a 0)), (1, .int v1), (2, .int (x2 + 1))]) [1, 2, 0] rfl ?_
      exact hR30 (x2 + 1) (upd c12_c ((94 * v1) + x2).toNatClampNeg ((X 4) x2.toNatClampNeg)) h
def wp_X8_image (X : Nat → Nat → Int32) (v1 : Int32) (K : Int32 → (Nat → Nat → Int32) → Prop) : Prop := wp_X8_in ((v1 : Int32).toInt64) 0 1 (fun q1 => ((¬ q1 = 0 → wp_X8_isThere (X 4) (fun q3 => ((¬ q3 = 0 → (∃ n, nz_it (fun _ _ => False) (S_X8_image_30 X v1 0 (X 11) K) n 0 (X 12))) ∧ (q3 = 0 → K (-1000002 : Int32) (va_up X 0 (upd (X 0) 0 0)))))) ∧ (q1 = 0 → K (-1000001 : Int32) (va_up X 0 (upd (X 0) 0 0)))))
set_option maxHeartbeats 4000000 in
set_option maxRecDepth 100000 in
theorem c_X8_image (l : Launch) (g : nz_G) (a : Nat → Nat) (X : Nat → Nat → Int32) (v1 : Int32) (K : Int32 → (Nat → Nat → Int32) → Prop) (h : wp_X8_image X v1 K) : nz_M l yX8_image wsX8_image rm_X8_image g [.ref (a 0), .int v1] (nz_wM g a X) (nz_Qi g (nz_wM g a X) (fun r (u : Nat → Nat → Int32) => K r u) (fun u => nz_wM g a u)) := by
  refine nz_M.of (bytes := cX8_image) (nL := 3) (ret := (some .int)) (own := RX8) (by decide) rfl rfl ⟨rfl, rfl⟩ rfl ?_
  intro y F hl hQ
  obtain ⟨sz, hQ⟩ := hQ
  refine nz_ent (lv' := [(0, .ref (a 0)), (1, .int v1)]) rfl ?_
  unfold wp_X8_image at h
  refine nz_aload_n F dX8_image_0 rfl 0 rfl ?_
  refine nz_iconst (v := 0) F dX8_image_1 (by decide) ?_
  refine nz_put (ws' := [((a 0), .inr (8, [.int 0, .int (X 0 1), .ref (a 1), .ref (a 2), .ref (a 3), .ref (a 4), .ref (a 5), .ref (a 6), .int (X 0 8), .ref (a 7), .int (X 0 10), .int (X 0 11), .int (X 0 12), .int (X 0 13), .int (X 0 14), .int (X 0 15), .int (X 0 16), .int (X 0 17), .int (X 0 18), .ref (a 8), .ref (a 9), .ref (a 10), .ref (a 11), .ref (a 12), .ref (a 13), .int (X 0 25)])), ((a 1), .inl (nz_cI g, 8, .inl (X 1))), ((a 2), .inl (nz_cI g, 8, .inl (X 2))), ((a 3), .inl (nz_cI g, 320, .inl (X 3))), ((a 4), .inl (nz_cI g, 94, .inl (X 4))), ((a 5), .inl (nz_cI g, 94, .inl (X 5))), ((a 6), .inl (nz_cI g, 168, .inl (X 6))), ((a 7), .inl (nz_cI g, 400, .inl (X 7))), ((a 8), .inl (nz_cI g, 6, .inl (X 8))), ((a 9), .inl (nz_cI g, 49, .inl (X 9))), ((a 10), .inl (nz_cI g, 6, .inl (X 10))), ((a 11), .inl (nz_cZ g, 2, .inl (X 11))), ((a 12), .inl (nz_cI g, 188, .inl (X 12))), ((a 13), .inl (nz_cI g, 16, .inl (X 13)))]) F iw_X8_image_8 tyX8 tyX8_ok nmX8 0 rfl rfl 0 (by decide) rfl fl_X8_image_50 rfl rfl (Nat.le_of_ble_eq_true rfl) dX8_image_2 rfl ?_
  refine nz_iload_n F dX8_image_5 rfl 1 rfl ?_
  refine nz_i2l (v := ((v1 : Int32).toInt64)) F dX8_image_6 rfl ?_
  refine nz_lconst (v := 0) F dX8_image_7 (by decide) ?_
  refine nz_lconst (v := 1) F dX8_image_8 (by decide) ?_
  refine k_X8_in ((v1 : Int32).toInt64) 0 1 (fun hM => nz_runS F gX8_image_X8_in rfl hd_X8_in.2 rfl hM dX8_image_9 [] rfl rfl rfl (Nat.le_of_ble_eq_true rfl) rfl) h ([((a 0), .inr (8, [.int 0, .int (X 0 1), .ref (a 1), .ref (a 2), .ref (a 3), .ref (a 4), .ref (a 5), .ref (a 6), .int (X 0 8), .ref (a 7), .int (X 0 10), .int (X 0 11), .int (X 0 12), .int (X 0 13), .int (X 0 14), .int (X 0 15), .int (X 0 16), .int (X 0 17), .int (X 0 18), .ref (a 8), .ref (a 9), .ref (a 10), .ref (a 11), .ref (a 12), .ref (a 13), .int (X 0 25)])), ((a 1), .inl (nz_cI g, 8, .inl (X 1))), ((a 2), .inl (nz_cI g, 8, .inl (X 2))), ((a 3), .inl (nz_cI g, 320, .inl (X 3))), ((a 4), .inl (nz_cI g, 94, .inl (X 4))), ((a 5), .inl (nz_cI g, 94, .inl (X 5))), ((a 6), .inl (nz_cI g, 168, .inl (X 6))), ((a 7), .inl (nz_cI g, 400, .inl (X 7))), ((a 8), .inl (nz_cI g, 6, .inl (X 8))), ((a 9), .inl (nz_cI g, 49, .inl (X 9))), ((a 10), .inl (nz_cI g, 6, .inl (X 10))), ((a 11), .inl (nz_cZ g, 2, .inl (X 11))), ((a 12), .inl (nz_cI g, 188, .inl (X 12))), ((a 13), .inl (nz_cI g, 16, .inl (X 13)))]) (rfl) (fun q1 h => ?_)
  refine nz_if_ne (tgt := 18) F dX8_image_12 (by decide) (fun c2 => ?_) (fun c2 => ?_)
  · have h := h.1 c2
    refine nz_aload_n F dX8_image_18 rfl 0 rfl ?_
    refine k_X8_isThere (a 0) (a 1) (a 2) (a 3) (a 4) (a 5) (a 6) (a 7) (a 8) (a 9) (a 10) (a 11) (a 12) (a 13) 0 (X 0 1) (X 0 8) (X 0 10) (X 0 11) (X 0 12) (X 0 13) (X 0 14) (X 0 15) (X 0 16) (X 0 17) (X 0 18) (X 0 25) (X 1) (X 2) (X 3) (X 4) (X 5) (X 6) (X 7) (X 8) (X 9) (X 10) (X 11) (X 12) (X 13) (fun hM => nz_runV F gX8_image_X8_isThere rfl hd_X8_isThere rfl hM dX8_image_19 [0, 1, 2, 3, 4, 5, 6, 7, 8, 9, 10, 11, 12, 13] rfl rfl 0 rfl rfl rfl (Nat.le_of_ble_eq_true rfl) rfl) h ([((a 0), .inr (8, [.int 0, .int (X 0 1), .ref (a 1), .ref (a 2), .ref (a 3), .ref (a 4), .ref (a 5), .ref (a 6), .int (X 0 8), .ref (a 7), .int (X 0 10), .int (X 0 11), .int (X 0 12), .int (X 0 13), .int (X 0 14), .int (X 0 15), .int (X 0 16), .int (X 0 17), .int (X 0 18), .ref (a 8), .ref (a 9), .ref (a 10), .ref (a 11), .ref (a 12), .ref (a 13), .int (X 0 25)])), ((a 1), .inl (nz_cI g, 8, .inl (X 1))), ((a 2), .inl (nz_cI g, 8, .inl (X 2))), ((a 3), .inl (nz_cI g, 320, .inl (X 3))), ((a 4), .inl (nz_cI g, 94, .inl (X 4))), ((a 5), .inl (nz_cI g, 94, .inl (X 5))), ((a 6), .inl (nz_cI g, 168, .inl (X 6))), ((a 7), .inl (nz_cI g, 400, .inl (X 7))), ((a 8), .inl (nz_cI g, 6, .inl (X 8))), ((a 9), .inl (nz_cI g, 49, .inl (X 9))), ((a 10), .inl (nz_cI g, 6, .inl (X 10))), ((a 11), .inl (nz_cZ g, 2, .inl (X 11))), ((a 12), .inl (nz_cI g, 188, .inl (X 12))), ((a 13), .inl (nz_cI g, 16, .inl (X 13)))]) (rfl) (fun q3 h => ?_)
    refine nz_if_ne (tgt := 28) F dX8_image_22 (by decide) (fun c4 => ?_) (fun c4 => ?_)
    · have h := h.1 c4
      refine nz_iconst (v := 0) F dX8_image_28 (by decide) ?_
      refine nz_istore_n (lv' := [(2, .int 0), (0, .ref (a 0)), (1, .int v1)]) F dX8_image_29 rfl (by decide) rfl ?_
      refine nz_ls (lv' := [(0, .ref (a 0)), (1, .int v1), (2, .int 0)]) [1, 2, 0] rfl ?_
      obtain ⟨n1, h⟩ := h
      exact t_X8_image_30 F a X v1 0 (X 11) hQ n1 0 (X 12) h
    · have h := h.2 c4
      refine nz_ldc (v := (-1000002 : Int32)) F wd_X8_image_c196 dX8_image_25 ?_
      exact nz_iret F hQ (va_up X 0 (upd (X 0) 0 0)) h rfl dX8_image_27
  · have h := h.2 c2
    refine nz_ldc (v := (-1000001 : Int32)) F wd_X8_image_c70 dX8_image_15 ?_
    exact nz_iret F hQ (va_up X 0 (upd (X 0) 0 0)) h rfl dX8_image_17
theorem k_X8_image {y : nz_Y} {g : nz_G} {k n : Nat} {ws : va_W} {pc : Nat} {ls : List (Nat × Value)} {st rest : List Value} {av : Array Value} {isC : List Nat} {K : Int32 → (Nat → Nat → Int32) → Prop} (a : Nat → Nat) (X : Nat → Nat → Int32) (v1 : Int32) (run : nz_M (yz_l y) yX8_image wsX8_image rm_X8_image g [.ref (a 0), .int v1] (nz_wM g a X) (nz_Qi g (nz_wM g a X) (fun r (u : Nat → Nat → Int32) => K r u) (fun u => nz_wM g a u)) → nz_C y g k n ws pc ls st rest (nz_wM g a X) (nz_Qi g (nz_wM g a X) (fun r (u : Nat → Nat → Int32) => K r u) (fun u => nz_wM g a u)) av isC) (h : wp_X8_image X v1 K) (ws' : (Nat → Nat → Int32) → va_W) (hm : ∀ (m0 : (Nat → Nat → Int32)), nz_mrg ws isC (nz_wM g a m0) = ws' m0) (kk : ∀ (r : Int32) (m0 : (Nat → Nat → Int32)), K r m0 → nz_V y g k n (ws' m0) (pc + 3) ls (.int r :: rest)) : nz_V y g k n ws pc ls st :=
  nz_ci (ws' := fun u => ws' u) (run (c_X8_image (yz_l y) g a X v1 K h)) (fun _ => rfl) (fun u => hm u) (fun r u h => kk r u h)
