theorem dX8_in_0 : decode cX8_in 0 = .ok (.lload_n 0, 1) := by decide +kernel
theorem dX8_in_1 : decode cX8_in 1 = .ok (.lload_n 2, 1) := by decide +kernel
theorem dX8_in_2 : decode cX8_in 2 = .ok (.lcmp, 1) := by decide +kernel
theorem dX8_in_3 : decode cX8_in 3 = .ok (.ifCond .lt 14, 3) := by decide +kernel
theorem dX8_in_6 : decode cX8_in 6 = .ok (.lload_n 0, 1) := by decide +kernel
theorem dX8_in_7 : decode cX8_in 7 = .ok (.lload 4, 2) := by decide +kernel
theorem dX8_in_9 : decode cX8_in 9 = .ok (.lcmp, 1) := by decide +kernel
theorem dX8_in_10 : decode cX8_in 10 = .ok (.ifCond .gt 7, 3) := by decide +kernel
theorem dX8_in_13 : decode cX8_in 13 = .ok (.iconst 1, 1) := by decide +kernel
theorem dX8_in_14 : decode cX8_in 14 = .ok (.goto 4, 3) := by decide +kernel
theorem dX8_in_17 : decode cX8_in 17 = .ok (.iconst 0, 1) := by decide +kernel
theorem dX8_in_18 : decode cX8_in 18 = .ok (.ireturn, 1) := by decide +kernel
/-! X8_in -/
abbrev rm_X8_in : Room := { frames := 0, cells := 0, slots := 0, locals := 0 }
def wp_X8_in (v0 : Int64) (v2 : Int64) (v4 : Int64) (K : Int32 → Prop) : Prop := (((lg_cmp v0 v2) < 0 → K 0) ∧ (¬ ((lg_cmp v0 v2) < 0) → ((0 < (lg_cmp v0 v4) → K 0) ∧ (¬ (0 < (lg_cmp v0 v4)) → K 1))))
set_option maxHeartbeats 4000000 in
set_option maxRecDepth 100000 in
theorem c_X8_in (l : Launch) (g : nz_G) (v0 : Int64) (v2 : Int64) (v4 : Int64) (K : Int32 → Prop) (h : wp_X8_in v0 v2 v4 K) : nz_M l yX8_in wsX8_in rm_X8_in g [.long v0, .long v2, .long v4] [] (nz_Qi g [] (fun r (u : Unit) => K r) (fun u => [])) := by
  refine nz_M.of (bytes := cX8_in) (nL := 6) (ret := (some .boolean)) (own := RX8) (by decide) rfl rfl ⟨rfl, rfl⟩ rfl ?_
  intro y F hl hQ
  obtain ⟨sz, hQ⟩ := hQ
  refine nz_ent (lv' := [(0, .long v0), (2, .long v2), (4, .long v4)]) rfl ?_
  unfold wp_X8_in at h
  refine nz_lload_n F dX8_in_0 rfl 0 rfl ?_
  refine nz_lload_n F dX8_in_1 rfl 1 rfl ?_
  refine nz_lcmp F dX8_in_2 ?_
  refine nz_if_lt (tgt := 17) F dX8_in_3 (by decide) (fun c1 => ?_) (fun c1 => ?_)
  · have h := h.1 c1
    refine nz_iconst (v := 0) F dX8_in_17 (by decide) ?_
    exact nz_zret F hQ () h rfl (by decide) dX8_in_18
  · have h := h.2 c1
    refine nz_lload_n F dX8_in_6 rfl 0 rfl ?_
    refine nz_lload F dX8_in_7 2 rfl ?_
    refine nz_lcmp F dX8_in_9 ?_
    refine nz_if_gt (tgt := 17) F dX8_in_10 (by decide) (fun c2 => ?_) (fun c2 => ?_)
    · have h := h.1 c2
      refine nz_iconst (v := 0) F dX8_in_17 (by decide) ?_
      exact nz_zret F hQ () h rfl (by decide) dX8_in_18
    · have h := h.2 c2
      refine nz_iconst (v := 1) F dX8_in_13 (by decide) ?_
      refine nz_goto (tgt := 18) F dX8_in_14 (by decide) ?_
      exact nz_zret F hQ () h rfl (by decide) dX8_in_18
theorem k_X8_in {y : nz_Y} {g : nz_G} {k n : Nat} {ws : va_W} {pc : Nat} {ls : List (Nat × Value)} {st rest : List Value} {av : Array Value} {isC : List Nat} {K : Int32 → Prop} (v0 : Int64) (v2 : Int64) (v4 : Int64) (run : nz_M (yz_l y) yX8_in wsX8_in rm_X8_in g [.long v0, .long v2, .long v4] [] (nz_Qi g [] (fun r (u : Unit) => K r) (fun u => [])) → nz_C y g k n ws pc ls st rest [] (nz_Qi g [] (fun r (u : Unit) => K r) (fun u => [])) av isC) (h : wp_X8_in v0 v2 v4 K) (ws' : va_W) (hm : nz_mrg ws isC [] = ws' ) (kk : ∀ (r : Int32), K r → nz_V y g k n ws' (pc + 3) ls (.int r :: rest)) : nz_V y g k n ws pc ls st :=
  nz_ci (ws' := fun _ => ws') (run (c_X8_in (yz_l y) g v0 v2 v4 K h)) (fun _ => rfl) (fun _ => hm) (fun r u h => kk r h)
theorem dX8_finding_0 : decode cX8_finding 0 = .ok (.aload_n 0, 1) := by decide +kernel
theorem dX8_finding_1 : decode cX8_finding 1 = .ok (.iload_n 1, 1) := by decide +kernel
theorem dX8_finding_2 : decode cX8_finding 2 = .ok (.putfield 54, 3) := by decide +kernel
theorem dX8_finding_5 : decode cX8_finding 5 = .ok (.ldc 57, 2) := by decide +kernel
theorem dX8_finding_7 : decode cX8_finding 7 = .ok (.iload_n 1, 1) := by decide +kernel
theorem dX8_finding_8 : decode cX8_finding 8 = .ok (.isub, 1) := by decide +kernel
theorem dX8_finding_9 : decode cX8_finding 9 = .ok (.ireturn, 1) := by decide +kernel
/-! X8_finding -/
abbrev rm_X8_finding : Room := { frames := 0, cells := 0, slots := 0, locals := 0 }
theorem iw_X8_finding_8 : ∀ w ∈ wsX80, w ∈ wsX8_finding := fun _ h => List.mem_cons_of_mem _ (List.mem_append_right _ h)
theorem fl_X8_finding_54 : Cond.fieldLink RX8 54 "NightStonesModel" "status" "I" ∈ wsX8_finding := List.mem_of_getElem? (i := 1) rfl
theorem wd_X8_finding_c57 : Cond.constant RX8 57 (-1000010) ∈ wsX8_finding := List.mem_of_getElem? (i := 2) rfl
def wp_X8_finding (v1 : Int32) (K : Int32 → Int32 → Prop) : Prop := K ((-1000010 : Int32) - v1) v1
set_option maxHeartbeats 4000000 in
set_option maxRecDepth 100000 in
theorem c_X8_finding (l : Launch) (g : nz_G) (o : Nat) (a2 : Nat) (a3 : Nat) (a4 : Nat) (a5 : Nat) (a6 : Nat) (a7 : Nat) (a9 : Nat) (a19 : Nat) (a20 : Nat) (a21 : Nat) (a22 : Nat) (a23 : Nat) (a24 : Nat) (r0 : Int32) (r1 : Int32) (r8 : Int32) (r10 : Int32) (r11 : Int32) (r12 : Int32) (r13 : Int32) (r14 : Int32) (r15 : Int32) (r16 : Int32) (r17 : Int32) (r18 : Int32) (r25 : Int32) (f2 : Nat → Int32) (f3 : Nat → Int32) (f4 : Nat → Int32) (f5 : Nat → Int32) (f6 : Nat → Int32) (f7 : Nat → Int32) (f9 : Nat → Int32) (f19 : Nat → Int32) (f20 : Nat → Int32) (f21 : Nat → Int32) (f22 : Nat → Int32) (f23 : Nat → Int32) (f24 : Nat → Int32) (v1 : Int32) (K : Int32 → Int32 → Prop) (h : wp_X8_finding v1 K) : nz_M l yX8_finding wsX8_finding rm_X8_finding g [.ref o, .int v1] [(o, .inr (8, [.int r0, .int r1, .ref a2, .ref a3, .ref a4, .ref a5, .ref a6, .ref a7, .int r8, .ref a9, .int r10, .int r11, .int r12, .int r13, .int r14, .int r15, .int r16, .int r17, .int r18, .ref a19, .ref a20, .ref a21, .ref a22, .ref a23, .ref a24, .int r25])), (a2, .inl (nz_cI g, 8, .inl f2)), (a3, .inl (nz_cI g, 8, .inl f3)), (a4, .inl (nz_cI g, 320, .inl f4)), (a5, .inl (nz_cI g, 94, .inl f5)), (a6, .inl (nz_cI g, 94, .inl f6)), (a7, .inl (nz_cI g, 168, .inl f7)), (a9, .inl (nz_cI g, 400, .inl f9)), (a19, .inl (nz_cI g, 6, .inl f19)), (a20, .inl (nz_cI g, 49, .inl f20)), (a21, .inl (nz_cI g, 6, .inl f21)), (a22, .inl (nz_cZ g, 2, .inl f22)), (a23, .inl (nz_cI g, 188, .inl f23)), (a24, .inl (nz_cI g, 16, .inl f24))] (nz_Qi g [(o, .inr (8, [.int r0, .int r1, .ref a2, .ref a3, .ref a4, .ref a5, .ref a6, .ref a7, .int r8, .ref a9, .int r10, .int r11, .int r12, .int r13, .int r14, .int r15, .int r16, .int r17, .int r18, .ref a19, .ref a20, .ref a21, .ref a22, .ref a23, .ref a24, .int r25])), (a2, .inl (nz_cI g, 8, .inl f2)), (a3, .inl (nz_cI g, 8, .inl f3)), (a4, .inl (nz_cI g, 320, .inl f4)), (a5, .inl (nz_cI g, 94, .inl f5)), (a6, .inl (nz_cI g, 94, .inl f6)), (a7, .inl (nz_cI g, 168, .inl f7)), (a9, .inl (nz_cI g, 400, .inl f9)), (a19, .inl (nz_cI g, 6, .inl f19)), (a20, .inl (nz_cI g, 49, .inl f20)), (a21, .inl (nz_cI g, 6, .inl f21)), (a22, .inl (nz_cZ g, 2, .inl f22)), (a23, .inl (nz_cI g, 188, .inl f23)), (a24, .inl (nz_cI g, 16, .inl f24))] (fun r (u : Int32) => K r u) (fun u => [(o, .inr (8, [.int r0, .int u, .ref a2, .ref a3, .ref a4, .ref a5, .ref a6, .ref a7, .int r8, .ref a9, .int r10, .int r11, .int r12, .int r13, .int r14, .int r15, .int r16, .int r17, .int r18, .ref a19, .ref a20, .ref a21, .ref a22, .ref a23, .ref a24, .int r25])), (a2, .inl (nz_cI g, 8, .inl f2)), (a3, .inl (nz_cI g, 8, .inl f3)), (a4, .inl (nz_cI g, 320, .inl f4)), (a5, .inl (nz_cI g, 94, .inl f5)), (a6, .inl (nz_cI g, 94, .inl f6)), (a7, .inl (nz_cI g, 168, .inl f7)), (a9, .inl (nz_cI g, 400, .inl f9)), (a19, .inl (nz_cI g, 6, .inl f19)), (a20, .inl (nz_cI g, 49, .inl f20)), (a21, .inl (nz_cI g, 6, .inl f21)), (a22, .inl (nz_cZ g, 2, .inl f22)), (a23, .inl (nz_cI g, 188, .inl f23)), (a24, .inl (nz_cI g, 16, .inl f24))])) := by
  refine nz_M.of (bytes := cX8_finding) (nL := 2) (ret := (some .int)) (own := RX8) (by decide) rfl rfl ⟨rfl, rfl⟩ rfl ?_
  intro y F hl hQ
  obtain ⟨sz, hQ⟩ := hQ
  refine nz_ent (lv' := [(0, .ref o), (1, .int v1)]) rfl ?_
  unfold wp_X8_finding at h
  refine nz_aload_n F dX8_finding_0 rfl 0 rfl ?_
  refine nz_iload_n F dX8_finding_1 rfl 1 rfl ?_
  refine nz_put (ws' := [(o, .inr (8, [.int r0, .int v1, .ref a2, .ref a3, .ref a4, .ref a5, .ref a6, .ref a7, .int r8, .ref a9, .int r10, .int r11, .int r12, .int r13, .int r14, .int r15, .int r16, .int r17, .int r18, .ref a19, .ref a20, .ref a21, .ref a22, .ref a23, .ref a24, .int r25])), (a2, .inl (nz_cI g, 8, .inl f2)), (a3, .inl (nz_cI g, 8, .inl f3)), (a4, .inl (nz_cI g, 320, .inl f4)), (a5, .inl (nz_cI g, 94, .inl f5)), (a6, .inl (nz_cI g, 94, .inl f6)), (a7, .inl (nz_cI g, 168, .inl f7)), (a9, .inl (nz_cI g, 400, .inl f9)), (a19, .inl (nz_cI g, 6, .inl f19)), (a20, .inl (nz_cI g, 49, .inl f20)), (a21, .inl (nz_cI g, 6, .inl f21)), (a22, .inl (nz_cZ g, 2, .inl f22)), (a23, .inl (nz_cI g, 188, .inl f23)), (a24, .inl (nz_cI g, 16, .inl f24))]) F iw_X8_finding_8 tyX8 tyX8_ok nmX8 0 rfl rfl 1 (by decide) rfl fl_X8_finding_54 rfl rfl (Nat.le_of_ble_eq_true rfl) dX8_finding_2 rfl ?_
  refine nz_ldc (v := (-1000010 : Int32)) F wd_X8_finding_c57 dX8_finding_5 ?_
  refine nz_iload_n F dX8_finding_7 rfl 1 rfl ?_
  refine nz_isub F dX8_finding_8 ?_
  exact nz_iret F hQ v1 h rfl dX8_finding_9
theorem k_X8_finding {y : nz_Y} {g : nz_G} {k n : Nat} {ws : va_W} {pc : Nat} {ls : List (Nat × Value)} {st rest : List Value} {av : Array Value} {isC : List Nat} {K : Int32 → Int32 → Prop} (o : Nat) (a2 : Nat) (a3 : Nat) (a4 : Nat) (a5 : Nat) (a6 : Nat) (a7 : Nat) (a9 : Nat) (a19 : Nat) (a20 : Nat) (a21 : Nat) (a22 : Nat) (a23 : Nat) (a24 : Nat) (r0 : Int32) (r1 : Int32) (r8 : Int32) (r10 : Int32) (r11 : Int32) (r12 : Int32) (r13 : Int32) (r14 : Int32) (r15 : Int32) (r16 : Int32) (r17 : Int32) (r18 : Int32) (r25 : Int32) (f2 : Nat → Int32) (f3 : Nat → Int32) (f4 : Nat → Int32) (f5 : Nat → Int32) (f6 : Nat → Int32) (f7 : Nat → Int32) (f9 : Nat → Int32) (f19 : Nat → Int32) (f20 : Nat → Int32) (f21 : Nat → Int32) (f22 : Nat → Int32) (f23 : Nat → Int32) (f24 : Nat → Int32) (v1 : Int32) (run : nz_M (yz_l y) yX8_finding wsX8_finding rm_X8_finding g [.ref o, .int v1] [(o, .inr (8, [.int r0, .int r1, .ref a2, .ref a3, .ref a4, .ref a5, .ref a6, .ref a7, .int r8, .ref a9, .int r10, .int r11, .int r12, .int r13, .int r14, .int r15, .int r16, .int r17, .int r18, .ref a19, .ref a20, .ref a21, .ref a22, .ref a23, .ref a24, .int r25])), (a2, .inl (nz_cI g, 8, .inl f2)), (a3, .inl (nz_cI g, 8, .inl f3)), (a4, .inl (nz_cI g, 320, .inl f4)), (a5, .inl (nz_cI g, 94, .inl f5)), (a6, .inl (nz_cI g, 94, .inl f6)), (a7, .inl (nz_cI g, 168, .inl f7)), (a9, .inl (nz_cI g, 400, .inl f9)), (a19, .inl (nz_cI g, 6, .inl f19)), (a20, .inl (nz_cI g, 49, .inl f20)), (a21, .inl (nz_cI g, 6, .inl f21)), (a22, .inl (nz_cZ g, 2, .inl f22)), (a23, .inl (nz_cI g, 188, .inl f23)), (a24, .inl (nz_cI g, 16, .inl f24))] (nz_Qi g [(o, .inr (8, [.int r0, .int r1, .ref a2, .ref a3, .ref a4, .ref a5, .ref a6, .ref a7, .int r8, .ref a9, .int r10, .int r11, .int r12, .int r13, .int r14, .int r15, .int r16, .int r17, .int r18, .ref a19, .ref a20, .ref a21, .ref a22, .ref a23, .ref a24, .int r25])), (a2, .inl (nz_cI g, 8, .inl f2)), (a3, .inl (nz_cI g, 8, .inl f3)), (a4, .inl (nz_cI g, 320, .inl f4)), (a5, .inl (nz_cI g, 94, .inl f5)), (a6, .inl (nz_cI g, 94, .inl f6)), (a7, .inl (nz_cI g, 168, .inl f7)), (a9, .inl (nz_cI g, 400, .inl f9)), (a19, .inl (nz_cI g, 6, .inl f19)), (a20, .inl (nz_cI g, 49, .inl f20)), (a21, .inl (nz_cI g, 6, .inl f21)), (a22, .inl (nz_cZ g, 2, .inl f22)), (a23, .inl (nz_cI g, 188, .inl f23)), (a24, .inl (nz_cI g, 16, .inl f24))] (fun r (u : Int32) => K r u) (fun u => [(o, .inr (8, [.int r0, .int u, .ref a2, .ref a3, .ref a4, .ref a5, .ref a6, .ref a7, .int r8, .ref a9, .int r10, .int r11, .int r12, .int r13, .int r14, .int r15, .int r16, .int r17, .int r18, .ref a19, .ref a20, .ref a21, .ref a22, .ref a23, .ref a24, .int r25])), (a2, .inl (nz_cI g, 8, .inl f2)), (a3, .inl (nz_cI g, 8, .inl f3)), (a4, .inl (nz_cI g, 320, .inl f4)), (a5, .inl (nz_cI g, 94, .inl f5)), (a6, .inl (nz_cI g, 94, .inl f6)), (a7, .inl (nz_cI g, 168, .inl f7)), (a9, .inl (nz_cI g, 400, .inl f9)), (a19, .inl (nz_cI g, 6, .inl f19)), (a20, .inl (nz_cI g, 49, .inl f20)), (a21, .inl (nz_cI g, 6, .inl f21)), (a22, .inl (nz_cZ g, 2, .inl f22)), (a23, .inl (nz_cI g, 188, .inl f23)), (a24, .inl (nz_cI g, 16, .inl f24))])) → nz_C y g k n ws pc ls st rest [(o, .inr (8, [.int r0, .int r1, .ref a2, .ref a3, .ref a4, .ref a5, .ref a6, .ref a7, .int r8, .ref a9, .int r10, .int r11, .int r12, .int r13, .int r14, .int r15, .int r16, .int r17, .int r18, .ref a19, .ref a20, .ref a21, .ref a22, .ref a23, .ref a24, .int r25])), (a2, .inl (nz_cI g, 8, .inl f2)), (a3, .inl (nz_cI g, 8, .inl f3)), (a4, .inl (nz_cI g, 320, .inl f4)), (a5, .inl (nz_cI g, 94, .inl f5)), (a6, .inl (nz_cI g, 94, .inl f6)), (a7, .inl (nz_cI g, 168, .inl f7)), (a9, .inl (nz_cI g, 400, .inl f9)), (a19, .inl (nz_cI g, 6, .inl f19)), (a20, .inl (nz_cI g, 49, .inl f20)), (a21, .inl (nz_cI g, 6, .inl f21)), (a22, .inl (nz_cZ g, 2, .inl f22)), (a23, .inl (nz_cI g, 188, .inl f23)), (a24, .inl (nz_cI g, 16, .inl f24))] (nz_Qi g [(o, .inr (8, [.int r0, .int r1, .ref a2, .ref a3, .ref a4, .ref a5, .ref a6, .ref a7, .int r8, .ref a9, .int r10, .int r11, .int r12, .int r13, .int r14, .int r15, .int r16, .int r17, .int r18, .ref a19, .ref a20, .ref a21, .ref a22, .ref a23, .ref a24, .int r25])), (a2, .inl (nz_cI g, 8, .inl f2)), (a3, .inl (nz_cI g, 8, .inl f3)), (a4, .inl (nz_cI g, 320, .inl f4)), (a5, .inl (nz_cI g, 94, .inl f5)), (a6, .inl (nz_cI g, 94, .inl f6)), (a7, .inl (nz_cI g, 168, .inl f7)), (a9, .inl (nz_cI g, 400, .inl f9)), (a19, .inl (nz_cI g, 6, .inl f19)), (a20, .inl (nz_cI g, 49, .inl f20)), (a21, .inl (nz_cI g, 6, .inl f21)), (a22, .inl (nz_cZ g, 2, .inl f22)), (a23, .inl (nz_cI g, 188, .inl f23)), (a24, .inl (nz_cI g, 16, .inl f24))] (fun r (u : Int32) => K r u) (fun u => [(o, .inr (8, [.int r0, .int u, .ref a2, .ref a3, .ref a4, .ref a5, .ref a6, .ref a7, .int r8, .ref a9, .int r10, .int r11, .int r12, .int r13, .int r14, .int r15, .int r16, .int r17, .int r18, .ref a19, .ref a20, .ref a21, .ref a22, .ref a23, .ref a24, .int r25])), (a2, .inl (nz_cI g, 8, .inl f2)), (a3, .inl (nz_cI g, 8, .inl f3)), (a4, .inl (nz_cI g, 320, .inl f4)), (a5, .inl (nz_cI g, 94, .inl f5)), (a6, .inl (nz_cI g, 94, .inl f6)), (a7, .inl (nz_cI g, 168, .inl f7)), (a9, .inl (nz_cI g, 400, .inl f9)), (a19, .inl (nz_cI g, 6, .inl f19)), (a20, .inl (nz_cI g, 49, .inl f20)), (a21, .inl (nz_cI g, 6, .inl f21)), (a22, .inl (nz_cZ g, 2, .inl f22)), (a23, .inl (nz_cI g, 188, .inl f23)), (a24, .inl (nz_cI g, 16, .inl f24))])) av isC) (h : wp_X8_finding v1 K) (ws' : Int32 → va_W) (hm : ∀ (m0 : Int32), nz_mrg ws isC [(o, .inr (8, [.int r0, .int m0, .ref a2, .ref a3, .ref a4, .ref a5, .ref a6, .ref a7, .int r8, .ref a9, .int r10, .int r11, .int r12, .int r13, .int r14, .int r15, .int r16, .int r17, .int r18, .ref a19, .ref a20, .ref a21, .ref a22, .ref a23, .ref a24, .int r25])), (a2, .inl (nz_cI g, 8, .inl f2)), (a3, .inl (nz_cI g, 8, .inl f3)), (a4, .inl (nz_cI g, 320, .inl f4)), (a5, .inl (nz_cI g, 94, .inl f5)), (a6, .inl (nz_cI g, 94, .inl f6)), (a7, .inl (nz_cI g, 168, .inl f7)), (a9, .inl (nz_cI g, 400, .inl f9)), (a19, .inl (nz_cI g, 6, .inl f19)), (a20, .inl (nz_cI g, 49, .inl f20)), (a21, .inl (nz_cI g, 6, .inl f21)), (a22, .inl (nz_cZ g, 2, .inl f22)), (a23, .inl (nz_cI g, 188, .inl f23)), (a24, .inl (nz_cI g, 16, .inl f24))] = ws' m0) (kk : ∀ (r : Int32) (m0 : Int32), K r m0 → nz_V y g k n (ws' m0) (pc + 3) ls (.int r :: rest)) : nz_V y g k n ws pc ls st :=
  nz_ci (ws' := fun u => ws' u) (run (c_X8_finding (yz_l y) g o a2 a3 a4 a5 a6 a7 a9 a19 a20 a21 a22 a23 a24 r0 r1 r8 r10 r11 r12 r13 r14 r15 r16 r17 r18 r25 f2 f3 f4 f5 f6 f7 f9 f19 f20 f21 f22 f23 f24 v1 K h)) (fun _ => rfl) (fun u => hm u) (fun r u h => kk r u h)
theorem dX8_isRow_0 : decode cX8_isRow 0 = .ok (.iload_n 0, 1) := by decide +kernel
theorem dX8_isRow_1 : decode cX8_isRow 1 = .ok (.i2l, 1) := by decide +kernel
theorem dX8_isRow_2 : decode cX8_isRow 2 = .ok (.lconst 0, 1) := by decide +kernel
theorem dX8_isRow_3 : decode cX8_isRow 3 = .ok (.ldc2_w 58, 3) := by decide +kernel
theorem dX8_isRow_6 : decode cX8_isRow 6 = .ok (.invokestatic 60, 3) := by decide +kernel
theorem dX8_isRow_9 : decode cX8_isRow 9 = .ok (.ireturn, 1) := by decide +kernel
set_option maxRecDepth 20000 in
theorem ggX8_isRow_X8_in : GoodIn wsX8_isRow wsX8_in := goodIn_r _ [5] rfl (by decide +kernel)
set_option maxRecDepth 20000 in
theorem gX8_isRow_X8_in : GoodIn wsX8_isRow (va_wsS RX8 60 yX8_in wsX8_in) := goodIn_app (goodIn_r _ [2, 3, 4] rfl (by decide +kernel)) ggX8_isRow_X8_in
theorem hd_X8_in : yX8_in.cls = RX8 ∧ yX8_in.cls ≠ "java/lang/invoke/MethodHandle" ∧ yX8_in.cls ≠ "java/lang/invoke/VarHandle" ∧ (parseMethodDescriptor yX8_in.desc).map (fun d => d.parameters.length) = some 3 := by decide +kernel
/-! X8_isRow -/
abbrev rm_X8_isRow : Room := { frames := 1, cells := 0, slots := 0, locals := 25 }
theorem wd_X8_isRow_c58 : Cond.constantLong RX8 58 (7) ∈ wsX8_isRow := List.mem_of_getElem? (i := 1) rfl
def wp_X8_isRow (v0 : Int32) (K : Int32 → Prop) : Prop := wp_X8_in ((v0 : Int32).toInt64) 0 7 (fun q1 => (fits .boolean (.int q1) = true ∧ K q1))
set_option maxHeartbeats 4000000 in
set_option maxRecDepth 100000 in
theorem c_X8_isRow (l : Launch) (g : nz_G) (v0 : Int32) (K : Int32 → Prop) (h : wp_X8_isRow v0 K) : nz_M l yX8_isRow wsX8_isRow rm_X8_isRow g [.int v0] [] (nz_Qi g [] (fun r (u : Unit) => K r) (fun u => [])) := by
  refine nz_M.of (bytes := cX8_isRow) (nL := 1) (ret := (some .boolean)) (own := RX8) (by decide) rfl rfl ⟨rfl, rfl⟩ rfl ?_
  intro y F hl hQ
  obtain ⟨sz, hQ⟩ := hQ
  refine nz_ent (lv' := [(0, .int v0)]) rfl ?_
  unfold wp_X8_isRow at h
  refine nz_iload_n F dX8_isRow_0 rfl 0 rfl ?_
  refine nz_i2l (v := ((v0 : Int32).toInt64)) F dX8_isRow_1 rfl ?_
  refine nz_lconst (v := 0) F dX8_isRow_2 (by decide) ?_
  refine nz_ldc2 (v := 7) F wd_X8_isRow_c58 dX8_isRow_3 ?_
  refine k_X8_in ((v0 : Int32).toInt64) 0 7 (fun hM => nz_runS F gX8_isRow_X8_in rfl hd_X8_in.2 rfl hM dX8_isRow_6 [] rfl rfl rfl (Nat.le_of_ble_eq_true rfl) rfl) h ([]) (rfl) (fun q1 h => ?_)
  obtain ⟨b2, h⟩ := h
  exact nz_zret F hQ () h rfl (nz_nar b2) dX8_isRow_9
theorem k_X8_isRow {y : nz_Y} {g : nz_G} {k n : Nat} {ws : va_W} {pc : Nat} {ls : List (Nat × Value)} {st rest : List Value} {av : Array Value} {isC : List Nat} {K : Int32 → Prop} (v0 : Int32) (run : nz_M (yz_l y) yX8_isRow wsX8_isRow rm_X8_isRow g [.int v0] [] (nz_Qi g [] (fun r (u : Unit) => K r) (fun u => [])) → nz_C y g k n ws pc ls st rest [] (nz_Qi g [] (fun r (u : Unit) => K r) (fun u => [])) av isC) (h : wp_X8_isRow v0 K) (ws' : va_W) (hm : nz_mrg ws isC [] = ws' ) (kk : ∀ (r : Int32), K r → nz_V y g k n ws' (pc + 3) ls (.int r :: rest)) : nz_V y g k n ws pc ls st :=
  nz_ci (ws' := fun _ => ws') (run (c_X8_isRow (yz_l y) g v0 K h)) (fun _ => rfl) (fun _ => hm) (fun r u h => kk r h)
theorem dX8_byteAt_0 : decode cX8_byteAt 0 = .ok (.iload_n 1, 1) := by decide +kernel
theorem dX8_byteAt_1 : decode cX8_byteAt 1 = .ok (.aload_n 0, 1) := by decide +kernel
theorem dX8_byteAt_2 : decode cX8_byteAt 2 = .ok (.getfield 83, 3) := by decide +kernel
theorem dX8_byteAt_5 : decode cX8_byteAt 5 = .ok (.if_icmp .ge 12, 3) := by decide +kernel
theorem dX8_byteAt_8 : decode cX8_byteAt 8 = .ok (.aload_n 0, 1) := by decide +kernel
theorem dX8_byteAt_9 : decode cX8_byteAt 9 = .ok (.getfield 28, 3) := by decide +kernel
theorem dX8_byteAt_12 : decode cX8_byteAt 12 = .ok (.iload_n 1, 1) := by decide +kernel
theorem dX8_byteAt_13 : decode cX8_byteAt 13 = .ok (.iaload, 1) := by decide +kernel
theorem dX8_byteAt_14 : decode cX8_byteAt 14 = .ok (.goto 5, 3) := by decide +kernel
theorem dX8_byteAt_17 : decode cX8_byteAt 17 = .ok (.ldc 86, 2) := by decide +kernel
theorem dX8_byteAt_19 : decode cX8_byteAt 19 = .ok (.ireturn, 1) := by decide +kernel
/-! X8_byteAt -/
abbrev rm_X8_byteAt : Room := { frames := 0, cells := 0, slots := 0, locals := 0 }
theorem iw_X8_byteAt_8 : ∀ w ∈ wsX80, w ∈ wsX8_byteAt := fun _ h => List.mem_cons_of_mem _ (List.mem_append_right _ h)
theorem fl_X8_byteAt_83 : Cond.fieldLink RX8 83 "NightStonesModel" "length" "I" ∈ wsX8_byteAt := List.mem_of_getElem? (i := 1) rfl
theorem wd_X8_byteAt_c86 : Cond.constant RX8 86 (-1000000) ∈ wsX8_byteAt := List.mem_of_getElem? (i := 3) rfl
theorem fl_X8_byteAt_28 : Cond.fieldLink RX8 28 "NightStonesModel" "tape" "[I" ∈ wsX8_byteAt := List.mem_of_getElem? (i := 2) rfl
def wp_X8_byteAt (r12 : Int32) (f9 : Nat → Int32) (v1 : Int32) (K : Int32 → Prop) : Prop := ((r12 ≤ v1 → K (-1000000 : Int32)) ∧ (¬ (r12 ≤ v1) → (vp_in v1 400 ∧ K (f9 v1.toNatClampNeg))))
set_option maxHeartbeats 4000000 in
set_option maxRecDepth 100000 in
theorem c_X8_byteAt (l : Launch) (g : nz_G) (o : Nat) (a2 : Nat) (a3 : Nat) (a4 : Nat) (a5 : Nat) (a6 : Nat) (a7 : Nat) (a9 : Nat) (a19 : Nat) (a20 : Nat) (a21 : Nat) (a22 : Nat) (a23 : Nat) (a24 : Nat) (r0 : Int32) (r1 : Int32) (r8 : Int32) (r10 : Int32) (r11 : Int32) (r12 : Int32) (r13 : Int32) (r14 : Int32) (r15 : Int32) (r16 : Int32) (r17 : Int32) (r18 : Int32) (r25 : Int32) (f2 : Nat → Int32) (f3 : Nat → Int32) (f4 : Nat → Int32) (f5 : Nat → Int32) (f6 : Nat → Int32) (f7 : Nat → Int32) (f9 : Nat → Int32) (f19 : Nat → Int32) (f20 : Nat → Int32) (f21 : Nat → Int32) (f22 : Nat → Int32) (f23 : Nat → Int32) (f24 : Nat → Int32) (v1 : Int32) (K : Int32 → Prop) (h : wp_X8_byteAt r12 f9 v1 K) : nz_M l yX8_byteAt wsX8_byteAt rm_X8_byteAt g [.ref o, .int v1] [(o, .inr (8, [.int r0, .int r1, .ref a2, .ref a3, .ref a4, .ref a5, .ref a6, .ref a7, .int r8, .ref a9, .int r10, .int r11, .int r12, .int r13, .int r14, .int r15, .int r16, .int r17, .int r18, .ref a19, .ref a20, .ref a21, .ref a22, .ref a23, .ref a24, .int r25])), (a2, .inl (nz_cI g, 8, .inl f2)), (a3, .inl (nz_cI g, 8, .inl f3)), (a4, .inl (nz_cI g, 320, .inl f4)), (a5, .inl (nz_cI g, 94, .inl f5)), (a6, .inl (nz_cI g, 94, .inl f6)), (a7, .inl (nz_cI g, 168, .inl f7)), (a9, .inl (nz_cI g, 400, .inl f9)), (a19, .inl (nz_cI g, 6, .inl f19)), (a20, .inl (nz_cI g, 49, .inl f20)), (a21, .inl (nz_cI g, 6, .inl f21)), (a22, .inl (nz_cZ g, 2, .inl f22)), (a23, .inl (nz_cI g, 188, .inl f23)), (a24, .inl (nz_cI g, 16, .inl f24))] (nz_Qi g [(o, .inr (8, [.int r0, .int r1, .ref a2, .ref a3, .ref a4, .ref a5, .ref a6, .ref a7, .int r8, .ref a9, .int r10, .int r11, .int r12, .int r13, .int r14, .int r15, .int r16, .int r17, .int r18, .ref a19, .ref a20, .ref a21, .ref a22, .ref a23, .ref a24, .int r25])), (a2, .inl (nz_cI g, 8, .inl f2)), (a3, .inl (nz_cI g, 8, .inl f3)), (a4, .inl (nz_cI g, 320, .inl f4)), (a5, .inl (nz_cI g, 94, .inl f5)), (a6, .inl (nz_cI g, 94, .inl f6)), (a7, .inl (nz_cI g, 168, .inl f7)), (a9, .inl (nz_cI g, 400, .inl f9)), (a19, .inl (nz_cI g, 6, .inl f19)), (a20, .inl (nz_cI g, 49, .inl f20)), (a21, .inl (nz_cI g, 6, .inl f21)), (a22, .inl (nz_cZ g, 2, .inl f22)), (a23, .inl (nz_cI g, 188, .inl f23)), (a24, .inl (nz_cI g, 16, .inl f24))] (fun r (u : Unit) => K r) (fun u => [(o, .inr (8, [.int r0, .int r1, .ref a2, .ref a3, .ref a4, .ref a5, .ref a6, .ref a7, .int r8, .ref a9, .int r10, .int r11, .int r12, .int r13, .int r14, .int r15, .int r16, .int r17, .int r18, .ref a19, .ref a20, .ref a21, .ref a22, .ref a23, .ref a24, .int r25])), (a2, .inl (nz_cI g, 8, .inl f2)), (a3, .inl (nz_cI g, 8, .inl f3)), (a4, .inl (nz_cI g, 320, .inl f4)), (a5, .inl (nz_cI g, 94, .inl f5)), (a6, .inl (nz_cI g, 94, .inl f6)), (a7, .inl (nz_cI g, 168, .inl f7)), (a9, .inl (nz_cI g, 400, .inl f9)), (a19, .inl (nz_cI g, 6, .inl f19)), (a20, .inl (nz_cI g, 49, .inl f20)), (a21, .inl (nz_cI g, 6, .inl f21)), (a22, .inl (nz_cZ g, 2, .inl f22)), (a23, .inl (nz_cI g, 188, .inl f23)), (a24, .inl (nz_cI g, 16, .inl f24))])) := by
  refine nz_M.of (bytes := cX8_byteAt) (nL := 2) (ret := (some .int)) (own := RX8) (by decide) rfl rfl ⟨rfl, rfl⟩ rfl ?_
  intro y F hl hQ
  obtain ⟨sz, hQ⟩ := hQ
  refine nz_ent (lv' := [(0, .ref o), (1, .int v1)]) rfl ?_
  unfold wp_X8_byteAt at h
  refine nz_iload_n F dX8_byteAt_0 rfl 1 rfl ?_
  refine nz_aload_n F dX8_byteAt_1 rfl 0 rfl ?_
  refine nz_get F iw_X8_byteAt_8 0 rfl rfl 12 (by decide) rfl fl_X8_byteAt_83 rfl dX8_byteAt_2 ?_
  refine nz_icmp_ge (tgt := 17) F dX8_byteAt_5 (by decide) (fun c1 => ?_) (fun c1 => ?_)
  · have h := h.1 c1
    refine nz_ldc (v := (-1000000 : Int32)) F wd_X8_byteAt_c86 dX8_byteAt_17 ?_
    exact nz_iret F hQ () h rfl dX8_byteAt_19
  · have h := h.2 c1
    refine nz_aload_n F dX8_byteAt_8 rfl 0 rfl ?_
    refine nz_get F iw_X8_byteAt_8 0 rfl rfl 9 (by decide) rfl fl_X8_byteAt_28 rfl dX8_byteAt_9 ?_
    refine nz_iload_n F dX8_byteAt_12 rfl 1 rfl ?_
    obtain ⟨i2, h⟩ := h
    refine nz_iald F 7 rfl i2 dX8_byteAt_13 ?_
    refine nz_goto (tgt := 19) F dX8_byteAt_14 (by decide) ?_
    exact nz_iret F hQ () h rfl dX8_byteAt_19
theorem k_X8_byteAt {y : nz_Y} {g : nz_G} {k n : Nat} {ws : va_W} {pc : Nat} {ls : List (Nat × Value)} {st rest : List Value} {av : Array Value} {isC : List Nat} {K : Int32 → Prop} (o : Nat) (a2 : Nat) (a3 : Nat) (a4 : Nat) (a5 : Nat) (a6 : Nat) (a7 : Nat) (a9 : Nat) (a19 : Nat) (a20 : Nat) (a21 : Nat) (a22 : Nat) (a23 : Nat) (a24 : Nat) (r0 : Int32) (r1 : Int32) (r8 : Int32) (r10 : Int32) (r11 : Int32) (r12 : Int32) (r13 : Int32) (r14 : Int32) (r15 : Int32) (r16 : Int32) (r17 : Int32) (r18 : Int32) (r25 : Int32) (f2 : Nat → Int32) (f3 : Nat → Int32) (f4 : Nat → Int32) (f5 : Nat → Int32) (f6 : Nat → Int32) (f7 : Nat → Int32) (f9 : Nat → Int32) (f19 : Nat → Int32) (f20 : Nat → Int32) (f21 : Nat → Int32) (f22 : Nat → Int32) (f23 : Nat → Int32) (f24 : Nat → Int32) (v1 : Int32) (run : nz_M (yz_l y) yX8_byteAt wsX8_byteAt rm_X8_byteAt g [.ref o, .int v1] [(o, .inr (8, [.int r0, .int r1, .ref a2, .ref a3, .ref a4, .ref a5, .ref a6, .ref a7, .int r8, .ref a9, .int r10, .int r11, .int r12, .int r13, .int r14, .int r15, .int r16, .int r17, .int r18, .ref a19, .ref a20, .ref a21, .ref a22, .ref a23, .ref a24, .int r25])), (a2, .inl (nz_cI g, 8, .inl f2)), (a3, .inl (nz_cI g, 8, .inl f3)), (a4, .inl (nz_cI g, 320, .inl f4)), (a5, .inl (nz_cI g, 94, .inl f5)), (a6, .inl (nz_cI g, 94, .inl f6)), (a7, .inl (nz_cI g, 168, .inl f7)), (a9, .inl (nz_cI g, 400, .inl f9)), (a19, .inl (nz_cI g, 6, .inl f19)), (a20, .inl (nz_cI g, 49, .inl f20)), (a21, .inl (nz_cI g, 6, .inl f21)), (a22, .inl (nz_cZ g, 2, .inl f22)), (a23, .inl (nz_cI g, 188, .inl f23)), (a24, .inl (nz_cI g, 16, .inl f24))] (nz_Qi g [(o, .inr (8, [.int r0, .int r1, .ref a2, .ref a3, .ref a4, .ref a5, .ref a6, .ref a7, .int r8, .ref a9, .int r10, .int r11, .int r12, .int r13, .int r14, .int r15, .int r16, .int r17, .int r18, .ref a19, .ref a20, .ref a21, .ref a22, .ref a23, .ref a24, .int r25])), (a2, .inl (nz_cI g, 8, .inl f2)), (a3, .inl (nz_cI g, 8, .inl f3)), (a4, .inl (nz_cI g, 320, .inl f4)), (a5, .inl (nz_cI g, 94, .inl f5)), (a6, .inl (nz_cI g, 94, .inl f6)), (a7, .inl (nz_cI g, 168, .inl f7)), (a9, .inl (nz_cI g, 400, .inl f9)), (a19, .inl (nz_cI g, 6, .inl f19)), (a20, .inl (nz_cI g, 49, .inl f20)), (a21, .inl (nz_cI g, 6, .inl f21)), (a22, .inl (nz_cZ g, 2, .inl f22)), (a23, .inl (nz_cI g, 188, .inl f23)), (a24, .inl (nz_cI g, 16, .inl f24))] (fun r (u : Unit) => K r) (fun u => [(o, .inr (8, [.int r0, .int r1, .ref a2, .ref a3, .ref a4, .ref a5, .ref a6, .ref a7, .int r8, .ref a9, .int r10, .int r11, .int r12, .int r13, .int r14, .int r15, .int r16, .int r17, .int r18, .ref a19, .ref a20, .ref a21, .ref a22, .ref a23, .ref a24, .int r25])), (a2, .inl (nz_cI g, 8, .inl f2)), (a3, .inl (nz_cI g, 8, .inl f3)), (a4, .inl (nz_cI g, 320, .inl f4)), (a5, .inl (nz_cI g, 94, .inl f5)), (a6, .inl (nz_cI g, 94, .inl f6)), (a7, .inl (nz_cI g, 168, .inl f7)), (a9, .inl (nz_cI g, 400, .inl f9)), (a19, .inl (nz_cI g, 6, .inl f19)), (a20, .inl (nz_cI g, 49, .inl f20)), (a21, .inl (nz_cI g, 6, .inl f21)), (a22, .inl (nz_cZ g, 2, .inl f22)), (a23, .inl (nz_cI g, 188, .inl f23)), (a24, .inl (nz_cI g, 16, .inl f24))])) → nz_C y g k n ws pc ls st rest [(o, .inr (8, [.int r0, .int r1, .ref a2, .ref a3, .ref a4, .ref a5, .ref a6, .ref a7, .int r8, .ref a9, .int r10, .int r11, .int r12, .int r13, .int r14, .int r15, .int r16, .int r17, .int r18, .ref a19, .ref a20, .ref a21, .ref a22, .ref a23, .ref a24, .int r25])), (a2, .inl (nz_cI g, 8, .inl f2)), (a3, .inl (nz_cI g, 8, .inl f3)), (a4, .inl (nz_cI g, 320, .inl f4)), (a5, .inl (nz_cI g, 94, .inl f5)), (a6, .inl (nz_cI g, 94, .inl f6)), (a7, .inl (nz_cI g, 168, .inl f7)), (a9, .inl (nz_cI g, 400, .inl f9)), (a19, .inl (nz_cI g, 6, .inl f19)), (a20, .inl (nz_cI g, 49, .inl f20)), (a21, .inl (nz_cI g, 6, .inl f21)), (a22, .inl (nz_cZ g, 2, .inl f22)), (a23, .inl (nz_cI g, 188, .inl f23)), (a24, .inl (nz_cI g, 16, .inl f24))] (nz_Qi g [(o, .inr (8, [.int r0, .int r1, .ref a2, .ref a3, .ref a4, .ref a5, .ref a6, .ref a7, .int r8, .ref a9, .int r10, .int r11, .int r12, .int r13, .int r14, .int r15, .int r16, .int r17, .int r18, .ref a19, .ref a20, .ref a21, .ref a22, .ref a23, .ref a24, .int r25])), (a2, .inl (nz_cI g, 8, .inl f2)), (a3, .inl (nz_cI g, 8, .inl f3)), (a4, .inl (nz_cI g, 320, .inl f4)), (a5, .inl (nz_cI g, 94, .inl f5)), (a6, .inl (nz_cI g, 94, .inl f6)), (a7, .inl (nz_cI g, 168, .inl f7)), (a9, .inl (nz_cI g, 400, .inl f9)), (a19, .inl (nz_cI g, 6, .inl f19)), (a20, .inl (nz_cI g, 49, .inl f20)), (a21, .inl (nz_cI g, 6, .inl f21)), (a22, .inl (nz_cZ g, 2, .inl f22)), (a23, .inl (nz_cI g, 188, .inl f23)), (a24, .inl (nz_cI g, 16, .inl f24))] (fun r (u : Unit) => K r) (fun u => [(o, .inr (8, [.int r0, .int r1, .ref a2, .ref a3, .ref a4, .ref a5, .ref a6, .ref a7, .int r8, .ref a9, .int r10, .int r11, .int r12, .int r13, .int r14, .int r15, .int r16, .int r17, .int r18, .ref a19, .ref a20, .ref a21, .ref a22, .ref a23, .ref a24, .int r25])), (a2, .inl (nz_cI g, 8, .inl f2)), (a3, .inl (nz_cI g, 8, .inl f3)), (a4, .inl (nz_cI g, 320, .inl f4)), (a5, .inl (nz_cI g, 94, .inl f5)), (a6, .inl (nz_cI g, 94, .inl f6)), (a7, .inl (nz_cI g, 168, .inl f7)), (a9, .inl (nz_cI g, 400, .inl f9)), (a19, .inl (nz_cI g, 6, .inl f19)), (a20, .inl (nz_cI g, 49, .inl f20)), (a21, .inl (nz_cI g, 6, .inl f21)), (a22, .inl (nz_cZ g, 2, .inl f22)), (a23, .inl (nz_cI g, 188, .inl f23)), (a24, .inl (nz_cI g, 16, .inl f24))])) av isC) (h : wp_X8_byteAt r12 f9 v1 K) (ws' : va_W) (hm : nz_mrg ws isC [(o, .inr (8, [.int r0, .int r1, .ref a2, .ref a3, .ref a4, .ref a5, .ref a6, .ref a7, .int r8, .ref a9, .int r10, .int r11, .int r12, .int r13, .int r14, .int r15, .int r16, .int r17, .int r18, .ref a19, .ref a20, .ref a21, .ref a22, .ref a23, .ref a24, .int r25])), (a2, .inl (nz_cI g, 8, .inl f2)), (a3, .inl (nz_cI g, 8, .inl f3)), (a4, .inl (nz_cI g, 320, .inl f4)), (a5, .inl (nz_cI g, 94, .inl f5)), (a6, .inl (nz_cI g, 94, .inl f6)), (a7, .inl (nz_cI g, 168, .inl f7)), (a9, .inl (nz_cI g, 400, .inl f9)), (a19, .inl (nz_cI g, 6, .inl f19)), (a20, .inl (nz_cI g, 49, .inl f20)), (a21, .inl (nz_cI g, 6, .inl f21)), (a22, .inl (nz_cZ g, 2, .inl f22)), (a23, .inl (nz_cI g, 188, .inl f23)), (a24, .inl (nz_cI g, 16, .inl f24))] = ws' ) (kk : ∀ (r : Int32), K r → nz_V y g k n ws' (pc + 3) ls (.int r :: rest)) : nz_V y g k n ws pc ls st :=
  nz_ci (ws' := fun _ => ws') (run (c_X8_byteAt (yz_l y) g o a2 a3 a4 a5 a6 a7 a9 a19 a20 a21 a22 a23 a24 r0 r1 r8 r10 r11 r12 r13 r14 r15 r16 r17 r18 r25 f2 f3 f4 f5 f6 f7 f9 f19 f20 f21 f22 f23 f24 v1 K h)) (fun _ => rfl) (fun _ => hm) (fun r u h => kk r h)
theorem dX8_isLetter_0 : decode cX8_isLetter 0 = .ok (.iload_n 0, 1) := by decide +kernel
theorem dX8_isLetter_1 : decode cX8_isLetter 1 = .ok (.bipush 97, 2) := by decide +kernel
theorem dX8_isLetter_3 : decode cX8_isLetter 3 = .ok (.if_icmp .lt 13, 3) := by decide +kernel
theorem dX8_isLetter_6 : decode cX8_isLetter 6 = .ok (.iload_n 0, 1) := by decide +kernel
theorem dX8_isLetter_7 : decode cX8_isLetter 7 = .ok (.bipush 122, 2) := by decide +kernel
theorem dX8_isLetter_9 : decode cX8_isLetter 9 = .ok (.if_icmp .gt 7, 3) := by decide +kernel
theorem dX8_isLetter_12 : decode cX8_isLetter 12 = .ok (.iconst 1, 1) := by decide +kernel
theorem dX8_isLetter_13 : decode cX8_isLetter 13 = .ok (.goto 4, 3) := by decide +kernel
theorem dX8_isLetter_16 : decode cX8_isLetter 16 = .ok (.iconst 0, 1) := by decide +kernel
theorem dX8_isLetter_17 : decode cX8_isLetter 17 = .ok (.ireturn, 1) := by decide +kernel
/-! X8_isLetter -/
abbrev rm_X8_isLetter : Room := { frames := 0, cells := 0, slots := 0, locals := 0 }
def wp_X8_isLetter (v0 : Int32) (K : Int32 → Prop) : Prop := ((v0 < 97 → K 0) ∧ (¬ (v0 < 97) → ((122 < v0 → K 0) ∧ (¬ (122 < v0) → K 1))))
set_option maxHeartbeats 4000000 in
set_option maxRecDepth 100000 in
theorem c_X8_isLetter (l : Launch) (g : nz_G) (v0 : Int32) (K : Int32 → Prop) (h : wp_X8_isLetter v0 K) : nz_M l yX8_isLetter wsX8_isLetter rm_X8_isLetter g [.int v0] [] (nz_Qi g [] (fun r (u : Unit) => K r) (fun u => [])) := by
  refine nz_M.of (bytes := cX8_isLetter) (nL := 1) (ret := (some .boolean)) (own := RX8) (by decide) rfl rfl ⟨rfl, rfl⟩ rfl ?_
  intro y F hl hQ
  obtain ⟨sz, hQ⟩ := hQ
  refine nz_ent (lv' := [(0, .int v0)]) rfl ?_
  unfold wp_X8_isLetter at h
  refine nz_iload_n F dX8_isLetter_0 rfl 0 rfl ?_
  refine nz_bipush (v := 97) F dX8_isLetter_1 (by decide) ?_
  refine nz_icmp_lt (tgt := 16) F dX8_isLetter_3 (by decide) (fun c1 => ?_) (fun c1 => ?_)
  · have h := h.1 c1
    refine nz_iconst (v := 0) F dX8_isLetter_16 (by decide) ?_
    exact nz_zret F hQ () h rfl (by decide) dX8_isLetter_17
  · have h := h.2 c1
    refine nz_iload_n F dX8_isLetter_6 rfl 0 rfl ?_
    refine nz_bipush (v := 122) F dX8_isLetter_7 (by decide) ?_
    refine nz_icmp_gt (tgt := 16) F dX8_isLetter_9 (by decide) (fun c2 => ?_) (fun c2 => ?_)
    · have h := h.1 c2
      refine nz_iconst (v := 0) F dX8_isLetter_16 (by decide) ?_
      exact nz_zret F hQ () h rfl (by decide) dX8_isLetter_17
    · have h := h.2 c2
      refine nz_iconst (v := 1) F dX8_isLetter_12 (by decide) ?_
      refine nz_goto (tgt := 17) F dX8_isLetter_13 (by decide) ?_
      exact nz_zret F hQ () h rfl (by decide) dX8_isLetter_17
theorem k_X8_isLetter {y : nz_Y} {g : nz_G} {k n : Nat} {ws : va_W} {pc : Nat} {ls : List (Nat × Value)} {st rest : List Value} {av : Array Value} {isC : List Nat} {K : Int32 → Prop} (v0 : Int32) (run : nz_M (yz_l y) yX8_isLetter wsX8_isLetter rm_X8_isLetter g [.int v0] [] (nz_Qi g [] (fun r (u : Unit) => K r) (fun u => [])) → nz_C y g k n ws pc ls st rest [] (nz_Qi g [] (fun r (u : Unit) => K r) (fun u => [])) av isC) (h : wp_X8_isLetter v0 K) (ws' : va_W) (hm : nz_mrg ws isC [] = ws' ) (kk : ∀ (r : Int32), K r → nz_V y g k n ws' (pc + 3) ls (.int r :: rest)) : nz_V y g k n ws pc ls st :=
  nz_ci (ws' := fun _ => ws') (run (c_X8_isLetter (yz_l y) g v0 K h)) (fun _ => rfl) (fun _ => hm) (fun r u h => kk r h)
theorem dX8_isFigure_0 : decode cX8_isFigure 0 = .ok (.iload_n 0, 1) := by decide +kernel
theorem dX8_isFigure_1 : decode cX8_isFigure 1 = .ok (.bipush 48, 2) := by decide +kernel
theorem dX8_isFigure_3 : decode cX8_isFigure 3 = .ok (.if_icmp .lt 13, 3) := by decide +kernel
theorem dX8_isFigure_6 : decode cX8_isFigure 6 = .ok (.iload_n 0, 1) := by decide +kernel
theorem dX8_isFigure_7 : decode cX8_isFigure 7 = .ok (.bipush 57, 2) := by decide +kernel
theorem dX8_isFigure_9 : decode cX8_isFigure 9 = .ok (.if_icmp .gt 7, 3) := by decide +kernel
theorem dX8_isFigure_12 : decode cX8_isFigure 12 = .ok (.iconst 1, 1) := by decide +kernel
theorem dX8_isFigure_13 : decode cX8_isFigure 13 = .ok (.goto 4, 3) := by decide +kernel
theorem dX8_isFigure_16 : decode cX8_isFigure 16 = .ok (.iconst 0, 1) := by decide +kernel
theorem dX8_isFigure_17 : decode cX8_isFigure 17 = .ok (.ireturn, 1) := by decide +kernel
/-! X8_isFigure -/
abbrev rm_X8_isFigure : Room := { frames := 0, cells := 0, slots := 0, locals := 0 }
def wp_X8_isFigure (v0 : Int32) (K : Int32 → Prop) : Prop := ((v0 < 48 → K 0) ∧ (¬ (v0 < 48) → ((57 < v0 → K 0) ∧ (¬ (57 < v0) → K 1))))
set_option maxHeartbeats 4000000 in
set_option maxRecDepth 100000 in
theorem c_X8_isFigure (l : Launch) (g : nz_G) (v0 : Int32) (K : Int32 → Prop) (h : wp_X8_isFigure v0 K) : nz_M l yX8_isFigure wsX8_isFigure rm_X8_isFigure g [.int v0] [] (nz_Qi g [] (fun r (u : Unit) => K r) (fun u => [])) := by
  refine nz_M.of (bytes := cX8_isFigure) (nL := 1) (ret := (some .boolean)) (own := RX8) (by decide) rfl rfl ⟨rfl, rfl⟩ rfl ?_
  intro y F hl hQ
  obtain ⟨sz, hQ⟩ := hQ
  refine nz_ent (lv' := [(0, .int v0)]) rfl ?_
  unfold wp_X8_isFigure at h
  refine nz_iload_n F dX8_isFigure_0 rfl 0 rfl ?_
  refine nz_bipush (v := 48) F dX8_isFigure_1 (by decide) ?_
  refine nz_icmp_lt (tgt := 16) F dX8_isFigure_3 (by decide) (fun c1 => ?_) (fun c1 => ?_)
  · have h := h.1 c1
    refine nz_iconst (v := 0) F dX8_isFigure_16 (by decide) ?_
    exact nz_zret F hQ () h rfl (by decide) dX8_isFigure_17
  · have h := h.2 c1
    refine nz_iload_n F dX8_isFigure_6 rfl 0 rfl ?_
    refine nz_bipush (v := 57) F dX8_isFigure_7 (by decide) ?_
    refine nz_icmp_gt (tgt := 16) F dX8_isFigure_9 (by decide) (fun c2 => ?_) (fun c2 => ?_)
    · have h := h.1 c2
      refine nz_iconst (v := 0) F dX8_isFigure_16 (by decide) ?_
      exact nz_zret F hQ () h rfl (by decide) dX8_isFigure_17
    · have h := h.2 c2
      refine nz_iconst (v := 1) F dX8_isFigure_12 (by decide) ?_
      refine nz_goto (tgt := 17) F dX8_isFigure_13 (by decide) ?_
      exact nz_zret F hQ () h rfl (by decide) dX8_isFigure_17
theorem k_X8_isFigure {y : nz_Y} {g : nz_G} {k n : Nat} {ws : va_W} {pc : Nat} {ls : List (Nat × Value)} {st rest : List Value} {av : Array Value} {isC : List Nat} {K : Int32 → Prop} (v0 : Int32) (run : nz_M (yz_l y) yX8_isFigure wsX8_isFigure rm_X8_isFigure g [.int v0] [] (nz_Qi g [] (fun r (u : Unit) => K r) (fun u => [])) → nz_C y g k n ws pc ls st rest [] (nz_Qi g [] (fun r (u : Unit) => K r) (fun u => [])) av isC) (h : wp_X8_isFigure v0 K) (ws' : va_W) (hm : nz_mrg ws isC [] = ws' ) (kk : ∀ (r : Int32), K r → nz_V y g k n ws' (pc + 3) ls (.int r :: rest)) : nz_V y g k n ws pc ls st :=
  nz_ci (ws' := fun _ => ws') (run (c_X8_isFigure (yz_l y) g v0 K h)) (fun _ => rfl) (fun _ => hm) (fun r u h => kk r h)
theorem dX8_next_0 : decode cX8_next 0 = .ok (.aload_n 0, 1) := by decide +kernel
theorem dX8_next_1 : decode cX8_next 1 = .ok (.aload_n 0, 1) := by decide +kernel
theorem dX8_next_2 : decode cX8_next 2 = .ok (.getfield 87, 3) := by decide +kernel
theorem dX8_next_5 : decode cX8_next 5 = .ok (.invokevirtual 90, 3) := by decide +kernel
theorem dX8_next_8 : decode cX8_next 8 = .ok (.bipush 32, 2) := by decide +kernel
theorem dX8_next_10 : decode cX8_next 10 = .ok (.if_icmp .eq 16, 3) := by decide +kernel
theorem dX8_next_13 : decode cX8_next 13 = .ok (.aload_n 0, 1) := by decide +kernel
theorem dX8_next_14 : decode cX8_next 14 = .ok (.aload_n 0, 1) := by decide +kernel
theorem dX8_next_15 : decode cX8_next 15 = .ok (.getfield 87, 3) := by decide +kernel
theorem dX8_next_18 : decode cX8_next 18 = .ok (.invokevirtual 90, 3) := by decide +kernel
theorem dX8_next_21 : decode cX8_next 21 = .ok (.bipush 10, 2) := by decide +kernel
theorem dX8_next_23 : decode cX8_next 23 = .ok (.if_icmp .ne 16, 3) := by decide +kernel
theorem dX8_next_26 : decode cX8_next 26 = .ok (.aload_n 0, 1) := by decide +kernel
theorem dX8_next_27 : decode cX8_next 27 = .ok (.dup, 1) := by decide +kernel
theorem dX8_next_28 : decode cX8_next 28 = .ok (.getfield 87, 3) := by decide +kernel
theorem dX8_next_31 : decode cX8_next 31 = .ok (.iconst 1, 1) := by decide +kernel
theorem dX8_next_32 : decode cX8_next 32 = .ok (.iadd, 1) := by decide +kernel
theorem dX8_next_33 : decode cX8_next 33 = .ok (.putfield 87, 3) := by decide +kernel
theorem dX8_next_36 : decode cX8_next 36 = .ok (.goto (-36), 3) := by decide +kernel
theorem dX8_next_39 : decode cX8_next 39 = .ok (.aload_n 0, 1) := by decide +kernel
theorem dX8_next_40 : decode cX8_next 40 = .ok (.aload_n 0, 1) := by decide +kernel
theorem dX8_next_41 : decode cX8_next 41 = .ok (.getfield 87, 3) := by decide +kernel
theorem dX8_next_44 : decode cX8_next 44 = .ok (.putfield 93, 3) := by decide +kernel
theorem dX8_next_47 : decode cX8_next 47 = .ok (.aload_n 0, 1) := by decide +kernel
theorem dX8_next_48 : decode cX8_next 48 = .ok (.aload_n 0, 1) := by decide +kernel
theorem dX8_next_49 : decode cX8_next 49 = .ok (.getfield 87, 3) := by decide +kernel
theorem dX8_next_52 : decode cX8_next 52 = .ok (.invokevirtual 90, 3) := by decide +kernel
theorem dX8_next_55 : decode cX8_next 55 = .ok (.istore_n 1, 1) := by decide +kernel
theorem dX8_next_56 : decode cX8_next 56 = .ok (.iload_n 1, 1) := by decide +kernel
theorem dX8_next_57 : decode cX8_next 57 = .ok (.ldc 86, 2) := by decide +kernel
theorem dX8_next_59 : decode cX8_next 59 = .ok (.if_icmp .ne 11, 3) := by decide +kernel
theorem dX8_next_62 : decode cX8_next 62 = .ok (.aload_n 0, 1) := by decide +kernel
theorem dX8_next_63 : decode cX8_next 63 = .ok (.iconst 1, 1) := by decide +kernel
theorem dX8_next_64 : decode cX8_next 64 = .ok (.putfield 96, 3) := by decide +kernel
theorem dX8_next_67 : decode cX8_next 67 = .ok (.goto 129, 3) := by decide +kernel
theorem dX8_next_70 : decode cX8_next 70 = .ok (.iload_n 1, 1) := by decide +kernel
theorem dX8_next_71 : decode cX8_next 71 = .ok (.invokestatic 99, 3) := by decide +kernel
theorem dX8_next_74 : decode cX8_next 74 = .ok (.ifCond .eq 38, 3) := by decide +kernel
theorem dX8_next_77 : decode cX8_next 77 = .ok (.aload_n 0, 1) := by decide +kernel
theorem dX8_next_78 : decode cX8_next 78 = .ok (.aload_n 0, 1) := by decide +kernel
theorem dX8_next_79 : decode cX8_next 79 = .ok (.getfield 87, 3) := by decide +kernel
theorem dX8_next_82 : decode cX8_next 82 = .ok (.invokevirtual 90, 3) := by decide +kernel
theorem dX8_next_85 : decode cX8_next 85 = .ok (.invokestatic 99, 3) := by decide +kernel
theorem dX8_next_88 : decode cX8_next 88 = .ok (.ifCond .eq 16, 3) := by decide +kernel
theorem dX8_next_91 : decode cX8_next 91 = .ok (.aload_n 0, 1) := by decide +kernel
theorem dX8_next_92 : decode cX8_next 92 = .ok (.dup, 1) := by decide +kernel
theorem dX8_next_93 : decode cX8_next 93 = .ok (.getfield 87, 3) := by decide +kernel
theorem dX8_next_96 : decode cX8_next 96 = .ok (.iconst 1, 1) := by decide +kernel
theorem dX8_next_97 : decode cX8_next 97 = .ok (.iadd, 1) := by decide +kernel
theorem dX8_next_98 : decode cX8_next 98 = .ok (.putfield 87, 3) := by decide +kernel
theorem dX8_next_101 : decode cX8_next 101 = .ok (.goto (-24), 3) := by decide +kernel
theorem dX8_next_104 : decode cX8_next 104 = .ok (.aload_n 0, 1) := by decide +kernel
theorem dX8_next_105 : decode cX8_next 105 = .ok (.iconst 2, 1) := by decide +kernel
theorem dX8_next_106 : decode cX8_next 106 = .ok (.putfield 96, 3) := by decide +kernel
theorem dX8_next_109 : decode cX8_next 109 = .ok (.goto 87, 3) := by decide +kernel
theorem dX8_next_112 : decode cX8_next 112 = .ok (.iload_n 1, 1) := by decide +kernel
theorem dX8_next_113 : decode cX8_next 113 = .ok (.invokestatic 102, 3) := by decide +kernel
theorem dX8_next_116 : decode cX8_next 116 = .ok (.ifCond .eq 55, 3) := by decide +kernel
theorem dX8_next_119 : decode cX8_next 119 = .ok (.aload_n 0, 1) := by decide +kernel
theorem dX8_next_120 : decode cX8_next 120 = .ok (.aload_n 0, 1) := by decide +kernel
theorem dX8_next_121 : decode cX8_next 121 = .ok (.getfield 87, 3) := by decide +kernel
theorem dX8_next_124 : decode cX8_next 124 = .ok (.invokevirtual 90, 3) := by decide +kernel
theorem dX8_next_127 : decode cX8_next 127 = .ok (.invokestatic 102, 3) := by decide +kernel
theorem dX8_next_130 : decode cX8_next 130 = .ok (.ifCond .eq 16, 3) := by decide +kernel
theorem dX8_next_133 : decode cX8_next 133 = .ok (.aload_n 0, 1) := by decide +kernel
theorem dX8_next_134 : decode cX8_next 134 = .ok (.dup, 1) := by decide +kernel
theorem dX8_next_135 : decode cX8_next 135 = .ok (.getfield 87, 3) := by decide +kernel
theorem dX8_next_138 : decode cX8_next 138 = .ok (.iconst 1, 1) := by decide +kernel
theorem dX8_next_139 : decode cX8_next 139 = .ok (.iadd, 1) := by decide +kernel
theorem dX8_next_140 : decode cX8_next 140 = .ok (.putfield 87, 3) := by decide +kernel
theorem dX8_next_143 : decode cX8_next 143 = .ok (.goto (-24), 3) := by decide +kernel
theorem dX8_next_146 : decode cX8_next 146 = .ok (.aload_n 0, 1) := by decide +kernel
theorem dX8_next_147 : decode cX8_next 147 = .ok (.aload_n 0, 1) := by decide +kernel
theorem dX8_next_148 : decode cX8_next 148 = .ok (.getfield 87, 3) := by decide +kernel
theorem dX8_next_151 : decode cX8_next 151 = .ok (.aload_n 0, 1) := by decide +kernel
theorem dX8_next_152 : decode cX8_next 152 = .ok (.getfield 93, 3) := by decide +kernel
theorem dX8_next_155 : decode cX8_next 155 = .ok (.isub, 1) := by decide +kernel
theorem dX8_next_156 : decode cX8_next 156 = .ok (.iconst 3, 1) := by decide +kernel
theorem dX8_next_157 : decode cX8_next 157 = .ok (.if_icmp .le 7, 3) := by decide +kernel
theorem dX8_next_160 : decode cX8_next 160 = .ok (.iconst 0, 1) := by decide +kernel
theorem dX8_next_161 : decode cX8_next 161 = .ok (.goto 4, 3) := by decide +kernel
theorem dX8_next_164 : decode cX8_next 164 = .ok (.iconst 3, 1) := by decide +kernel
theorem dX8_next_165 : decode cX8_next 165 = .ok (.putfield 96, 3) := by decide +kernel
theorem dX8_next_168 : decode cX8_next 168 = .ok (.goto 28, 3) := by decide +kernel
theorem dX8_next_171 : decode cX8_next 171 = .ok (.aload_n 0, 1) := by decide +kernel
theorem dX8_next_172 : decode cX8_next 172 = .ok (.dup, 1) := by decide +kernel
theorem dX8_next_173 : decode cX8_next 173 = .ok (.getfield 87, 3) := by decide +kernel
theorem dX8_next_176 : decode cX8_next 176 = .ok (.iconst 1, 1) := by decide +kernel
theorem dX8_next_177 : decode cX8_next 177 = .ok (.iadd, 1) := by decide +kernel
theorem dX8_next_178 : decode cX8_next 178 = .ok (.putfield 87, 3) := by decide +kernel
theorem dX8_next_181 : decode cX8_next 181 = .ok (.aload_n 0, 1) := by decide +kernel
theorem dX8_next_182 : decode cX8_next 182 = .ok (.iload_n 1, 1) := by decide +kernel
theorem dX8_next_183 : decode cX8_next 183 = .ok (.bipush 59, 2) := by decide +kernel
theorem dX8_next_185 : decode cX8_next 185 = .ok (.if_icmp .ne 7, 3) := by decide +kernel
theorem dX8_next_188 : decode cX8_next 188 = .ok (.iconst 4, 1) := by decide +kernel
theorem dX8_next_189 : decode cX8_next 189 = .ok (.goto 4, 3) := by decide +kernel
theorem dX8_next_192 : decode cX8_next 192 = .ok (.iconst 0, 1) := by decide +kernel
theorem dX8_next_193 : decode cX8_next 193 = .ok (.putfield 96, 3) := by decide +kernel
theorem dX8_next_196 : decode cX8_next 196 = .ok (.aload_n 0, 1) := by decide +kernel
theorem dX8_next_197 : decode cX8_next 197 = .ok (.aload_n 0, 1) := by decide +kernel
theorem dX8_next_198 : decode cX8_next 198 = .ok (.getfield 87, 3) := by decide +kernel
theorem dX8_next_201 : decode cX8_next 201 = .ok (.putfield 105, 3) := by decide +kernel
theorem dX8_next_204 : decode cX8_next 204 = .ok (.return_, 1) := by decide +kernel
set_option maxRecDepth 20000 in
theorem ggX8_next_X8_byteAt : GoodIn wsX8_next wsX8_byteAt := goodIn_r _ [10, 11, 12, 3, 19, 20, 21, 22, 23, 24, 25, 26, 27, 28, 29, 30, 31, 32, 33, 34, 35, 36, 37, 38, 39, 40, 41, 42, 43, 44] rfl (by decide +kernel)
set_option maxRecDepth 20000 in
theorem gX8_next_X8_byteAt : GoodIn wsX8_next (wsV RX8 90 RX8 yX8_byteAt wsX8_byteAt) := goodIn_app (goodIn_r _ [6, 7, 8, 9] rfl (by decide +kernel)) ggX8_next_X8_byteAt
set_option maxRecDepth 20000 in
theorem ggX8_next_X8_isFigure : GoodIn wsX8_next wsX8_isFigure := goodIn_r _ [18] rfl (by decide +kernel)
set_option maxRecDepth 20000 in
theorem gX8_next_X8_isFigure : GoodIn wsX8_next (va_wsS RX8 102 yX8_isFigure wsX8_isFigure) := goodIn_app (goodIn_r _ [16, 17, 9] rfl (by decide +kernel)) ggX8_next_X8_isFigure
set_option maxRecDepth 20000 in
theorem ggX8_next_X8_isLetter : GoodIn wsX8_next wsX8_isLetter := goodIn_r _ [15] rfl (by decide +kernel)
set_option maxRecDepth 20000 in
theorem gX8_next_X8_isLetter : GoodIn wsX8_next (va_wsS RX8 99 yX8_isLetter wsX8_isLetter) := goodIn_app (goodIn_r _ [13, 14, 9] rfl (by decide +kernel)) ggX8_next_X8_isLetter
theorem hd_X8_byteAt : yX8_byteAt.cls = RX8 ∧ yX8_byteAt.cls ≠ "java/lang/invoke/MethodHandle" ∧ yX8_byteAt.cls ≠ "java/lang/invoke/VarHandle" ∧ (parseMethodDescriptor yX8_byteAt.desc).map (fun d => d.parameters.length) = some 1 := by decide +kernel
theorem hd_X8_isFigure : yX8_isFigure.cls = RX8 ∧ yX8_isFigure.cls ≠ "java/lang/invoke/MethodHandle" ∧ yX8_isFigure.cls ≠ "java/lang/invoke/VarHandle" ∧ (parseMethodDescriptor yX8_isFigure.desc).map (fun d => d.parameters.length) = some 1 := by decide +kernel
theorem hd_X8_isLetter : yX8_isLetter.cls = RX8 ∧ yX8_isLetter.cls ≠ "java/lang/invoke/MethodHandle" ∧ yX8_isLetter.cls ≠ "java/lang/invoke/VarHandle" ∧ (parseMethodDescriptor yX8_isLetter.desc).map (fun d => d.parameters.length) = some 1 := by decide +kernel
/-! X8_next -/
abbrev rm_X8_next : Room := { frames := 1, cells := 0, slots := 0, locals := 21 }
theorem iw_X8_next_8 : ∀ w ∈ wsX80, w ∈ wsX8_next := fun _ h => List.mem_cons_of_mem _ (List.mem_append_right _ h)
theorem fl_X8_next_87 : Cond.fieldLink RX8 87 "NightStonesModel" "cursor" "I" ∈ wsX8_next := List.mem_of_getElem? (i := 1) rfl
theorem fl_X8_next_93 : Cond.fieldLink RX8 93 "NightStonesModel" "start" "I" ∈ wsX8_next := List.mem_of_getElem? (i := 2) rfl
theorem wd_X8_next_c86 : Cond.constant RX8 86 (-1000000) ∈ wsX8_next := List.mem_of_getElem? (i := 3) rfl
theorem fl_X8_next_96 : Cond.fieldLink RX8 96 "NightStonesModel" "token" "I" ∈ wsX8_next := List.mem_of_getElem? (i := 4) rfl
theorem fl_X8_next_105 : Cond.fieldLink RX8 105 "NightStonesModel" "till" "I" ∈ wsX8_next := List.mem_of_getElem? (i := 5) rfl
def S_X8_next_196 (r13 : Int32) (r14 : Int32) (r15 : Int32) (K : Int32 → Int32 → Int32 → Int32 → Prop) : Prop := K r13 r14 r15 r13
set_option maxHeartbeats 4000000 in
set_option maxRecDepth 100000 in
theorem t_X8_next_196 {y : nz_Y} {g : nz_G} (F : nz_F y g cX8_next 2 wsX8_next RX8 none rm_X8_next) {wc0 : va_W} {sz : Nat} {K : Int32 → Int32 → Int32 → Int32 → Prop} (o : Nat) (a2 : Nat) (a3 : Nat) (a4 : Nat) (a5 : Nat) (a6 : Nat) (a7 : Nat) (a9 : Nat) (a19 : Nat) (a20 : Nat) (a21 : Nat) (a22 : Nat) (a23 : Nat) (a24 : Nat) (r0 : Int32) (r1 : Int32) (r8 : Int32) (r10 : Int32) (r11 : Int32) (r12 : Int32) (r17 : Int32) (r18 : Int32) (r25 : Int32) (f2 : Nat → Int32) (f3 : Nat → Int32) (f4 : Nat → Int32) (f5 : Nat → Int32) (f6 : Nat → Int32) (f7 : Nat → Int32) (f9 : Nat → Int32) (f19 : Nat → Int32) (f20 : Nat → Int32) (f21 : Nat → Int32) (f22 : Nat → Int32) (f23 : Nat → Int32) (f24 : Nat → Int32) (r13 : Int32) (r14 : Int32) (r15 : Int32) (r16 : Int32) (hQ : yz_A y = va_A wc0 sz ∧ yz_Q y = MQ (yz_b y) ((nz_Qv g wc0 (fun (u : Int32 × Int32 × Int32 × Int32) => K u.1 u.2.1 u.2.2.1 u.2.2.2) (fun u => [(o, .inr (8, [.int r0, .int r1, .ref a2, .ref a3, .ref a4, .ref a5, .ref a6, .ref a7, .int r8, .ref a9, .int r10, .int r11, .int r12, .int u.1, .int u.2.1, .int u.2.2.1, .int u.2.2.2, .int r17, .int r18, .ref a19, .ref a20, .ref a21, .ref a22, .ref a23, .ref a24, .int r25])), (a2, .inl (nz_cI g, 8, .inl f2)), (a3, .inl (nz_cI g, 8, .inl f3)), (a4, .inl (nz_cI g, 320, .inl f4)), (a5, .inl (nz_cI g, 94, .inl f5)), (a6, .inl (nz_cI g, 94, .inl f6)), (a7, .inl (nz_cI g, 168, .inl f7)), (a9, .inl (nz_cI g, 400, .inl f9)), (a19, .inl (nz_cI g, 6, .inl f19)), (a20, .inl (nz_cI g, 49, .inl f20)), (a21, .inl (nz_cI g, 6, .inl f21)), (a22, .inl (nz_cZ g, 2, .inl f22)), (a23, .inl (nz_cI g, 188, .inl f23)), (a24, .inl (nz_cI g, 16, .inl f24))])) sz) (yz_a y) (yz_s y) 0 0 (va_A wc0 sz)) : S_X8_next_196 r13 r14 r15 K → nz_V y g 0 0 [(o, .inr (8, [.int r0, .int r1, .ref a2, .ref a3, .ref a4, .ref a5, .ref a6, .ref a7, .int r8, .ref a9, .int r10, .int r11, .int r12, .int r13, .int r14, .int r15, .int r16, .int r17, .int r18, .ref a19, .ref a20, .ref a21, .ref a22, .ref a23, .ref a24, .int r25])), (a2, .inl (nz_cI g, 8, .inl f2)), (a3, .inl (nz_cI g, 8, .inl f3)), (a4, .inl (nz_cI g, 320, .inl f4)), (a5, .inl (nz_cI g, 94, .inl f5)), (a6, .inl (nz_cI g, 94, .inl f6)), (a7, .inl (nz_cI g, 168, .inl f7)), (a9, .inl (nz_cI g, 400, .inl f9)), (a19, .inl (nz_cI g, 6, .inl f19)), (a20, .inl (nz_cI g, 49, .inl f20)), (a21, .inl (nz_cI g, 6, .inl f21)), (a22, .inl (nz_cZ g, 2, .inl f22)), (a23, .inl (nz_cI g, 188, .inl f23)), (a24, .inl (nz_cI g, 16, .inl f24))] 196 [(0, .ref o)] [] := by
  intro h
  unfold S_X8_next_196 at h
  refine nz_aload_n F dX8_next_196 rfl 0 rfl ?_
  refine nz_aload_n F dX8_next_197 rfl 0 rfl ?_
  refine nz_get F iw_X8_next_8 0 rfl rfl 13 (by decide) rfl fl_X8_next_87 rfl dX8_next_198 ?_
  refine nz_put (ws' := [(o, .inr (8, [.int r0, .int r1, .ref a2, .ref a3, .ref a4, .ref a5, .ref a6, .ref a7, .int r8, .ref a9, .int r10, .int r11, .int r12, .int r13, .int r14, .int r15, .int r13, .int r17, .int r18, .ref a19, .ref a20, .ref a21, .ref a22, .ref a23, .ref a24, .int r25])), (a2, .inl (nz_cI g, 8, .inl f2)), (a3, .inl (nz_cI g, 8, .inl f3)), (a4, .inl (nz_cI g, 320, .inl f4)), (a5, .inl (nz_cI g, 94, .inl f5)), (a6, .inl (nz_cI g, 94, .inl f6)), (a7, .inl (nz_cI g, 168, .inl f7)), (a9, .inl (nz_cI g, 400, .inl f9)), (a19, .inl (nz_cI g, 6, .inl f19)), (a20, .inl (nz_cI g, 49, .inl f20)), (a21, .inl (nz_cI g, 6, .inl f21)), (a22, .inl (nz_cZ g, 2, .inl f22)), (a23, .inl (nz_cI g, 188, .inl f23)), (a24, .inl (nz_cI g, 16, .inl f24))]) F iw_X8_next_8 tyX8 tyX8_ok nmX8 0 rfl rfl 16 (by decide) rfl fl_X8_next_105 rfl rfl (Nat.le_of_ble_eq_true rfl) dX8_next_201 rfl ?_
  exact nz_vret F hQ (r13, r14, r15, r13) h rfl dX8_next_204
def S_X8_next_119 (r12 : Int32) (f9 : Nat → Int32) (r15 : Int32) (K : Int32 → Int32 → Int32 → Int32 → Prop) (R119 : Int32 → Prop) (r13 : Int32) : Prop := wp_X8_byteAt r12 f9 r13 (fun q12 => wp_X8_isFigure q12 (fun q13 => ((q13 = 0 → (((r13 - r15) ≤ 3 → S_X8_next_196 r13 3 r15 K) ∧ (¬ ((r13 - r15) ≤ 3) → S_X8_next_196 r13 0 r15 K))) ∧ (¬ (q13 = 0) → R119 (r13 + 1)))))
set_option maxHeartbeats 4000000 in
set_option maxRecDepth 100000 in
theorem t_X8_next_119 {y : nz_Y} {g : nz_G} (F : nz_F y g cX8_next 2 wsX8_next RX8 none rm_X8_next) {wc0 : va_W} {sz : Nat} {K : Int32 → Int32 → Int32 → Int32 → Prop} (o : Nat) (a2 : Nat) (a3 : Nat) (a4 : Nat) (a5 : Nat) (a6 : Nat) (a7 : Nat) (a9 : Nat) (a19 : Nat) (a20 : Nat) (a21 : Nat) (a22 : Nat) (a23 : Nat) (a24 : Nat) (r0 : Int32) (r1 : Int32) (r8 : Int32) (r10 : Int32) (r11 : Int32) (r12 : Int32) (r17 : Int32) (r18 : Int32) (r25 : Int32) (f2 : Nat → Int32) (f3 : Nat → Int32) (f4 : Nat → Int32) (f5 : Nat → Int32) (f6 : Nat → Int32) (f7 : Nat → Int32) (f9 : Nat → Int32) (f19 : Nat → Int32) (f20 : Nat → Int32) (f21 : Nat → Int32) (f22 : Nat → Int32) (f23 : Nat → Int32) (f24 : Nat → Int32) (r14 : Int32) (r15 : Int32) (r16 : Int32) (hQ : yz_A y = va_A wc0 sz ∧ yz_Q y = MQ (yz_b y) ((nz_Qv g wc0 (fun (u : Int32 × Int32 × Int32 × Int32) => K u.1 u.2.1 u.2.2.1 u.2.2.2) (fun u => [(o, .inr (8, [.int r0, .int r1, .ref a2, .ref a3, .ref a4, .ref a5, .ref a6, .ref a7, .int r8, .ref a9, .int r10, .int r11, .int r12, .int u.1, .int u.2.1, .int u.2.2.1, .int u.2.2.2, .int r17, .int r18, .ref a19, .ref a20, .ref a21, .ref a22, .ref a23, .ref a24, .int r25])), (a2, .inl (nz_cI g, 8, .inl f2)), (a3, .inl (nz_cI g, 8, .inl f3)), (a4, .inl (nz_cI g, 320, .inl f4)), (a5, .inl (nz_cI g, 94, .inl f5)), (a6, .inl (nz_cI g, 94, .inl f6)), (a7, .inl (nz_cI g, 168, .inl f7)), (a9, .inl (nz_cI g, 400, .inl f9)), (a19, .inl (nz_cI g, 6, .inl f19)), (a20, .inl (nz_cI g, 49, .inl f20)), (a21, .inl (nz_cI g, 6, .inl f21)), (a22, .inl (nz_cZ g, 2, .inl f22)), (a23, .inl (nz_cI g, 188, .inl f23)), (a24, .inl (nz_cI g, 16, .inl f24))])) sz) (yz_a y) (yz_s y) 0 0 (va_A wc0 sz)) : ∀ (n1 : Nat) (r13 : Int32), nz_it (fun _ => False) (S_X8_next_119 r12 f9 r15 K) n1 r13 → nz_V y g 0 0 [(o, .inr (8, [.int r0, .int r1, .ref a2, .ref a3, .ref a4, .ref a5, .ref a6, .ref a7, .int r8, .ref a9, .int r10, .int r11, .int r12, .int r13, .int r14, .int r15, .int r16, .int r17, .int r18, .ref a19, .ref a20, .ref a21, .ref a22, .ref a23, .ref a24, .int r25])), (a2, .inl (nz_cI g, 8, .inl f2)), (a3, .inl (nz_cI g, 8, .inl f3)), (a4, .inl (nz_cI g, 320, .inl f4)), (a5, .inl (nz_cI g, 94, .inl f5)), (a6, .inl (nz_cI g, 94, .inl f6)), (a7, .inl (nz_cI g, 168, .inl f7)), (a9, .inl (nz_cI g, 400, .inl f9)), (a19, .inl (nz_cI g, 6, .inl f19)), (a20, .inl (nz_cI g, 49, .inl f20)), (a21, .inl (nz_cI g, 6, .inl f21)), (a22, .inl (nz_cZ g, 2, .inl f22)), (a23, .inl (nz_cI g, 188, .inl f23)), (a24, .inl (nz_cI g, 16, .inl f24))] 119 [(0, .ref o)] [] := by
  intro n1
  induction n1 with
  | zero =>
    intro r13 h
    exact h.elim
  | succ n1 hR119 =>
    intro r13 h
    have h : S_X8_next_119 r12 f9 r15 K (nz_it (fun _ => False) (S_X8_next_119 r12 f9 r15 K) n1) r13 := h
    unfold S_X8_next_119 at h
    refine nz_aload_n F dX8_next_119 rfl 0 rfl ?_
    refine nz_aload_n F dX8_next_120 rfl 0 rfl ?_
    refine nz_get F iw_X8_next_8 0 rfl rfl 13 (by decide) rfl fl_X8_next_87 rfl dX8_next_121 ?_
    refine k_X8_byteAt o a2 a3 a4 a5 a6 a7 a9 a19 a20 a21 a22 a23 a24 r0 r1 r8 r10 r11 r12 r13 r14 r15 r16 r17 r18 r25 f2 f3 f4 f5 f6 f7 f9 f19 f20 f21 f22 f23 f24 r13 (fun hM => nz_runV F gX8_next_X8_byteAt rfl hd_X8_byteAt rfl hM dX8_next_124 [0, 1, 2, 3, 4, 5, 6, 7, 8, 9, 10, 11, 12, 13] rfl rfl 0 rfl rfl rfl (Nat.le_of_ble_eq_true rfl) rfl) h ([(o, .inr (8, [.int r0, .int r1, .ref a2, .ref a3, .ref a4, .ref a5, .ref a6, .ref a7, .int r8, .ref a9, .int r10, .int r11, .int r12, .int r13, .int r14, .int r15, .int r16, .int r17, .int r18, .ref a19, .ref a20, .ref a21, .ref a22, .ref a23, .ref a24, .int r25])), (a2, .inl (nz_cI g, 8, .inl f2)), (a3, .inl (nz_cI g, 8, .inl f3)), (a4, .inl (nz_cI g, 320, .inl f4)), (a5, .inl (nz_cI g, 94, .inl f5)), (a6, .inl (nz_cI g, 94, .inl f6)), (a7, .inl (nz_cI g, 168, .inl f7)), (a9, .inl (nz_cI g, 400, .inl f9)), (a19, .inl (nz_cI g, 6, .inl f19)), (a20, .inl (nz_cI g, 49, .inl f20)), (a21, .inl (nz_cI g, 6, .inl f21)), (a22, .inl (nz_cZ g, 2, .inl f22)), (a23, .inl (nz_cI g, 188, .inl f23)), (a24, .inl (nz_cI g, 16, .inl f24))]) (rfl) (fun q12 h => ?_)
    refine k_X8_isFigure q12 (fun hM => nz_runS F gX8_next_X8_isFigure rfl hd_X8_isFigure.2 rfl hM dX8_next_127 [] rfl rfl rfl (Nat.le_of_ble_eq_true rfl) rfl) h ([(o, .inr (8, [.int r0, .int r1, .ref a2, .ref a3, .ref a4, .ref a5, .ref a6, .ref a7, .int r8, .ref a9, .int r10, .int r11, .int r12, .int r13, .int r14, .int r15, .int r16, .int r17, .int r18, .ref a19, .ref a20, .ref a21, .ref a22, .ref a23, .ref a24, .int r25])), (a2, .inl (nz_cI g, 8, .inl f2)), (a3, .inl (nz_cI g, 8, .inl f3)), (a4, .inl (nz_cI g, 320, .inl f4)), (a5, .inl (nz_cI g, 94, .inl f5)), (a6, .inl (nz_cI g, 94, .inl f6)), (a7, .inl (nz_cI g, 168, .inl f7)), (a9, .inl (nz_cI g, 400, .inl f9)), (a19, .inl (nz_cI g, 6, .inl f19)), (a20, .inl (nz_cI g, 49, .inl f20)), (a21, .inl (nz_cI g, 6, .inl f21)), (a22, .inl (nz_cZ g, 2, .inl f22)), (a23, .inl (nz_cI g, 188, .inl f23)), (a24, .inl (nz_cI g, 16, .inl f24))]) (rfl) (fun q13 h => ?_)
    refine nz_if_eq (tgt := 146) F dX8_next_130 (by decide) (fun c14 => ?_) (fun c14 => ?_)
    · have h := h.1 c14
      refine nz_aload_n F dX8_next_146 rfl 0 rfl ?_
      refine nz_aload_n F dX8_next_147 rfl 0 rfl ?_
      refine nz_get F iw_X8_next_8 0 rfl rfl 13 (by decide) rfl fl_X8_next_87 rfl dX8_next_148 ?_
      refine nz_aload_n F dX8_next_151 rfl 0 rfl ?_
      refine nz_get F iw_X8_next_8 0 rfl rfl 15 (by decide) rfl fl_X8_next_93 rfl dX8_next_152 ?_
      refine nz_isub F dX8_next_155 ?_
      refine nz_iconst (v := 3) F dX8_next_156 (by decide) ?_
      refine nz_icmp_le (tgt := 164) F dX8_next_157 (by decide) (fun c15 => ?_) (fun c15 => ?_)
      · have h := h.1 c15
        refine nz_iconst (v := 3) F dX8_next_164 (by decide) ?_
        refine nz_put (ws' := [(o, .inr (8, [.int r0, .int r1, .ref a2, .ref a3, .ref a4, .ref a5, .ref a6, .ref a7, .int r8, .ref a9, .int r10, .int r11, .int r12, .int r13, .int 3, .int r15, .int r16, .int r17, .int r18, .ref a19, .ref a20, .ref a21, .ref a22, .ref a23, .ref a24, .int r25])), (a2, .inl (nz_cI g, 8, .inl f2)), (a3, .inl (nz_cI g, 8, .inl f3)), (a4, .inl (nz_cI g, 320, .inl f4)), (a5, .inl (nz_cI g, 94, .inl f5)), (a6, .inl (nz_cI g, 94, .inl f6)), (a7, .inl (nz_cI g, 168, .inl f7)), (a9, .inl (nz_cI g, 400, .inl f9)), (a19, .inl (nz_cI g, 6, .inl f19)), (a20, .inl (nz_cI g, 49, .inl f20)), (a21, .inl (nz_cI g, 6, .inl f21)), (a22, .inl (nz_cZ g, 2, .inl f22)), (a23, .inl (nz_cI g, 188, .inl f23)), (a24, .inl (nz_cI g, 16, .inl f24))]) F iw_X8_next_8 tyX8 tyX8_ok nmX8 0 rfl rfl 14 (by decide) rfl fl_X8_next_96 rfl rfl (Nat.le_of_ble_eq_true rfl) dX8_next_165 rfl ?_
        refine nz_goto (tgt := 196) F dX8_next_168 (by decide) ?_
        exact t_X8_next_196 F o a2 a3 a4 a5 a6 a7 a9 a19 a20 a21 a22 a23 a24 r0 r1 r8 r10 r11 r12 r17 r18 r25 f2 f3 f4 f5 f6 f7 f9 f19 f20 f21 f22 f23 f24 r13 3 r15 r16 hQ h
      · have h := h.2 c15
        refine nz_iconst (v := 0) F dX8_next_160 (by decide) ?_
        refine nz_goto (tgt := 165) F dX8_next_161 (by decide) ?_
        refine nz_put (ws' := [(o, .inr (8, [.int r0, .int r1, .ref a2, .ref a3, .ref a4, .ref a5, .ref a6, .ref a7, .int r8, .ref a9, .int r10, .int r11, .int r12, .int r13, .int 0, .int r15, .int r16, .int r17, .int r18, .ref a19, .ref a20, .ref a21, .ref a22, .ref a23, .ref a24, .int r25])), (a2, .inl (nz_cI g, 8, .inl f2)), (a3, .inl (nz_cI g, 8, .inl f3)), (a4, .inl (nz_cI g, 320, .inl f4)), (a5, .inl (nz_cI g, 94, .inl f5)), (a6, .inl (nz_cI g, 94, .inl f6)), (a7, .inl (nz_cI g, 168, .inl f7)), (a9, .inl (nz_cI g, 400, .inl f9)), (a19, .inl (nz_cI g, 6, .inl f19)), (a20, .inl (nz_cI g, 49, .inl f20)), (a21, .inl (nz_cI g, 6, .inl f21)), (a22, .inl (nz_cZ g, 2, .inl f22)), (a23, .inl (nz_cI g, 188, .inl f23)), (a24, .inl (nz_cI g, 16, .inl f24))]) F iw_X8_next_8 tyX8 tyX8_ok nmX8 0 rfl rfl 14 (by decide) rfl fl_X8_next_96 rfl rfl (Nat.le_of_ble_eq_true rfl) dX8_next_165 rfl ?_
        refine nz_goto (tgt := 196) F dX8_next_168 (by decide) ?_
        exact t_X8_next_196 F o a2 a3 a4 a5 a6 a7 a9 a19 a20 a21 a22 a23 a24 r0 r1 r8 r10 r11 r12 r17 r18 r25 f2 f3 f4 f5 f6 f7 f9 f19 f20 f21 f22 f23 f24 r13 0 r15 r16 hQ h
    · have h := h.2 c14
      refine nz_aload_n F dX8_next_133 rfl 0 rfl ?_
      refine nz_dup F dX8_next_134 rfl ?_
      refine nz_get F iw_X8_next_8 0 rfl rfl 13 (by decide) rfl fl_X8_next_87 rfl dX8_next_135 ?_
      refine nz_iconst (v := 1) F dX8_next_138 (by decide) ?_
      refine nz_iadd F dX8_next_139 ?_
      refine nz_put (ws' := [(o, .inr (8, [.int r0, .int r1, .ref a2, .ref a3, .ref a4, .ref a5, .ref a6, .ref a7, .int r8, .ref a9, .int r10, .int r11, .int r12, .int (r13 + 1), .int r14, .int r15, .int r16, .int r17, .int r18, .ref a19, .ref a20, .ref a21, .ref a22, .ref a23, .ref a24, .int r25])), (a2, .inl (nz_cI g, 8, .inl f2)), (a3, .inl (nz_cI g, 8, .inl f3)), (a4, .inl (nz_cI g, 320, .inl f4)), (a5, .inl (nz_cI g, 94, .inl f5)), (a6, .inl (nz_cI g, 94, .inl f6)), (a7, .inl (nz_cI g, 168, .inl f7)), (a9, .inl (nz_cI g, 400, .inl f9)), (a19, .inl (nz_cI g, 6, .inl f19)), (a20, .inl (nz_cI g, 49, .inl f20)), (a21, .inl (nz_cI g, 6, .inl f21)), (a22, .inl (nz_cZ g, 2, .inl f22)), (a23, .inl (nz_cI g, 188, .inl f23)), (a24, .inl (nz_cI g, 16, .inl f24))]) F iw_X8_next_8 tyX8 tyX8_ok nmX8 0 rfl rfl 13 (by decide) rfl fl_X8_next_87 rfl rfl (Nat.le_of_ble_eq_true rfl) dX8_next_140 rfl ?_
      refine nz_goto (tgt := 119) F dX8_next_143 (by decide) ?_
      exact hR119 (r13 + 1) h
def S_X8_next_77 (r12 : Int32) (f9 : Nat → Int32) (r15 : Int32) (K : Int32 → Int32 → Int32 → Int32 → Prop) (R77 : Int32 → Prop) (r13 : Int32) : Prop := wp_X8_byteAt r12 f9 r13 (fun q16 => wp_X8_isLetter q16 (fun q17 => ((q17 = 0 → S_X8_next_196 r13 2 r15 K) ∧ (¬ (q17 = 0) → R77 (r13 + 1)))))
set_option maxHeartbeats 4000000 in
set_option maxRecDepth 100000 in
theorem t_X8_next_77 {y : nz_Y} {g : nz_G} (F : nz_F y g cX8_next 2 wsX8_next RX8 none rm_X8_next) {wc0 : va_W} {sz : Nat} {K : Int32 → Int32 → Int32 → Int32 → Prop} (o : Nat) (a2 : Nat) (a3 : Nat) (a4 : Nat) (a5 : Nat) (a6 : Nat) (a7 : Nat) (a9 : Nat) (a19 : Nat) (a20 : Nat) (a21 : Nat) (a22 : Nat) (a23 : Nat) (a24 : Nat) (r0 : Int32) (r1 : Int32) (r8 : Int32) (r10 : Int32) (r11 : Int32) (r12 : Int32) (r17 : Int32) (r18 : Int32) (r25 : Int32) (f2 : Nat → Int32) (f3 : Nat → Int32) (f4 : Nat → Int32) (f5 : Nat → Int32) (f6 : Nat → Int32) (f7 : Nat → Int32) (f9 : Nat → Int32) (f19 : Nat → Int32) (f20 : Nat → Int32) (f21 : Nat → Int32) (f22 : Nat → Int32) (f23 : Nat → Int32) (f24 : Nat → Int32) (r14 : Int32) (r15 : Int32) (r16 : Int32) (hQ : yz_A y = va_A wc0 sz ∧ yz_Q y = MQ (yz_b y) ((nz_Qv g wc0 (fun (u : Int32 × Int32 × Int32 × Int32) => K u.1 u.2.1 u.2.2.1 u.2.2.2) (fun u => [(o, .inr (8, [.int r0, .int r1, .ref a2, .ref a3, .ref a4, .ref a5, .ref a6, .ref a7, .int r8, .ref a9, .int r10, .int r11, .int r12, .int u.1, .int u.2.1, .int u.2.2.1, .int u.2.2.2, .int r17, .int r18, .ref a19, .ref a20, .ref a21, .ref a22, .ref a23, .ref a24, .int r25])), (a2, .inl (nz_cI g, 8, .inl f2)), (a3, .inl (nz_cI g, 8, .inl f3)), (a4, .inl (nz_cI g, 320, .inl f4)), (a5, .inl (nz_cI g, 94, .inl f5)), (a6, .inl (nz_cI g, 94, .inl f6)), (a7, .inl (nz_cI g, 168, .inl f7)), (a9, .inl (nz_cI g, 400, .inl f9)), (a19, .inl (nz_cI g, 6, .inl f19)), (a20, .inl (nz_cI g, 49, .inl f20)), (a21, .inl (nz_cI g, 6, .inl f21)), (a22, .inl (nz_cZ g, 2, .inl f22)), (a23, .inl (nz_cI g, 188, .inl f23)), (a24, .inl (nz_cI g, 16, .inl f24))])) sz) (yz_a y) (yz_s y) 0 0 (va_A wc0 sz)) : ∀ (n1 : Nat) (r13 : Int32), nz_it (fun _ => False) (S_X8_next_77 r12 f9 r15 K) n1 r13 → nz_V y g 0 0 [(o, .inr (8, [.int r0, .int r1, .ref a2, .ref a3, .ref a4, .ref a5, .ref a6, .ref a7, .int r8, .ref a9, .int r10, .int r11, .int r12, .int r13, .int r14, .int r15, .int r16, .int r17, .int r18, .ref a19, .ref a20, .ref a21, .ref a22, .ref a23, .ref a24, .int r25])), (a2, .inl (nz_cI g, 8, .inl f2)), (a3, .inl (nz_cI g, 8, .inl f3)), (a4, .inl (nz_cI g, 320, .inl f4)), (a5, .inl (nz_cI g, 94, .inl f5)), (a6, .inl (nz_cI g, 94, .inl f6)), (a7, .inl (nz_cI g, 168, .inl f7)), (a9, .inl (nz_cI g, 400, .inl f9)), (a19, .inl (nz_cI g, 6, .inl f19)), (a20, .inl (nz_cI g, 49, .inl f20)), (a21, .inl (nz_cI g, 6, .inl f21)), (a22, .inl (nz_cZ g, 2, .inl f22)), (a23, .inl (nz_cI g, 188, .inl f23)), (a24, .inl (nz_cI g, 16, .inl f24))] 77 [(0, .ref o)] [] := by
  intro n1
  induction n1 with
  | zero =>
    intro r13 h
    exact h.elim
  | succ n1 hR77 =>
    intro r13 h
    have h : S_X8_next_77 r12 f9 r15 K (nz_it (fun _ => False) (S_X8_next_77 r12 f9 r15 K) n1) r13 := h
    unfold S_X8_next_77 at h
    refine nz_aload_n F dX8_next_77 rfl 0 rfl ?_
    refine nz_aload_n F dX8_next_78 rfl 0 rfl ?_
    refine nz_get F iw_X8_next_8 0 rfl rfl 13 (by decide) rfl fl_X8_next_87 rfl dX8_next_79 ?_
    refine k_X8_byteAt o a2 a3 a4 a5 a6 a7 a9 a19 a20 a21 a22 a23 a24 r0 r1 r8 r10 r11 r12 r13 r14 r15 r16 r17 r18 r25 f2 f3 f4 f5 f6 f7 f9 f19 f20 f21 f22 f23 f24 r13 (fun hM => nz_runV F gX8_next_X8_byteAt rfl hd_X8_byteAt rfl hM dX8_next_82 [0, 1, 2, 3, 4, 5, 6, 7, 8, 9, 10, 11, 12, 13] rfl rfl 0 rfl rfl rfl (Nat.le_of_ble_eq_true rfl) rfl) h ([(o, .inr (8, [.int r0, .int r1, .ref a2, .ref a3, .ref a4, .ref a5, .ref a6, .ref a7, .int r8, .ref a9, .int r10, .int r11, .int r12, .int r13, .int r14, .int r15, .int r16, .int r17, .int r18, .ref a19, .ref a20, .ref a21, .ref a22, .ref a23, .ref a24, .int r25])), (a2, .inl (nz_cI g, 8, .inl f2)), (a3, .inl (nz_cI g, 8, .inl f3)), (a4, .inl (nz_cI g, 320, .inl f4)), (a5, .inl (nz_cI g, 94, .inl f5)), (a6, .inl (nz_cI g, 94, .inl f6)), (a7, .inl (nz_cI g, 168, .inl f7)), (a9, .inl (nz_cI g, 400, .inl f9)), (a19, .inl (nz_cI g, 6, .inl f19)), (a20, .inl (nz_cI g, 49, .inl f20)), (a21, .inl (nz_cI g, 6, .inl f21)), (a22, .inl (nz_cZ g, 2, .inl f22)), (a23, .inl (nz_cI g, 188, .inl f23)), (a24, .inl (nz_cI g, 16, .inl f24))]) (rfl) (fun q16 h => ?_)
    refine k_X8_isLetter q16 (fun hM => nz_runS F gX8_next_X8_isLetter rfl hd_X8_isLetter.2 rfl hM dX8_next_85 [] rfl rfl rfl (Nat.le_of_ble_eq_true rfl) rfl) h ([(o, .inr (8, [.int r0, .int r1, .ref a2, .ref a3, .ref a4, .ref a5, .ref a6, .ref a7, .int r8, .ref a9, .int r10, .int r11, .int r12, .int r13, .int r14, .int r15, .int r16, .int r17, .int r18, .ref a19, .ref a20, .ref a21, .ref a22, .ref a23, .ref a24, .int r25])), (a2, .inl (nz_cI g, 8, .inl f2)), (a3, .inl (nz_cI g, 8, .inl f3)), (a4, .inl (nz_cI g, 320, .inl f4)), (a5, .inl (nz_cI g, 94, .inl f5)), (a6, .inl (nz_cI g, 94, .inl f6)), (a7, .inl (nz_cI g, 168, .inl f7)), (a9, .inl (nz_cI g, 400, .inl f9)), (a19, .inl (nz_cI g, 6, .inl f19)), (a20, .inl (nz_cI g, 49, .inl f20)), (a21, .inl (nz_cI g, 6, .inl f21)), (a22, .inl (nz_cZ g, 2, .inl f22)), (a23, .inl (nz_cI g, 188, .inl f23)), (a24, .inl (nz_cI g, 16, .inl f24))]) (rfl) (fun q17 h => ?_)
    refine nz_if_eq (tgt := 104) F dX8_next_88 (by decide) (fun c18 => ?_) (fun c18 => ?_)
    · have h := h.1 c18
      refine nz_aload_n F dX8_next_104 rfl 0 rfl ?_
      refine nz_iconst (v := 2) F dX8_next_105 (by decide) ?_
      refine nz_put (ws' := [(o, .inr (8, [.int r0, .int r1, .ref a2, .ref a3, .ref a4, .ref a5, .ref a6, .ref a7, .int r8, .ref a9, .int r10, .int r11, .int r12, .int r13, .int 2, .int r15, .int r16, .int r17, .int r18, .ref a19, .ref a20, .ref a21, .ref a22, .ref a23, .ref a24, .int r25])), (a2, .inl (nz_cI g, 8, .inl f2)), (a3, .inl (nz_cI g, 8, .inl f3)), (a4, .inl (nz_cI g, 320, .inl f4)), (a5, .inl (nz_cI g, 94, .inl f5)), (a6, .inl (nz_cI g, 94, .inl f6)), (a7, .inl (nz_cI g, 168, .inl f7)), (a9, .inl (nz_cI g, 400, .inl f9)), (a19, .inl (nz_cI g, 6, .inl f19)), (a20, .inl (nz_cI g, 49, .inl f20)), (a21, .inl (nz_cI g, 6, .inl f21)), (a22, .inl (nz_cZ g, 2, .inl f22)), (a23, .inl (nz_cI g, 188, .inl f23)), (a24, .inl (nz_cI g, 16, .inl f24))]) F iw_X8_next_8 tyX8 tyX8_ok nmX8 0 rfl rfl 14 (by decide) rfl fl_X8_next_96 rfl rfl (Nat.le_of_ble_eq_true rfl) dX8_next_106 rfl ?_
      refine nz_goto (tgt := 196) F dX8_next_109 (by decide) ?_
      exact t_X8_next_196 F o a2 a3 a4 a5 a6 a7 a9 a19 a20 a21 a22 a23 a24 r0 r1 r8 r10 r11 r12 r17 r18 r25 f2 f3 f4 f5 f6 f7 f9 f19 f20 f21 f22 f23 f24 r13 2 r15 r16 hQ h
    · have h := h.2 c18
      refine nz_aload_n F dX8_next_91 rfl 0 rfl ?_
      refine nz_dup F dX8_next_92 rfl ?_
      refine nz_get F iw_X8_next_8 0 rfl rfl 13 (by decide) rfl fl_X8_next_87 rfl dX8_next_93 ?_
      refine nz_iconst (v := 1) F dX8_next_96 (by decide) ?_
      refine nz_iadd F dX8_next_97 ?_
      refine nz_put (ws' := [(o, .inr (8, [.int r0, .int r1, .ref a2, .ref a3, .ref a4, .ref a5, .ref a6, .ref a7, .int r8, .ref a9, .int r10, .int r11, .int r12, .int (r13 + 1), .int r14, .int r15, .int r16, .int r17, .int r18, .ref a19, .ref a20, .ref a21, .ref a22, .ref a23, .ref a24, .int r25])), (a2, .inl (nz_cI g, 8, .inl f2)), (a3, .inl (nz_cI g, 8, .inl f3)), (a4, .inl (nz_cI g, 320, .inl f4)), (a5, .inl (nz_cI g, 94, .inl f5)), (a6, .inl (nz_cI g, 94, .inl f6)), (a7, .inl (nz_cI g, 168, .inl f7)), (a9, .inl (nz_cI g, 400, .inl f9)), (a19, .inl (nz_cI g, 6, .inl f19)), (a20, .inl (nz_cI g, 49, .inl f20)), (a21, .inl (nz_cI g, 6, .inl f21)), (a22, .inl (nz_cZ g, 2, .inl f22)), (a23, .inl (nz_cI g, 188, .inl f23)), (a24, .inl (nz_cI g, 16, .inl f24))]) F iw_X8_next_8 tyX8 tyX8_ok nmX8 0 rfl rfl 13 (by decide) rfl fl_X8_next_87 rfl rfl (Nat.le_of_ble_eq_true rfl) dX8_next_98 rfl ?_
      refine nz_goto (tgt := 77) F dX8_next_101 (by decide) ?_
      exact hR77 (r13 + 1) h
def S_X8_next_0 (r12 : Int32) (f9 : Nat → Int32) (K : Int32 → Int32 → Int32 → Int32 → Prop) (R0 : Int32 → Prop) (r13 : Int32) : Prop := wp_X8_byteAt r12 f9 r13 (fun q1 => ((q1 = 32 → R0 (r13 + 1)) ∧ (¬ (q1 = 32) → wp_X8_byteAt r12 f9 r13 (fun q3 => ((¬ q3 = 10 → wp_X8_byteAt r12 f9 r13 (fun q5 => ((¬ q5 = (-1000000 : Int32) → wp_X8_isLetter q5 (fun q7 => ((q7 = 0 → wp_X8_isFigure q5 (fun q9 => ((q9 = 0 → ((¬ q5 = 59 → S_X8_next_196 (r13 + 1) 0 r13 K) ∧ (q5 = 59 → S_X8_next_196 (r13 + 1) 4 r13 K))) ∧ (¬ (q9 = 0) → (∃ n, nz_it (fun _ => False) (S_X8_next_119 r12 f9 r13 K) n r13))))) ∧ (¬ (q7 = 0) → (∃ n, nz_it (fun _ => False) (S_X8_next_77 r12 f9 r13 K) n r13))))) ∧ (q5 = (-1000000 : Int32) → S_X8_next_196 r13 1 r13 K)))) ∧ (q3 = 10 → R0 (r13 + 1)))))))
set_option maxHeartbeats 4000000 in
set_option maxRecDepth 100000 in
theorem t_X8_next_0 {y : nz_Y} {g : nz_G} (F : nz_F y g cX8_next 2 wsX8_next RX8 none rm_X8_next) {wc0 : va_W} {sz : Nat} {K : Int32 → Int32 → Int32 → Int32 → Prop} (o : Nat) (a2 : Nat) (a3 : Nat) (a4 : Nat) (a5 : Nat) (a6 : Nat) (a7 : Nat) (a9 : Nat) (a19 : Nat) (a20 : Nat) (a21 : Nat) (a22 : Nat) (a23 : Nat) (a24 : Nat) (r0 : Int32) (r1 : Int32) (r8 : Int32) (r10 : Int32) (r11 : Int32) (r12 : Int32) (r17 : Int32) (r18 : Int32) (r25 : Int32) (f2 : Nat → Int32) (f3 : Nat → Int32) (f4 : Nat → Int32) (f5 : Nat → Int32) (f6 : Nat → Int32) (f7 : Nat → Int32) (f9 : Nat → Int32) (f19 : Nat → Int32) (f20 : Nat → Int32) (f21 : Nat → Int32) (f22 : Nat → Int32) (f23 : Nat → Int32) (f24 : Nat → Int32) (r14 : Int32) (r15 : Int32) (r16 : Int32) (hQ : yz_A y = va_A wc0 sz ∧ yz_Q y = MQ (yz_b y) ((nz_Qv g wc0 (fun (u : Int32 × Int32 × Int32 × Int32) => K u.1 u.2.1 u.2.2.1 u.2.2.2) (fun u => [(o, .inr (8, [.int r0, .int r1, .ref a2, .ref a3, .ref a4, .ref a5, .ref a6, .ref a7, .int r8, .ref a9, .int r10, .int r11, .int r12, .int u.1, .int u.2.1, .int u.2.2.1, .int u.2.2.2, .int r17, .int r18, .ref a19, .ref a20, .ref a21, .ref a22, .ref a23, .ref a24, .int r25])), (a2, .inl (nz_cI g, 8, .inl f2)), (a3, .inl (nz_cI g, 8, .inl f3)), (a4, .inl (nz_cI g, 320, .inl f4)), (a5, .inl (nz_cI g, 94, .inl f5)), (a6, .inl (nz_cI g, 94, .inl f6)), (a7, .inl (nz_cI g, 168, .inl f7)), (a9, .inl (nz_cI g, 400, .inl f9)), (a19, .inl (nz_cI g, 6, .inl f19)), (a20, .inl (nz_cI g, 49, .inl f20)), (a21, .inl (nz_cI g, 6, .inl f21)), (a22, .inl (nz_cZ g, 2, .inl f22)), (a23, .inl (nz_cI g, 188, .inl f23)), (a24, .inl (nz_cI g, 16, .inl f24))])) sz) (yz_a y) (yz_s y) 0 0 (va_A wc0 sz)) : ∀ (n1 : Nat) (r13 : Int32), nz_it (fun _ => False) (S_X8_next_0 r12 f9 K) n1 r13 → nz_V y g 0 0 [(o, .inr (8, [.int r0, .int r1, .ref a2, .ref a3, .ref a4, .ref a5, .ref a6, .ref a7, .int r8, .ref a9, .int r10, .int r11, .int r12, .int r13, .int r14, .int r15, .int r16, .int r17, .int r18, .ref a19, .ref a20, .ref a21, .ref a22, .ref a23, .ref a24, .int r25])), (a2, .inl (nz_cI g, 8, .inl f2)), (a3, .inl (nz_cI g, 8, .inl f3)), (a4, .inl (nz_cI g, 320, .inl f4)), (a5, .inl (nz_cI g, 94, .inl f5)), (a6, .inl (nz_cI g, 94, .inl f6)), (a7, .inl (nz_cI g, 168, .inl f7)), (a9, .inl (nz_cI g, 400, .inl f9)), (a19, .inl (nz_cI g, 6, .inl f19)), (a20, .inl (nz_cI g, 49, .inl f20)), (a21, .inl (nz_cI g, 6, .inl f21)), (a22, .inl (nz_cZ g, 2, .inl f22)), (a23, .inl (nz_cI g, 188, .inl f23)), (a24, .inl (nz_cI g, 16, .inl f24))] 0 [(0, .ref o)] [] := by
  intro n1
  induction n1 with
  | zero =>
    intro r13 h
    exact h.elim
  | succ n1 hR0 =>
    intro r13 h
    have h : S_X8_next_0 r12 f9 K (nz_it (fun _ => False) (S_X8_next_0 r12 f9 K) n1) r13 := h
    unfold S_X8_next_0 at h
    refine nz_aload_n F dX8_next_0 rfl 0 rfl ?_
    refine nz_aload_n F dX8_next_1 rfl 0 rfl ?_
    refine nz_get F iw_X8_next_8 0 rfl rfl 13 (by decide) rfl fl_X8_next_87 rfl dX8_next_2 ?_
    refine k_X8_byteAt o a2 a3 a4 a5 a6 a7 a9 a19 a20 a21 a22 a23 a24 r0 r1 r8 r10 r11 r12 r13 r14 r15 r16 r17 r18 r25 f2 f3 f4 f5 f6 f7 f9 f19 f20 f21 f22 f23 f24 r13 (fun hM => nz_runV F gX8_next_X8_byteAt rfl hd_X8_byteAt rfl hM dX8_next_5 [0, 1, 2, 3, 4, 5, 6, 7, 8, 9, 10, 11, 12, 13] rfl rfl 0 rfl rfl rfl (Nat.le_of_ble_eq_true rfl) rfl) h ([(o, .inr (8, [.int r0, .int r1, .ref a2, .ref a3, .ref a4, .ref a5, .ref a6, .ref a7, .int r8, .ref a9, .int r10, .int r11, .int r12, .int r13, .int r14, .int r15, .int r16, .int r17, .int r18, .ref a19, .ref a20, .ref a21, .ref a22, .ref a23, .ref a24, .int r25])), (a2, .inl (nz_cI g, 8, .inl f2)), (a3, .inl (nz_cI g, 8, .inl f3)), (a4, .inl (nz_cI g, 320, .inl f4)), (a5, .inl (nz_cI g, 94, .inl f5)), (a6, .inl (nz_cI g, 94, .inl f6)), (a7, .inl (nz_cI g, 168, .inl f7)), (a9, .inl (nz_cI g, 400, .inl f9)), (a19, .inl (nz_cI g, 6, .inl f19)), (a20, .inl (nz_cI g, 49, .inl f20)), (a21, .inl (nz_cI g, 6, .inl f21)), (a22, .inl (nz_cZ g, 2, .inl f22)), (a23, .inl (nz_cI g, 188, .inl f23)), (a24, .inl (nz_cI g, 16, .inl f24))]) (rfl) (fun q1 h => ?_)
    refine nz_bipush (v := 32) F dX8_next_8 (by decide) ?_
    refine nz_icmp_eq (tgt := 26) F dX8_next_10 (by decide) (fun c2 => ?_) (fun c2 => ?_)
    · have h := h.1 c2
      refine nz_aload_n F dX8_next_26 rfl 0 rfl ?_
      refine nz_dup F dX8_next_27 rfl ?_
      refine nz_get F iw_X8_next_8 0 rfl rfl 13 (by decide) rfl fl_X8_next_87 rfl dX8_next_28 ?_
      refine nz_iconst (v := 1) F dX8_next_31 (by decide) ?_
      refine nz_iadd F dX8_next_32 ?_
      refine nz_put (ws' := [(o, .inr (8, [.int r0, .int r1, .ref a2, .ref a3, .ref a4, .ref a5, .ref a6, .ref a7, .int r8, .ref a9, .int r10, .int r11, .int r12, .int (r13 + 1), .int r14, .int r15, .int r16, .int r17, .int r18, .ref a19, .ref a20, .ref a21, .ref a22, .ref a23, .ref a24, .int r25])), (a2, .inl (nz_cI g, 8, .inl f2)), (a3, .inl (nz_cI g, 8, .inl f3)), (a4, .inl (nz_cI g, 320, .inl f4)), (a5, .inl (nz_cI g, 94, .inl f5)), (a6, .inl (nz_cI g, 94, .inl f6)), (a7, .inl (nz_cI g, 168, .inl f7)), (a9, .inl (nz_cI g, 400, .inl f9)), (a19, .inl (nz_cI g, 6, .inl f19)), (a20, .inl (nz_cI g, 49, .inl f20)), (a21, .inl (nz_cI g, 6, .inl f21)), (a22, .inl (nz_cZ g, 2, .inl f22)), (a23, .inl (nz_cI g, 188, .inl f23)), (a24, .inl (nz_cI g, 16, .inl f24))]) F iw_X8_next_8 tyX8 tyX8_ok nmX8 0 rfl rfl 13 (by decide) rfl fl_X8_next_87 rfl rfl (Nat.le_of_ble_eq_true rfl) dX8_next_33 rfl ?_
      refine nz_goto (tgt := 0) F dX8_next_36 (by decide) ?_
      exact hR0 (r13 + 1) h
    · have h := h.2 c2
      refine nz_aload_n F dX8_next_13 rfl 0 rfl ?_
      refine nz_aload_n F dX8_next_14 rfl 0 rfl ?_
      refine nz_get F iw_X8_next_8 0 rfl rfl 13 (by decide) rfl fl_X8_next_87 rfl dX8_next_15 ?_
      refine k_X8_byteAt o a2 a3 a4 a5 a6 a7 a9 a19 a20 a21 a22 a23 a24 r0 r1 r8 r10 r11 r12 r13 r14 r15 r16 r17 r18 r25 f2 f3 f4 f5 f6 f7 f9 f19 f20 f21 f22 f23 f24 r13 (fun hM => nz_runV F gX8_next_X8_byteAt rfl hd_X8_byteAt rfl hM dX8_next_18 [0, 1, 2, 3, 4, 5, 6, 7, 8, 9, 10, 11, 12, 13] rfl rfl 0 rfl rfl rfl (Nat.le_of_ble_eq_true rfl) rfl) h ([(o, .inr (8, [.int r0, .int r1, .ref a2, .ref a3, .ref a4, .ref a5, .ref a6, .ref a7, .int r8, .ref a9, .int r10, .int r11, .int r12, .int r13, .int r14, .int r15, .int r16, .int r17, .int r18, .ref a19, .ref a20, .ref a21, .ref a22, .ref a23, .ref a24, .int r25])), (a2, .inl (nz_cI g, 8, .inl f2)), (a3, .inl (nz_cI g, 8, .inl f3)), (a4, .inl (nz_cI g, 320, .inl f4)), (a5, .inl (nz_cI g, 94, .inl f5)), (a6, .inl (nz_cI g, 94, .inl f6)), (a7, .inl (nz_cI g, 168, .inl f7)), (a9, .inl (nz_cI g, 400, .inl f9)), (a19, .inl (nz_cI g, 6, .inl f19)), (a20, .inl (nz_cI g, 49, .inl f20)), (a21, .inl (nz_cI g, 6, .inl f21)), (a22, .inl (nz_cZ g, 2, .inl f22)), (a23, .inl (nz_cI g, 188, .inl f23)), (a24, .inl (nz_cI g, 16, .inl f24))]) (rfl) (fun q3 h => ?_)
      refine nz_bipush (v := 10) F dX8_next_21 (by decide) ?_
      refine nz_icmp_ne (tgt := 39) F dX8_next_23 (by decide) (fun c4 => ?_) (fun c4 => ?_)
      · have h := h.1 c4
        refine nz_aload_n F dX8_next_39 rfl 0 rfl ?_
        refine nz_aload_n F dX8_next_40 rfl 0 rfl ?_
        refine nz_get F iw_X8_next_8 0 rfl rfl 13 (by decide) rfl fl_X8_next_87 rfl dX8_next_41 ?_
        refine nz_put (ws' := [(o, .inr (8, [.int r0, .int r1, .ref a2, .ref a3, .ref a4, .ref a5, .ref a6, .ref a7, .int r8, .ref a9, .int r10, .int r11, .int r12, .int r13, .int r14, .int r13, .int r16, .int r17, .int r18, .ref a19, .ref a20, .ref a21, .ref a22, .ref a23, .ref a24, .int r25])), (a2, .inl (nz_cI g, 8, .inl f2)), (a3, .inl (nz_cI g, 8, .inl f3)), (a4, .inl (nz_cI g, 320, .inl f4)), (a5, .inl (nz_cI g, 94, .inl f5)), (a6, .inl (nz_cI g, 94, .inl f6)), (a7, .inl (nz_cI g, 168, .inl f7)), (a9, .inl (nz_cI g, 400, .inl f9)), (a19, .inl (nz_cI g, 6, .inl f19)), (a20, .inl (nz_cI g, 49, .inl f20)), (a21, .inl (nz_cI g, 6, .inl f21)), (a22, .inl (nz_cZ g, 2, .inl f22)), (a23, .inl (nz_cI g, 188, .inl f23)), (a24, .inl (nz_cI g, 16, .inl f24))]) F iw_X8_next_8 tyX8 tyX8_ok nmX8 0 rfl rfl 15 (by decide) rfl fl_X8_next_93 rfl rfl (Nat.le_of_ble_eq_true rfl) dX8_next_44 rfl ?_
        refine nz_aload_n F dX8_next_47 rfl 0 rfl ?_
        refine nz_aload_n F dX8_next_48 rfl 0 rfl ?_
        refine nz_get F iw_X8_next_8 0 rfl rfl 13 (by decide) rfl fl_X8_next_87 rfl dX8_next_49 ?_
        refine k_X8_byteAt o a2 a3 a4 a5 a6 a7 a9 a19 a20 a21 a22 a23 a24 r0 r1 r8 r10 r11 r12 r13 r14 r13 r16 r17 r18 r25 f2 f3 f4 f5 f6 f7 f9 f19 f20 f21 f22 f23 f24 r13 (fun hM => nz_runV F gX8_next_X8_byteAt rfl hd_X8_byteAt rfl hM dX8_next_52 [0, 1, 2, 3, 4, 5, 6, 7, 8, 9, 10, 11, 12, 13] rfl rfl 0 rfl rfl rfl (Nat.le_of_ble_eq_true rfl) rfl) h ([(o, .inr (8, [.int r0, .int r1, .ref a2, .ref a3, .ref a4, .ref a5, .ref a6, .ref a7, .int r8, .ref a9, .int r10, .int r11, .int r12, .int r13, .int r14, .int r13, .int r16, .int r17, .int r18, .ref a19, .ref a20, .ref a21, .ref a22, .ref a23, .ref a24, .int r25])), (a2, .inl (nz_cI g, 8, .inl f2)), (a3, .inl (nz_cI g, 8, .inl f3)), (a4, .inl (nz_cI g, 320, .inl f4)), (a5, .inl (nz_cI g, 94, .inl f5)), (a6, .inl (nz_cI g, 94, .inl f6)), (a7, .inl (nz_cI g, 168, .inl f7)), (a9, .inl (nz_cI g, 400, .inl f9)), (a19, .inl (nz_cI g, 6, .inl f19)), (a20, .inl (nz_cI g, 49, .inl f20)), (a21, .inl (nz_cI g, 6, .inl f21)), (a22, .inl (nz_cZ g, 2, .inl f22)), (a23, .inl (nz_cI g, 188, .inl f23)), (a24, .inl (nz_cI g, 16, .inl f24))]) (rfl) (fun q5 h => ?_)
        refine nz_istore_n (lv' := [(1, .int q5), (0, .ref o)]) F dX8_next_55 rfl (by decide) rfl ?_
        refine nz_iload_n F dX8_next_56 rfl 0 rfl ?_
        refine nz_ldc (v := (-1000000 : Int32)) F wd_X8_next_c86 dX8_next_57 ?_
        refine nz_icmp_ne (tgt := 70) F dX8_next_59 (by decide) (fun c6 => ?_) (fun c6 => ?_)
        · have h := h.1 c6
          refine nz_iload_n F dX8_next_70 rfl 0 rfl ?_
          refine k_X8_isLetter q5 (fun hM => nz_runS F gX8_next_X8_isLetter rfl hd_X8_isLetter.2 rfl hM dX8_next_71 [] rfl rfl rfl (Nat.le_of_ble_eq_true rfl) rfl) h ([(o, .inr (8, [.int r0, .int r1, .ref a2, .ref a3, .ref a4, .ref a5, .ref a6, .ref a7, .int r8, .ref a9, .int r10, .int r11, .int r12, .int r13, .int r14, .int r13, .int r16, .int r17, .int r18, .ref a19, .ref a20, .ref a21, .ref a22, .ref a23, .ref a24, .int r25])), (a2, .inl (nz_cI g, 8, .inl f2)), (a3, .inl (nz_cI g, 8, .inl f3)), (a4, .inl (nz_cI g, 320, .inl f4)), (a5, .inl (nz_cI g, 94, .inl f5)), (a6, .inl (nz_cI g, 94, .inl f6)), (a7, .inl (nz_cI g, 168, .inl f7)), (a9, .inl (nz_cI g, 400, .inl f9)), (a19, .inl (nz_cI g, 6, .inl f19)), (a20, .inl (nz_cI g, 49, .inl f20)), (a21, .inl (nz_cI g, 6, .inl f21)), (a22, .inl (nz_cZ g, 2, .inl f22)), (a23, .inl (nz_cI g, 188, .inl f23)), (a24, .inl (nz_cI g, 16, .inl f24))]) (rfl) (fun q7 h => ?_)
          refine nz_if_eq (tgt := 112) F dX8_next_74 (by decide) (fun c8 => ?_) (fun c8 => ?_)
          · have h := h.1 c8
            refine nz_iload_n F dX8_next_112 rfl 0 rfl ?_
            refine k_X8_isFigure q5 (fun hM => nz_runS F gX8_next_X8_isFigure rfl hd_X8_isFigure.2 rfl hM dX8_next_113 [] rfl rfl rfl (Nat.le_of_ble_eq_true rfl) rfl) h ([(o, .inr (8, [.int r0, .int r1, .ref a2, .ref a3, .ref a4, .ref a5, .ref a6, .ref a7, .int r8, .ref a9, .int r10, .int r11, .int r12, .int r13, .int r14, .int r13, .int r16, .int r17, .int r18, .ref a19, .ref a20, .ref a21, .ref a22, .ref a23, .ref a24, .int r25])), (a2, .inl (nz_cI g, 8, .inl f2)), (a3, .inl (nz_cI g, 8, .inl f3)), (a4, .inl (nz_cI g, 320, .inl f4)), (a5, .inl (nz_cI g, 94, .inl f5)), (a6, .inl (nz_cI g, 94, .inl f6)), (a7, .inl (nz_cI g, 168, .inl f7)), (a9, .inl (nz_cI g, 400, .inl f9)), (a19, .inl (nz_cI g, 6, .inl f19)), (a20, .inl (nz_cI g, 49, .inl f20)), (a21, .inl (nz_cI g, 6, .inl f21)), (a22, .inl (nz_cZ g, 2, .inl f22)), (a23, .inl (nz_cI g, 188, .inl f23)), (a24, .inl (nz_cI g, 16, .inl f24))]) (rfl) (fun q9 h => ?_)
            refine nz_if_eq (tgt := 171) F dX8_next_116 (by decide) (fun c10 => ?_) (fun c10 => ?_)
            · have h := h.1 c10
              refine nz_aload_n F dX8_next_171 rfl 1 rfl ?_
              refine nz_dup F dX8_next_172 rfl ?_
              refine nz_get F iw_X8_next_8 0 rfl rfl 13 (by decide) rfl fl_X8_next_87 rfl dX8_next_173 ?_
              refine nz_iconst (v := 1) F dX8_next_176 (by decide) ?_
              refine nz_iadd F dX8_next_177 ?_
              refine nz_put (ws' := [(o, .inr (8, [.int r0, .int r1, .ref a2, .ref a3, .ref a4, .ref a5, .ref a6, .ref a7, .int r8, .ref a9, .int r10, .int r11, .int r12, .int (r13 + 1), .int r14, .int r13, .int r16, .int r17, .int r18, .ref a19, .ref a20, .ref a21, .ref a22, .ref a23, .ref a24, .int r25])), (a2, .inl (nz_cI g, 8, .inl f2)), (a3, .inl (nz_cI g, 8, .inl f3)), (a4, .inl (nz_cI g, 320, .inl f4)), (a5, .inl (nz_cI g, 94, .inl f5)), (a6, .inl (nz_cI g, 94, .inl f6)), (a7, .inl (nz_cI g, 168, .inl f7)), (a9, .inl (nz_cI g, 400, .inl f9)), (a19, .inl (nz_cI g, 6, .inl f19)), (a20, .inl (nz_cI g, 49, .inl f20)), (a21, .inl (nz_cI g, 6, .inl f21)), (a22, .inl (nz_cZ g, 2, .inl f22)), (a23, .inl (nz_cI g, 188, .inl f23)), (a24, .inl (nz_cI g, 16, .inl f24))]) F iw_X8_next_8 tyX8 tyX8_ok nmX8 0 rfl rfl 13 (by decide) rfl fl_X8_next_87 rfl rfl (Nat.le_of_ble_eq_true rfl) dX8_next_178 rfl ?_
              refine nz_aload_n F dX8_next_181 rfl 1 rfl ?_
              refine nz_iload_n F dX8_next_182 rfl 0 rfl ?_
              refine nz_bipush (v := 59) F dX8_next_183 (by decide) ?_
              refine nz_icmp_ne (tgt := 192) F dX8_next_185 (by decide) (fun c11 => ?_) (fun c11 => ?_)
              · have h := h.1 c11
                refine nz_iconst (v := 0) F dX8_next_192 (by decide) ?_
                refine nz_put (ws' := [(o, .inr (8, [.int r0, .int r1, .ref a2, .ref a3, .ref a4, .ref a5, .ref a6, .ref a7, .int r8, .ref a9, .int r10, .int r11, .int r12, .int (r13 + 1), .int 0, .int r13, .int r16, .int r17, .int r18, .ref a19, .ref a20, .ref a21, .ref a22, .ref a23, .ref a24, .int r25])), (a2, .inl (nz_cI g, 8, .inl f2)), (a3, .inl (nz_cI g, 8, .inl f3)), (a4, .inl (nz_cI g, 320, .inl f4)), (a5, .inl (nz_cI g, 94, .inl f5)), (a6, .inl (nz_cI g, 94, .inl f6)), (a7, .inl (nz_cI g, 168, .inl f7)), (a9, .inl (nz_cI g, 400, .inl f9)), (a19, .inl (nz_cI g, 6, .inl f19)), (a20, .inl (nz_cI g, 49, .inl f20)), (a21, .inl (nz_cI g, 6, .inl f21)), (a22, .inl (nz_cZ g, 2, .inl f22)), (a23, .inl (nz_cI g, 188, .inl f23)), (a24, .inl (nz_cI g, 16, .inl f24))]) F iw_X8_next_8 tyX8 tyX8_ok nmX8 0 rfl rfl 14 (by decide) rfl fl_X8_next_96 rfl rfl (Nat.le_of_ble_eq_true rfl) dX8_next_193 rfl ?_
                refine nz_ls (lv' := [(0, .ref o)]) [1] rfl ?_
                exact t_X8_next_196 F o a2 a3 a4 a5 a6 a7 a9 a19 a20 a21 a22 a23 a24 r0 r1 r8 r10 r11 r12 r17 r18 r25 f2 f3 f4 f5 f6 f7 f9 f19 f20 f21 f22 f23 f24 (r13 + 1) 0 r13 r16 hQ h
              · have h := h.2 c11
                refine nz_iconst (v := 4) F dX8_next_188 (by decide) ?_
                refine nz_goto (tgt := 193) F dX8_next_189 (by decide) ?_
                refine nz_put (ws' := [(o, .inr (8, [.int r0, .int r1, .ref a2, .ref a3, .ref a4, .ref a5, .ref a6, .ref a7, .int r8, .ref a9, .int r10, .int r11, .int r12, .int (r13 + 1), .int 4, .int r13, .int r16, .int r17, .int r18, .ref a19, .ref a20, .ref a21, .ref a22, .ref a23, .ref a24, .int r25])), (a2, .inl (nz_cI g, 8, .inl f2)), (a3, .inl (nz_cI g, 8, .inl f3)), (a4, .inl (nz_cI g, 320, .inl f4)), (a5, .inl (nz_cI g, 94, .inl f5)), (a6, .inl (nz_cI g, 94, .inl f6)), (a7, .inl (nz_cI g, 168, .inl f7)), (a9, .inl (nz_cI g, 400, .inl f9)), (a19, .inl (nz_cI g, 6, .inl f19)), (a20, .inl (nz_cI g, 49, .inl f20)), (a21, .inl (nz_cI g, 6, .inl f21)), (a22, .inl (nz_cZ g, 2, .inl f22)), (a23, .inl (nz_cI g, 188, .inl f23)), (a24, .inl (nz_cI g, 16, .inl f24))]) F iw_X8_next_8 tyX8 tyX8_ok nmX8 0 rfl rfl 14 (by decide) rfl fl_X8_next_96 rfl rfl (Nat.le_of_ble_eq_true rfl) dX8_next_193 rfl ?_
                refine nz_ls (lv' := [(0, .ref o)]) [1] rfl ?_
                exact t_X8_next_196 F o a2 a3 a4 a5 a6 a7 a9 a19 a20 a21 a22 a23 a24 r0 r1 r8 r10 r11 r12 r17 r18 r25 f2 f3 f4 f5 f6 f7 f9 f19 f20 f21 f22 f23 f24 (r13 + 1) 4 r13 r16 hQ h
            · have h := h.2 c10
              refine nz_ls (lv' := [(0, .ref o)]) [1] rfl ?_
              obtain ⟨n1, h⟩ := h
              exact t_X8_next_119 F o a2 a3 a4 a5 a6 a7 a9 a19 a20 a21 a22 a23 a24 r0 r1 r8 r10 r11 r12 r17 r18 r25 f2 f3 f4 f5 f6 f7 f9 f19 f20 f21 f22 f23 f24 r14 r13 r16 hQ n1 r13 h
          · have h := h.2 c8
            refine nz_ls (lv' := [(0, .ref o)]) [1] rfl ?_
            obtain ⟨n1, h⟩ := h
            exact t_X8_next_77 F o a2 a3 a4 a5 a6 a7 a9 a19 a20 a21 a22 a23 a24 r0 r1 r8 r10 r11 r12 r17 r18 r25 f2 f3 f4 f5 f6 f7 f9 f19 f20 f21 f22 f23 f24 r14 r13 r16 hQ n1 r13 h
        · have h := h.2 c6
          refine nz_aload_n F dX8_next_62 rfl 1 rfl ?_
          refine nz_iconst (v := 1) F dX8_next_63 (by decide) ?_
          refine nz_put (ws' := [(o, .inr (8, [.int r0, .int r1, .ref a2, .ref a3, .ref a4, .ref a5, .ref a6, .ref a7, .int r8, .ref a9, .int r10, .int r11, .int r12, .int r13, .int 1, .int r13, .int r16, .int r17, .int r18, .ref a19, .ref a20, .ref a21, .ref a22, .ref a23, .ref a24, .int r25])), (a2, .inl (nz_cI g, 8, .inl f2)), (a3, .inl (nz_cI g, 8, .inl f3)), (a4, .inl (nz_cI g, 320, .inl f4)), (a5, .inl (nz_cI g, 94, .inl f5)), (a6, .inl (nz_cI g, 94, .inl f6)), (a7, .inl (nz_cI g, 168, .inl f7)), (a9, .inl (nz_cI g, 400, .inl f9)), (a19, .inl (nz_cI g, 6, .inl f19)), (a20, .inl (nz_cI g, 49, .inl f20)), (a21, .inl (nz_cI g, 6, .inl f21)), (a22, .inl (nz_cZ g, 2, .inl f22)), (a23, .inl (nz_cI g, 188, .inl f23)), (a24, .inl (nz_cI g, 16, .inl f24))]) F iw_X8_next_8 tyX8 tyX8_ok nmX8 0 rfl rfl 14 (by decide) rfl fl_X8_next_96 rfl rfl (Nat.le_of_ble_eq_true rfl) dX8_next_64 rfl ?_
          refine nz_goto (tgt := 196) F dX8_next_67 (by decide) ?_
          refine nz_ls (lv' := [(0, .ref o)]) [1] rfl ?_
          exact t_X8_next_196 F o a2 a3 a4 a5 a6 a7 a9 a19 a20 a21 a22 a23 a24 r0 r1 r8 r10 r11 r12 r17 r18 r25 f2 f3 f4 f5 f6 f7 f9 f19 f20 f21 f22 f23 f24 r13 1 r13 r16 hQ h
      · have h := h.2 c4
        refine nz_aload_n F dX8_next_26 rfl 0 rfl ?_
        refine nz_dup F dX8_next_27 rfl ?_
        refine nz_get F iw_X8_next_8 0 rfl rfl 13 (by decide) rfl fl_X8_next_87 rfl dX8_next_28 ?_
        refine nz_iconst (v := 1) F dX8_next_31 (by decide) ?_
        refine nz_iadd F dX8_next_32 ?_
        refine nz_put (ws' := [(o, .inr (8, [.int r0, .int r1, .ref a2, .ref a3, .ref a4, .ref a5, .ref a6, .ref a7, .int r8, .ref a9, .int r10, .int r11, .int r12, .int (r13 + 1), .int r14, .int r15, .int r16, .int r17, .int r18, .ref a19, .ref a20, .ref a21, .ref a22, .ref a23, .ref a24, .int r25])), (a2, .inl (nz_cI g, 8, .inl f2)), (a3, .inl (nz_cI g, 8, .inl f3)), (a4, .inl (nz_cI g, 320, .inl f4)), (a5, .inl (nz_cI g, 94, .inl f5)), (a6, .inl (nz_cI g, 94, .inl f6)), (a7, .inl (nz_cI g, 168, .inl f7)), (a9, .inl (nz_cI g, 400, .inl f9)), (a19, .inl (nz_cI g, 6, .inl f19)), (a20, .inl (nz_cI g, 49, .inl f20)), (a21, .inl (nz_cI g, 6, .inl f21)), (a22, .inl (nz_cZ g, 2, .inl f22)), (a23, .inl (nz_cI g, 188, .inl f23)), (a24, .inl (nz_cI g, 16, .inl f24))]) F iw_X8_next_8 tyX8 tyX8_ok nmX8 0 rfl rfl 13 (by decide) rfl fl_X8_next_87 rfl rfl (Nat.le_of_ble_eq_true rfl) dX8_next_33 rfl ?_
        refine nz_goto (tgt := 0) F dX8_next_36 (by decide) ?_
        exact hR0 (r13 + 1) h
def wp_X8_next (r12 : Int32) (r13 : Int32) (f9 : Nat → Int32) (K : Int32 → Int32 → Int32 → Int32 → Prop) : Prop := (∃ n, nz_it (fun _ => False) (S_X8_next_0 r12 f9 K) n r13)
set_option maxHeartbeats 4000000 in
set_option maxRecDepth 100000 in
theorem c_X8_next (l : Launch) (g : nz_G) (o : Nat) (a2 : Nat) (a3 : Nat) (a4 : Nat) (a5 : Nat) (a6 : Nat) (a7 : Nat) (a9 : Nat) (a19 : Nat) (a20 : Nat) (a21 : Nat) (a22 : Nat) (a23 : Nat) (a24 : Nat) (r0 : Int32) (r1 : Int32) (r8 : Int32) (r10 : Int32) (r11 : Int32) (r12 : Int32) (r13 : Int32) (r14 : Int32) (r15 : Int32) (r16 : Int32) (r17 : Int32) (r18 : Int32) (r25 : Int32) (f2 : Nat → Int32) (f3 : Nat → Int32) (f4 : Nat → Int32) (f5 : Nat → Int32) (f6 : Nat → Int32) (f7 : Nat → Int32) (f9 : Nat → Int32) (f19 : Nat → Int32) (f20 : Nat → Int32) (f21 : Nat → Int32) (f22 : Nat → Int32) (f23 : Nat → Int32) (f24 : Nat → Int32) (K : Int32 → Int32 → Int32 → Int32 → Prop) (h : wp_X8_next r12 r13 f9 K) : nz_M l yX8_next wsX8_next rm_X8_next g [.ref o] [(o, .inr (8, [.int r0, .int r1, .ref a2, .ref a3, .ref a4, .ref a5, .ref a6, .ref a7, .int r8, .ref a9, .int r10, .int r11, .int r12, .int r13, .int r14, .int r15, .int r16, .int r17, .int r18, .ref a19, .ref a20, .ref a21, .ref a22, .ref a23, .ref a24, .int r25])), (a2, .inl (nz_cI g, 8, .inl f2)), (a3, .inl (nz_cI g, 8, .inl f3)), (a4, .inl (nz_cI g, 320, .inl f4)), (a5, .inl (nz_cI g, 94, .inl f5)), (a6, .inl (nz_cI g, 94, .inl f6)), (a7, .inl (nz_cI g, 168, .inl f7)), (a9, .inl (nz_cI g, 400, .inl f9)), (a19, .inl (nz_cI g, 6, .inl f19)), (a20, .inl (nz_cI g, 49, .inl f20)), (a21, .inl (nz_cI g, 6, .inl f21)), (a22, .inl (nz_cZ g, 2, .inl f22)), (a23, .inl (nz_cI g, 188, .inl f23)), (a24, .inl (nz_cI g, 16, .inl f24))] (nz_Qv g [(o, .inr (8, [.int r0, .int r1, .ref a2, .ref a3, .ref a4, .ref a5, .ref a6, .ref a7, .int r8, .ref a9, .int r10, .int r11, .int r12, .int r13, .int r14, .int r15, .int r16, .int r17, .int r18, .ref a19, .ref a20, .ref a21, .ref a22, .ref a23, .ref a24, .int r25])), (a2, .inl (nz_cI g, 8, .inl f2)), (a3, .inl (nz_cI g, 8, .inl f3)), (a4, .inl (nz_cI g, 320, .inl f4)), (a5, .inl (nz_cI g, 94, .inl f5)), (a6, .inl (nz_cI g, 94, .inl f6)), (a7, .inl (nz_cI g, 168, .inl f7)), (a9, .inl (nz_cI g, 400, .inl f9)), (a19, .inl (nz_cI g, 6, .inl f19)), (a20, .inl (nz_cI g, 49, .inl f20)), (a21, .inl (nz_cI g, 6, .inl f21)), (a22, .inl (nz_cZ g, 2, .inl f22)), (a23, .inl (nz_cI g, 188, .inl f23)), (a24, .inl (nz_cI g, 16, .inl f24))] (fun (u : Int32 × Int32 × Int32 × Int32) => K u.1 u.2.1 u.2.2.1 u.2.2.2) (fun u => [(o, .inr (8, [.int r0, .int r1, .ref a2, .ref a3, .ref a4, .ref a5, .ref a6, .ref a7, .int r8, .ref a9, .int r10, .int r11, .int r12, .int u.1, .int u.2.1, .int u.2.2.1, .int u.2.2.2, .int r17, .int r18, .ref a19, .ref a20, .ref a21, .ref a22, .ref a23, .ref a24, .int r25])), (a2, .inl (nz_cI g, 8, .inl f2)), (a3, .inl (nz_cI g, 8, .inl f3)), (a4, .inl (nz_cI g, 320, .inl f4)), (a5, .inl (nz_cI g, 94, .inl f5)), (a6, .inl (nz_cI g, 94, .inl f6)), (a7, .inl (nz_cI g, 168, .inl f7)), (a9, .inl (nz_cI g, 400, .inl f9)), (a19, .inl (nz_cI g, 6, .inl f19)), (a20, .inl (nz_cI g, 49, .inl f20)), (a21, .inl (nz_cI g, 6, .inl f21)), (a22, .inl (nz_cZ g, 2, .inl f22)), (a23, .inl (nz_cI g, 188, .inl f23)), (a24, .inl (nz_cI g, 16, .inl f24))])) := by
  refine nz_M.of (bytes := cX8_next) (nL := 2) (ret := none) (own := RX8) (by decide) rfl rfl ⟨rfl, rfl⟩ rfl ?_
  intro y F hl hQ
  obtain ⟨sz, hQ⟩ := hQ
  refine nz_ent (lv' := [(0, .ref o)]) rfl ?_
  unfold wp_X8_next at h
  obtain ⟨n1, h⟩ := h
  exact t_X8_next_0 F o a2 a3 a4 a5 a6 a7 a9 a19 a20 a21 a22 a23 a24 r0 r1 r8 r10 r11 r12 r17 r18 r25 f2 f3 f4 f5 f6 f7 f9 f19 f20 f21 f22 f23 f24 r14 r15 r16 hQ n1 r13 h
theorem k_X8_next {y : nz_Y} {g : nz_G} {k n : Nat} {ws : va_W} {pc : Nat} {ls : List (Nat × Value)} {st rest : List Value} {av : Array Value} {isC : List Nat} {K : Int32 → Int32 → Int32 → Int32 → Prop} (o : Nat) (a2 : Nat) (a3 : Nat) (a4 : Nat) (a5 : Nat) (a6 : Nat) (a7 : Nat) (a9 : Nat) (a19 : Nat) (a20 : Nat) (a21 : Nat) (a22 : Nat) (a23 : Nat) (a24 : Nat) (r0 : Int32) (r1 : Int32) (r8 : Int32) (r10 : Int32) (r11 : Int32) (r12 : Int32) (r13 : Int32) (r14 : Int32) (r15 : Int32) (r16 : Int32) (r17 : Int32) (r18 : Int32) (r25 : Int32) (f2 : Nat → Int32) (f3 : Nat → Int32) (f4 : Nat → Int32) (f5 : Nat → Int32) (f6 : Nat → Int32) (f7 : Nat → Int32) (f9 : Nat → Int32) (f19 : Nat → Int32) (f20 : Nat → Int32) (f21 : Nat → Int32) (f22 : Nat → Int32) (f23 : Nat → Int32) (f24 : Nat → Int32) (run : nz_M (yz_l y) yX8_next wsX8_next rm_X8_next g [.ref o] [(o, .inr (8, [.int r0, .int r1, .ref a2, .ref a3, .ref a4, .ref a5, .ref a6, .ref a7, .int r8, .ref a9, .int r10, .int r11, .int r12, .int r13, .int r14, .int r15, .int r16, .int r17, .int r18, .ref a19, .ref a20, .ref a21, .ref a22, .ref a23, .ref a24, .int r25])), (a2, .inl (nz_cI g, 8, .inl f2)), (a3, .inl (nz_cI g, 8, .inl f3)), (a4, .inl (nz_cI g, 320, .inl f4)), (a5, .inl (nz_cI g, 94, .inl f5)), (a6, .inl (nz_cI g, 94, .inl f6)), (a7, .inl (nz_cI g, 168, .inl f7)), (a9, .inl (nz_cI g, 400, .inl f9)), (a19, .inl (nz_cI g, 6, .inl f19)), (a20, .inl (nz_cI g, 49, .inl f20)), (a21, .inl (nz_cI g, 6, .inl f21)), (a22, .inl (nz_cZ g, 2, .inl f22)), (a23, .inl (nz_cI g, 188, .inl f23)), (a24, .inl (nz_cI g, 16, .inl f24))] (nz_Qv g [(o, .inr (8, [.int r0, .int r1, .ref a2, .ref a3, .ref a4, .ref a5, .ref a6, .ref a7, .int r8, .ref a9, .int r10, .int r11, .int r12, .int r13, .int r14, .int r15, .int r16, .int r17, .int r18, .ref a19, .ref a20, .ref a21, .ref a22, .ref a23, .ref a24, .int r25])), (a2, .inl (nz_cI g, 8, .inl f2)), (a3, .inl (nz_cI g, 8, .inl f3)), (a4, .inl (nz_cI g, 320, .inl f4)), (a5, .inl (nz_cI g, 94, .inl f5)), (a6, .inl (nz_cI g, 94, .inl f6)), (a7, .inl (nz_cI g, 168, .inl f7)), (a9, .inl (nz_cI g, 400, .inl f9)), (a19, .inl (nz_cI g, 6, .inl f19)), (a20, .inl (nz_cI g, 49, .inl f20)), (a21, .inl (nz_cI g, 6, .inl f21)), (a22, .inl (nz_cZ g, 2, .inl f22)), (a23, .inl (nz_cI g, 188, .inl f23)), (a24, .inl (nz_cI g, 16, .inl f24))] (fun (u : Int32 × Int32 × Int32 × Int32) => K u.1 u.2.1 u.2.2.1 u.2.2.2) (fun u => [(o, .inr (8, [.int r0, .int r1, .ref a2, .ref a3, .ref a4, .ref a5, .ref a6, .ref a7, .int r8, .ref a9, .int r10, .int r11, .int r12, .int u.1, .int u.2.1, .int u.2.2.1, .int u.2.2.2, .int r17, .int r18, .ref a19, .ref a20, .ref a21, .ref a22, .ref a23, .ref a24, .int r25])), (a2, .inl (nz_cI g, 8, .inl f2)), (a3, .inl (nz_cI g, 8, .inl f3)), (a4, .inl (nz_cI g, 320, .inl f4)), (a5, .inl (nz_cI g, 94, .inl f5)), (a6, .inl (nz_cI g, 94, .inl f6)), (a7, .inl (nz_cI g, 168, .inl f7)), (a9, .inl (nz_cI g, 400, .inl f9)), (a19, .inl (nz_cI g, 6, .inl f19)), (a20, .inl (nz_cI g, 49, .inl f20)), (a21, .inl (nz_cI g, 6, .inl f21)), (a22, .inl (nz_cZ g, 2, .inl f22)), (a23, .inl (nz_cI g, 188, .inl f23)), (a24, .inl (nz_cI g, 16, .inl f24))])) → nz_C y g k n ws pc ls st rest [(o, .inr (8, [.int r0, .int r1, .ref a2, .ref a3, .ref a4, .ref a5, .ref a6, .ref a7, .int r8, .ref a9, .int r10, .int r11, .int r12, .int r13, .int r14, .int r15, .int r16, .int r17, .int r18, .ref a19, .ref a20, .ref a21, .ref a22, .ref a23, .ref a24, .int r25])), (a2, .inl (nz_cI g, 8, .inl f2)), (a3, .inl (nz_cI g, 8, .inl f3)), (a4, .inl (nz_cI g, 320, .inl f4)), (a5, .inl (nz_cI g, 94, .inl f5)), (a6, .inl (nz_cI g, 94, .inl f6)), (a7, .inl (nz_cI g, 168, .inl f7)), (a9, .inl (nz_cI g, 400, .inl f9)), (a19, .inl (nz_cI g, 6, .inl f19)), (a20, .inl (nz_cI g, 49, .inl f20)), (a21, .inl (nz_cI g, 6, .inl f21)), (a22, .inl (nz_cZ g, 2, .inl f22)), (a23, .inl (nz_cI g, 188, .inl f23)), (a24, .inl (nz_cI g, 16, .inl f24))] (nz_Qv g [(o, .inr (8, [.int r0, .int r1, .ref a2, .ref a3, .ref a4, .ref a5, .ref a6, .ref a7, .int r8, .ref a9, .int r10, .int r11, .int r12, .int r13, .int r14, .int r15, .int r16, .int r17, .int r18, .ref a19, .ref a20, .ref a21, .ref a22, .ref a23, .ref a24, .int r25])), (a2, .inl (nz_cI g, 8, .inl f2)), (a3, .inl (nz_cI g, 8, .inl f3)), (a4, .inl (nz_cI g, 320, .inl f4)), (a5, .inl (nz_cI g, 94, .inl f5)), (a6, .inl (nz_cI g, 94, .inl f6)), (a7, .inl (nz_cI g, 168, .inl f7)), (a9, .inl (nz_cI g, 400, .inl f9)), (a19, .inl (nz_cI g, 6, .inl f19)), (a20, .inl (nz_cI g, 49, .inl f20)), (a21, .inl (nz_cI g, 6, .inl f21)), (a22, .inl (nz_cZ g, 2, .inl f22)), (a23, .inl (nz_cI g, 188, .inl f23)), (a24, .inl (nz_cI g, 16, .inl f24))] (fun (u : Int32 × Int32 × Int32 × Int32) => K u.1 u.2.1 u.2.2.1 u.2.2.2) (fun u => [(o, .inr (8, [.int r0, .int r1, .ref a2, .ref a3, .ref a4, .ref a5, .ref a6, .ref a7, .int r8, .ref a9, .int r10, .int r11, .int r12, .int u.1, .int u.2.1, .int u.2.2.1, .int u.2.2.2, .int r17, .int r18, .ref a19, .ref a20, .ref a21, .ref a22, .ref a23, .ref a24, .int r25])), (a2, .inl (nz_cI g, 8, .inl f2)), (a3, .inl (nz_cI g, 8, .inl f3)), (a4, .inl (nz_cI g, 320, .inl f4)), (a5, .inl (nz_cI g, 94, .inl f5)), (a6, .inl (nz_cI g, 94, .inl f6)), (a7, .inl (nz_cI g, 168, .inl f7)), (a9, .inl (nz_cI g, 400, .inl f9)), (a19, .inl (nz_cI g, 6, .inl f19)), (a20, .inl (nz_cI g, 49, .inl f20)), (a21, .inl (nz_cI g, 6, .inl f21)), (a22, .inl (nz_cZ g, 2, .inl f22)), (a23, .inl (nz_cI g, 188, .inl f23)), (a24, .inl (nz_cI g, 16, .inl f24))])) av isC) (h : wp_X8_next r12 r13 f9 K) (ws' : Int32 → Int32 → Int32 → Int32 → va_W) (hm : ∀ (m0 : Int32) (m1 : Int32) (m2 : Int32) (m3 : Int32), nz_mrg ws isC [(o, .inr (8, [.int r0, .int r1, .ref a2, .ref a3, .ref a4, .ref a5, .ref a6, .ref a7, .int r8, .ref a9, .int r10, .int r11, .int r12, .int m0, .int m1, .int m2, .int m3, .int r17, .int r18, .ref a19, .ref a20, .ref a21, .ref a22, .ref a23, .ref a24, .int r25])), (a2, .inl (nz_cI g, 8, .inl f2)), (a3, .inl (nz_cI g, 8, .inl f3)), (a4, .inl (nz_cI g, 320, .inl f4)), (a5, .inl (nz_cI g, 94, .inl f5)), (a6, .inl (nz_cI g, 94, .inl f6)), (a7, .inl (nz_cI g, 168, .inl f7)), (a9, .inl (nz_cI g, 400, .inl f9)), (a19, .inl (nz_cI g, 6, .inl f19)), (a20, .inl (nz_cI g, 49, .inl f20)), (a21, .inl (nz_cI g, 6, .inl f21)), (a22, .inl (nz_cZ g, 2, .inl f22)), (a23, .inl (nz_cI g, 188, .inl f23)), (a24, .inl (nz_cI g, 16, .inl f24))] = ws' m0 m1 m2 m3) (kk : ∀ (m0 : Int32) (m1 : Int32) (m2 : Int32) (m3 : Int32), K m0 m1 m2 m3 → nz_V y g k n (ws' m0 m1 m2 m3) (pc + 3) ls (rest)) : nz_V y g k n ws pc ls st :=
  nz_cv (ws' := fun u => ws' u.1 u.2.1 u.2.2.1 u.2.2.2) (run (c_X8_next (yz_l y) g o a2 a3 a4 a5 a6 a7 a9 a19 a20 a21 a22 a23 a24 r0 r1 r8 r10 r11 r12 r13 r14 r15 r16 r17 r18 r25 f2 f3 f4 f5 f6 f7 f9 f19 f20 f21 f22 f23 f24 K h)) (fun _ => rfl) (fun u => hm u.1 u.2.1 u.2.2.1 u.2.2.2) (fun u h => kk u.1 u.2.1 u.2.2.1 u.2.2.2 h)
