theorem dX7_isAmong_0 : decode cX7_isAmong 0 = .ok (.iload_n 0, 1) := by decide +kernel
theorem dX7_isAmong_1 : decode cX7_isAmong 1 = .ok (.iload_n 1, 1) := by decide +kernel
theorem dX7_isAmong_2 : decode cX7_isAmong 2 = .ok (.if_icmp .lt 12, 3) := by decide +kernel
theorem dX7_isAmong_5 : decode cX7_isAmong 5 = .ok (.iload_n 0, 1) := by decide +kernel
theorem dX7_isAmong_6 : decode cX7_isAmong 6 = .ok (.iload_n 2, 1) := by decide +kernel
theorem dX7_isAmong_7 : decode cX7_isAmong 7 = .ok (.if_icmp .gt 7, 3) := by decide +kernel
theorem dX7_isAmong_10 : decode cX7_isAmong 10 = .ok (.iconst 1, 1) := by decide +kernel
theorem dX7_isAmong_11 : decode cX7_isAmong 11 = .ok (.goto 4, 3) := by decide +kernel
theorem dX7_isAmong_14 : decode cX7_isAmong 14 = .ok (.iconst 0, 1) := by decide +kernel
theorem dX7_isAmong_15 : decode cX7_isAmong 15 = .ok (.ireturn, 1) := by decide +kernel
/-! X7_isAmong -/
abbrev rm_X7_isAmong : Room := { frames := 0, cells := 0, slots := 0, locals := 0 }
def wp_X7_isAmong (v0 : Int32) (v1 : Int32) (v2 : Int32) (K : Int32 → Prop) : Prop := ((v0 < v1 → K 0) ∧ (¬ (v0 < v1) → ((v2 < v0 → K 0) ∧ (¬ (v2 < v0) → K 1))))
set_option maxHeartbeats 4000000 in
set_option maxRecDepth 100000 in
theorem c_X7_isAmong (l : Launch) (g : nz_G) (v0 : Int32) (v1 : Int32) (v2 : Int32) (K : Int32 → Prop) (h : wp_X7_isAmong v0 v1 v2 K) : nz_M l yX7_isAmong wsX7_isAmong rm_X7_isAmong g [.int v0, .int v1, .int v2] [] (nz_Qi g [] (fun r (u : Unit) => K r) (fun u => [])) := by
  refine nz_M.of (bytes := cX7_isAmong) (nL := 3) (ret := (some .boolean)) (own := RX7) (by decide) rfl rfl ⟨rfl, rfl⟩ rfl ?_
  intro y F hl hQ
  obtain ⟨sz, hQ⟩ := hQ
  refine nz_ent (lv' := [(0, .int v0), (1, .int v1), (2, .int v2)]) rfl ?_
  unfold wp_X7_isAmong at h
  refine nz_iload_n F dX7_isAmong_0 rfl 0 rfl ?_
  refine nz_iload_n F dX7_isAmong_1 rfl 1 rfl ?_
  refine nz_icmp_lt (tgt := 14) F dX7_isAmong_2 (by decide) (fun c1 => ?_) (fun c1 => ?_)
  · have h := h.1 c1
    refine nz_iconst (v := 0) F dX7_isAmong_14 (by decide) ?_
    exact nz_zret F hQ () h rfl (by decide) dX7_isAmong_15
  · have h := h.2 c1
    refine nz_iload_n F dX7_isAmong_5 rfl 0 rfl ?_
    refine nz_iload_n F dX7_isAmong_6 rfl 2 rfl ?_
    refine nz_icmp_gt (tgt := 14) F dX7_isAmong_7 (by decide) (fun c2 => ?_) (fun c2 => ?_)
    · have h := h.1 c2
      refine nz_iconst (v := 0) F dX7_isAmong_14 (by decide) ?_
      exact nz_zret F hQ () h rfl (by decide) dX7_isAmong_15
    · have h := h.2 c2
      refine nz_iconst (v := 1) F dX7_isAmong_10 (by decide) ?_
      refine nz_goto (tgt := 15) F dX7_isAmong_11 (by decide) ?_
      exact nz_zret F hQ () h rfl (by decide) dX7_isAmong_15
theorem k_X7_isAmong {y : nz_Y} {g : nz_G} {k n : Nat} {ws : va_W} {pc : Nat} {ls : List (Nat × Value)} {st rest : List Value} {av : Array Value} {isC : List Nat} {K : Int32 → Prop} (v0 : Int32) (v1 : Int32) (v2 : Int32) (run : nz_M (yz_l y) yX7_isAmong wsX7_isAmong rm_X7_isAmong g [.int v0, .int v1, .int v2] [] (nz_Qi g [] (fun r (u : Unit) => K r) (fun u => [])) → nz_C y g k n ws pc ls st rest [] (nz_Qi g [] (fun r (u : Unit) => K r) (fun u => [])) av isC) (h : wp_X7_isAmong v0 v1 v2 K) (ws' : va_W) (hm : nz_mrg ws isC [] = ws' ) (kk : ∀ (r : Int32), K r → nz_V y g k n ws' (pc + 3) ls (.int r :: rest)) : nz_V y g k n ws pc ls st :=
  nz_ci (ws' := fun _ => ws') (run (c_X7_isAmong (yz_l y) g v0 v1 v2 K h)) (fun _ => rfl) (fun _ => hm) (fun r u h => kk r h)
theorem dX5_isStone_0 : decode cX5_isStone 0 = .ok (.iload_n 1, 1) := by decide +kernel
theorem dX5_isStone_1 : decode cX5_isStone 1 = .ok (.ifCond .lt 15, 3) := by decide +kernel
theorem dX5_isStone_4 : decode cX5_isStone 4 = .ok (.iload_n 1, 1) := by decide +kernel
theorem dX5_isStone_5 : decode cX5_isStone 5 = .ok (.aload_n 0, 1) := by decide +kernel
theorem dX5_isStone_6 : decode cX5_isStone 6 = .ok (.getfield 56, 3) := by decide +kernel
theorem dX5_isStone_9 : decode cX5_isStone 9 = .ok (.if_icmp .ge 7, 3) := by decide +kernel
theorem dX5_isStone_12 : decode cX5_isStone 12 = .ok (.iconst 1, 1) := by decide +kernel
theorem dX5_isStone_13 : decode cX5_isStone 13 = .ok (.goto 4, 3) := by decide +kernel
theorem dX5_isStone_16 : decode cX5_isStone 16 = .ok (.iconst 0, 1) := by decide +kernel
theorem dX5_isStone_17 : decode cX5_isStone 17 = .ok (.ireturn, 1) := by decide +kernel
/-! X5_isStone -/
abbrev rm_X5_isStone : Room := { frames := 0, cells := 0, slots := 0, locals := 0 }
theorem iw_X5_isStone_5 : ∀ w ∈ wsX50, w ∈ wsX5_isStone := fun _ h => List.mem_cons_of_mem _ (List.mem_append_right _ h)
theorem fl_X5_isStone_56 : Cond.fieldLink RX5 56 "NightStones$Road" "stones" "I" ∈ wsX5_isStone := List.mem_of_getElem? (i := 1) rfl
def wp_X5_isStone (r6 : Int32) (v1 : Int32) (K : Int32 → Prop) : Prop := ((v1 < 0 → K 0) ∧ (¬ (v1 < 0) → ((r6 ≤ v1 → K 0) ∧ (¬ (r6 ≤ v1) → K 1))))
set_option maxHeartbeats 4000000 in
set_option maxRecDepth 100000 in
theorem c_X5_isStone (l : Launch) (g : nz_G) (o : Nat) (a9 : Nat) (a10 : Nat) (a11 : Nat) (a12 : Nat) (a13 : Nat) (a14 : Nat) (a15 : Nat) (a16 : Nat) (r0 : Int32) (r1 : Int32) (r2 : Int32) (r3 : Int32) (r4 : Int32) (r5 : Int32) (r6 : Int32) (r7 : Int32) (r8 : Int32) (f9 : Nat → Int32) (f10 : Nat → Int32) (f11 : Nat → Int32) (f12 : Nat → Int32) (f13 : Nat → Int32) (f14 : Nat → Int32) (f15 : Nat → Int32) (f16 : Nat → Int32) (v1 : Int32) (K : Int32 → Prop) (h : wp_X5_isStone r6 v1 K) : nz_M l yX5_isStone wsX5_isStone rm_X5_isStone g [.ref o, .int v1] [(o, .inr (5, [.int r0, .int r1, .int r2, .int r3, .int r4, .int r5, .int r6, .int r7, .int r8, .ref a9, .ref a10, .ref a11, .ref a12, .ref a13, .ref a14, .ref a15, .ref a16])), (a9, .inl (nz_cI g, 6, .inl f9)), (a10, .inl (nz_cI g, 6, .inl f10)), (a11, .inl (nz_cI g, 6, .inl f11)), (a12, .inl (nz_cI g, 5, .inl f12)), (a13, .inl (nz_cI g, 5, .inl f13)), (a14, .inl (nz_cI g, 5, .inl f14)), (a15, .inl (nz_cI g, 5, .inl f15)), (a16, .inl (nz_cI g, 48, .inl f16))] (nz_Qi g [(o, .inr (5, [.int r0, .int r1, .int r2, .int r3, .int r4, .int r5, .int r6, .int r7, .int r8, .ref a9, .ref a10, .ref a11, .ref a12, .ref a13, .ref a14, .ref a15, .ref a16])), (a9, .inl (nz_cI g, 6, .inl f9)), (a10, .inl (nz_cI g, 6, .inl f10)), (a11, .inl (nz_cI g, 6, .inl f11)), (a12, .inl (nz_cI g, 5, .inl f12)), (a13, .inl (nz_cI g, 5, .inl f13)), (a14, .inl (nz_cI g, 5, .inl f14)), (a15, .inl (nz_cI g, 5, .inl f15)), (a16, .inl (nz_cI g, 48, .inl f16))] (fun r (u : Unit) => K r) (fun u => [(o, .inr (5, [.int r0, .int r1, .int r2, .int r3, .int r4, .int r5, .int r6, .int r7, .int r8, .ref a9, .ref a10, .ref a11, .ref a12, .ref a13, .ref a14, .ref a15, .ref a16])), (a9, .inl (nz_cI g, 6, .inl f9)), (a10, .inl (nz_cI g, 6, .inl f10)), (a11, .inl (nz_cI g, 6, .inl f11)), (a12, .inl (nz_cI g, 5, .inl f12)), (a13, .inl (nz_cI g, 5, .inl f13)), (a14, .inl (nz_cI g, 5, .inl f14)), (a15, .inl (nz_cI g, 5, .inl f15)), (a16, .inl (nz_cI g, 48, .inl f16))])) := by
  refine nz_M.of (bytes := cX5_isStone) (nL := 2) (ret := (some .boolean)) (own := RX5) (by decide) rfl rfl ⟨rfl, rfl⟩ rfl ?_
  intro y F hl hQ
  obtain ⟨sz, hQ⟩ := hQ
  refine nz_ent (lv' := [(0, .ref o), (1, .int v1)]) rfl ?_
  unfold wp_X5_isStone at h
  refine nz_iload_n F dX5_isStone_0 rfl 1 rfl ?_
  refine nz_if_lt (tgt := 16) F dX5_isStone_1 (by decide) (fun c1 => ?_) (fun c1 => ?_)
  · have h := h.1 c1
    refine nz_iconst (v := 0) F dX5_isStone_16 (by decide) ?_
    exact nz_zret F hQ () h rfl (by decide) dX5_isStone_17
  · have h := h.2 c1
    refine nz_iload_n F dX5_isStone_4 rfl 1 rfl ?_
    refine nz_aload_n F dX5_isStone_5 rfl 0 rfl ?_
    refine nz_get F iw_X5_isStone_5 0 rfl rfl 6 (by decide) rfl fl_X5_isStone_56 rfl dX5_isStone_6 ?_
    refine nz_icmp_ge (tgt := 16) F dX5_isStone_9 (by decide) (fun c2 => ?_) (fun c2 => ?_)
    · have h := h.1 c2
      refine nz_iconst (v := 0) F dX5_isStone_16 (by decide) ?_
      exact nz_zret F hQ () h rfl (by decide) dX5_isStone_17
    · have h := h.2 c2
      refine nz_iconst (v := 1) F dX5_isStone_12 (by decide) ?_
      refine nz_goto (tgt := 17) F dX5_isStone_13 (by decide) ?_
      exact nz_zret F hQ () h rfl (by decide) dX5_isStone_17
theorem k_X5_isStone {y : nz_Y} {g : nz_G} {k n : Nat} {ws : va_W} {pc : Nat} {ls : List (Nat × Value)} {st rest : List Value} {av : Array Value} {isC : List Nat} {K : Int32 → Prop} (o : Nat) (a9 : Nat) (a10 : Nat) (a11 : Nat) (a12 : Nat) (a13 : Nat) (a14 : Nat) (a15 : Nat) (a16 : Nat) (r0 : Int32) (r1 : Int32) (r2 : Int32) (r3 : Int32) (r4 : Int32) (r5 : Int32) (r6 : Int32) (r7 : Int32) (r8 : Int32) (f9 : Nat → Int32) (f10 : Nat → Int32) (f11 : Nat → Int32) (f12 : Nat → Int32) (f13 : Nat → Int32) (f14 : Nat → Int32) (f15 : Nat → Int32) (f16 : Nat → Int32) (v1 : Int32) (run : nz_M (yz_l y) yX5_isStone wsX5_isStone rm_X5_isStone g [.ref o, .int v1] [(o, .inr (5, [.int r0, .int r1, .int r2, .int r3, .int r4, .int r5, .int r6, .int r7, .int r8, .ref a9, .ref a10, .ref a11, .ref a12, .ref a13, .ref a14, .ref a15, .ref a16])), (a9, .inl (nz_cI g, 6, .inl f9)), (a10, .inl (nz_cI g, 6, .inl f10)), (a11, .inl (nz_cI g, 6, .inl f11)), (a12, .inl (nz_cI g, 5, .inl f12)), (a13, .inl (nz_cI g, 5, .inl f13)), (a14, .inl (nz_cI g, 5, .inl f14)), (a15, .inl (nz_cI g, 5, .inl f15)), (a16, .inl (nz_cI g, 48, .inl f16))] (nz_Qi g [(o, .inr (5, [.int r0, .int r1, .int r2, .int r3, .int r4, .int r5, .int r6, .int r7, .int r8, .ref a9, .ref a10, .ref a11, .ref a12, .ref a13, .ref a14, .ref a15, .ref a16])), (a9, .inl (nz_cI g, 6, .inl f9)), (a10, .inl (nz_cI g, 6, .inl f10)), (a11, .inl (nz_cI g, 6, .inl f11)), (a12, .inl (nz_cI g, 5, .inl f12)), (a13, .inl (nz_cI g, 5, .inl f13)), (a14, .inl (nz_cI g, 5, .inl f14)), (a15, .inl (nz_cI g, 5, .inl f15)), (a16, .inl (nz_cI g, 48, .inl f16))] (fun r (u : Unit) => K r) (fun u => [(o, .inr (5, [.int r0, .int r1, .int r2, .int r3, .int r4, .int r5, .int r6, .int r7, .int r8, .ref a9, .ref a10, .ref a11, .ref a12, .ref a13, .ref a14, .ref a15, .ref a16])), (a9, .inl (nz_cI g, 6, .inl f9)), (a10, .inl (nz_cI g, 6, .inl f10)), (a11, .inl (nz_cI g, 6, .inl f11)), (a12, .inl (nz_cI g, 5, .inl f12)), (a13, .inl (nz_cI g, 5, .inl f13)), (a14, .inl (nz_cI g, 5, .inl f14)), (a15, .inl (nz_cI g, 5, .inl f15)), (a16, .inl (nz_cI g, 48, .inl f16))])) → nz_C y g k n ws pc ls st rest [(o, .inr (5, [.int r0, .int r1, .int r2, .int r3, .int r4, .int r5, .int r6, .int r7, .int r8, .ref a9, .ref a10, .ref a11, .ref a12, .ref a13, .ref a14, .ref a15, .ref a16])), (a9, .inl (nz_cI g, 6, .inl f9)), (a10, .inl (nz_cI g, 6, .inl f10)), (a11, .inl (nz_cI g, 6, .inl f11)), (a12, .inl (nz_cI g, 5, .inl f12)), (a13, .inl (nz_cI g, 5, .inl f13)), (a14, .inl (nz_cI g, 5, .inl f14)), (a15, .inl (nz_cI g, 5, .inl f15)), (a16, .inl (nz_cI g, 48, .inl f16))] (nz_Qi g [(o, .inr (5, [.int r0, .int r1, .int r2, .int r3, .int r4, .int r5, .int r6, .int r7, .int r8, .ref a9, .ref a10, .ref a11, .ref a12, .ref a13, .ref a14, .ref a15, .ref a16])), (a9, .inl (nz_cI g, 6, .inl f9)), (a10, .inl (nz_cI g, 6, .inl f10)), (a11, .inl (nz_cI g, 6, .inl f11)), (a12, .inl (nz_cI g, 5, .inl f12)), (a13, .inl (nz_cI g, 5, .inl f13)), (a14, .inl (nz_cI g, 5, .inl f14)), (a15, .inl (nz_cI g, 5, .inl f15)), (a16, .inl (nz_cI g, 48, .inl f16))] (fun r (u : Unit) => K r) (fun u => [(o, .inr (5, [.int r0, .int r1, .int r2, .int r3, .int r4, .int r5, .int r6, .int r7, .int r8, .ref a9, .ref a10, .ref a11, .ref a12, .ref a13, .ref a14, .ref a15, .ref a16])), (a9, .inl (nz_cI g, 6, .inl f9)), (a10, .inl (nz_cI g, 6, .inl f10)), (a11, .inl (nz_cI g, 6, .inl f11)), (a12, .inl (nz_cI g, 5, .inl f12)), (a13, .inl (nz_cI g, 5, .inl f13)), (a14, .inl (nz_cI g, 5, .inl f14)), (a15, .inl (nz_cI g, 5, .inl f15)), (a16, .inl (nz_cI g, 48, .inl f16))])) av isC) (h : wp_X5_isStone r6 v1 K) (ws' : va_W) (hm : nz_mrg ws isC [(o, .inr (5, [.int r0, .int r1, .int r2, .int r3, .int r4, .int r5, .int r6, .int r7, .int r8, .ref a9, .ref a10, .ref a11, .ref a12, .ref a13, .ref a14, .ref a15, .ref a16])), (a9, .inl (nz_cI g, 6, .inl f9)), (a10, .inl (nz_cI g, 6, .inl f10)), (a11, .inl (nz_cI g, 6, .inl f11)), (a12, .inl (nz_cI g, 5, .inl f12)), (a13, .inl (nz_cI g, 5, .inl f13)), (a14, .inl (nz_cI g, 5, .inl f14)), (a15, .inl (nz_cI g, 5, .inl f15)), (a16, .inl (nz_cI g, 48, .inl f16))] = ws' ) (kk : ∀ (r : Int32), K r → nz_V y g k n ws' (pc + 3) ls (.int r :: rest)) : nz_V y g k n ws pc ls st :=
  nz_ci (ws' := fun _ => ws') (run (c_X5_isStone (yz_l y) g o a9 a10 a11 a12 a13 a14 a15 a16 r0 r1 r2 r3 r4 r5 r6 r7 r8 f9 f10 f11 f12 f13 f14 f15 f16 v1 K h)) (fun _ => rfl) (fun _ => hm) (fun r u h => kk r h)
theorem dX5_isMover_0 : decode cX5_isMover 0 = .ok (.iload_n 1, 1) := by decide +kernel
theorem dX5_isMover_1 : decode cX5_isMover 1 = .ok (.ifCond .lt 15, 3) := by decide +kernel
theorem dX5_isMover_4 : decode cX5_isMover 4 = .ok (.iload_n 1, 1) := by decide +kernel
theorem dX5_isMover_5 : decode cX5_isMover 5 = .ok (.aload_n 0, 1) := by decide +kernel
theorem dX5_isMover_6 : decode cX5_isMover 6 = .ok (.getfield 59, 3) := by decide +kernel
theorem dX5_isMover_9 : decode cX5_isMover 9 = .ok (.if_icmp .ge 7, 3) := by decide +kernel
theorem dX5_isMover_12 : decode cX5_isMover 12 = .ok (.iconst 1, 1) := by decide +kernel
theorem dX5_isMover_13 : decode cX5_isMover 13 = .ok (.goto 4, 3) := by decide +kernel
theorem dX5_isMover_16 : decode cX5_isMover 16 = .ok (.iconst 0, 1) := by decide +kernel
theorem dX5_isMover_17 : decode cX5_isMover 17 = .ok (.ireturn, 1) := by decide +kernel
/-! X5_isMover -/
abbrev rm_X5_isMover : Room := { frames := 0, cells := 0, slots := 0, locals := 0 }
theorem iw_X5_isMover_5 : ∀ w ∈ wsX50, w ∈ wsX5_isMover := fun _ h => List.mem_cons_of_mem _ (List.mem_append_right _ h)
theorem fl_X5_isMover_59 : Cond.fieldLink RX5 59 "NightStones$Road" "movers" "I" ∈ wsX5_isMover := List.mem_of_getElem? (i := 1) rfl
def wp_X5_isMover (r7 : Int32) (v1 : Int32) (K : Int32 → Prop) : Prop := ((v1 < 0 → K 0) ∧ (¬ (v1 < 0) → ((r7 ≤ v1 → K 0) ∧ (¬ (r7 ≤ v1) → K 1))))
set_option maxHeartbeats 4000000 in
set_option maxRecDepth 100000 in
theorem c_X5_isMover (l : Launch) (g : nz_G) (o : Nat) (a9 : Nat) (a10 : Nat) (a11 : Nat) (a12 : Nat) (a13 : Nat) (a14 : Nat) (a15 : Nat) (a16 : Nat) (r0 : Int32) (r1 : Int32) (r2 : Int32) (r3 : Int32) (r4 : Int32) (r5 : Int32) (r6 : Int32) (r7 : Int32) (r8 : Int32) (f9 : Nat → Int32) (f10 : Nat → Int32) (f11 : Nat → Int32) (f12 : Nat → Int32) (f13 : Nat → Int32) (f14 : Nat → Int32) (f15 : Nat → Int32) (f16 : Nat → Int32) (v1 : Int32) (K : Int32 → Prop) (h : wp_X5_isMover r7 v1 K) : nz_M l yX5_isMover wsX5_isMover rm_X5_isMover g [.ref o, .int v1] [(o, .inr (5, [.int r0, .int r1, .int r2, .int r3, .int r4, .int r5, .int r6, .int r7, .int r8, .ref a9, .ref a10, .ref a11, .ref a12, .ref a13, .ref a14, .ref a15, .ref a16])), (a9, .inl (nz_cI g, 6, .inl f9)), (a10, .inl (nz_cI g, 6, .inl f10)), (a11, .inl (nz_cI g, 6, .inl f11)), (a12, .inl (nz_cI g, 5, .inl f12)), (a13, .inl (nz_cI g, 5, .inl f13)), (a14, .inl (nz_cI g, 5, .inl f14)), (a15, .inl (nz_cI g, 5, .inl f15)), (a16, .inl (nz_cI g, 48, .inl f16))] (nz_Qi g [(o, .inr (5, [.int r0, .int r1, .int r2, .int r3, .int r4, .int r5, .int r6, .int r7, .int r8, .ref a9, .ref a10, .ref a11, .ref a12, .ref a13, .ref a14, .ref a15, .ref a16])), (a9, .inl (nz_cI g, 6, .inl f9)), (a10, .inl (nz_cI g, 6, .inl f10)), (a11, .inl (nz_cI g, 6, .inl f11)), (a12, .inl (nz_cI g, 5, .inl f12)), (a13, .inl (nz_cI g, 5, .inl f13)), (a14, .inl (nz_cI g, 5, .inl f14)), (a15, .inl (nz_cI g, 5, .inl f15)), (a16, .inl (nz_cI g, 48, .inl f16))] (fun r (u : Unit) => K r) (fun u => [(o, .inr (5, [.int r0, .int r1, .int r2, .int r3, .int r4, .int r5, .int r6, .int r7, .int r8, .ref a9, .ref a10, .ref a11, .ref a12, .ref a13, .ref a14, .ref a15, .ref a16])), (a9, .inl (nz_cI g, 6, .inl f9)), (a10, .inl (nz_cI g, 6, .inl f10)), (a11, .inl (nz_cI g, 6, .inl f11)), (a12, .inl (nz_cI g, 5, .inl f12)), (a13, .inl (nz_cI g, 5, .inl f13)), (a14, .inl (nz_cI g, 5, .inl f14)), (a15, .inl (nz_cI g, 5, .inl f15)), (a16, .inl (nz_cI g, 48, .inl f16))])) := by
  refine nz_M.of (bytes := cX5_isMover) (nL := 2) (ret := (some .boolean)) (own := RX5) (by decide) rfl rfl ⟨rfl, rfl⟩ rfl ?_
  intro y F hl hQ
  obtain ⟨sz, hQ⟩ := hQ
  refine nz_ent (lv' := [(0, .ref o), (1, .int v1)]) rfl ?_
  unfold wp_X5_isMover at h
  refine nz_iload_n F dX5_isMover_0 rfl 1 rfl ?_
  refine nz_if_lt (tgt := 16) F dX5_isMover_1 (by decide) (fun c1 => ?_) (fun c1 => ?_)
  · have h := h.1 c1
    refine nz_iconst (v := 0) F dX5_isMover_16 (by decide) ?_
    exact nz_zret F hQ () h rfl (by decide) dX5_isMover_17
  · have h := h.2 c1
    refine nz_iload_n F dX5_isMover_4 rfl 1 rfl ?_
    refine nz_aload_n F dX5_isMover_5 rfl 0 rfl ?_
    refine nz_get F iw_X5_isMover_5 0 rfl rfl 7 (by decide) rfl fl_X5_isMover_59 rfl dX5_isMover_6 ?_
    refine nz_icmp_ge (tgt := 16) F dX5_isMover_9 (by decide) (fun c2 => ?_) (fun c2 => ?_)
    · have h := h.1 c2
      refine nz_iconst (v := 0) F dX5_isMover_16 (by decide) ?_
      exact nz_zret F hQ () h rfl (by decide) dX5_isMover_17
    · have h := h.2 c2
      refine nz_iconst (v := 1) F dX5_isMover_12 (by decide) ?_
      refine nz_goto (tgt := 17) F dX5_isMover_13 (by decide) ?_
      exact nz_zret F hQ () h rfl (by decide) dX5_isMover_17
theorem k_X5_isMover {y : nz_Y} {g : nz_G} {k n : Nat} {ws : va_W} {pc : Nat} {ls : List (Nat × Value)} {st rest : List Value} {av : Array Value} {isC : List Nat} {K : Int32 → Prop} (o : Nat) (a9 : Nat) (a10 : Nat) (a11 : Nat) (a12 : Nat) (a13 : Nat) (a14 : Nat) (a15 : Nat) (a16 : Nat) (r0 : Int32) (r1 : Int32) (r2 : Int32) (r3 : Int32) (r4 : Int32) (r5 : Int32) (r6 : Int32) (r7 : Int32) (r8 : Int32) (f9 : Nat → Int32) (f10 : Nat → Int32) (f11 : Nat → Int32) (f12 : Nat → Int32) (f13 : Nat → Int32) (f14 : Nat → Int32) (f15 : Nat → Int32) (f16 : Nat → Int32) (v1 : Int32) (run : nz_M (yz_l y) yX5_isMover wsX5_isMover rm_X5_isMover g [.ref o, .int v1] [(o, .inr (5, [.int r0, .int r1, .int r2, .int r3, .int r4, .int r5, .int r6, .int r7, .int r8, .ref a9, .ref a10, .ref a11, .ref a12, .ref a13, .ref a14, .ref a15, .ref a16])), (a9, .inl (nz_cI g, 6, .inl f9)), (a10, .inl (nz_cI g, 6, .inl f10)), (a11, .inl (nz_cI g, 6, .inl f11)), (a12, .inl (nz_cI g, 5, .inl f12)), (a13, .inl (nz_cI g, 5, .inl f13)), (a14, .inl (nz_cI g, 5, .inl f14)), (a15, .inl (nz_cI g, 5, .inl f15)), (a16, .inl (nz_cI g, 48, .inl f16))] (nz_Qi g [(o, .inr (5, [.int r0, .int r1, .int r2, .int r3, .int r4, .int r5, .int r6, .int r7, .int r8, .ref a9, .ref a10, .ref a11, .ref a12, .ref a13, .ref a14, .ref a15, .ref a16])), (a9, .inl (nz_cI g, 6, .inl f9)), (a10, .inl (nz_cI g, 6, .inl f10)), (a11, .inl (nz_cI g, 6, .inl f11)), (a12, .inl (nz_cI g, 5, .inl f12)), (a13, .inl (nz_cI g, 5, .inl f13)), (a14, .inl (nz_cI g, 5, .inl f14)), (a15, .inl (nz_cI g, 5, .inl f15)), (a16, .inl (nz_cI g, 48, .inl f16))] (fun r (u : Unit) => K r) (fun u => [(o, .inr (5, [.int r0, .int r1, .int r2, .int r3, .int r4, .int r5, .int r6, .int r7, .int r8, .ref a9, .ref a10, .ref a11, .ref a12, .ref a13, .ref a14, .ref a15, .ref a16])), (a9, .inl (nz_cI g, 6, .inl f9)), (a10, .inl (nz_cI g, 6, .inl f10)), (a11, .inl (nz_cI g, 6, .inl f11)), (a12, .inl (nz_cI g, 5, .inl f12)), (a13, .inl (nz_cI g, 5, .inl f13)), (a14, .inl (nz_cI g, 5, .inl f14)), (a15, .inl (nz_cI g, 5, .inl f15)), (a16, .inl (nz_cI g, 48, .inl f16))])) → nz_C y g k n ws pc ls st rest [(o, .inr (5, [.int r0, .int r1, .int r2, .int r3, .int r4, .int r5, .int r6, .int r7, .int r8, .ref a9, .ref a10, .ref a11, .ref a12, .ref a13, .ref a14, .ref a15, .ref a16])), (a9, .inl (nz_cI g, 6, .inl f9)), (a10, .inl (nz_cI g, 6, .inl f10)), (a11, .inl (nz_cI g, 6, .inl f11)), (a12, .inl (nz_cI g, 5, .inl f12)), (a13, .inl (nz_cI g, 5, .inl f13)), (a14, .inl (nz_cI g, 5, .inl f14)), (a15, .inl (nz_cI g, 5, .inl f15)), (a16, .inl (nz_cI g, 48, .inl f16))] (nz_Qi g [(o, .inr (5, [.int r0, .int r1, .int r2, .int r3, .int r4, .int r5, .int r6, .int r7, .int r8, .ref a9, .ref a10, .ref a11, .ref a12, .ref a13, .ref a14, .ref a15, .ref a16])), (a9, .inl (nz_cI g, 6, .inl f9)), (a10, .inl (nz_cI g, 6, .inl f10)), (a11, .inl (nz_cI g, 6, .inl f11)), (a12, .inl (nz_cI g, 5, .inl f12)), (a13, .inl (nz_cI g, 5, .inl f13)), (a14, .inl (nz_cI g, 5, .inl f14)), (a15, .inl (nz_cI g, 5, .inl f15)), (a16, .inl (nz_cI g, 48, .inl f16))] (fun r (u : Unit) => K r) (fun u => [(o, .inr (5, [.int r0, .int r1, .int r2, .int r3, .int r4, .int r5, .int r6, .int r7, .int r8, .ref a9, .ref a10, .ref a11, .ref a12, .ref a13, .ref a14, .ref a15, .ref a16])), (a9, .inl (nz_cI g, 6, .inl f9)), (a10, .inl (nz_cI g, 6, .inl f10)), (a11, .inl (nz_cI g, 6, .inl f11)), (a12, .inl (nz_cI g, 5, .inl f12)), (a13, .inl (nz_cI g, 5, .inl f13)), (a14, .inl (nz_cI g, 5, .inl f14)), (a15, .inl (nz_cI g, 5, .inl f15)), (a16, .inl (nz_cI g, 48, .inl f16))])) av isC) (h : wp_X5_isMover r7 v1 K) (ws' : va_W) (hm : nz_mrg ws isC [(o, .inr (5, [.int r0, .int r1, .int r2, .int r3, .int r4, .int r5, .int r6, .int r7, .int r8, .ref a9, .ref a10, .ref a11, .ref a12, .ref a13, .ref a14, .ref a15, .ref a16])), (a9, .inl (nz_cI g, 6, .inl f9)), (a10, .inl (nz_cI g, 6, .inl f10)), (a11, .inl (nz_cI g, 6, .inl f11)), (a12, .inl (nz_cI g, 5, .inl f12)), (a13, .inl (nz_cI g, 5, .inl f13)), (a14, .inl (nz_cI g, 5, .inl f14)), (a15, .inl (nz_cI g, 5, .inl f15)), (a16, .inl (nz_cI g, 48, .inl f16))] = ws' ) (kk : ∀ (r : Int32), K r → nz_V y g k n ws' (pc + 3) ls (.int r :: rest)) : nz_V y g k n ws pc ls st :=
  nz_ci (ws' := fun _ => ws') (run (c_X5_isMover (yz_l y) g o a9 a10 a11 a12 a13 a14 a15 a16 r0 r1 r2 r3 r4 r5 r6 r7 r8 f9 f10 f11 f12 f13 f14 f15 f16 v1 K h)) (fun _ => rfl) (fun _ => hm) (fun r u h => kk r h)
theorem dX5_isPair_0 : decode cX5_isPair 0 = .ok (.aload_n 0, 1) := by decide +kernel
theorem dX5_isPair_1 : decode cX5_isPair 1 = .ok (.iload_n 1, 1) := by decide +kernel
theorem dX5_isPair_2 : decode cX5_isPair 2 = .ok (.invokevirtual 71, 3) := by decide +kernel
theorem dX5_isPair_5 : decode cX5_isPair 5 = .ok (.ifCond .eq 20, 3) := by decide +kernel
theorem dX5_isPair_8 : decode cX5_isPair 8 = .ok (.aload_n 0, 1) := by decide +kernel
theorem dX5_isPair_9 : decode cX5_isPair 9 = .ok (.iload_n 2, 1) := by decide +kernel
theorem dX5_isPair_10 : decode cX5_isPair 10 = .ok (.invokevirtual 71, 3) := by decide +kernel
theorem dX5_isPair_13 : decode cX5_isPair 13 = .ok (.ifCond .eq 12, 3) := by decide +kernel
theorem dX5_isPair_16 : decode cX5_isPair 16 = .ok (.iload_n 1, 1) := by decide +kernel
theorem dX5_isPair_17 : decode cX5_isPair 17 = .ok (.iload_n 2, 1) := by decide +kernel
theorem dX5_isPair_18 : decode cX5_isPair 18 = .ok (.if_icmp .ge 7, 3) := by decide +kernel
theorem dX5_isPair_21 : decode cX5_isPair 21 = .ok (.iconst 1, 1) := by decide +kernel
theorem dX5_isPair_22 : decode cX5_isPair 22 = .ok (.goto 4, 3) := by decide +kernel
theorem dX5_isPair_25 : decode cX5_isPair 25 = .ok (.iconst 0, 1) := by decide +kernel
theorem dX5_isPair_26 : decode cX5_isPair 26 = .ok (.ireturn, 1) := by decide +kernel
set_option maxRecDepth 20000 in
theorem ggX5_isPair_X5_isStone : GoodIn wsX5_isPair wsX5_isStone := goodIn_r _ [5, 6, 7, 8, 9, 10, 11, 12, 13, 14, 15, 16, 17, 18, 19, 20, 21, 22, 23] rfl (by decide +kernel)
set_option maxRecDepth 20000 in
theorem gX5_isPair_X5_isStone : GoodIn wsX5_isPair (wsV RX5 71 RX5 yX5_isStone wsX5_isStone) := goodIn_app (goodIn_r _ [1, 2, 3, 4] rfl (by decide +kernel)) ggX5_isPair_X5_isStone
theorem hd_X5_isStone : yX5_isStone.cls = RX5 ∧ yX5_isStone.cls ≠ "java/lang/invoke/MethodHandle" ∧ yX5_isStone.cls ≠ "java/lang/invoke/VarHandle" ∧ (parseMethodDescriptor yX5_isStone.desc).map (fun d => d.parameters.length) = some 1 := by decide +kernel
/-! X5_isPair -/
abbrev rm_X5_isPair : Room := { frames := 1, cells := 0, slots := 0, locals := 21 }
def wp_X5_isPair (r6 : Int32) (v1 : Int32) (v2 : Int32) (K : Int32 → Prop) : Prop := wp_X5_isStone r6 v1 (fun q1 => ((q1 = 0 → K 0) ∧ (¬ (q1 = 0) → wp_X5_isStone r6 v2 (fun q3 => ((q3 = 0 → K 0) ∧ (¬ (q3 = 0) → ((v2 ≤ v1 → K 0) ∧ (¬ (v2 ≤ v1) → K 1))))))))
set_option maxHeartbeats 4000000 in
set_option maxRecDepth 100000 in
theorem c_X5_isPair (l : Launch) (g : nz_G) (o : Nat) (a9 : Nat) (a10 : Nat) (a11 : Nat) (a12 : Nat) (a13 : Nat) (a14 : Nat) (a15 : Nat) (a16 : Nat) (r0 : Int32) (r1 : Int32) (r2 : Int32) (r3 : Int32) (r4 : Int32) (r5 : Int32) (r6 : Int32) (r7 : Int32) (r8 : Int32) (f9 : Nat → Int32) (f10 : Nat → Int32) (f11 : Nat → Int32) (f12 : Nat → Int32) (f13 : Nat → Int32) (f14 : Nat → Int32) (f15 : Nat → Int32) (f16 : Nat → Int32) (v1 : Int32) (v2 : Int32) (K : Int32 → Prop) (h : wp_X5_isPair r6 v1 v2 K) : nz_M l yX5_isPair wsX5_isPair rm_X5_isPair g [.ref o, .int v1, .int v2] [(o, .inr (5, [.int r0, .int r1, .int r2, .int r3, .int r4, .int r5, .int r6, .int r7, .int r8, .ref a9, .ref a10, .ref a11, .ref a12, .ref a13, .ref a14, .ref a15, .ref a16])), (a9, .inl (nz_cI g, 6, .inl f9)), (a10, .inl (nz_cI g, 6, .inl f10)), (a11, .inl (nz_cI g, 6, .inl f11)), (a12, .inl (nz_cI g, 5, .inl f12)), (a13, .inl (nz_cI g, 5, .inl f13)), (a14, .inl (nz_cI g, 5, .inl f14)), (a15, .inl (nz_cI g, 5, .inl f15)), (a16, .inl (nz_cI g, 48, .inl f16))] (nz_Qi g [(o, .inr (5, [.int r0, .int r1, .int r2, .int r3, .int r4, .int r5, .int r6, .int r7, .int r8, .ref a9, .ref a10, .ref a11, .ref a12, .ref a13, .ref a14, .ref a15, .ref a16])), (a9, .inl (nz_cI g, 6, .inl f9)), (a10, .inl (nz_cI g, 6, .inl f10)), (a11, .inl (nz_cI g, 6, .inl f11)), (a12, .inl (nz_cI g, 5, .inl f12)), (a13, .inl (nz_cI g, 5, .inl f13)), (a14, .inl (nz_cI g, 5, .inl f14)), (a15, .inl (nz_cI g, 5, .inl f15)), (a16, .inl (nz_cI g, 48, .inl f16))] (fun r (u : Unit) => K r) (fun u => [(o, .inr (5, [.int r0, .int r1, .int r2, .int r3, .int r4, .int r5, .int r6, .int r7, .int r8, .ref a9, .ref a10, .ref a11, .ref a12, .ref a13, .ref a14, .ref a15, .ref a16])), (a9, .inl (nz_cI g, 6, .inl f9)), (a10, .inl (nz_cI g, 6, .inl f10)), (a11, .inl (nz_cI g, 6, .inl f11)), (a12, .inl (nz_cI g, 5, .inl f12)), (a13, .inl (nz_cI g, 5, .inl f13)), (a14, .inl (nz_cI g, 5, .inl f14)), (a15, .inl (nz_cI g, 5, .inl f15)), (a16, .inl (nz_cI g, 48, .inl f16))])) := by
  refine nz_M.of (bytes := cX5_isPair) (nL := 3) (ret := (some .boolean)) (own := RX5) (by decide) rfl rfl ⟨rfl, rfl⟩ rfl ?_
  intro y F hl hQ
  obtain ⟨sz, hQ⟩ := hQ
  refine nz_ent (lv' := [(0, .ref o), (1, .int v1), (2, .int v2)]) rfl ?_
  unfold wp_X5_isPair at h
  refine nz_aload_n F dX5_isPair_0 rfl 0 rfl ?_
  refine nz_iload_n F dX5_isPair_1 rfl 1 rfl ?_
  refine k_X5_isStone o a9 a10 a11 a12 a13 a14 a15 a16 r0 r1 r2 r3 r4 r5 r6 r7 r8 f9 f10 f11 f12 f13 f14 f15 f16 v1 (fun hM => nz_runV F gX5_isPair_X5_isStone rfl hd_X5_isStone rfl hM dX5_isPair_2 [0, 1, 2, 3, 4, 5, 6, 7, 8] rfl rfl 0 rfl rfl rfl (Nat.le_of_ble_eq_true rfl) rfl) h ([(o, .inr (5, [.int r0, .int r1, .int r2, .int r3, .int r4, .int r5, .int r6, .int r7, .int r8, .ref a9, .ref a10, .ref a11, .ref a12, .ref a13, .ref a14, .ref a15, .ref a16])), (a9, .inl (nz_cI g, 6, .inl f9)), (a10, .inl (nz_cI g, 6, .inl f10)), (a11, .inl (nz_cI g, 6, .inl f11)), (a12, .inl (nz_cI g, 5, .inl f12)), (a13, .inl (nz_cI g, 5, .inl f13)), (a14, .inl (nz_cI g, 5, .inl f14)), (a15, .inl (nz_cI g, 5, .inl f15)), (a16, .inl (nz_cI g, 48, .inl f16))]) (rfl) (fun q1 h => ?_)
  refine nz_if_eq (tgt := 25) F dX5_isPair_5 (by decide) (fun c2 => ?_) (fun c2 => ?_)
  · have h := h.1 c2
    refine nz_iconst (v := 0) F dX5_isPair_25 (by decide) ?_
    exact nz_zret F hQ () h rfl (by decide) dX5_isPair_26
  · have h := h.2 c2
    refine nz_aload_n F dX5_isPair_8 rfl 0 rfl ?_
    refine nz_iload_n F dX5_isPair_9 rfl 2 rfl ?_
    refine k_X5_isStone o a9 a10 a11 a12 a13 a14 a15 a16 r0 r1 r2 r3 r4 r5 r6 r7 r8 f9 f10 f11 f12 f13 f14 f15 f16 v2 (fun hM => nz_runV F gX5_isPair_X5_isStone rfl hd_X5_isStone rfl hM dX5_isPair_10 [0, 1, 2, 3, 4, 5, 6, 7, 8] rfl rfl 0 rfl rfl rfl (Nat.le_of_ble_eq_true rfl) rfl) h ([(o, .inr (5, [.int r0, .int r1, .int r2, .int r3, .int r4, .int r5, .int r6, .int r7, .int r8, .ref a9, .ref a10, .ref a11, .ref a12, .ref a13, .ref a14, .ref a15, .ref a16])), (a9, .inl (nz_cI g, 6, .inl f9)), (a10, .inl (nz_cI g, 6, .inl f10)), (a11, .inl (nz_cI g, 6, .inl f11)), (a12, .inl (nz_cI g, 5, .inl f12)), (a13, .inl (nz_cI g, 5, .inl f13)), (a14, .inl (nz_cI g, 5, .inl f14)), (a15, .inl (nz_cI g, 5, .inl f15)), (a16, .inl (nz_cI g, 48, .inl f16))]) (rfl) (fun q3 h => ?_)
    refine nz_if_eq (tgt := 25) F dX5_isPair_13 (by decide) (fun c4 => ?_) (fun c4 => ?_)
    · have h := h.1 c4
      refine nz_iconst (v := 0) F dX5_isPair_25 (by decide) ?_
      exact nz_zret F hQ () h rfl (by decide) dX5_isPair_26
    · have h := h.2 c4
      refine nz_iload_n F dX5_isPair_16 rfl 1 rfl ?_
      refine nz_iload_n F dX5_isPair_17 rfl 2 rfl ?_
      refine nz_icmp_ge (tgt := 25) F dX5_isPair_18 (by decide) (fun c5 => ?_) (fun c5 => ?_)
      · have h := h.1 c5
        refine nz_iconst (v := 0) F dX5_isPair_25 (by decide) ?_
        exact nz_zret F hQ () h rfl (by decide) dX5_isPair_26
      · have h := h.2 c5
        refine nz_iconst (v := 1) F dX5_isPair_21 (by decide) ?_
        refine nz_goto (tgt := 26) F dX5_isPair_22 (by decide) ?_
        exact nz_zret F hQ () h rfl (by decide) dX5_isPair_26
theorem k_X5_isPair {y : nz_Y} {g : nz_G} {k n : Nat} {ws : va_W} {pc : Nat} {ls : List (Nat × Value)} {st rest : List Value} {av : Array Value} {isC : List Nat} {K : Int32 → Prop} (o : Nat) (a9 : Nat) (a10 : Nat) (a11 : Nat) (a12 : Nat) (a13 : Nat) (a14 : Nat) (a15 : Nat) (a16 : Nat) (r0 : Int32) (r1 : Int32) (r2 : Int32) (r3 : Int32) (r4 : Int32) (r5 : Int32) (r6 : Int32) (r7 : Int32) (r8 : Int32) (f9 : Nat → Int32) (f10 : Nat → Int32) (f11 : Nat → Int32) (f12 : Nat → Int32) (f13 : Nat → Int32) (f14 : Nat → Int32) (f15 : Nat → Int32) (f16 : Nat → Int32) (v1 : Int32) (v2 : Int32) (run : nz_M (yz_l y) yX5_isPair wsX5_isPair rm_X5_isPair g [.ref o, .int v1, .int v2] [(o, .inr (5, [.int r0, .int r1, .int r2, .int r3, .int r4, .int r5, .int r6, .int r7, .int r8, .ref a9, .ref a10, .ref a11, .ref a12, .ref a13, .ref a14, .ref a15, .ref a16])), (a9, .inl (nz_cI g, 6, .inl f9)), (a10, .inl (nz_cI g, 6, .inl f10)), (a11, .inl (nz_cI g, 6, .inl f11)), (a12, .inl (nz_cI g, 5, .inl f12)), (a13, .inl (nz_cI g, 5, .inl f13)), (a14, .inl (nz_cI g, 5, .inl f14)), (a15, .inl (nz_cI g, 5, .inl f15)), (a16, .inl (nz_cI g, 48, .inl f16))] (nz_Qi g [(o, .inr (5, [.int r0, .int r1, .int r2, .int r3, .int r4, .int r5, .int r6, .int r7, .int r8, .ref a9, .ref a10, .ref a11, .ref a12, .ref a13, .ref a14, .ref a15, .ref a16])), (a9, .inl (nz_cI g, 6, .inl f9)), (a10, .inl (nz_cI g, 6, .inl f10)), (a11, .inl (nz_cI g, 6, .inl f11)), (a12, .inl (nz_cI g, 5, .inl f12)), (a13, .inl (nz_cI g, 5, .inl f13)), (a14, .inl (nz_cI g, 5, .inl f14)), (a15, .inl (nz_cI g, 5, .inl f15)), (a16, .inl (nz_cI g, 48, .inl f16))] (fun r (u : Unit) => K r) (fun u => [(o, .inr (5, [.int r0, .int r1, .int r2, .int r3, .int r4, .int r5, .int r6, .int r7, .int r8, .ref a9, .ref a10, .ref a11, .ref a12, .ref a13, .ref a14, .ref a15, .ref a16])), (a9, .inl (nz_cI g, 6, .inl f9)), (a10, .inl (nz_cI g, 6, .inl f10)), (a11, .inl (nz_cI g, 6, .inl f11)), (a12, .inl (nz_cI g, 5, .inl f12)), (a13, .inl (nz_cI g, 5, .inl f13)), (a14, .inl (nz_cI g, 5, .inl f14)), (a15, .inl (nz_cI g, 5, .inl f15)), (a16, .inl (nz_cI g, 48, .inl f16))])) → nz_C y g k n ws pc ls st rest [(o, .inr (5, [.int r0, .int r1, .int r2, .int r3, .int r4, .int r5, .int r6, .int r7, .int r8, .ref a9, .ref a10, .ref a11, .ref a12, .ref a13, .ref a14, .ref a15, .ref a16])), (a9, .inl (nz_cI g, 6, .inl f9)), (a10, .inl (nz_cI g, 6, .inl f10)), (a11, .inl (nz_cI g, 6, .inl f11)), (a12, .inl (nz_cI g, 5, .inl f12)), (a13, .inl (nz_cI g, 5, .inl f13)), (a14, .inl (nz_cI g, 5, .inl f14)), (a15, .inl (nz_cI g, 5, .inl f15)), (a16, .inl (nz_cI g, 48, .inl f16))] (nz_Qi g [(o, .inr (5, [.int r0, .int r1, .int r2, .int r3, .int r4, .int r5, .int r6, .int r7, .int r8, .ref a9, .ref a10, .ref a11, .ref a12, .ref a13, .ref a14, .ref a15, .ref a16])), (a9, .inl (nz_cI g, 6, .inl f9)), (a10, .inl (nz_cI g, 6, .inl f10)), (a11, .inl (nz_cI g, 6, .inl f11)), (a12, .inl (nz_cI g, 5, .inl f12)), (a13, .inl (nz_cI g, 5, .inl f13)), (a14, .inl (nz_cI g, 5, .inl f14)), (a15, .inl (nz_cI g, 5, .inl f15)), (a16, .inl (nz_cI g, 48, .inl f16))] (fun r (u : Unit) => K r) (fun u => [(o, .inr (5, [.int r0, .int r1, .int r2, .int r3, .int r4, .int r5, .int r6, .int r7, .int r8, .ref a9, .ref a10, .ref a11, .ref a12, .ref a13, .ref a14, .ref a15, .ref a16])), (a9, .inl (nz_cI g, 6, .inl f9)), (a10, .inl (nz_cI g, 6, .inl f10)), (a11, .inl (nz_cI g, 6, .inl f11)), (a12, .inl (nz_cI g, 5, .inl f12)), (a13, .inl (nz_cI g, 5, .inl f13)), (a14, .inl (nz_cI g, 5, .inl f14)), (a15, .inl (nz_cI g, 5, .inl f15)), (a16, .inl (nz_cI g, 48, .inl f16))])) av isC) (h : wp_X5_isPair r6 v1 v2 K) (ws' : va_W) (hm : nz_mrg ws isC [(o, .inr (5, [.int r0, .int r1, .int r2, .int r3, .int r4, .int r5, .int r6, .int r7, .int r8, .ref a9, .ref a10, .ref a11, .ref a12, .ref a13, .ref a14, .ref a15, .ref a16])), (a9, .inl (nz_cI g, 6, .inl f9)), (a10, .inl (nz_cI g, 6, .inl f10)), (a11, .inl (nz_cI g, 6, .inl f11)), (a12, .inl (nz_cI g, 5, .inl f12)), (a13, .inl (nz_cI g, 5, .inl f13)), (a14, .inl (nz_cI g, 5, .inl f14)), (a15, .inl (nz_cI g, 5, .inl f15)), (a16, .inl (nz_cI g, 48, .inl f16))] = ws' ) (kk : ∀ (r : Int32), K r → nz_V y g k n ws' (pc + 3) ls (.int r :: rest)) : nz_V y g k n ws pc ls st :=
  nz_ci (ws' := fun _ => ws') (run (c_X5_isPair (yz_l y) g o a9 a10 a11 a12 a13 a14 a15 a16 r0 r1 r2 r3 r4 r5 r6 r7 r8 f9 f10 f11 f12 f13 f14 f15 f16 v1 v2 K h)) (fun _ => rfl) (fun _ => hm) (fun r u h => kk r h)
theorem dX5_isTime_0 : decode cX5_isTime 0 = .ok (.aload_n 0, 1) := by decide +kernel
theorem dX5_isTime_1 : decode cX5_isTime 1 = .ok (.iload_n 1, 1) := by decide +kernel
theorem dX5_isTime_2 : decode cX5_isTime 2 = .ok (.iload_n 2, 1) := by decide +kernel
theorem dX5_isTime_3 : decode cX5_isTime 3 = .ok (.invokevirtual 75, 3) := by decide +kernel
theorem dX5_isTime_6 : decode cX5_isTime 6 = .ok (.ifCond .eq 28, 3) := by decide +kernel
theorem dX5_isTime_9 : decode cX5_isTime 9 = .ok (.iload_n 3, 1) := by decide +kernel
theorem dX5_isTime_10 : decode cX5_isTime 10 = .ok (.iconst 1, 1) := by decide +kernel
theorem dX5_isTime_11 : decode cX5_isTime 11 = .ok (.bipush 20, 2) := by decide +kernel
theorem dX5_isTime_13 : decode cX5_isTime 13 = .ok (.invokestatic 79, 3) := by decide +kernel
theorem dX5_isTime_16 : decode cX5_isTime 16 = .ok (.ifCond .eq 18, 3) := by decide +kernel
theorem dX5_isTime_19 : decode cX5_isTime 19 = .ok (.iload 4, 2) := by decide +kernel
theorem dX5_isTime_21 : decode cX5_isTime 21 = .ok (.iconst 0, 1) := by decide +kernel
theorem dX5_isTime_22 : decode cX5_isTime 22 = .ok (.bipush 99, 2) := by decide +kernel
theorem dX5_isTime_24 : decode cX5_isTime 24 = .ok (.invokestatic 79, 3) := by decide +kernel
theorem dX5_isTime_27 : decode cX5_isTime 27 = .ok (.ifCond .eq 7, 3) := by decide +kernel
theorem dX5_isTime_30 : decode cX5_isTime 30 = .ok (.iconst 1, 1) := by decide +kernel
theorem dX5_isTime_31 : decode cX5_isTime 31 = .ok (.goto 4, 3) := by decide +kernel
theorem dX5_isTime_34 : decode cX5_isTime 34 = .ok (.iconst 0, 1) := by decide +kernel
theorem dX5_isTime_35 : decode cX5_isTime 35 = .ok (.ireturn, 1) := by decide +kernel
set_option maxRecDepth 20000 in
theorem ggX5_isTime_X5_isPair : GoodIn wsX5_isTime wsX5_isPair := goodIn_r _ [5, 6, 7, 8, 4, 9, 10, 14, 15, 16, 17, 18, 19, 20, 21, 22, 23, 24, 25, 26, 27, 28, 29, 30] rfl (by decide +kernel)
set_option maxRecDepth 20000 in
theorem gX5_isTime_X5_isPair : GoodIn wsX5_isTime (wsV RX5 75 RX5 yX5_isPair wsX5_isPair) := goodIn_app (goodIn_r _ [1, 2, 3, 4] rfl (by decide +kernel)) ggX5_isTime_X5_isPair
set_option maxRecDepth 20000 in
theorem ggX5_isTime_X7_isAmong : GoodIn wsX5_isTime wsX7_isAmong := goodIn_r _ [13] rfl (by decide +kernel)
set_option maxRecDepth 20000 in
theorem gX5_isTime_X7_isAmong_n79 : GoodIn wsX5_isTime (wsX7_isAmong) := ggX5_isTime_X7_isAmong
theorem hd_X5_isPair : yX5_isPair.cls = RX5 ∧ yX5_isPair.cls ≠ "java/lang/invoke/MethodHandle" ∧ yX5_isPair.cls ≠ "java/lang/invoke/VarHandle" ∧ (parseMethodDescriptor yX5_isPair.desc).map (fun d => d.parameters.length) = some 2 := by decide +kernel
theorem hd_X7_isAmong : yX7_isAmong.cls = RX7 ∧ yX7_isAmong.cls ≠ "java/lang/invoke/MethodHandle" ∧ yX7_isAmong.cls ≠ "java/lang/invoke/VarHandle" ∧ (parseMethodDescriptor yX7_isAmong.desc).map (fun d => d.parameters.length) = some 3 := by decide +kernel
/-! X5_isTime -/
abbrev rm_X5_isTime : Room := { frames := 2, cells := 0, slots := 0, locals := 43 }
theorem nt_X5_isTime_X7_isAmong_79 : Cond.methodLinkNest RX5 79 yX7_isAmong RX7 ∈ nz_nest := List.mem_of_getElem? (i := 77) rfl
theorem wd_X5_isTime_in_RX7 : Cond.initialized RX7 ∈ wsX5_isTime := List.mem_of_getElem? (i := 12) rfl
theorem wd_X5_isTime_im_X7_isAmong : Cond.static yX7_isAmong ∈ wsX5_isTime := List.mem_of_getElem? (i := 11) rfl
def wp_X5_isTime (r6 : Int32) (v1 : Int32) (v2 : Int32) (v3 : Int32) (v4 : Int32) (K : Int32 → Prop) : Prop := wp_X5_isPair r6 v1 v2 (fun q1 => ((q1 = 0 → K 0) ∧ (¬ (q1 = 0) → wp_X7_isAmong v3 1 20 (fun q3 => ((q3 = 0 → K 0) ∧ (¬ (q3 = 0) → wp_X7_isAmong v4 0 99 (fun q5 => ((q5 = 0 → K 0) ∧ (¬ (q5 = 0) → K 1)))))))))
set_option maxHeartbeats 4000000 in
set_option maxRecDepth 100000 in
theorem c_X5_isTime (l : Launch) (g : nz_G) (o : Nat) (a9 : Nat) (a10 : Nat) (a11 : Nat) (a12 : Nat) (a13 : Nat) (a14 : Nat) (a15 : Nat) (a16 : Nat) (r0 : Int32) (r1 : Int32) (r2 : Int32) (r3 : Int32) (r4 : Int32) (r5 : Int32) (r6 : Int32) (r7 : Int32) (r8 : Int32) (f9 : Nat → Int32) (f10 : Nat → Int32) (f11 : Nat → Int32) (f12 : Nat → Int32) (f13 : Nat → Int32) (f14 : Nat → Int32) (f15 : Nat → Int32) (f16 : Nat → Int32) (v1 : Int32) (v2 : Int32) (v3 : Int32) (v4 : Int32) (K : Int32 → Prop) (h : wp_X5_isTime r6 v1 v2 v3 v4 K) : nz_M l yX5_isTime wsX5_isTime rm_X5_isTime g [.ref o, .int v1, .int v2, .int v3, .int v4] [(o, .inr (5, [.int r0, .int r1, .int r2, .int r3, .int r4, .int r5, .int r6, .int r7, .int r8, .ref a9, .ref a10, .ref a11, .ref a12, .ref a13, .ref a14, .ref a15, .ref a16])), (a9, .inl (nz_cI g, 6, .inl f9)), (a10, .inl (nz_cI g, 6, .inl f10)), (a11, .inl (nz_cI g, 6, .inl f11)), (a12, .inl (nz_cI g, 5, .inl f12)), (a13, .inl (nz_cI g, 5, .inl f13)), (a14, .inl (nz_cI g, 5, .inl f14)), (a15, .inl (nz_cI g, 5, .inl f15)), (a16, .inl (nz_cI g, 48, .inl f16))] (nz_Qi g [(o, .inr (5, [.int r0, .int r1, .int r2, .int r3, .int r4, .int r5, .int r6, .int r7, .int r8, .ref a9, .ref a10, .ref a11, .ref a12, .ref a13, .ref a14, .ref a15, .ref a16])), (a9, .inl (nz_cI g, 6, .inl f9)), (a10, .inl (nz_cI g, 6, .inl f10)), (a11, .inl (nz_cI g, 6, .inl f11)), (a12, .inl (nz_cI g, 5, .inl f12)), (a13, .inl (nz_cI g, 5, .inl f13)), (a14, .inl (nz_cI g, 5, .inl f14)), (a15, .inl (nz_cI g, 5, .inl f15)), (a16, .inl (nz_cI g, 48, .inl f16))] (fun r (u : Unit) => K r) (fun u => [(o, .inr (5, [.int r0, .int r1, .int r2, .int r3, .int r4, .int r5, .int r6, .int r7, .int r8, .ref a9, .ref a10, .ref a11, .ref a12, .ref a13, .ref a14, .ref a15, .ref a16])), (a9, .inl (nz_cI g, 6, .inl f9)), (a10, .inl (nz_cI g, 6, .inl f10)), (a11, .inl (nz_cI g, 6, .inl f11)), (a12, .inl (nz_cI g, 5, .inl f12)), (a13, .inl (nz_cI g, 5, .inl f13)), (a14, .inl (nz_cI g, 5, .inl f14)), (a15, .inl (nz_cI g, 5, .inl f15)), (a16, .inl (nz_cI g, 48, .inl f16))])) := by
  refine nz_M.of (bytes := cX5_isTime) (nL := 5) (ret := (some .boolean)) (own := RX5) (by decide) rfl rfl ⟨rfl, rfl⟩ rfl ?_
  intro y F hl hQ
  obtain ⟨sz, hQ⟩ := hQ
  refine nz_ent (lv' := [(0, .ref o), (1, .int v1), (2, .int v2), (3, .int v3), (4, .int v4)]) rfl ?_
  unfold wp_X5_isTime at h
  refine nz_aload_n F dX5_isTime_0 rfl 0 rfl ?_
  refine nz_iload_n F dX5_isTime_1 rfl 1 rfl ?_
  refine nz_iload_n F dX5_isTime_2 rfl 2 rfl ?_
  refine k_X5_isPair o a9 a10 a11 a12 a13 a14 a15 a16 r0 r1 r2 r3 r4 r5 r6 r7 r8 f9 f10 f11 f12 f13 f14 f15 f16 v1 v2 (fun hM => nz_runV F gX5_isTime_X5_isPair rfl hd_X5_isPair rfl hM dX5_isTime_3 [0, 1, 2, 3, 4, 5, 6, 7, 8] rfl rfl 0 rfl rfl rfl (Nat.le_of_ble_eq_true rfl) rfl) h ([(o, .inr (5, [.int r0, .int r1, .int r2, .int r3, .int r4, .int r5, .int r6, .int r7, .int r8, .ref a9, .ref a10, .ref a11, .ref a12, .ref a13, .ref a14, .ref a15, .ref a16])), (a9, .inl (nz_cI g, 6, .inl f9)), (a10, .inl (nz_cI g, 6, .inl f10)), (a11, .inl (nz_cI g, 6, .inl f11)), (a12, .inl (nz_cI g, 5, .inl f12)), (a13, .inl (nz_cI g, 5, .inl f13)), (a14, .inl (nz_cI g, 5, .inl f14)), (a15, .inl (nz_cI g, 5, .inl f15)), (a16, .inl (nz_cI g, 48, .inl f16))]) (rfl) (fun q1 h => ?_)
  refine nz_if_eq (tgt := 34) F dX5_isTime_6 (by decide) (fun c2 => ?_) (fun c2 => ?_)
  · have h := h.1 c2
    refine nz_iconst (v := 0) F dX5_isTime_34 (by decide) ?_
    exact nz_zret F hQ () h rfl (by decide) dX5_isTime_35
  · have h := h.2 c2
    refine nz_iload_n F dX5_isTime_9 rfl 3 rfl ?_
    refine nz_iconst (v := 1) F dX5_isTime_10 (by decide) ?_
    refine nz_bipush (v := 20) F dX5_isTime_11 (by decide) ?_
    refine k_X7_isAmong v3 1 20 (fun hM => nz_runSN F gX5_isTime_X7_isAmong_n79 rfl nt_X5_isTime_X7_isAmong_79 wd_X5_isTime_in_RX7 wd_X5_isTime_im_X7_isAmong hd_X7_isAmong.2 rfl hM dX5_isTime_13 [] rfl rfl rfl (Nat.le_of_ble_eq_true rfl) rfl) h ([(o, .inr (5, [.int r0, .int r1, .int r2, .int r3, .int r4, .int r5, .int r6, .int r7, .int r8, .ref a9, .ref a10, .ref a11, .ref a12, .ref a13, .ref a14, .ref a15, .ref a16])), (a9, .inl (nz_cI g, 6, .inl f9)), (a10, .inl (nz_cI g, 6, .inl f10)), (a11, .inl (nz_cI g, 6, .inl f11)), (a12, .inl (nz_cI g, 5, .inl f12)), (a13, .inl (nz_cI g, 5, .inl f13)), (a14, .inl (nz_cI g, 5, .inl f14)), (a15, .inl (nz_cI g, 5, .inl f15)), (a16, .inl (nz_cI g, 48, .inl f16))]) (rfl) (fun q3 h => ?_)
    refine nz_if_eq (tgt := 34) F dX5_isTime_16 (by decide) (fun c4 => ?_) (fun c4 => ?_)
    · have h := h.1 c4
      refine nz_iconst (v := 0) F dX5_isTime_34 (by decide) ?_
      exact nz_zret F hQ () h rfl (by decide) dX5_isTime_35
    · have h := h.2 c4
      refine nz_iload F dX5_isTime_19 4 rfl ?_
      refine nz_iconst (v := 0) F dX5_isTime_21 (by decide) ?_
      refine nz_bipush (v := 99) F dX5_isTime_22 (by decide) ?_
      refine k_X7_isAmong v4 0 99 (fun hM => nz_runSN F gX5_isTime_X7_isAmong_n79 rfl nt_X5_isTime_X7_isAmong_79 wd_X5_isTime_in_RX7 wd_X5_isTime_im_X7_isAmong hd_X7_isAmong.2 rfl hM dX5_isTime_24 [] rfl rfl rfl (Nat.le_of_ble_eq_true rfl) rfl) h ([(o, .inr (5, [.int r0, .int r1, .int r2, .int r3, .int r4, .int r5, .int r6, .int r7, .int r8, .ref a9, .ref a10, .ref a11, .ref a12, .ref a13, .ref a14, .ref a15, .ref a16])), (a9, .inl (nz_cI g, 6, .inl f9)), (a10, .inl (nz_cI g, 6, .inl f10)), (a11, .inl (nz_cI g, 6, .inl f11)), (a12, .inl (nz_cI g, 5, .inl f12)), (a13, .inl (nz_cI g, 5, .inl f13)), (a14, .inl (nz_cI g, 5, .inl f14)), (a15, .inl (nz_cI g, 5, .inl f15)), (a16, .inl (nz_cI g, 48, .inl f16))]) (rfl) (fun q5 h => ?_)
      refine nz_if_eq (tgt := 34) F dX5_isTime_27 (by decide) (fun c6 => ?_) (fun c6 => ?_)
      · have h := h.1 c6
        refine nz_iconst (v := 0) F dX5_isTime_34 (by decide) ?_
        exact nz_zret F hQ () h rfl (by decide) dX5_isTime_35
      · have h := h.2 c6
        refine nz_iconst (v := 1) F dX5_isTime_30 (by decide) ?_
        refine nz_goto (tgt := 35) F dX5_isTime_31 (by decide) ?_
        exact nz_zret F hQ () h rfl (by decide) dX5_isTime_35
theorem k_X5_isTime {y : nz_Y} {g : nz_G} {k n : Nat} {ws : va_W} {pc : Nat} {ls : List (Nat × Value)} {st rest : List Value} {av : Array Value} {isC : List Nat} {K : Int32 → Prop} (o : Nat) (a9 : Nat) (a10 : Nat) (a11 : Nat) (a12 : Nat) (a13 : Nat) (a14 : Nat) (a15 : Nat) (a16 : Nat) (r0 : Int32) (r1 : Int32) (r2 : Int32) (r3 : Int32) (r4 : Int32) (r5 : Int32) (r6 : Int32) (r7 : Int32) (r8 : Int32) (f9 : Nat → Int32) (f10 : Nat → Int32) (f11 : Nat → Int32) (f12 : Nat → Int32) (f13 : Nat → Int32) (f14 : Nat → Int32) (f15 : Nat → Int32) (f16 : Nat → Int32) (v1 : Int32) (v2 : Int32) (v3 : Int32) (v4 : Int32) (run : nz_M (yz_l y) yX5_isTime wsX5_isTime rm_X5_isTime g [.ref o, .int v1, .int v2, .int v3, .int v4] [(o, .inr (5, [.int r0, .int r1, .int r2, .int r3, .int r4, .int r5, .int r6, .int r7, .int r8, .ref a9, .ref a10, .ref a11, .ref a12, .ref a13, .ref a14, .ref a15, .ref a16])), (a9, .inl (nz_cI g, 6, .inl f9)), (a10, .inl (nz_cI g, 6, .inl f10)), (a11, .inl (nz_cI g, 6, .inl f11)), (a12, .inl (nz_cI g, 5, .inl f12)), (a13, .inl (nz_cI g, 5, .inl f13)), (a14, .inl (nz_cI g, 5, .inl f14)), (a15, .inl (nz_cI g, 5, .inl f15)), (a16, .inl (nz_cI g, 48, .inl f16))] (nz_Qi g [(o, .inr (5, [.int r0, .int r1, .int r2, .int r3, .int r4, .int r5, .int r6, .int r7, .int r8, .ref a9, .ref a10, .ref a11, .ref a12, .ref a13, .ref a14, .ref a15, .ref a16])), (a9, .inl (nz_cI g, 6, .inl f9)), (a10, .inl (nz_cI g, 6, .inl f10)), (a11, .inl (nz_cI g, 6, .inl f11)), (a12, .inl (nz_cI g, 5, .inl f12)), (a13, .inl (nz_cI g, 5, .inl f13)), (a14, .inl (nz_cI g, 5, .inl f14)), (a15, .inl (nz_cI g, 5, .inl f15)), (a16, .inl (nz_cI g, 48, .inl f16))] (fun r (u : Unit) => K r) (fun u => [(o, .inr (5, [.int r0, .int r1, .int r2, .int r3, .int r4, .int r5, .int r6, .int r7, .int r8, .ref a9, .ref a10, .ref a11, .ref a12, .ref a13, .ref a14, .ref a15, .ref a16])), (a9, .inl (nz_cI g, 6, .inl f9)), (a10, .inl (nz_cI g, 6, .inl f10)), (a11, .inl (nz_cI g, 6, .inl f11)), (a12, .inl (nz_cI g, 5, .inl f12)), (a13, .inl (nz_cI g, 5, .inl f13)), (a14, .inl (nz_cI g, 5, .inl f14)), (a15, .inl (nz_cI g, 5, .inl f15)), (a16, .inl (nz_cI g, 48, .inl f16))])) → nz_C y g k n ws pc ls st rest [(o, .inr (5, [.int r0, .int r1, .int r2, .int r3, .int r4, .int r5, .int r6, .int r7, .int r8, .ref a9, .ref a10, .ref a11, .ref a12, .ref a13, .ref a14, .ref a15, .ref a16])), (a9, .inl (nz_cI g, 6, .inl f9)), (a10, .inl (nz_cI g, 6, .inl f10)), (a11, .inl (nz_cI g, 6, .inl f11)), (a12, .inl (nz_cI g, 5, .inl f12)), (a13, .inl (nz_cI g, 5, .inl f13)), (a14, .inl (nz_cI g, 5, .inl f14)), (a15, .inl (nz_cI g, 5, .inl f15)), (a16, .inl (nz_cI g, 48, .inl f16))] (nz_Qi g [(o, .inr (5, [.int r0, .int r1, .int r2, .int r3, .int r4, .int r5, .int r6, .int r7, .int r8, .ref a9, .ref a10, .ref a11, .ref a12, .ref a13, .ref a14, .ref a15, .ref a16])), (a9, .inl (nz_cI g, 6, .inl f9)), (a10, .inl (nz_cI g, 6, .inl f10)), (a11, .inl (nz_cI g, 6, .inl f11)), (a12, .inl (nz_cI g, 5, .inl f12)), (a13, .inl (nz_cI g, 5, .inl f13)), (a14, .inl (nz_cI g, 5, .inl f14)), (a15, .inl (nz_cI g, 5, .inl f15)), (a16, .inl (nz_cI g, 48, .inl f16))] (fun r (u : Unit) => K r) (fun u => [(o, .inr (5, [.int r0, .int r1, .int r2, .int r3, .int r4, .int r5, .int r6, .int r7, .int r8, .ref a9, .ref a10, .ref a11, .ref a12, .ref a13, .ref a14, .ref a15, .ref a16])), (a9, .inl (nz_cI g, 6, .inl f9)), (a10, .inl (nz_cI g, 6, .inl f10)), (a11, .inl (nz_cI g, 6, .inl f11)), (a12, .inl (nz_cI g, 5, .inl f12)), (a13, .inl (nz_cI g, 5, .inl f13)), (a14, .inl (nz_cI g, 5, .inl f14)), (a15, .inl (nz_cI g, 5, .inl f15)), (a16, .inl (nz_cI g, 48, .inl f16))])) av isC) (h : wp_X5_isTime r6 v1 v2 v3 v4 K) (ws' : va_W) (hm : nz_mrg ws isC [(o, .inr (5, [.int r0, .int r1, .int r2, .int r3, .int r4, .int r5, .int r6, .int r7, .int r8, .ref a9, .ref a10, .ref a11, .ref a12, .ref a13, .ref a14, .ref a15, .ref a16])), (a9, .inl (nz_cI g, 6, .inl f9)), (a10, .inl (nz_cI g, 6, .inl f10)), (a11, .inl (nz_cI g, 6, .inl f11)), (a12, .inl (nz_cI g, 5, .inl f12)), (a13, .inl (nz_cI g, 5, .inl f13)), (a14, .inl (nz_cI g, 5, .inl f14)), (a15, .inl (nz_cI g, 5, .inl f15)), (a16, .inl (nz_cI g, 48, .inl f16))] = ws' ) (kk : ∀ (r : Int32), K r → nz_V y g k n ws' (pc + 3) ls (.int r :: rest)) : nz_V y g k n ws pc ls st :=
  nz_ci (ws' := fun _ => ws') (run (c_X5_isTime (yz_l y) g o a9 a10 a11 a12 a13 a14 a15 a16 r0 r1 r2 r3 r4 r5 r6 r7 r8 f9 f10 f11 f12 f13 f14 f15 f16 v1 v2 v3 v4 K h)) (fun _ => rfl) (fun _ => hm) (fun r u h => kk r h)
theorem dX5_hasRoomForTimes_0 : decode cX5_hasRoomForTimes 0 = .ok (.aload_n 0, 1) := by decide +kernel
theorem dX5_hasRoomForTimes_1 : decode cX5_hasRoomForTimes 1 = .ok (.getfield 62, 3) := by decide +kernel
theorem dX5_hasRoomForTimes_4 : decode cX5_hasRoomForTimes 4 = .ok (.iload_n 1, 1) := by decide +kernel
theorem dX5_hasRoomForTimes_5 : decode cX5_hasRoomForTimes 5 = .ok (.iadd, 1) := by decide +kernel
theorem dX5_hasRoomForTimes_6 : decode cX5_hasRoomForTimes 6 = .ok (.bipush 12, 2) := by decide +kernel
theorem dX5_hasRoomForTimes_8 : decode cX5_hasRoomForTimes 8 = .ok (.if_icmp .gt 7, 3) := by decide +kernel
theorem dX5_hasRoomForTimes_11 : decode cX5_hasRoomForTimes 11 = .ok (.iconst 1, 1) := by decide +kernel
theorem dX5_hasRoomForTimes_12 : decode cX5_hasRoomForTimes 12 = .ok (.goto 4, 3) := by decide +kernel
theorem dX5_hasRoomForTimes_15 : decode cX5_hasRoomForTimes 15 = .ok (.iconst 0, 1) := by decide +kernel
theorem dX5_hasRoomForTimes_16 : decode cX5_hasRoomForTimes 16 = .ok (.ireturn, 1) := by decide +kernel
/-! X5_hasRoomForTimes -/
abbrev rm_X5_hasRoomForTimes : Room := { frames := 0, cells := 0, slots := 0, locals := 0 }
theorem iw_X5_hasRoomForTimes_5 : ∀ w ∈ wsX50, w ∈ wsX5_hasRoomForTimes := fun _ h => List.mem_cons_of_mem _ (List.mem_append_right _ h)
theorem fl_X5_hasRoomForTimes_62 : Cond.fieldLink RX5 62 "NightStones$Road" "heard" "I" ∈ wsX5_hasRoomForTimes := List.mem_of_getElem? (i := 1) rfl
def wp_X5_hasRoomForTimes (r8 : Int32) (v1 : Int32) (K : Int32 → Prop) : Prop := ((12 < (r8 + v1) → K 0) ∧ (¬ (12 < (r8 + v1)) → K 1))
set_option maxHeartbeats 4000000 in
set_option maxRecDepth 100000 in
theorem c_X5_hasRoomForTimes (l : Launch) (g : nz_G) (o : Nat) (a9 : Nat) (a10 : Nat) (a11 : Nat) (a12 : Nat) (a13 : Nat) (a14 : Nat) (a15 : Nat) (a16 : Nat) (r0 : Int32) (r1 : Int32) (r2 : Int32) (r3 : Int32) (r4 : Int32) (r5 : Int32) (r6 : Int32) (r7 : Int32) (r8 : Int32) (f9 : Nat → Int32) (f10 : Nat → Int32) (f11 : Nat → Int32) (f12 : Nat → Int32) (f13 : Nat → Int32) (f14 : Nat → Int32) (f15 : Nat → Int32) (f16 : Nat → Int32) (v1 : Int32) (K : Int32 → Prop) (h : wp_X5_hasRoomForTimes r8 v1 K) : nz_M l yX5_hasRoomForTimes wsX5_hasRoomForTimes rm_X5_hasRoomForTimes g [.ref o, .int v1] [(o, .inr (5, [.int r0, .int r1, .int r2, .int r3, .int r4, .int r5, .int r6, .int r7, .int r8, .ref a9, .ref a10, .ref a11, .ref a12, .ref a13, .ref a14, .ref a15, .ref a16])), (a9, .inl (nz_cI g, 6, .inl f9)), (a10, .inl (nz_cI g, 6, .inl f10)), (a11, .inl (nz_cI g, 6, .inl f11)), (a12, .inl (nz_cI g, 5, .inl f12)), (a13, .inl (nz_cI g, 5, .inl f13)), (a14, .inl (nz_cI g, 5, .inl f14)), (a15, .inl (nz_cI g, 5, .inl f15)), (a16, .inl (nz_cI g, 48, .inl f16))] (nz_Qi g [(o, .inr (5, [.int r0, .int r1, .int r2, .int r3, .int r4, .int r5, .int r6, .int r7, .int r8, .ref a9, .ref a10, .ref a11, .ref a12, .ref a13, .ref a14, .ref a15, .ref a16])), (a9, .inl (nz_cI g, 6, .inl f9)), (a10, .inl (nz_cI g, 6, .inl f10)), (a11, .inl (nz_cI g, 6, .inl f11)), (a12, .inl (nz_cI g, 5, .inl f12)), (a13, .inl (nz_cI g, 5, .inl f13)), (a14, .inl (nz_cI g, 5, .inl f14)), (a15, .inl (nz_cI g, 5, .inl f15)), (a16, .inl (nz_cI g, 48, .inl f16))] (fun r (u : Unit) => K r) (fun u => [(o, .inr (5, [.int r0, .int r1, .int r2, .int r3, .int r4, .int r5, .int r6, .int r7, .int r8, .ref a9, .ref a10, .ref a11, .ref a12, .ref a13, .ref a14, .ref a15, .ref a16])), (a9, .inl (nz_cI g, 6, .inl f9)), (a10, .inl (nz_cI g, 6, .inl f10)), (a11, .inl (nz_cI g, 6, .inl f11)), (a12, .inl (nz_cI g, 5, .inl f12)), (a13, .inl (nz_cI g, 5, .inl f13)), (a14, .inl (nz_cI g, 5, .inl f14)), (a15, .inl (nz_cI g, 5, .inl f15)), (a16, .inl (nz_cI g, 48, .inl f16))])) := by
  refine nz_M.of (bytes := cX5_hasRoomForTimes) (nL := 2) (ret := (some .boolean)) (own := RX5) (by decide) rfl rfl ⟨rfl, rfl⟩ rfl ?_
  intro y F hl hQ
  obtain ⟨sz, hQ⟩ := hQ
  refine nz_ent (lv' := [(0, .ref o), (1, .int v1)]) rfl ?_
  unfold wp_X5_hasRoomForTimes at h
  refine nz_aload_n F dX5_hasRoomForTimes_0 rfl 0 rfl ?_
  refine nz_get F iw_X5_hasRoomForTimes_5 0 rfl rfl 8 (by decide) rfl fl_X5_hasRoomForTimes_62 rfl dX5_hasRoomForTimes_1 ?_
  refine nz_iload_n F dX5_hasRoomForTimes_4 rfl 1 rfl ?_
  refine nz_iadd F dX5_hasRoomForTimes_5 ?_
  refine nz_bipush (v := 12) F dX5_hasRoomForTimes_6 (by decide) ?_
  refine nz_icmp_gt (tgt := 15) F dX5_hasRoomForTimes_8 (by decide) (fun c1 => ?_) (fun c1 => ?_)
  · have h := h.1 c1
    refine nz_iconst (v := 0) F dX5_hasRoomForTimes_15 (by decide) ?_
    exact nz_zret F hQ () h rfl (by decide) dX5_hasRoomForTimes_16
  · have h := h.2 c1
    refine nz_iconst (v := 1) F dX5_hasRoomForTimes_11 (by decide) ?_
    refine nz_goto (tgt := 16) F dX5_hasRoomForTimes_12 (by decide) ?_
    exact nz_zret F hQ () h rfl (by decide) dX5_hasRoomForTimes_16
theorem k_X5_hasRoomForTimes {y : nz_Y} {g : nz_G} {k n : Nat} {ws : va_W} {pc : Nat} {ls : List (Nat × Value)} {st rest : List Value} {av : Array Value} {isC : List Nat} {K : Int32 → Prop} (o : Nat) (a9 : Nat) (a10 : Nat) (a11 : Nat) (a12 : Nat) (a13 : Nat) (a14 : Nat) (a15 : Nat) (a16 : Nat) (r0 : Int32) (r1 : Int32) (r2 : Int32) (r3 : Int32) (r4 : Int32) (r5 : Int32) (r6 : Int32) (r7 : Int32) (r8 : Int32) (f9 : Nat → Int32) (f10 : Nat → Int32) (f11 : Nat → Int32) (f12 : Nat → Int32) (f13 : Nat → Int32) (f14 : Nat → Int32) (f15 : Nat → Int32) (f16 : Nat → Int32) (v1 : Int32) (run : nz_M (yz_l y) yX5_hasRoomForTimes wsX5_hasRoomForTimes rm_X5_hasRoomForTimes g [.ref o, .int v1] [(o, .inr (5, [.int r0, .int r1, .int r2, .int r3, .int r4, .int r5, .int r6, .int r7, .int r8, .ref a9, .ref a10, .ref a11, .ref a12, .ref a13, .ref a14, .ref a15, .ref a16])), (a9, .inl (nz_cI g, 6, .inl f9)), (a10, .inl (nz_cI g, 6, .inl f10)), (a11, .inl (nz_cI g, 6, .inl f11)), (a12, .inl (nz_cI g, 5, .inl f12)), (a13, .inl (nz_cI g, 5, .inl f13)), (a14, .inl (nz_cI g, 5, .inl f14)), (a15, .inl (nz_cI g, 5, .inl f15)), (a16, .inl (nz_cI g, 48, .inl f16))] (nz_Qi g [(o, .inr (5, [.int r0, .int r1, .int r2, .int r3, .int r4, .int r5, .int r6, .int r7, .int r8, .ref a9, .ref a10, .ref a11, .ref a12, .ref a13, .ref a14, .ref a15, .ref a16])), (a9, .inl (nz_cI g, 6, .inl f9)), (a10, .inl (nz_cI g, 6, .inl f10)), (a11, .inl (nz_cI g, 6, .inl f11)), (a12, .inl (nz_cI g, 5, .inl f12)), (a13, .inl (nz_cI g, 5, .inl f13)), (a14, .inl (nz_cI g, 5, .inl f14)), (a15, .inl (nz_cI g, 5, .inl f15)), (a16, .inl (nz_cI g, 48, .inl f16))] (fun r (u : Unit) => K r) (fun u => [(o, .inr (5, [.int r0, .int r1, .int r2, .int r3, .int r4, .int r5, .int r6, .int r7, .int r8, .ref a9, .ref a10, .ref a11, .ref a12, .ref a13, .ref a14, .ref a15, .ref a16])), (a9, .inl (nz_cI g, 6, .inl f9)), (a10, .inl (nz_cI g, 6, .inl f10)), (a11, .inl (nz_cI g, 6, .inl f11)), (a12, .inl (nz_cI g, 5, .inl f12)), (a13, .inl (nz_cI g, 5, .inl f13)), (a14, .inl (nz_cI g, 5, .inl f14)), (a15, .inl (nz_cI g, 5, .inl f15)), (a16, .inl (nz_cI g, 48, .inl f16))])) → nz_C y g k n ws pc ls st rest [(o, .inr (5, [.int r0, .int r1, .int r2, .int r3, .int r4, .int r5, .int r6, .int r7, .int r8, .ref a9, .ref a10, .ref a11, .ref a12, .ref a13, .ref a14, .ref a15, .ref a16])), (a9, .inl (nz_cI g, 6, .inl f9)), (a10, .inl (nz_cI g, 6, .inl f10)), (a11, .inl (nz_cI g, 6, .inl f11)), (a12, .inl (nz_cI g, 5, .inl f12)), (a13, .inl (nz_cI g, 5, .inl f13)), (a14, .inl (nz_cI g, 5, .inl f14)), (a15, .inl (nz_cI g, 5, .inl f15)), (a16, .inl (nz_cI g, 48, .inl f16))] (nz_Qi g [(o, .inr (5, [.int r0, .int r1, .int r2, .int r3, .int r4, .int r5, .int r6, .int r7, .int r8, .ref a9, .ref a10, .ref a11, .ref a12, .ref a13, .ref a14, .ref a15, .ref a16])), (a9, .inl (nz_cI g, 6, .inl f9)), (a10, .inl (nz_cI g, 6, .inl f10)), (a11, .inl (nz_cI g, 6, .inl f11)), (a12, .inl (nz_cI g, 5, .inl f12)), (a13, .inl (nz_cI g, 5, .inl f13)), (a14, .inl (nz_cI g, 5, .inl f14)), (a15, .inl (nz_cI g, 5, .inl f15)), (a16, .inl (nz_cI g, 48, .inl f16))] (fun r (u : Unit) => K r) (fun u => [(o, .inr (5, [.int r0, .int r1, .int r2, .int r3, .int r4, .int r5, .int r6, .int r7, .int r8, .ref a9, .ref a10, .ref a11, .ref a12, .ref a13, .ref a14, .ref a15, .ref a16])), (a9, .inl (nz_cI g, 6, .inl f9)), (a10, .inl (nz_cI g, 6, .inl f10)), (a11, .inl (nz_cI g, 6, .inl f11)), (a12, .inl (nz_cI g, 5, .inl f12)), (a13, .inl (nz_cI g, 5, .inl f13)), (a14, .inl (nz_cI g, 5, .inl f14)), (a15, .inl (nz_cI g, 5, .inl f15)), (a16, .inl (nz_cI g, 48, .inl f16))])) av isC) (h : wp_X5_hasRoomForTimes r8 v1 K) (ws' : va_W) (hm : nz_mrg ws isC [(o, .inr (5, [.int r0, .int r1, .int r2, .int r3, .int r4, .int r5, .int r6, .int r7, .int r8, .ref a9, .ref a10, .ref a11, .ref a12, .ref a13, .ref a14, .ref a15, .ref a16])), (a9, .inl (nz_cI g, 6, .inl f9)), (a10, .inl (nz_cI g, 6, .inl f10)), (a11, .inl (nz_cI g, 6, .inl f11)), (a12, .inl (nz_cI g, 5, .inl f12)), (a13, .inl (nz_cI g, 5, .inl f13)), (a14, .inl (nz_cI g, 5, .inl f14)), (a15, .inl (nz_cI g, 5, .inl f15)), (a16, .inl (nz_cI g, 48, .inl f16))] = ws' ) (kk : ∀ (r : Int32), K r → nz_V y g k n ws' (pc + 3) ls (.int r :: rest)) : nz_V y g k n ws pc ls st :=
  nz_ci (ws' := fun _ => ws') (run (c_X5_hasRoomForTimes (yz_l y) g o a9 a10 a11 a12 a13 a14 a15 a16 r0 r1 r2 r3 r4 r5 r6 r7 r8 f9 f10 f11 f12 f13 f14 f15 f16 v1 K h)) (fun _ => rfl) (fun _ => hm) (fun r u h => kk r h)
theorem dX5_hear_0 : decode cX5_hear 0 = .ok (.aload_n 0, 1) := by decide +kernel
theorem dX5_hear_1 : decode cX5_hear 1 = .ok (.getfield 62, 3) := by decide +kernel
theorem dX5_hear_4 : decode cX5_hear 4 = .ok (.iconst 4, 1) := by decide +kernel
theorem dX5_hear_5 : decode cX5_hear 5 = .ok (.imul, 1) := by decide +kernel
theorem dX5_hear_6 : decode cX5_hear 6 = .ok (.istore 5, 2) := by decide +kernel
theorem dX5_hear_8 : decode cX5_hear 8 = .ok (.aload_n 0, 1) := by decide +kernel
theorem dX5_hear_9 : decode cX5_hear 9 = .ok (.getfield 33, 3) := by decide +kernel
theorem dX5_hear_12 : decode cX5_hear 12 = .ok (.iload 5, 2) := by decide +kernel
theorem dX5_hear_14 : decode cX5_hear 14 = .ok (.iload_n 1, 1) := by decide +kernel
theorem dX5_hear_15 : decode cX5_hear 15 = .ok (.iastore, 1) := by decide +kernel
theorem dX5_hear_16 : decode cX5_hear 16 = .ok (.aload_n 0, 1) := by decide +kernel
theorem dX5_hear_17 : decode cX5_hear 17 = .ok (.getfield 33, 3) := by decide +kernel
theorem dX5_hear_20 : decode cX5_hear 20 = .ok (.iload 5, 2) := by decide +kernel
theorem dX5_hear_22 : decode cX5_hear 22 = .ok (.iconst 1, 1) := by decide +kernel
theorem dX5_hear_23 : decode cX5_hear 23 = .ok (.iadd, 1) := by decide +kernel
theorem dX5_hear_24 : decode cX5_hear 24 = .ok (.iload_n 2, 1) := by decide +kernel
theorem dX5_hear_25 : decode cX5_hear 25 = .ok (.iastore, 1) := by decide +kernel
theorem dX5_hear_26 : decode cX5_hear 26 = .ok (.aload_n 0, 1) := by decide +kernel
theorem dX5_hear_27 : decode cX5_hear 27 = .ok (.getfield 33, 3) := by decide +kernel
theorem dX5_hear_30 : decode cX5_hear 30 = .ok (.iload 5, 2) := by decide +kernel
theorem dX5_hear_32 : decode cX5_hear 32 = .ok (.iconst 2, 1) := by decide +kernel
theorem dX5_hear_33 : decode cX5_hear 33 = .ok (.iadd, 1) := by decide +kernel
theorem dX5_hear_34 : decode cX5_hear 34 = .ok (.iload_n 3, 1) := by decide +kernel
theorem dX5_hear_35 : decode cX5_hear 35 = .ok (.iastore, 1) := by decide +kernel
theorem dX5_hear_36 : decode cX5_hear 36 = .ok (.aload_n 0, 1) := by decide +kernel
theorem dX5_hear_37 : decode cX5_hear 37 = .ok (.getfield 33, 3) := by decide +kernel
theorem dX5_hear_40 : decode cX5_hear 40 = .ok (.iload 5, 2) := by decide +kernel
theorem dX5_hear_42 : decode cX5_hear 42 = .ok (.iconst 3, 1) := by decide +kernel
theorem dX5_hear_43 : decode cX5_hear 43 = .ok (.iadd, 1) := by decide +kernel
theorem dX5_hear_44 : decode cX5_hear 44 = .ok (.iload 4, 2) := by decide +kernel
theorem dX5_hear_46 : decode cX5_hear 46 = .ok (.iastore, 1) := by decide +kernel
theorem dX5_hear_47 : decode cX5_hear 47 = .ok (.aload_n 0, 1) := by decide +kernel
theorem dX5_hear_48 : decode cX5_hear 48 = .ok (.dup, 1) := by decide +kernel
theorem dX5_hear_49 : decode cX5_hear 49 = .ok (.getfield 62, 3) := by decide +kernel
theorem dX5_hear_52 : decode cX5_hear 52 = .ok (.iconst 1, 1) := by decide +kernel
theorem dX5_hear_53 : decode cX5_hear 53 = .ok (.iadd, 1) := by decide +kernel
theorem dX5_hear_54 : decode cX5_hear 54 = .ok (.putfield 62, 3) := by decide +kernel
theorem dX5_hear_57 : decode cX5_hear 57 = .ok (.aload_n 0, 1) := by decide +kernel
theorem dX5_hear_58 : decode cX5_hear 58 = .ok (.getfield 62, 3) := by decide +kernel
theorem dX5_hear_61 : decode cX5_hear 61 = .ok (.ireturn, 1) := by decide +kernel
/-! X5_hear -/
abbrev rm_X5_hear : Room := { frames := 0, cells := 0, slots := 0, locals := 0 }
theorem iw_X5_hear_5 : ∀ w ∈ wsX50, w ∈ wsX5_hear := fun _ h => List.mem_cons_of_mem _ (List.mem_append_right _ h)
theorem fl_X5_hear_62 : Cond.fieldLink RX5 62 "NightStones$Road" "heard" "I" ∈ wsX5_hear := List.mem_of_getElem? (i := 1) rfl
theorem fl_X5_hear_33 : Cond.fieldLink RX5 33 "NightStones$Road" "heardOf" "[I" ∈ wsX5_hear := List.mem_of_getElem? (i := 2) rfl
def wp_X5_hear (r8 : Int32) (f16 : Nat → Int32) (v1 : Int32) (v2 : Int32) (v3 : Int32) (v4 : Int32) (K : Int32 → Int32 → (Nat → Int32) → Prop) : Prop := (vp_in (r8 * 4) 48 ∧ (vp_in ((r8 * 4) + 1) 48 ∧ (vp_in ((r8 * 4) + 2) 48 ∧ (vp_in ((r8 * 4) + 3) 48 ∧ K (r8 + 1) (r8 + 1) (upd (upd (upd (upd f16 (r8 * 4).toNatClampNeg v1) ((r8 * 4) + 1).toNatClampNeg v2) ((r8 * 4) + 2).toNatClampNeg v3) ((r8 * 4) + 3).toNatClampNeg v4)))))
set_option maxHeartbeats 4000000 in
set_option maxRecDepth 100000 in
theorem c_X5_hear (l : Launch) (g : nz_G) (o : Nat) (a9 : Nat) (a10 : Nat) (a11 : Nat) (a12 : Nat) (a13 : Nat) (a14 : Nat) (a15 : Nat) (a16 : Nat) (r0 : Int32) (r1 : Int32) (r2 : Int32) (r3 : Int32) (r4 : Int32) (r5 : Int32) (r6 : Int32) (r7 : Int32) (r8 : Int32) (f9 : Nat → Int32) (f10 : Nat → Int32) (f11 : Nat → Int32) (f12 : Nat → Int32) (f13 : Nat → Int32) (f14 : Nat → Int32) (f15 : Nat → Int32) (f16 : Nat → Int32) (v1 : Int32) (v2 : Int32) (v3 : Int32) (v4 : Int32) (K : Int32 → Int32 → (Nat → Int32) → Prop) (h : wp_X5_hear r8 f16 v1 v2 v3 v4 K) : nz_M l yX5_hear wsX5_hear rm_X5_hear g [.ref o, .int v1, .int v2, .int v3, .int v4] [(o, .inr (5, [.int r0, .int r1, .int r2, .int r3, .int r4, .int r5, .int r6, .int r7, .int r8, .ref a9, .ref a10, .ref a11, .ref a12, .ref a13, .ref a14, .ref a15, .ref a16])), (a9, .inl (nz_cI g, 6, .inl f9)), (a10, .inl (nz_cI g, 6, .inl f10)), (a11, .inl (nz_cI g, 6, .inl f11)), (a12, .inl (nz_cI g, 5, .inl f12)), (a13, .inl (nz_cI g, 5, .inl f13)), (a14, .inl (nz_cI g, 5, .inl f14)), (a15, .inl (nz_cI g, 5, .inl f15)), (a16, .inl (nz_cI g, 48, .inl f16))] (nz_Qi g [(o, .inr (5, [.int r0, .int r1, .int r2, .int r3, .int r4, .int r5, .int r6, .int r7, .int r8, .ref a9, .ref a10, .ref a11, .ref a12, .ref a13, .ref a14, .ref a15, .ref a16])), (a9, .inl (nz_cI g, 6, .inl f9)), (a10, .inl (nz_cI g, 6, .inl f10)), (a11, .inl (nz_cI g, 6, .inl f11)), (a12, .inl (nz_cI g, 5, .inl f12)), (a13, .inl (nz_cI g, 5, .inl f13)), (a14, .inl (nz_cI g, 5, .inl f14)), (a15, .inl (nz_cI g, 5, .inl f15)), (a16, .inl (nz_cI g, 48, .inl f16))] (fun r (u : Int32 × (Nat → Int32)) => K r u.1 u.2) (fun u => [(o, .inr (5, [.int r0, .int r1, .int r2, .int r3, .int r4, .int r5, .int r6, .int r7, .int u.1, .ref a9, .ref a10, .ref a11, .ref a12, .ref a13, .ref a14, .ref a15, .ref a16])), (a9, .inl (nz_cI g, 6, .inl f9)), (a10, .inl (nz_cI g, 6, .inl f10)), (a11, .inl (nz_cI g, 6, .inl f11)), (a12, .inl (nz_cI g, 5, .inl f12)), (a13, .inl (nz_cI g, 5, .inl f13)), (a14, .inl (nz_cI g, 5, .inl f14)), (a15, .inl (nz_cI g, 5, .inl f15)), (a16, .inl (nz_cI g, 48, .inl u.2))])) := by
  refine nz_M.of (bytes := cX5_hear) (nL := 6) (ret := (some .int)) (own := RX5) (by decide) rfl rfl ⟨rfl, rfl⟩ rfl ?_
  intro y F hl hQ
  obtain ⟨sz, hQ⟩ := hQ
  refine nz_ent (lv' := [(0, .ref o), (1, .int v1), (2, .int v2), (3, .int v3), (4, .int v4)]) rfl ?_
  unfold wp_X5_hear at h
  refine nz_aload_n F dX5_hear_0 rfl 0 rfl ?_
  refine nz_get F iw_X5_hear_5 0 rfl rfl 8 (by decide) rfl fl_X5_hear_62 rfl dX5_hear_1 ?_
  refine nz_iconst (v := 4) F dX5_hear_4 (by decide) ?_
  refine nz_imul F dX5_hear_5 ?_
  refine nz_istore (lv' := [(5, .int (r8 * 4)), (0, .ref o), (1, .int v1), (2, .int v2), (3, .int v3), (4, .int v4)]) F dX5_hear_6 (by decide) rfl ?_
  refine nz_aload_n F dX5_hear_8 rfl 1 rfl ?_
  refine nz_get F iw_X5_hear_5 0 rfl rfl 16 (by decide) rfl fl_X5_hear_33 rfl dX5_hear_9 ?_
  refine nz_iload F dX5_hear_12 0 rfl ?_
  refine nz_iload_n F dX5_hear_14 rfl 2 rfl ?_
  obtain ⟨i1, h⟩ := h
  refine nz_iast (ws' := [(o, .inr (5, [.int r0, .int r1, .int r2, .int r3, .int r4, .int r5, .int r6, .int r7, .int r8, .ref a9, .ref a10, .ref a11, .ref a12, .ref a13, .ref a14, .ref a15, .ref a16])), (a9, .inl (nz_cI g, 6, .inl f9)), (a10, .inl (nz_cI g, 6, .inl f10)), (a11, .inl (nz_cI g, 6, .inl f11)), (a12, .inl (nz_cI g, 5, .inl f12)), (a13, .inl (nz_cI g, 5, .inl f13)), (a14, .inl (nz_cI g, 5, .inl f14)), (a15, .inl (nz_cI g, 5, .inl f15)), (a16, .inl (nz_cI g, 48, .inl (upd f16 (r8 * 4).toNatClampNeg v1)))]) F 8 rfl i1 dX5_hear_15 rfl ?_
  refine nz_aload_n F dX5_hear_16 rfl 1 rfl ?_
  refine nz_get F iw_X5_hear_5 0 rfl rfl 16 (by decide) rfl fl_X5_hear_33 rfl dX5_hear_17 ?_
  refine nz_iload F dX5_hear_20 0 rfl ?_
  refine nz_iconst (v := 1) F dX5_hear_22 (by decide) ?_
  refine nz_iadd F dX5_hear_23 ?_
  refine nz_iload_n F dX5_hear_24 rfl 3 rfl ?_
  obtain ⟨i2, h⟩ := h
  refine nz_iast (ws' := [(o, .inr (5, [.int r0, .int r1, .int r2, .int r3, .int r4, .int r5, .int r6, .int r7, .int r8, .ref a9, .ref a10, .ref a11, .ref a12, .ref a13, .ref a14, .ref a15, .ref a16])), (a9, .inl (nz_cI g, 6, .inl f9)), (a10, .inl (nz_cI g, 6, .inl f10)), (a11, .inl (nz_cI g, 6, .inl f11)), (a12, .inl (nz_cI g, 5, .inl f12)), (a13, .inl (nz_cI g, 5, .inl f13)), (a14, .inl (nz_cI g, 5, .inl f14)), (a15, .inl (nz_cI g, 5, .inl f15)), (a16, .inl (nz_cI g, 48, .inl (upd (upd f16 (r8 * 4).toNatClampNeg v1) ((r8 * 4) + 1).toNatClampNeg v2)))]) F 8 rfl i2 dX5_hear_25 rfl ?_
  refine nz_aload_n F dX5_hear_26 rfl 1 rfl ?_
  refine nz_get F iw_X5_hear_5 0 rfl rfl 16 (by decide) rfl fl_X5_hear_33 rfl dX5_hear_27 ?_
  refine nz_iload F dX5_hear_30 0 rfl ?_
  refine nz_iconst (v := 2) F dX5_hear_32 (by decide) ?_
  refine nz_iadd F dX5_hear_33 ?_
  refine nz_iload_n F dX5_hear_34 rfl 4 rfl ?_
  obtain ⟨i3, h⟩ := h
  refine nz_iast (ws' := [(o, .inr (5, [.int r0, .int r1, .int r2, .int r3, .int r4, .int r5, .int r6, .int r7, .int r8, .ref a9, .ref a10, .ref a11, .ref a12, .ref a13, .ref a14, .ref a15, .ref a16])), (a9, .inl (nz_cI g, 6, .inl f9)), (a10, .inl (nz_cI g, 6, .inl f10)), (a11, .inl (nz_cI g, 6, .inl f11)), (a12, .inl (nz_cI g, 5, .inl f12)), (a13, .inl (nz_cI g, 5, .inl f13)), (a14, .inl (nz_cI g, 5, .inl f14)), (a15, .inl (nz_cI g, 5, .inl f15)), (a16, .inl (nz_cI g, 48, .inl (upd (upd (upd f16 (r8 * 4).toNatClampNeg v1) ((r8 * 4) + 1).toNatClampNeg v2) ((r8 * 4) + 2).toNatClampNeg v3)))]) F 8 rfl i3 dX5_hear_35 rfl ?_
  refine nz_aload_n F dX5_hear_36 rfl 1 rfl ?_
  refine nz_get F iw_X5_hear_5 0 rfl rfl 16 (by decide) rfl fl_X5_hear_33 rfl dX5_hear_37 ?_
  refine nz_iload F dX5_hear_40 0 rfl ?_
  refine nz_iconst (v := 3) F dX5_hear_42 (by decide) ?_
  refine nz_iadd F dX5_hear_43 ?_
  refine nz_iload F dX5_hear_44 5 rfl ?_
  obtain ⟨i4, h⟩ := h
  refine nz_iast (ws' := [(o, .inr (5, [.int r0, .int r1, .int r2, .int r3, .int r4, .int r5, .int r6, .int r7, .int r8, .ref a9, .ref a10, .ref a11, .ref a12, .ref a13, .ref a14, .ref a15, .ref a16])), (a9, .inl (nz_cI g, 6, .inl f9)), (a10, .inl (nz_cI g, 6, .inl f10)), (a11, .inl (nz_cI g, 6, .inl f11)), (a12, .inl (nz_cI g, 5, .inl f12)), (a13, .inl (nz_cI g, 5, .inl f13)), (a14, .inl (nz_cI g, 5, .inl f14)), (a15, .inl (nz_cI g, 5, .inl f15)), (a16, .inl (nz_cI g, 48, .inl (upd (upd (upd (upd f16 (r8 * 4).toNatClampNeg v1) ((r8 * 4) + 1).toNatClampNeg v2) ((r8 * 4) + 2).toNatClampNeg v3) ((r8 * 4) + 3).toNatClampNeg v4)))]) F 8 rfl i4 dX5_hear_46 rfl ?_
  refine nz_aload_n F dX5_hear_47 rfl 1 rfl ?_
  refine nz_dup F dX5_hear_48 rfl ?_
  refine nz_get F iw_X5_hear_5 0 rfl rfl 8 (by decide) rfl fl_X5_hear_62 rfl dX5_hear_49 ?_
  refine nz_iconst (v := 1) F dX5_hear_52 (by decide) ?_
  refine nz_iadd F dX5_hear_53 ?_
  refine nz_put (ws' := [(o, .inr (5, [.int r0, .int r1, .int r2, .int r3, .int r4, .int r5, .int r6, .int r7, .int (r8 + 1), .ref a9, .ref a10, .ref a11, .ref a12, .ref a13, .ref a14, .ref a15, .ref a16])), (a9, .inl (nz_cI g, 6, .inl f9)), (a10, .inl (nz_cI g, 6, .inl f10)), (a11, .inl (nz_cI g, 6, .inl f11)), (a12, .inl (nz_cI g, 5, .inl f12)), (a13, .inl (nz_cI g, 5, .inl f13)), (a14, .inl (nz_cI g, 5, .inl f14)), (a15, .inl (nz_cI g, 5, .inl f15)), (a16, .inl (nz_cI g, 48, .inl (upd (upd (upd (upd f16 (r8 * 4).toNatClampNeg v1) ((r8 * 4) + 1).toNatClampNeg v2) ((r8 * 4) + 2).toNatClampNeg v3) ((r8 * 4) + 3).toNatClampNeg v4)))]) F iw_X5_hear_5 tyX5 tyX5_ok nmX5 0 rfl rfl 8 (by decide) rfl fl_X5_hear_62 rfl rfl (Nat.le_of_ble_eq_true rfl) dX5_hear_54 rfl ?_
  refine nz_aload_n F dX5_hear_57 rfl 1 rfl ?_
  refine nz_get F iw_X5_hear_5 0 rfl rfl 8 (by decide) rfl fl_X5_hear_62 rfl dX5_hear_58 ?_
  exact nz_iret F hQ ((r8 + 1), (upd (upd (upd (upd f16 (r8 * 4).toNatClampNeg v1) ((r8 * 4) + 1).toNatClampNeg v2) ((r8 * 4) + 2).toNatClampNeg v3) ((r8 * 4) + 3).toNatClampNeg v4)) h rfl dX5_hear_61
theorem k_X5_hear {y : nz_Y} {g : nz_G} {k n : Nat} {ws : va_W} {pc : Nat} {ls : List (Nat × Value)} {st rest : List Value} {av : Array Value} {isC : List Nat} {K : Int32 → Int32 → (Nat → Int32) → Prop} (o : Nat) (a9 : Nat) (a10 : Nat) (a11 : Nat) (a12 : Nat) (a13 : Nat) (a14 : Nat) (a15 : Nat) (a16 : Nat) (r0 : Int32) (r1 : Int32) (r2 : Int32) (r3 : Int32) (r4 : Int32) (r5 : Int32) (r6 : Int32) (r7 : Int32) (r8 : Int32) (f9 : Nat → Int32) (f10 : Nat → Int32) (f11 : Nat → Int32) (f12 : Nat → Int32) (f13 : Nat → Int32) (f14 : Nat → Int32) (f15 : Nat → Int32) (f16 : Nat → Int32) (v1 : Int32) (v2 : Int32) (v3 : Int32) (v4 : Int32) (run : nz_M (yz_l y) yX5_hear wsX5_hear rm_X5_hear g [.ref o, .int v1, .int v2, .int v3, .int v4] [(o, .inr (5, [.int r0, .int r1, .int r2, .int r3, .int r4, .int r5, .int r6, .int r7, .int r8, .ref a9, .ref a10, .ref a11, .ref a12, .ref a13, .ref a14, .ref a15, .ref a16])), (a9, .inl (nz_cI g, 6, .inl f9)), (a10, .inl (nz_cI g, 6, .inl f10)), (a11, .inl (nz_cI g, 6, .inl f11)), (a12, .inl (nz_cI g, 5, .inl f12)), (a13, .inl (nz_cI g, 5, .inl f13)), (a14, .inl (nz_cI g, 5, .inl f14)), (a15, .inl (nz_cI g, 5, .inl f15)), (a16, .inl (nz_cI g, 48, .inl f16))] (nz_Qi g [(o, .inr (5, [.int r0, .int r1, .int r2, .int r3, .int r4, .int r5, .int r6, .int r7, .int r8, .ref a9, .ref a10, .ref a11, .ref a12, .ref a13, .ref a14, .ref a15, .ref a16])), (a9, .inl (nz_cI g, 6, .inl f9)), (a10, .inl (nz_cI g, 6, .inl f10)), (a11, .inl (nz_cI g, 6, .inl f11)), (a12, .inl (nz_cI g, 5, .inl f12)), (a13, .inl (nz_cI g, 5, .inl f13)), (a14, .inl (nz_cI g, 5, .inl f14)), (a15, .inl (nz_cI g, 5, .inl f15)), (a16, .inl (nz_cI g, 48, .inl f16))] (fun r (u : Int32 × (Nat → Int32)) => K r u.1 u.2) (fun u => [(o, .inr (5, [.int r0, .int r1, .int r2, .int r3, .int r4, .int r5, .int r6, .int r7, .int u.1, .ref a9, .ref a10, .ref a11, .ref a12, .ref a13, .ref a14, .ref a15, .ref a16])), (a9, .inl (nz_cI g, 6, .inl f9)), (a10, .inl (nz_cI g, 6, .inl f10)), (a11, .inl (nz_cI g, 6, .inl f11)), (a12, .inl (nz_cI g, 5, .inl f12)), (a13, .inl (nz_cI g, 5, .inl f13)), (a14, .inl (nz_cI g, 5, .inl f14)), (a15, .inl (nz_cI g, 5, .inl f15)), (a16, .inl (nz_cI g, 48, .inl u.2))])) → nz_C y g k n ws pc ls st rest [(o, .inr (5, [.int r0, .int r1, .int r2, .int r3, .int r4, .int r5, .int r6, .int r7, .int r8, .ref a9, .ref a10, .ref a11, .ref a12, .ref a13, .ref a14, .ref a15, .ref a16])), (a9, .inl (nz_cI g, 6, .inl f9)), (a10, .inl (nz_cI g, 6, .inl f10)), (a11, .inl (nz_cI g, 6, .inl f11)), (a12, .inl (nz_cI g, 5, .inl f12)), (a13, .inl (nz_cI g, 5, .inl f13)), (a14, .inl (nz_cI g, 5, .inl f14)), (a15, .inl (nz_cI g, 5, .inl f15)), (a16, .inl (nz_cI g, 48, .inl f16))] (nz_Qi g [(o, .inr (5, [.int r0, .int r1, .int r2, .int r3, .int r4, .int r5, .int r6, .int r7, .int r8, .ref a9, .ref a10, .ref a11, .ref a12, .ref a13, .ref a14, .ref a15, .ref a16])), (a9, .inl (nz_cI g, 6, .inl f9)), (a10, .inl (nz_cI g, 6, .inl f10)), (a11, .inl (nz_cI g, 6, .inl f11)), (a12, .inl (nz_cI g, 5, .inl f12)), (a13, .inl (nz_cI g, 5, .inl f13)), (a14, .inl (nz_cI g, 5, .inl f14)), (a15, .inl (nz_cI g, 5, .inl f15)), (a16, .inl (nz_cI g, 48, .inl f16))] (fun r (u : Int32 × (Nat → Int32)) => K r u.1 u.2) (fun u => [(o, .inr (5, [.int r0, .int r1, .int r2, .int r3, .int r4, .int r5, .int r6, .int r7, .int u.1, .ref a9, .ref a10, .ref a11, .ref a12, .ref a13, .ref a14, .ref a15, .ref a16])), (a9, .inl (nz_cI g, 6, .inl f9)), (a10, .inl (nz_cI g, 6, .inl f10)), (a11, .inl (nz_cI g, 6, .inl f11)), (a12, .inl (nz_cI g, 5, .inl f12)), (a13, .inl (nz_cI g, 5, .inl f13)), (a14, .inl (nz_cI g, 5, .inl f14)), (a15, .inl (nz_cI g, 5, .inl f15)), (a16, .inl (nz_cI g, 48, .inl u.2))])) av isC) (h : wp_X5_hear r8 f16 v1 v2 v3 v4 K) (ws' : Int32 → (Nat → Int32) → va_W) (hm : ∀ (m0 : Int32) (m1 : (Nat → Int32)), nz_mrg ws isC [(o, .inr (5, [.int r0, .int r1, .int r2, .int r3, .int r4, .int r5, .int r6, .int r7, .int m0, .ref a9, .ref a10, .ref a11, .ref a12, .ref a13, .ref a14, .ref a15, .ref a16])), (a9, .inl (nz_cI g, 6, .inl f9)), (a10, .inl (nz_cI g, 6, .inl f10)), (a11, .inl (nz_cI g, 6, .inl f11)), (a12, .inl (nz_cI g, 5, .inl f12)), (a13, .inl (nz_cI g, 5, .inl f13)), (a14, .inl (nz_cI g, 5, .inl f14)), (a15, .inl (nz_cI g, 5, .inl f15)), (a16, .inl (nz_cI g, 48, .inl m1))] = ws' m0 m1) (kk : ∀ (r : Int32) (m0 : Int32) (m1 : (Nat → Int32)), K r m0 m1 → nz_V y g k n (ws' m0 m1) (pc + 3) ls (.int r :: rest)) : nz_V y g k n ws pc ls st :=
  nz_ci (ws' := fun u => ws' u.1 u.2) (run (c_X5_hear (yz_l y) g o a9 a10 a11 a12 a13 a14 a15 a16 r0 r1 r2 r3 r4 r5 r6 r7 r8 f9 f10 f11 f12 f13 f14 f15 f16 v1 v2 v3 v4 K h)) (fun _ => rfl) (fun u => hm u.1 u.2) (fun r u h => kk r u.1 u.2 h)
theorem dX5_isWayHomeFree_0 : decode cX5_isWayHomeFree 0 = .ok (.aload_n 0, 1) := by decide +kernel
theorem dX5_isWayHomeFree_1 : decode cX5_isWayHomeFree 1 = .ok (.getfield 15, 3) := by decide +kernel
theorem dX5_isWayHomeFree_4 : decode cX5_isWayHomeFree 4 = .ok (.iload_n 1, 1) := by decide +kernel
theorem dX5_isWayHomeFree_5 : decode cX5_isWayHomeFree 5 = .ok (.iaload, 1) := by decide +kernel
theorem dX5_isWayHomeFree_6 : decode cX5_isWayHomeFree 6 = .ok (.aload_n 0, 1) := by decide +kernel
theorem dX5_isWayHomeFree_7 : decode cX5_isWayHomeFree 7 = .ok (.getfield 18, 3) := by decide +kernel
theorem dX5_isWayHomeFree_10 : decode cX5_isWayHomeFree 10 = .ok (.iload_n 1, 1) := by decide +kernel
theorem dX5_isWayHomeFree_11 : decode cX5_isWayHomeFree 11 = .ok (.iaload, 1) := by decide +kernel
theorem dX5_isWayHomeFree_12 : decode cX5_isWayHomeFree 12 = .ok (.invokestatic 83, 3) := by decide +kernel
theorem dX5_isWayHomeFree_15 : decode cX5_isWayHomeFree 15 = .ok (.istore_n 2, 1) := by decide +kernel
theorem dX5_isWayHomeFree_16 : decode cX5_isWayHomeFree 16 = .ok (.aload_n 0, 1) := by decide +kernel
theorem dX5_isWayHomeFree_17 : decode cX5_isWayHomeFree 17 = .ok (.getfield 15, 3) := by decide +kernel
theorem dX5_isWayHomeFree_20 : decode cX5_isWayHomeFree 20 = .ok (.iload_n 1, 1) := by decide +kernel
theorem dX5_isWayHomeFree_21 : decode cX5_isWayHomeFree 21 = .ok (.iaload, 1) := by decide +kernel
theorem dX5_isWayHomeFree_22 : decode cX5_isWayHomeFree 22 = .ok (.aload_n 0, 1) := by decide +kernel
theorem dX5_isWayHomeFree_23 : decode cX5_isWayHomeFree 23 = .ok (.getfield 18, 3) := by decide +kernel
theorem dX5_isWayHomeFree_26 : decode cX5_isWayHomeFree 26 = .ok (.iload_n 1, 1) := by decide +kernel
theorem dX5_isWayHomeFree_27 : decode cX5_isWayHomeFree 27 = .ok (.iaload, 1) := by decide +kernel
theorem dX5_isWayHomeFree_28 : decode cX5_isWayHomeFree 28 = .ok (.invokestatic 89, 3) := by decide +kernel
theorem dX5_isWayHomeFree_31 : decode cX5_isWayHomeFree 31 = .ok (.istore_n 3, 1) := by decide +kernel
theorem dX5_isWayHomeFree_32 : decode cX5_isWayHomeFree 32 = .ok (.iconst 0, 1) := by decide +kernel
theorem dX5_isWayHomeFree_33 : decode cX5_isWayHomeFree 33 = .ok (.istore 4, 2) := by decide +kernel
theorem dX5_isWayHomeFree_35 : decode cX5_isWayHomeFree 35 = .ok (.iload 4, 2) := by decide +kernel
theorem dX5_isWayHomeFree_37 : decode cX5_isWayHomeFree 37 = .ok (.aload_n 0, 1) := by decide +kernel
theorem dX5_isWayHomeFree_38 : decode cX5_isWayHomeFree 38 = .ok (.getfield 56, 3) := by decide +kernel
theorem dX5_isWayHomeFree_41 : decode cX5_isWayHomeFree 41 = .ok (.if_icmp .ge 39, 3) := by decide +kernel
theorem dX5_isWayHomeFree_44 : decode cX5_isWayHomeFree 44 = .ok (.iload 4, 2) := by decide +kernel
theorem dX5_isWayHomeFree_46 : decode cX5_isWayHomeFree 46 = .ok (.iload_n 1, 1) := by decide +kernel
theorem dX5_isWayHomeFree_47 : decode cX5_isWayHomeFree 47 = .ok (.if_icmp .eq 27, 3) := by decide +kernel
theorem dX5_isWayHomeFree_50 : decode cX5_isWayHomeFree 50 = .ok (.aload_n 0, 1) := by decide +kernel
theorem dX5_isWayHomeFree_51 : decode cX5_isWayHomeFree 51 = .ok (.getfield 15, 3) := by decide +kernel
theorem dX5_isWayHomeFree_54 : decode cX5_isWayHomeFree 54 = .ok (.iload 4, 2) := by decide +kernel
theorem dX5_isWayHomeFree_56 : decode cX5_isWayHomeFree 56 = .ok (.iaload, 1) := by decide +kernel
theorem dX5_isWayHomeFree_57 : decode cX5_isWayHomeFree 57 = .ok (.iload_n 2, 1) := by decide +kernel
theorem dX5_isWayHomeFree_58 : decode cX5_isWayHomeFree 58 = .ok (.if_icmp .lt 16, 3) := by decide +kernel
theorem dX5_isWayHomeFree_61 : decode cX5_isWayHomeFree 61 = .ok (.aload_n 0, 1) := by decide +kernel
theorem dX5_isWayHomeFree_62 : decode cX5_isWayHomeFree 62 = .ok (.getfield 15, 3) := by decide +kernel
theorem dX5_isWayHomeFree_65 : decode cX5_isWayHomeFree 65 = .ok (.iload 4, 2) := by decide +kernel
theorem dX5_isWayHomeFree_67 : decode cX5_isWayHomeFree 67 = .ok (.iaload, 1) := by decide +kernel
theorem dX5_isWayHomeFree_68 : decode cX5_isWayHomeFree 68 = .ok (.iload_n 3, 1) := by decide +kernel
theorem dX5_isWayHomeFree_69 : decode cX5_isWayHomeFree 69 = .ok (.if_icmp .gt 5, 3) := by decide +kernel
theorem dX5_isWayHomeFree_72 : decode cX5_isWayHomeFree 72 = .ok (.iconst 0, 1) := by decide +kernel
theorem dX5_isWayHomeFree_73 : decode cX5_isWayHomeFree 73 = .ok (.ireturn, 1) := by decide +kernel
theorem dX5_isWayHomeFree_74 : decode cX5_isWayHomeFree 74 = .ok (.iinc 4 1, 3) := by decide +kernel
theorem dX5_isWayHomeFree_77 : decode cX5_isWayHomeFree 77 = .ok (.goto (-42), 3) := by decide +kernel
theorem dX5_isWayHomeFree_80 : decode cX5_isWayHomeFree 80 = .ok (.iconst 1, 1) := by decide +kernel
theorem dX5_isWayHomeFree_81 : decode cX5_isWayHomeFree 81 = .ok (.ireturn, 1) := by decide +kernel
/-! X5_isWayHomeFree -/
abbrev rm_X5_isWayHomeFree : Room := { frames := 1, cells := 0, slots := 0, locals := 21 }
theorem iw_X5_isWayHomeFree_5 : ∀ w ∈ wsX50, w ∈ wsX5_isWayHomeFree := fun _ h => List.mem_cons_of_mem _ (List.mem_append_right _ h)
theorem fl_X5_isWayHomeFree_15 : Cond.fieldLink RX5 15 "NightStones$Road" "at" "[I" ∈ wsX5_isWayHomeFree := List.mem_of_getElem? (i := 1) rfl
theorem fl_X5_isWayHomeFree_18 : Cond.fieldLink RX5 18 "NightStones$Road" "home" "[I" ∈ wsX5_isWayHomeFree := List.mem_of_getElem? (i := 2) rfl
theorem wd_X5_isWayHomeFree_min0 : Cond.methodLink RX5 83 Lib.Math.min.name ∈ wsX5_isWayHomeFree := List.mem_of_getElem? (i := 3) rfl
theorem wd_X5_isWayHomeFree_min1 : Cond.static Lib.Math.min.name ∈ wsX5_isWayHomeFree := List.mem_of_getElem? (i := 4) rfl
theorem wd_X5_isWayHomeFree_min2 : Cond.initialized "java/lang/Math" ∈ wsX5_isWayHomeFree := List.mem_of_getElem? (i := 5) rfl
theorem wd_X5_isWayHomeFree_min3 : Cond.code Lib.Math.min.name Lib.Math.min.code 2 (some .int) ∈ wsX5_isWayHomeFree := List.mem_of_getElem? (i := 6) rfl
theorem wd_X5_isWayHomeFree_max0 : Cond.methodLink RX5 89 Lib.Math.max.name ∈ wsX5_isWayHomeFree := List.mem_of_getElem? (i := 7) rfl
theorem wd_X5_isWayHomeFree_max1 : Cond.static Lib.Math.max.name ∈ wsX5_isWayHomeFree := List.mem_of_getElem? (i := 8) rfl
theorem wd_X5_isWayHomeFree_max2 : Cond.initialized "java/lang/Math" ∈ wsX5_isWayHomeFree := List.mem_of_getElem? (i := 5) rfl
theorem wd_X5_isWayHomeFree_max3 : Cond.code Lib.Math.max.name Lib.Math.max.code 2 (some .int) ∈ wsX5_isWayHomeFree := List.mem_of_getElem? (i := 9) rfl
theorem fl_X5_isWayHomeFree_56 : Cond.fieldLink RX5 56 "NightStones$Road" "stones" "I" ∈ wsX5_isWayHomeFree := List.mem_of_getElem? (i := 10) rfl
def S_X5_isWayHomeFree_35 (r6 : Int32) (f10 : Nat → Int32) (v1 : Int32) (x2 : Int32) (x3 : Int32) (K : Int32 → Prop) (R35 : Int32 → Prop) (x4 : Int32) : Prop := ((r6 ≤ x4 → K 1) ∧ (¬ (r6 ≤ x4) → ((x4 = v1 → R35 (x4 + 1)) ∧ (¬ (x4 = v1) → (vp_in x4 6 ∧ (((f10 x4.toNatClampNeg) < x2 → R35 (x4 + 1)) ∧ (¬ ((f10 x4.toNatClampNeg) < x2) → (vp_in x4 6 ∧ ((x3 < (f10 x4.toNatClampNeg) → R35 (x4 + 1)) ∧ (¬ (x3 < (f10 x4.toNatClampNeg)) → K 0))))))))))
set_option maxHeartbeats 4000000 in
set_option maxRecDepth 100000 in
theorem t_X5_isWayHomeFree_35 {y : nz_Y} {g : nz_G} (F : nz_F y g cX5_isWayHomeFree 5 wsX5_isWayHomeFree RX5 (some .boolean) rm_X5_isWayHomeFree) {wc0 : va_W} {sz : Nat} {K : Int32 → Prop} (o : Nat) (a9 : Nat) (a10 : Nat) (a11 : Nat) (a12 : Nat) (a13 : Nat) (a14 : Nat) (a15 : Nat) (a16 : Nat) (r0 : Int32) (r1 : Int32) (r2 : Int32) (r3 : Int32) (r4 : Int32) (r5 : Int32) (r6 : Int32) (r7 : Int32) (r8 : Int32) (f9 : Nat → Int32) (f10 : Nat → Int32) (f11 : Nat → Int32) (f12 : Nat → Int32) (f13 : Nat → Int32) (f14 : Nat → Int32) (f15 : Nat → Int32) (f16 : Nat → Int32) (v1 : Int32) (x2 : Int32) (x3 : Int32) (hQ : yz_A y = va_A wc0 sz ∧ yz_Q y = MQ (yz_b y) ((nz_Qi g wc0 (fun r (u : Unit) => K r) (fun u => [(o, .inr (5, [.int r0, .int r1, .int r2, .int r3, .int r4, .int r5, .int r6, .int r7, .int r8, .ref a9, .ref a10, .ref a11, .ref a12, .ref a13, .ref a14, .ref a15, .ref a16])), (a9, .inl (nz_cI g, 6, .inl f9)), (a10, .inl (nz_cI g, 6, .inl f10)), (a11, .inl (nz_cI g, 6, .inl f11)), (a12, .inl (nz_cI g, 5, .inl f12)), (a13, .inl (nz_cI g, 5, .inl f13)), (a14, .inl (nz_cI g, 5, .inl f14)), (a15, .inl (nz_cI g, 5, .inl f15)), (a16, .inl (nz_cI g, 48, .inl f16))])) sz) (yz_a y) (yz_s y) 0 0 (va_A wc0 sz)) : ∀ (n1 : Nat) (x4 : Int32), nz_it (fun _ => False) (S_X5_isWayHomeFree_35 r6 f10 v1 x2 x3 K) n1 x4 → nz_V y g 0 0 [(o, .inr (5, [.int r0, .int r1, .int r2, .int r3, .int r4, .int r5, .int r6, .int r7, .int r8, .ref a9, .ref a10, .ref a11, .ref a12, .ref a13, .ref a14, .ref a15, .ref a16])), (a9, .inl (nz_cI g, 6, .inl f9)), (a10, .inl (nz_cI g, 6, .inl f10)), (a11, .inl (nz_cI g, 6, .inl f11)), (a12, .inl (nz_cI g, 5, .inl f12)), (a13, .inl (nz_cI g, 5, .inl f13)), (a14, .inl (nz_cI g, 5, .inl f14)), (a15, .inl (nz_cI g, 5, .inl f15)), (a16, .inl (nz_cI g, 48, .inl f16))] 35 [(0, .ref o), (1, .int v1), (2, .int x2), (3, .int x3), (4, .int x4)] [] := by
  intro n1
  induction n1 with
  | zero =>
    intro x4 h
    exact h.elim
  | succ n1 hR35 =>
    intro x4 h
    have h : S_X5_isWayHomeFree_35 r6 f10 v1 x2 x3 K (nz_it (fun _ => False) (S_X5_isWayHomeFree_35 r6 f10 v1 x2 x3 K) n1) x4 := h
    unfold S_X5_isWayHomeFree_35 at h
    refine nz_iload F dX5_isWayHomeFree_35 4 rfl ?_
    refine nz_aload_n F dX5_isWayHomeFree_37 rfl 0 rfl ?_
    refine nz_get F iw_X5_isWayHomeFree_5 0 rfl rfl 6 (by decide) rfl fl_X5_isWayHomeFree_56 rfl dX5_isWayHomeFree_38 ?_
    refine nz_icmp_ge (tgt := 80) F dX5_isWayHomeFree_41 (by decide) (fun c7 => ?_) (fun c7 => ?_)
    · have h := h.1 c7
      refine nz_iconst (v := 1) F dX5_isWayHomeFree_80 (by decide) ?_
      exact nz_zret F hQ () h rfl (by decide) dX5_isWayHomeFree_81
    · have h := h.2 c7
      refine nz_iload F dX5_isWayHomeFree_44 4 rfl ?_
      refine nz_iload_n F dX5_isWayHomeFree_46 rfl 1 rfl ?_
      refine nz_icmp_eq (tgt := 74) F dX5_isWayHomeFree_47 (by decide) (fun c8 => ?_) (fun c8 => ?_)
      · have h := h.1 c8
        refine nz_iinc (v := (x4 + 1)) (j := 4) (lv' := [(4, .int (x4 + 1)), (0, .ref o), (1, .int v1), (2, .int x2), (3, .int x3)]) F dX5_isWayHomeFree_74 rfl rfl (by decide) rfl ?_
        refine nz_goto (tgt := 35) F dX5_isWayHomeFree_77 (by decide) ?_
        refine nz_ls (lv' := [(0, .ref o), (1, .int v1), (2, .int x2), (3, .int x3), (4, .int (x4 + 1))]) [1, 2, 3, 4, 0] rfl ?_
        exact hR35 (x4 + 1) h
      · have h := h.2 c8
        refine nz_aload_n F dX5_isWayHomeFree_50 rfl 0 rfl ?_
        refine nz_get F iw_X5_isWayHomeFree_5 0 rfl rfl 10 (by decide) rfl fl_X5_isWayHomeFree_15 rfl dX5_isWayHomeFree_51 ?_
        refine nz_iload F dX5_isWayHomeFree_54 4 rfl ?_
        obtain ⟨i9, h⟩ := h
        refine nz_iald F 2 rfl i9 dX5_isWayHomeFree_56 ?_
        refine nz_iload_n F dX5_isWayHomeFree_57 rfl 2 rfl ?_
        refine nz_icmp_lt (tgt := 74) F dX5_isWayHomeFree_58 (by decide) (fun c10 => ?_) (fun c10 => ?_)
        · have h := h.1 c10
          refine nz_iinc (v := (x4 + 1)) (j := 4) (lv' := [(4, .int (x4 + 1)), (0, .ref o), (1, .int v1), (2, .int x2), (3, .int x3)]) F dX5_isWayHomeFree_74 rfl rfl (by decide) rfl ?_
          refine nz_goto (tgt := 35) F dX5_isWayHomeFree_77 (by decide) ?_
          refine nz_ls (lv' := [(0, .ref o), (1, .int v1), (2, .int x2), (3, .int x3), (4, .int (x4 + 1))]) [1, 2, 3, 4, 0] rfl ?_
          exact hR35 (x4 + 1) h
        · have h := h.2 c10
          refine nz_aload_n F dX5_isWayHomeFree_61 rfl 0 rfl ?_
          refine nz_get F iw_X5_isWayHomeFree_5 0 rfl rfl 10 (by decide) rfl fl_X5_isWayHomeFree_15 rfl dX5_isWayHomeFree_62 ?_
          refine nz_iload F dX5_isWayHomeFree_65 4 rfl ?_
          obtain ⟨i11, h⟩ := h
          refine nz_iald F 2 rfl i11 dX5_isWayHomeFree_67 ?_
          refine nz_iload_n F dX5_isWayHomeFree_68 rfl 3 rfl ?_
          refine nz_icmp_gt (tgt := 74) F dX5_isWayHomeFree_69 (by decide) (fun c12 => ?_) (fun c12 => ?_)
          · have h := h.1 c12
            refine nz_iinc (v := (x4 + 1)) (j := 4) (lv' := [(4, .int (x4 + 1)), (0, .ref o), (1, .int v1), (2, .int x2), (3, .int x3)]) F dX5_isWayHomeFree_74 rfl rfl (by decide) rfl ?_
            refine nz_goto (tgt := 35) F dX5_isWayHomeFree_77 (by decide) ?_
            refine nz_ls (lv' := [(0, .ref o), (1, .int v1), (2, .int x2), (3, .int x3), (4, .int (x4 + 1))]) [1, 2, 3, 4, 0] rfl ?_
            exact hR35 (x4 + 1) h
          · have h := h.2 c12
            refine nz_iconst (v := 0) F dX5_isWayHomeFree_72 (by decide) ?_
            exact nz_zret F hQ () h rfl (by decide) dX5_isWayHomeFree_73
def wp_X5_isWayHomeFree (r6 : Int32) (f10 : Nat → Int32) (f11 : Nat → Int32) (v1 : Int32) (K : Int32 → Prop) : Prop := (vp_in v1 6 ∧ (vp_in v1 6 ∧ (∀ w3 : Int32, w3 = (if (f11 v1.toNatClampNeg) < (f10 v1.toNatClampNeg) then (f11 v1.toNatClampNeg) else (f10 v1.toNatClampNeg)) → (vp_in v1 6 ∧ (vp_in v1 6 ∧ (∀ w6 : Int32, w6 = (if (f10 v1.toNatClampNeg) < (f11 v1.toNatClampNeg) then (f11 v1.toNatClampNeg) else (f10 v1.toNatClampNeg)) → (∃ n, nz_it (fun _ => False) (S_X5_isWayHomeFree_35 r6 f10 v1 w3 w6 K) n 0)))))))
set_option maxHeartbeats 4000000 in
set_option maxRecDepth 100000 in
theorem c_X5_isWayHomeFree (l : Launch) (g : nz_G) (o : Nat) (a9 : Nat) (a10 : Nat) (a11 : Nat) (a12 : Nat) (a13 : Nat) (a14 : Nat) (a15 : Nat) (a16 : Nat) (r0 : Int32) (r1 : Int32) (r2 : Int32) (r3 : Int32) (r4 : Int32) (r5 : Int32) (r6 : Int32) (r7 : Int32) (r8 : Int32) (f9 : Nat → Int32) (f10 : Nat → Int32) (f11 : Nat → Int32) (f12 : Nat → Int32) (f13 : Nat → Int32) (f14 : Nat → Int32) (f15 : Nat → Int32) (f16 : Nat → Int32) (v1 : Int32) (K : Int32 → Prop) (h : wp_X5_isWayHomeFree r6 f10 f11 v1 K) : nz_M l yX5_isWayHomeFree wsX5_isWayHomeFree rm_X5_isWayHomeFree g [.ref o, .int v1] [(o, .inr (5, [.int r0, .int r1, .int r2, .int r3, .int r4, .int r5, .int r6, .int r7, .int r8, .ref a9, .ref a10, .ref a11, .ref a12, .ref a13, .ref a14, .ref a15, .ref a16])), (a9, .inl (nz_cI g, 6, .inl f9)), (a10, .inl (nz_cI g, 6, .inl f10)), (a11, .inl (nz_cI g, 6, .inl f11)), (a12, .inl (nz_cI g, 5, .inl f12)), (a13, .inl (nz_cI g, 5, .inl f13)), (a14, .inl (nz_cI g, 5, .inl f14)), (a15, .inl (nz_cI g, 5, .inl f15)), (a16, .inl (nz_cI g, 48, .inl f16))] (nz_Qi g [(o, .inr (5, [.int r0, .int r1, .int r2, .int r3, .int r4, .int r5, .int r6, .int r7, .int r8, .ref a9, .ref a10, .ref a11, .ref a12, .ref a13, .ref a14, .ref a15, .ref a16])), (a9, .inl (nz_cI g, 6, .inl f9)), (a10, .inl (nz_cI g, 6, .inl f10)), (a11, .inl (nz_cI g, 6, .inl f11)), (a12, .inl (nz_cI g, 5, .inl f12)), (a13, .inl (nz_cI g, 5, .inl f13)), (a14, .inl (nz_cI g, 5, .inl f14)), (a15, .inl (nz_cI g, 5, .inl f15)), (a16, .inl (nz_cI g, 48, .inl f16))] (fun r (u : Unit) => K r) (fun u => [(o, .inr (5, [.int r0, .int r1, .int r2, .int r3, .int r4, .int r5, .int r6, .int r7, .int r8, .ref a9, .ref a10, .ref a11, .ref a12, .ref a13, .ref a14, .ref a15, .ref a16])), (a9, .inl (nz_cI g, 6, .inl f9)), (a10, .inl (nz_cI g, 6, .inl f10)), (a11, .inl (nz_cI g, 6, .inl f11)), (a12, .inl (nz_cI g, 5, .inl f12)), (a13, .inl (nz_cI g, 5, .inl f13)), (a14, .inl (nz_cI g, 5, .inl f14)), (a15, .inl (nz_cI g, 5, .inl f15)), (a16, .inl (nz_cI g, 48, .inl f16))])) := by
  refine nz_M.of (bytes := cX5_isWayHomeFree) (nL := 5) (ret := (some .boolean)) (own := RX5) (by decide) rfl rfl ⟨rfl, rfl⟩ rfl ?_
  intro y F hl hQ
  obtain ⟨sz, hQ⟩ := hQ
  refine nz_ent (lv' := [(0, .ref o), (1, .int v1)]) rfl ?_
  unfold wp_X5_isWayHomeFree at h
  refine nz_aload_n F dX5_isWayHomeFree_0 rfl 0 rfl ?_
  refine nz_get F iw_X5_isWayHomeFree_5 0 rfl rfl 10 (by decide) rfl fl_X5_isWayHomeFree_15 rfl dX5_isWayHomeFree_1 ?_
  refine nz_iload_n F dX5_isWayHomeFree_4 rfl 1 rfl ?_
  obtain ⟨i1, h⟩ := h
  refine nz_iald F 2 rfl i1 dX5_isWayHomeFree_5 ?_
  refine nz_aload_n F dX5_isWayHomeFree_6 rfl 0 rfl ?_
  refine nz_get F iw_X5_isWayHomeFree_5 0 rfl rfl 11 (by decide) rfl fl_X5_isWayHomeFree_18 rfl dX5_isWayHomeFree_7 ?_
  refine nz_iload_n F dX5_isWayHomeFree_10 rfl 1 rfl ?_
  obtain ⟨i2, h⟩ := h
  refine nz_iald F 3 rfl i2 dX5_isWayHomeFree_11 ?_
  refine nz_mmin F wd_X5_isWayHomeFree_min0 wd_X5_isWayHomeFree_min1 wd_X5_isWayHomeFree_min2 wd_X5_isWayHomeFree_min3 rfl (Nat.le_of_ble_eq_true rfl) ⟨Nat.le_of_ble_eq_true rfl, Nat.le_of_ble_eq_true rfl⟩ dX5_isWayHomeFree_12 ?_
  refine nz_topi (fun w3 ew3 => ?_)
  have h := h w3 ew3
  refine nz_istore_n (lv' := [(2, .int w3), (0, .ref o), (1, .int v1)]) F dX5_isWayHomeFree_15 rfl (by decide) rfl ?_
  refine nz_aload_n F dX5_isWayHomeFree_16 rfl 1 rfl ?_
  refine nz_get F iw_X5_isWayHomeFree_5 0 rfl rfl 10 (by decide) rfl fl_X5_isWayHomeFree_15 rfl dX5_isWayHomeFree_17 ?_
  refine nz_iload_n F dX5_isWayHomeFree_20 rfl 2 rfl ?_
  obtain ⟨i4, h⟩ := h
  refine nz_iald F 2 rfl i4 dX5_isWayHomeFree_21 ?_
  refine nz_aload_n F dX5_isWayHomeFree_22 rfl 1 rfl ?_
  refine nz_get F iw_X5_isWayHomeFree_5 0 rfl rfl 11 (by decide) rfl fl_X5_isWayHomeFree_18 rfl dX5_isWayHomeFree_23 ?_
  refine nz_iload_n F dX5_isWayHomeFree_26 rfl 2 rfl ?_
  obtain ⟨i5, h⟩ := h
  refine nz_iald F 3 rfl i5 dX5_isWayHomeFree_27 ?_
  refine nz_mmax F wd_X5_isWayHomeFree_max0 wd_X5_isWayHomeFree_max1 wd_X5_isWayHomeFree_max2 wd_X5_isWayHomeFree_max3 rfl (Nat.le_of_ble_eq_true rfl) ⟨Nat.le_of_ble_eq_true rfl, Nat.le_of_ble_eq_true rfl⟩ dX5_isWayHomeFree_28 ?_
  refine nz_topi (fun w6 ew6 => ?_)
  have h := h w6 ew6
  refine nz_istore_n (lv' := [(3, .int w6), (2, .int w3), (0, .ref o), (1, .int v1)]) F dX5_isWayHomeFree_31 rfl (by decide) rfl ?_
  refine nz_iconst (v := 0) F dX5_isWayHomeFree_32 (by decide) ?_
  refine nz_istore (lv' := [(4, .int 0), (3, .int w6), (2, .int w3), (0, .ref o), (1, .int v1)]) F dX5_isWayHomeFree_33 (by decide) rfl ?_
  refine nz_ls (lv' := [(0, .ref o), (1, .int v1), (2, .int w3), (3, .int w6), (4, .int 0)]) [3, 4, 2, 1, 0] rfl ?_
  obtain ⟨n1, h⟩ := h
  exact t_X5_isWayHomeFree_35 F o a9 a10 a11 a12 a13 a14 a15 a16 r0 r1 r2 r3 r4 r5 r6 r7 r8 f9 f10 f11 f12 f13 f14 f15 f16 v1 w3 w6 hQ n1 0 h
theorem k_X5_isWayHomeFree {y : nz_Y} {g : nz_G} {k n : Nat} {ws : va_W} {pc : Nat} {ls : List (Nat × Value)} {st rest : List Value} {av : Array Value} {isC : List Nat} {K : Int32 → Prop} (o : Nat) (a9 : Nat) (a10 : Nat) (a11 : Nat) (a12 : Nat) (a13 : Nat) (a14 : Nat) (a15 : Nat) (a16 : Nat) (r0 : Int32) (r1 : Int32) (r2 : Int32) (r3 : Int32) (r4 : Int32) (r5 : Int32) (r6 : Int32) (r7 : Int32) (r8 : Int32) (f9 : Nat → Int32) (f10 : Nat → Int32) (f11 : Nat → Int32) (f12 : Nat → Int32) (f13 : Nat → Int32) (f14 : Nat → Int32) (f15 : Nat → Int32) (f16 : Nat → Int32) (v1 : Int32) (run : nz_M (yz_l y) yX5_isWayHomeFree wsX5_isWayHomeFree rm_X5_isWayHomeFree g [.ref o, .int v1] [(o, .inr (5, [.int r0, .int r1, .int r2, .int r3, .int r4, .int r5, .int r6, .int r7, .int r8, .ref a9, .ref a10, .ref a11, .ref a12, .ref a13, .ref a14, .ref a15, .ref a16])), (a9, .inl (nz_cI g, 6, .inl f9)), (a10, .inl (nz_cI g, 6, .inl f10)), (a11, .inl (nz_cI g, 6, .inl f11)), (a12, .inl (nz_cI g, 5, .inl f12)), (a13, .inl (nz_cI g, 5, .inl f13)), (a14, .inl (nz_cI g, 5, .inl f14)), (a15, .inl (nz_cI g, 5, .inl f15)), (a16, .inl (nz_cI g, 48, .inl f16))] (nz_Qi g [(o, .inr (5, [.int r0, .int r1, .int r2, .int r3, .int r4, .int r5, .int r6, .int r7, .int r8, .ref a9, .ref a10, .ref a11, .ref a12, .ref a13, .ref a14, .ref a15, .ref a16])), (a9, .inl (nz_cI g, 6, .inl f9)), (a10, .inl (nz_cI g, 6, .inl f10)), (a11, .inl (nz_cI g, 6, .inl f11)), (a12, .inl (nz_cI g, 5, .inl f12)), (a13, .inl (nz_cI g, 5, .inl f13)), (a14, .inl (nz_cI g, 5, .inl f14)), (a15, .inl (nz_cI g, 5, .inl f15)), (a16, .inl (nz_cI g, 48, .inl f16))] (fun r (u : Unit) => K r) (fun u => [(o, .inr (5, [.int r0, .int r1, .int r2, .int r3, .int r4, .int r5, .int r6, .int r7, .int r8, .ref a9, .ref a10, .ref a11, .ref a12, .ref a13, .ref a14, .ref a15, .ref a16])), (a9, .inl (nz_cI g, 6, .inl f9)), (a10, .inl (nz_cI g, 6, .inl f10)), (a11, .inl (nz_cI g, 6, .inl f11)), (a12, .inl (nz_cI g, 5, .inl f12)), (a13, .inl (nz_cI g, 5, .inl f13)), (a14, .inl (nz_cI g, 5, .inl f14)), (a15, .inl (nz_cI g, 5, .inl f15)), (a16, .inl (nz_cI g, 48, .inl f16))])) → nz_C y g k n ws pc ls st rest [(o, .inr (5, [.int r0, .int r1, .int r2, .int r3, .int r4, .int r5, .int r6, .int r7, .int r8, .ref a9, .ref a10, .ref a11, .ref a12, .ref a13, .ref a14, .ref a15, .ref a16])), (a9, .inl (nz_cI g, 6, .inl f9)), (a10, .inl (nz_cI g, 6, .inl f10)), (a11, .inl (nz_cI g, 6, .inl f11)), (a12, .inl (nz_cI g, 5, .inl f12)), (a13, .inl (nz_cI g, 5, .inl f13)), (a14, .inl (nz_cI g, 5, .inl f14)), (a15, .inl (nz_cI g, 5, .inl f15)), (a16, .inl (nz_cI g, 48, .inl f16))] (nz_Qi g [(o, .inr (5, [.int r0, .int r1, .int r2, .int r3, .int r4, .int r5, .int r6, .int r7, .int r8, .ref a9, .ref a10, .ref a11, .ref a12, .ref a13, .ref a14, .ref a15, .ref a16])), (a9, .inl (nz_cI g, 6, .inl f9)), (a10, .inl (nz_cI g, 6, .inl f10)), (a11, .inl (nz_cI g, 6, .inl f11)), (a12, .inl (nz_cI g, 5, .inl f12)), (a13, .inl (nz_cI g, 5, .inl f13)), (a14, .inl (nz_cI g, 5, .inl f14)), (a15, .inl (nz_cI g, 5, .inl f15)), (a16, .inl (nz_cI g, 48, .inl f16))] (fun r (u : Unit) => K r) (fun u => [(o, .inr (5, [.int r0, .int r1, .int r2, .int r3, .int r4, .int r5, .int r6, .int r7, .int r8, .ref a9, .ref a10, .ref a11, .ref a12, .ref a13, .ref a14, .ref a15, .ref a16])), (a9, .inl (nz_cI g, 6, .inl f9)), (a10, .inl (nz_cI g, 6, .inl f10)), (a11, .inl (nz_cI g, 6, .inl f11)), (a12, .inl (nz_cI g, 5, .inl f12)), (a13, .inl (nz_cI g, 5, .inl f13)), (a14, .inl (nz_cI g, 5, .inl f14)), (a15, .inl (nz_cI g, 5, .inl f15)), (a16, .inl (nz_cI g, 48, .inl f16))])) av isC) (h : wp_X5_isWayHomeFree r6 f10 f11 v1 K) (ws' : va_W) (hm : nz_mrg ws isC [(o, .inr (5, [.int r0, .int r1, .int r2, .int r3, .int r4, .int r5, .int r6, .int r7, .int r8, .ref a9, .ref a10, .ref a11, .ref a12, .ref a13, .ref a14, .ref a15, .ref a16])), (a9, .inl (nz_cI g, 6, .inl f9)), (a10, .inl (nz_cI g, 6, .inl f10)), (a11, .inl (nz_cI g, 6, .inl f11)), (a12, .inl (nz_cI g, 5, .inl f12)), (a13, .inl (nz_cI g, 5, .inl f13)), (a14, .inl (nz_cI g, 5, .inl f14)), (a15, .inl (nz_cI g, 5, .inl f15)), (a16, .inl (nz_cI g, 48, .inl f16))] = ws' ) (kk : ∀ (r : Int32), K r → nz_V y g k n ws' (pc + 3) ls (.int r :: rest)) : nz_V y g k n ws pc ls st :=
  nz_ci (ws' := fun _ => ws') (run (c_X5_isWayHomeFree (yz_l y) g o a9 a10 a11 a12 a13 a14 a15 a16 r0 r1 r2 r3 r4 r5 r6 r7 r8 f9 f10 f11 f12 f13 f14 f15 f16 v1 K h)) (fun _ => rfl) (fun _ => hm) (fun r u h => kk r h)
theorem dX5_wayIn_0 : decode cX5_wayIn 0 = .ok (.aload_n 0, 1) := by decide +kernel
theorem dX5_wayIn_1 : decode cX5_wayIn 1 = .ok (.getfield 21, 3) := by decide +kernel
theorem dX5_wayIn_4 : decode cX5_wayIn 4 = .ok (.iload_n 1, 1) := by decide +kernel
theorem dX5_wayIn_5 : decode cX5_wayIn 5 = .ok (.iaload, 1) := by decide +kernel
theorem dX5_wayIn_6 : decode cX5_wayIn 6 = .ok (.iconst 4, 1) := by decide +kernel
theorem dX5_wayIn_7 : decode cX5_wayIn 7 = .ok (.if_icmp .ne 13, 3) := by decide +kernel
theorem dX5_wayIn_10 : decode cX5_wayIn 10 = .ok (.iload_n 2, 1) := by decide +kernel
theorem dX5_wayIn_11 : decode cX5_wayIn 11 = .ok (.iconst 1, 1) := by decide +kernel
theorem dX5_wayIn_12 : decode cX5_wayIn 12 = .ok (.iand, 1) := by decide +kernel
theorem dX5_wayIn_13 : decode cX5_wayIn 13 = .ok (.ifCond .eq 7, 3) := by decide +kernel
theorem dX5_wayIn_16 : decode cX5_wayIn 16 = .ok (.iconst 1, 1) := by decide +kernel
theorem dX5_wayIn_17 : decode cX5_wayIn 17 = .ok (.goto 4, 3) := by decide +kernel
theorem dX5_wayIn_20 : decode cX5_wayIn 20 = .ok (.iconst 0, 1) := by decide +kernel
theorem dX5_wayIn_21 : decode cX5_wayIn 21 = .ok (.istore_n 3, 1) := by decide +kernel
theorem dX5_wayIn_22 : decode cX5_wayIn 22 = .ok (.iload_n 3, 1) := by decide +kernel
theorem dX5_wayIn_23 : decode cX5_wayIn 23 = .ok (.ifCond .eq 14, 3) := by decide +kernel
theorem dX5_wayIn_26 : decode cX5_wayIn 26 = .ok (.iconst 1, 1) := by decide +kernel
theorem dX5_wayIn_27 : decode cX5_wayIn 27 = .ok (.aload_n 0, 1) := by decide +kernel
theorem dX5_wayIn_28 : decode cX5_wayIn 28 = .ok (.getfield 27, 3) := by decide +kernel
theorem dX5_wayIn_31 : decode cX5_wayIn 31 = .ok (.iload_n 1, 1) := by decide +kernel
theorem dX5_wayIn_32 : decode cX5_wayIn 32 = .ok (.iaload, 1) := by decide +kernel
theorem dX5_wayIn_33 : decode cX5_wayIn 33 = .ok (.isub, 1) := by decide +kernel
theorem dX5_wayIn_34 : decode cX5_wayIn 34 = .ok (.goto 9, 3) := by decide +kernel
theorem dX5_wayIn_37 : decode cX5_wayIn 37 = .ok (.aload_n 0, 1) := by decide +kernel
theorem dX5_wayIn_38 : decode cX5_wayIn 38 = .ok (.getfield 27, 3) := by decide +kernel
theorem dX5_wayIn_41 : decode cX5_wayIn 41 = .ok (.iload_n 1, 1) := by decide +kernel
theorem dX5_wayIn_42 : decode cX5_wayIn 42 = .ok (.iaload, 1) := by decide +kernel
theorem dX5_wayIn_43 : decode cX5_wayIn 43 = .ok (.ireturn, 1) := by decide +kernel
/-! X5_wayIn -/
abbrev rm_X5_wayIn : Room := { frames := 0, cells := 0, slots := 0, locals := 0 }
theorem iw_X5_wayIn_5 : ∀ w ∈ wsX50, w ∈ wsX5_wayIn := fun _ h => List.mem_cons_of_mem _ (List.mem_append_right _ h)
theorem fl_X5_wayIn_21 : Cond.fieldLink RX5 21 "NightStones$Road" "kinds" "[I" ∈ wsX5_wayIn := List.mem_of_getElem? (i := 1) rfl
theorem fl_X5_wayIn_27 : Cond.fieldLink RX5 27 "NightStones$Road" "ways" "[I" ∈ wsX5_wayIn := List.mem_of_getElem? (i := 2) rfl
def S_X5_wayIn_21 (f14 : Nat → Int32) (v1 : Int32) (s0 : Int32) (K : Int32 → Prop) : Prop := ((s0 = 0 → (vp_in v1 5 ∧ K (f14 v1.toNatClampNeg))) ∧ (¬ (s0 = 0) → (vp_in v1 5 ∧ K (1 - (f14 v1.toNatClampNeg)))))
set_option maxHeartbeats 4000000 in
set_option maxRecDepth 100000 in
theorem t_X5_wayIn_21 {y : nz_Y} {g : nz_G} (F : nz_F y g cX5_wayIn 4 wsX5_wayIn RX5 (some .int) rm_X5_wayIn) {wc0 : va_W} {sz : Nat} {K : Int32 → Prop} (o : Nat) (a9 : Nat) (a10 : Nat) (a11 : Nat) (a12 : Nat) (a13 : Nat) (a14 : Nat) (a15 : Nat) (a16 : Nat) (r0 : Int32) (r1 : Int32) (r2 : Int32) (r3 : Int32) (r4 : Int32) (r5 : Int32) (r6 : Int32) (r7 : Int32) (r8 : Int32) (f9 : Nat → Int32) (f10 : Nat → Int32) (f11 : Nat → Int32) (f12 : Nat → Int32) (f13 : Nat → Int32) (f14 : Nat → Int32) (f15 : Nat → Int32) (f16 : Nat → Int32) (v1 : Int32) (v2 : Int32) (s0 : Int32) (hQ : yz_A y = va_A wc0 sz ∧ yz_Q y = MQ (yz_b y) ((nz_Qi g wc0 (fun r (u : Unit) => K r) (fun u => [(o, .inr (5, [.int r0, .int r1, .int r2, .int r3, .int r4, .int r5, .int r6, .int r7, .int r8, .ref a9, .ref a10, .ref a11, .ref a12, .ref a13, .ref a14, .ref a15, .ref a16])), (a9, .inl (nz_cI g, 6, .inl f9)), (a10, .inl (nz_cI g, 6, .inl f10)), (a11, .inl (nz_cI g, 6, .inl f11)), (a12, .inl (nz_cI g, 5, .inl f12)), (a13, .inl (nz_cI g, 5, .inl f13)), (a14, .inl (nz_cI g, 5, .inl f14)), (a15, .inl (nz_cI g, 5, .inl f15)), (a16, .inl (nz_cI g, 48, .inl f16))])) sz) (yz_a y) (yz_s y) 0 0 (va_A wc0 sz)) : S_X5_wayIn_21 f14 v1 s0 K → nz_V y g 0 0 [(o, .inr (5, [.int r0, .int r1, .int r2, .int r3, .int r4, .int r5, .int r6, .int r7, .int r8, .ref a9, .ref a10, .ref a11, .ref a12, .ref a13, .ref a14, .ref a15, .ref a16])), (a9, .inl (nz_cI g, 6, .inl f9)), (a10, .inl (nz_cI g, 6, .inl f10)), (a11, .inl (nz_cI g, 6, .inl f11)), (a12, .inl (nz_cI g, 5, .inl f12)), (a13, .inl (nz_cI g, 5, .inl f13)), (a14, .inl (nz_cI g, 5, .inl f14)), (a15, .inl (nz_cI g, 5, .inl f15)), (a16, .inl (nz_cI g, 48, .inl f16))] 21 [(0, .ref o), (1, .int v1)] [.int s0] := by
  intro h
  unfold S_X5_wayIn_21 at h
  refine nz_istore_n (lv' := [(3, .int s0), (0, .ref o), (1, .int v1)]) F dX5_wayIn_21 rfl (by decide) rfl ?_
  refine nz_iload_n F dX5_wayIn_22 rfl 0 rfl ?_
  refine nz_if_eq (tgt := 37) F dX5_wayIn_23 (by decide) (fun c3 => ?_) (fun c3 => ?_)
  · have h := h.1 c3
    refine nz_aload_n F dX5_wayIn_37 rfl 1 rfl ?_
    refine nz_get F iw_X5_wayIn_5 0 rfl rfl 14 (by decide) rfl fl_X5_wayIn_27 rfl dX5_wayIn_38 ?_
    refine nz_iload_n F dX5_wayIn_41 rfl 2 rfl ?_
    obtain ⟨i4, h⟩ := h
    refine nz_iald F 6 rfl i4 dX5_wayIn_42 ?_
    exact nz_iret F hQ () h rfl dX5_wayIn_43
  · have h := h.2 c3
    refine nz_iconst (v := 1) F dX5_wayIn_26 (by decide) ?_
    refine nz_aload_n F dX5_wayIn_27 rfl 1 rfl ?_
    refine nz_get F iw_X5_wayIn_5 0 rfl rfl 14 (by decide) rfl fl_X5_wayIn_27 rfl dX5_wayIn_28 ?_
    refine nz_iload_n F dX5_wayIn_31 rfl 2 rfl ?_
    obtain ⟨i5, h⟩ := h
    refine nz_iald F 6 rfl i5 dX5_wayIn_32 ?_
    refine nz_isub F dX5_wayIn_33 ?_
    refine nz_goto (tgt := 43) F dX5_wayIn_34 (by decide) ?_
    exact nz_iret F hQ () h rfl dX5_wayIn_43
def wp_X5_wayIn (f12 : Nat → Int32) (f14 : Nat → Int32) (v1 : Int32) (v2 : Int32) (K : Int32 → Prop) : Prop := (vp_in v1 5 ∧ ((¬ (f12 v1.toNatClampNeg) = 4 → S_X5_wayIn_21 f14 v1 0 K) ∧ ((f12 v1.toNatClampNeg) = 4 → (((v2 &&& 1) = 0 → S_X5_wayIn_21 f14 v1 0 K) ∧ (¬ ((v2 &&& 1) = 0) → S_X5_wayIn_21 f14 v1 1 K)))))
set_option maxHeartbeats 4000000 in
set_option maxRecDepth 100000 in
theorem c_X5_wayIn (l : Launch) (g : nz_G) (o : Nat) (a9 : Nat) (a10 : Nat) (a11 : Nat) (a12 : Nat) (a13 : Nat) (a14 : Nat) (a15 : Nat) (a16 : Nat) (r0 : Int32) (r1 : Int32) (r2 : Int32) (r3 : Int32) (r4 : Int32) (r5 : Int32) (r6 : Int32) (r7 : Int32) (r8 : Int32) (f9 : Nat → Int32) (f10 : Nat → Int32) (f11 : Nat → Int32) (f12 : Nat → Int32) (f13 : Nat → Int32) (f14 : Nat → Int32) (f15 : Nat → Int32) (f16 : Nat → Int32) (v1 : Int32) (v2 : Int32) (K : Int32 → Prop) (h : wp_X5_wayIn f12 f14 v1 v2 K) : nz_M l yX5_wayIn wsX5_wayIn rm_X5_wayIn g [.ref o, .int v1, .int v2] [(o, .inr (5, [.int r0, .int r1, .int r2, .int r3, .int r4, .int r5, .int r6, .int r7, .int r8, .ref a9, .ref a10, .ref a11, .ref a12, .ref a13, .ref a14, .ref a15, .ref a16])), (a9, .inl (nz_cI g, 6, .inl f9)), (a10, .inl (nz_cI g, 6, .inl f10)), (a11, .inl (nz_cI g, 6, .inl f11)), (a12, .inl (nz_cI g, 5, .inl f12)), (a13, .inl (nz_cI g, 5, .inl f13)), (a14, .inl (nz_cI g, 5, .inl f14)), (a15, .inl (nz_cI g, 5, .inl f15)), (a16, .inl (nz_cI g, 48, .inl f16))] (nz_Qi g [(o, .inr (5, [.int r0, .int r1, .int r2, .int r3, .int r4, .int r5, .int r6, .int r7, .int r8, .ref a9, .ref a10, .ref a11, .ref a12, .ref a13, .ref a14, .ref a15, .ref a16])), (a9, .inl (nz_cI g, 6, .inl f9)), (a10, .inl (nz_cI g, 6, .inl f10)), (a11, .inl (nz_cI g, 6, .inl f11)), (a12, .inl (nz_cI g, 5, .inl f12)), (a13, .inl (nz_cI g, 5, .inl f13)), (a14, .inl (nz_cI g, 5, .inl f14)), (a15, .inl (nz_cI g, 5, .inl f15)), (a16, .inl (nz_cI g, 48, .inl f16))] (fun r (u : Unit) => K r) (fun u => [(o, .inr (5, [.int r0, .int r1, .int r2, .int r3, .int r4, .int r5, .int r6, .int r7, .int r8, .ref a9, .ref a10, .ref a11, .ref a12, .ref a13, .ref a14, .ref a15, .ref a16])), (a9, .inl (nz_cI g, 6, .inl f9)), (a10, .inl (nz_cI g, 6, .inl f10)), (a11, .inl (nz_cI g, 6, .inl f11)), (a12, .inl (nz_cI g, 5, .inl f12)), (a13, .inl (nz_cI g, 5, .inl f13)), (a14, .inl (nz_cI g, 5, .inl f14)), (a15, .inl (nz_cI g, 5, .inl f15)), (a16, .inl (nz_cI g, 48, .inl f16))])) := by
  refine nz_M.of (bytes := cX5_wayIn) (nL := 4) (ret := (some .int)) (own := RX5) (by decide) rfl rfl ⟨rfl, rfl⟩ rfl ?_
  intro y F hl hQ
  obtain ⟨sz, hQ⟩ := hQ
  refine nz_ent (lv' := [(0, .ref o), (1, .int v1), (2, .int v2)]) rfl ?_
  unfold wp_X5_wayIn at h
  refine nz_aload_n F dX5_wayIn_0 rfl 0 rfl ?_
  refine nz_get F iw_X5_wayIn_5 0 rfl rfl 12 (by decide) rfl fl_X5_wayIn_21 rfl dX5_wayIn_1 ?_
  refine nz_iload_n F dX5_wayIn_4 rfl 1 rfl ?_
  obtain ⟨i1, h⟩ := h
  refine nz_iald F 4 rfl i1 dX5_wayIn_5 ?_
  refine nz_iconst (v := 4) F dX5_wayIn_6 (by decide) ?_
  refine nz_icmp_ne (tgt := 20) F dX5_wayIn_7 (by decide) (fun c2 => ?_) (fun c2 => ?_)
  · have h := h.1 c2
    refine nz_iconst (v := 0) F dX5_wayIn_20 (by decide) ?_
    refine nz_ls (lv' := [(0, .ref o), (1, .int v1)]) [0, 1] rfl ?_
    exact t_X5_wayIn_21 F o a9 a10 a11 a12 a13 a14 a15 a16 r0 r1 r2 r3 r4 r5 r6 r7 r8 f9 f10 f11 f12 f13 f14 f15 f16 v1 v2 0 hQ h
  · have h := h.2 c2
    refine nz_iload_n F dX5_wayIn_10 rfl 2 rfl ?_
    refine nz_iconst (v := 1) F dX5_wayIn_11 (by decide) ?_
    refine nz_iand F dX5_wayIn_12 ?_
    refine nz_if_eq (tgt := 20) F dX5_wayIn_13 (by decide) (fun c6 => ?_) (fun c6 => ?_)
    · have h := h.1 c6
      refine nz_iconst (v := 0) F dX5_wayIn_20 (by decide) ?_
      refine nz_ls (lv' := [(0, .ref o), (1, .int v1)]) [0, 1] rfl ?_
      exact t_X5_wayIn_21 F o a9 a10 a11 a12 a13 a14 a15 a16 r0 r1 r2 r3 r4 r5 r6 r7 r8 f9 f10 f11 f12 f13 f14 f15 f16 v1 v2 0 hQ h
    · have h := h.2 c6
      refine nz_iconst (v := 1) F dX5_wayIn_16 (by decide) ?_
      refine nz_goto (tgt := 21) F dX5_wayIn_17 (by decide) ?_
      refine nz_ls (lv' := [(0, .ref o), (1, .int v1)]) [0, 1] rfl ?_
      exact t_X5_wayIn_21 F o a9 a10 a11 a12 a13 a14 a15 a16 r0 r1 r2 r3 r4 r5 r6 r7 r8 f9 f10 f11 f12 f13 f14 f15 f16 v1 v2 1 hQ h
theorem k_X5_wayIn {y : nz_Y} {g : nz_G} {k n : Nat} {ws : va_W} {pc : Nat} {ls : List (Nat × Value)} {st rest : List Value} {av : Array Value} {isC : List Nat} {K : Int32 → Prop} (o : Nat) (a9 : Nat) (a10 : Nat) (a11 : Nat) (a12 : Nat) (a13 : Nat) (a14 : Nat) (a15 : Nat) (a16 : Nat) (r0 : Int32) (r1 : Int32) (r2 : Int32) (r3 : Int32) (r4 : Int32) (r5 : Int32) (r6 : Int32) (r7 : Int32) (r8 : Int32) (f9 : Nat → Int32) (f10 : Nat → Int32) (f11 : Nat → Int32) (f12 : Nat → Int32) (f13 : Nat → Int32) (f14 : Nat → Int32) (f15 : Nat → Int32) (f16 : Nat → Int32) (v1 : Int32) (v2 : Int32) (run : nz_M (yz_l y) yX5_wayIn wsX5_wayIn rm_X5_wayIn g [.ref o, .int v1, .int v2] [(o, .inr (5, [.int r0, .int r1, .int r2, .int r3, .int r4, .int r5, .int r6, .int r7, .int r8, .ref a9, .ref a10, .ref a11, .ref a12, .ref a13, .ref a14, .ref a15, .ref a16])), (a9, .inl (nz_cI g, 6, .inl f9)), (a10, .inl (nz_cI g, 6, .inl f10)), (a11, .inl (nz_cI g, 6, .inl f11)), (a12, .inl (nz_cI g, 5, .inl f12)), (a13, .inl (nz_cI g, 5, .inl f13)), (a14, .inl (nz_cI g, 5, .inl f14)), (a15, .inl (nz_cI g, 5, .inl f15)), (a16, .inl (nz_cI g, 48, .inl f16))] (nz_Qi g [(o, .inr (5, [.int r0, .int r1, .int r2, .int r3, .int r4, .int r5, .int r6, .int r7, .int r8, .ref a9, .ref a10, .ref a11, .ref a12, .ref a13, .ref a14, .ref a15, .ref a16])), (a9, .inl (nz_cI g, 6, .inl f9)), (a10, .inl (nz_cI g, 6, .inl f10)), (a11, .inl (nz_cI g, 6, .inl f11)), (a12, .inl (nz_cI g, 5, .inl f12)), (a13, .inl (nz_cI g, 5, .inl f13)), (a14, .inl (nz_cI g, 5, .inl f14)), (a15, .inl (nz_cI g, 5, .inl f15)), (a16, .inl (nz_cI g, 48, .inl f16))] (fun r (u : Unit) => K r) (fun u => [(o, .inr (5, [.int r0, .int r1, .int r2, .int r3, .int r4, .int r5, .int r6, .int r7, .int r8, .ref a9, .ref a10, .ref a11, .ref a12, .ref a13, .ref a14, .ref a15, .ref a16])), (a9, .inl (nz_cI g, 6, .inl f9)), (a10, .inl (nz_cI g, 6, .inl f10)), (a11, .inl (nz_cI g, 6, .inl f11)), (a12, .inl (nz_cI g, 5, .inl f12)), (a13, .inl (nz_cI g, 5, .inl f13)), (a14, .inl (nz_cI g, 5, .inl f14)), (a15, .inl (nz_cI g, 5, .inl f15)), (a16, .inl (nz_cI g, 48, .inl f16))])) → nz_C y g k n ws pc ls st rest [(o, .inr (5, [.int r0, .int r1, .int r2, .int r3, .int r4, .int r5, .int r6, .int r7, .int r8, .ref a9, .ref a10, .ref a11, .ref a12, .ref a13, .ref a14, .ref a15, .ref a16])), (a9, .inl (nz_cI g, 6, .inl f9)), (a10, .inl (nz_cI g, 6, .inl f10)), (a11, .inl (nz_cI g, 6, .inl f11)), (a12, .inl (nz_cI g, 5, .inl f12)), (a13, .inl (nz_cI g, 5, .inl f13)), (a14, .inl (nz_cI g, 5, .inl f14)), (a15, .inl (nz_cI g, 5, .inl f15)), (a16, .inl (nz_cI g, 48, .inl f16))] (nz_Qi g [(o, .inr (5, [.int r0, .int r1, .int r2, .int r3, .int r4, .int r5, .int r6, .int r7, .int r8, .ref a9, .ref a10, .ref a11, .ref a12, .ref a13, .ref a14, .ref a15, .ref a16])), (a9, .inl (nz_cI g, 6, .inl f9)), (a10, .inl (nz_cI g, 6, .inl f10)), (a11, .inl (nz_cI g, 6, .inl f11)), (a12, .inl (nz_cI g, 5, .inl f12)), (a13, .inl (nz_cI g, 5, .inl f13)), (a14, .inl (nz_cI g, 5, .inl f14)), (a15, .inl (nz_cI g, 5, .inl f15)), (a16, .inl (nz_cI g, 48, .inl f16))] (fun r (u : Unit) => K r) (fun u => [(o, .inr (5, [.int r0, .int r1, .int r2, .int r3, .int r4, .int r5, .int r6, .int r7, .int r8, .ref a9, .ref a10, .ref a11, .ref a12, .ref a13, .ref a14, .ref a15, .ref a16])), (a9, .inl (nz_cI g, 6, .inl f9)), (a10, .inl (nz_cI g, 6, .inl f10)), (a11, .inl (nz_cI g, 6, .inl f11)), (a12, .inl (nz_cI g, 5, .inl f12)), (a13, .inl (nz_cI g, 5, .inl f13)), (a14, .inl (nz_cI g, 5, .inl f14)), (a15, .inl (nz_cI g, 5, .inl f15)), (a16, .inl (nz_cI g, 48, .inl f16))])) av isC) (h : wp_X5_wayIn f12 f14 v1 v2 K) (ws' : va_W) (hm : nz_mrg ws isC [(o, .inr (5, [.int r0, .int r1, .int r2, .int r3, .int r4, .int r5, .int r6, .int r7, .int r8, .ref a9, .ref a10, .ref a11, .ref a12, .ref a13, .ref a14, .ref a15, .ref a16])), (a9, .inl (nz_cI g, 6, .inl f9)), (a10, .inl (nz_cI g, 6, .inl f10)), (a11, .inl (nz_cI g, 6, .inl f11)), (a12, .inl (nz_cI g, 5, .inl f12)), (a13, .inl (nz_cI g, 5, .inl f13)), (a14, .inl (nz_cI g, 5, .inl f14)), (a15, .inl (nz_cI g, 5, .inl f15)), (a16, .inl (nz_cI g, 48, .inl f16))] = ws' ) (kk : ∀ (r : Int32), K r → nz_V y g k n ws' (pc + 3) ls (.int r :: rest)) : nz_V y g k n ws pc ls st :=
  nz_ci (ws' := fun _ => ws') (run (c_X5_wayIn (yz_l y) g o a9 a10 a11 a12 a13 a14 a15 a16 r0 r1 r2 r3 r4 r5 r6 r7 r8 f9 f10 f11 f12 f13 f14 f15 f16 v1 v2 K h)) (fun _ => rfl) (fun _ => hm) (fun r u h => kk r h)
