theorem dX5_isOut_0 : decode cX5_isOut 0 = .ok (.aload_n 0, 1) := by decide +kernel
theorem dX5_isOut_1 : decode cX5_isOut 1 = .ok (.getfield 21, 3) := by decide +kernel
theorem dX5_isOut_4 : decode cX5_isOut 4 = .ok (.iload_n 1, 1) := by decide +kernel
theorem dX5_isOut_5 : decode cX5_isOut 5 = .ok (.iaload, 1) := by decide +kernel
theorem dX5_isOut_6 : decode cX5_isOut 6 = .ok (.iconst 3, 1) := by decide +kernel
theorem dX5_isOut_7 : decode cX5_isOut 7 = .ok (.if_icmp .ne 15, 3) := by decide +kernel
theorem dX5_isOut_10 : decode cX5_isOut 10 = .ok (.iload_n 3, 1) := by decide +kernel
theorem dX5_isOut_11 : decode cX5_isOut 11 = .ok (.iconst 1, 1) := by decide +kernel
theorem dX5_isOut_12 : decode cX5_isOut 12 = .ok (.iand, 1) := by decide +kernel
theorem dX5_isOut_13 : decode cX5_isOut 13 = .ok (.ifCond .ne 7, 3) := by decide +kernel
theorem dX5_isOut_16 : decode cX5_isOut 16 = .ok (.iconst 1, 1) := by decide +kernel
theorem dX5_isOut_17 : decode cX5_isOut 17 = .ok (.goto 4, 3) := by decide +kernel
theorem dX5_isOut_20 : decode cX5_isOut 20 = .ok (.iconst 0, 1) := by decide +kernel
theorem dX5_isOut_21 : decode cX5_isOut 21 = .ok (.ireturn, 1) := by decide +kernel
theorem dX5_isOut_22 : decode cX5_isOut 22 = .ok (.aload_n 0, 1) := by decide +kernel
theorem dX5_isOut_23 : decode cX5_isOut 23 = .ok (.getfield 21, 3) := by decide +kernel
theorem dX5_isOut_26 : decode cX5_isOut 26 = .ok (.iload_n 1, 1) := by decide +kernel
theorem dX5_isOut_27 : decode cX5_isOut 27 = .ok (.iaload, 1) := by decide +kernel
theorem dX5_isOut_28 : decode cX5_isOut 28 = .ok (.iconst 5, 1) := by decide +kernel
theorem dX5_isOut_29 : decode cX5_isOut 29 = .ok (.if_icmp .ne 31, 3) := by decide +kernel
theorem dX5_isOut_32 : decode cX5_isOut 32 = .ok (.aload_n 2, 1) := by decide +kernel
theorem dX5_isOut_33 : decode cX5_isOut 33 = .ok (.aload_n 0, 1) := by decide +kernel
theorem dX5_isOut_34 : decode cX5_isOut 34 = .ok (.getfield 24, 3) := by decide +kernel
theorem dX5_isOut_37 : decode cX5_isOut 37 = .ok (.iload_n 1, 1) := by decide +kernel
theorem dX5_isOut_38 : decode cX5_isOut 38 = .ok (.iaload, 1) := by decide +kernel
theorem dX5_isOut_39 : decode cX5_isOut 39 = .ok (.iaload, 1) := by decide +kernel
theorem dX5_isOut_40 : decode cX5_isOut 40 = .ok (.aload_n 0, 1) := by decide +kernel
theorem dX5_isOut_41 : decode cX5_isOut 41 = .ok (.getfield 18, 3) := by decide +kernel
theorem dX5_isOut_44 : decode cX5_isOut 44 = .ok (.aload_n 0, 1) := by decide +kernel
theorem dX5_isOut_45 : decode cX5_isOut 45 = .ok (.getfield 24, 3) := by decide +kernel
theorem dX5_isOut_48 : decode cX5_isOut 48 = .ok (.iload_n 1, 1) := by decide +kernel
theorem dX5_isOut_49 : decode cX5_isOut 49 = .ok (.iaload, 1) := by decide +kernel
theorem dX5_isOut_50 : decode cX5_isOut 50 = .ok (.iaload, 1) := by decide +kernel
theorem dX5_isOut_51 : decode cX5_isOut 51 = .ok (.if_icmp .ne 7, 3) := by decide +kernel
theorem dX5_isOut_54 : decode cX5_isOut 54 = .ok (.iconst 1, 1) := by decide +kernel
theorem dX5_isOut_55 : decode cX5_isOut 55 = .ok (.goto 4, 3) := by decide +kernel
theorem dX5_isOut_58 : decode cX5_isOut 58 = .ok (.iconst 0, 1) := by decide +kernel
theorem dX5_isOut_59 : decode cX5_isOut 59 = .ok (.ireturn, 1) := by decide +kernel
theorem dX5_isOut_60 : decode cX5_isOut 60 = .ok (.iconst 1, 1) := by decide +kernel
theorem dX5_isOut_61 : decode cX5_isOut 61 = .ok (.ireturn, 1) := by decide +kernel
/-! X5_isOut _at -/
abbrev rm_X5_isOut_at : Room := { frames := 0, cells := 0, slots := 0, locals := 0 }
theorem iw_X5_isOut_5 : ∀ w ∈ wsX50, w ∈ wsX5_isOut := fun _ h => List.mem_cons_of_mem _ (List.mem_append_right _ h)
theorem fl_X5_isOut_21 : Cond.fieldLink RX5 21 "NightStones$Road" "kinds" "[I" ∈ wsX5_isOut := List.mem_of_getElem? (i := 1) rfl
theorem fl_X5_isOut_24 : Cond.fieldLink RX5 24 "NightStones$Road" "pushed" "[I" ∈ wsX5_isOut := List.mem_of_getElem? (i := 2) rfl
theorem fl_X5_isOut_18 : Cond.fieldLink RX5 18 "NightStones$Road" "home" "[I" ∈ wsX5_isOut := List.mem_of_getElem? (i := 3) rfl
def wp_X5_isOut_at (f10 : Nat → Int32) (f11 : Nat → Int32) (f12 : Nat → Int32) (f13 : Nat → Int32) (v1 : Int32) (v3 : Int32) (K : Int32 → Prop) : Prop := (vp_in v1 5 ∧ ((¬ (f12 v1.toNatClampNeg) = 3 → (vp_in v1 5 ∧ ((¬ (f12 v1.toNatClampNeg) = 5 → K 1) ∧ ((f12 v1.toNatClampNeg) = 5 → (vp_in v1 5 ∧ (vp_in (f13 v1.toNatClampNeg) 6 ∧ (vp_in v1 5 ∧ (vp_in (f13 v1.toNatClampNeg) 6 ∧ ((¬ (f10 (f13 v1.toNatClampNeg).toNatClampNeg) = (f11 (f13 v1.toNatClampNeg).toNatClampNeg) → K 0) ∧ ((f10 (f13 v1.toNatClampNeg).toNatClampNeg) = (f11 (f13 v1.toNatClampNeg).toNatClampNeg) → K 1)))))))))) ∧ ((f12 v1.toNatClampNeg) = 3 → ((¬ (v3 &&& 1) = 0 → K 0) ∧ ((v3 &&& 1) = 0 → K 1)))))
set_option maxHeartbeats 4000000 in
set_option maxRecDepth 100000 in
theorem c_X5_isOut_at (l : Launch) (g : nz_G) (o : Nat) (a9 : Nat) (a10 : Nat) (a11 : Nat) (a12 : Nat) (a13 : Nat) (a14 : Nat) (a15 : Nat) (a16 : Nat) (r0 : Int32) (r1 : Int32) (r2 : Int32) (r3 : Int32) (r4 : Int32) (r5 : Int32) (r6 : Int32) (r7 : Int32) (r8 : Int32) (f9 : Nat → Int32) (f10 : Nat → Int32) (f11 : Nat → Int32) (f12 : Nat → Int32) (f13 : Nat → Int32) (f14 : Nat → Int32) (f15 : Nat → Int32) (f16 : Nat → Int32) (v1 : Int32) (v3 : Int32) (K : Int32 → Prop) (h : wp_X5_isOut_at f10 f11 f12 f13 v1 v3 K) : nz_M l yX5_isOut wsX5_isOut rm_X5_isOut_at g [.ref o, .int v1, .ref a10, .int v3] [(o, .inr (5, [.int r0, .int r1, .int r2, .int r3, .int r4, .int r5, .int r6, .int r7, .int r8, .ref a9, .ref a10, .ref a11, .ref a12, .ref a13, .ref a14, .ref a15, .ref a16])), (a9, .inl (nz_cI g, 6, .inl f9)), (a10, .inl (nz_cI g, 6, .inl f10)), (a11, .inl (nz_cI g, 6, .inl f11)), (a12, .inl (nz_cI g, 5, .inl f12)), (a13, .inl (nz_cI g, 5, .inl f13)), (a14, .inl (nz_cI g, 5, .inl f14)), (a15, .inl (nz_cI g, 5, .inl f15)), (a16, .inl (nz_cI g, 48, .inl f16))] (nz_Qi g [(o, .inr (5, [.int r0, .int r1, .int r2, .int r3, .int r4, .int r5, .int r6, .int r7, .int r8, .ref a9, .ref a10, .ref a11, .ref a12, .ref a13, .ref a14, .ref a15, .ref a16])), (a9, .inl (nz_cI g, 6, .inl f9)), (a10, .inl (nz_cI g, 6, .inl f10)), (a11, .inl (nz_cI g, 6, .inl f11)), (a12, .inl (nz_cI g, 5, .inl f12)), (a13, .inl (nz_cI g, 5, .inl f13)), (a14, .inl (nz_cI g, 5, .inl f14)), (a15, .inl (nz_cI g, 5, .inl f15)), (a16, .inl (nz_cI g, 48, .inl f16))] (fun r (u : Unit) => K r) (fun u => [(o, .inr (5, [.int r0, .int r1, .int r2, .int r3, .int r4, .int r5, .int r6, .int r7, .int r8, .ref a9, .ref a10, .ref a11, .ref a12, .ref a13, .ref a14, .ref a15, .ref a16])), (a9, .inl (nz_cI g, 6, .inl f9)), (a10, .inl (nz_cI g, 6, .inl f10)), (a11, .inl (nz_cI g, 6, .inl f11)), (a12, .inl (nz_cI g, 5, .inl f12)), (a13, .inl (nz_cI g, 5, .inl f13)), (a14, .inl (nz_cI g, 5, .inl f14)), (a15, .inl (nz_cI g, 5, .inl f15)), (a16, .inl (nz_cI g, 48, .inl f16))])) := by
  refine nz_M.of (bytes := cX5_isOut) (nL := 4) (ret := (some .boolean)) (own := RX5) (by decide) rfl rfl ⟨rfl, rfl⟩ rfl ?_
  intro y F hl hQ
  obtain ⟨sz, hQ⟩ := hQ
  refine nz_ent (lv' := [(0, .ref o), (1, .int v1), (2, .ref a10), (3, .int v3)]) rfl ?_
  unfold wp_X5_isOut_at at h
  refine nz_aload_n F dX5_isOut_0 rfl 0 rfl ?_
  refine nz_get F iw_X5_isOut_5 0 rfl rfl 12 (by decide) rfl fl_X5_isOut_21 rfl dX5_isOut_1 ?_
  refine nz_iload_n F dX5_isOut_4 rfl 1 rfl ?_
  obtain ⟨i1, h⟩ := h
  refine nz_iald F 4 rfl i1 dX5_isOut_5 ?_
  refine nz_iconst (v := 3) F dX5_isOut_6 (by decide) ?_
  refine nz_icmp_ne (tgt := 22) F dX5_isOut_7 (by decide) (fun c2 => ?_) (fun c2 => ?_)
  · have h := h.1 c2
    refine nz_aload_n F dX5_isOut_22 rfl 0 rfl ?_
    refine nz_get F iw_X5_isOut_5 0 rfl rfl 12 (by decide) rfl fl_X5_isOut_21 rfl dX5_isOut_23 ?_
    refine nz_iload_n F dX5_isOut_26 rfl 1 rfl ?_
    obtain ⟨i3, h⟩ := h
    refine nz_iald F 4 rfl i3 dX5_isOut_27 ?_
    refine nz_iconst (v := 5) F dX5_isOut_28 (by decide) ?_
    refine nz_icmp_ne (tgt := 60) F dX5_isOut_29 (by decide) (fun c4 => ?_) (fun c4 => ?_)
    · have h := h.1 c4
      refine nz_iconst (v := 1) F dX5_isOut_60 (by decide) ?_
      exact nz_zret F hQ () h rfl (by decide) dX5_isOut_61
    · have h := h.2 c4
      refine nz_aload_n F dX5_isOut_32 rfl 2 rfl ?_
      refine nz_aload_n F dX5_isOut_33 rfl 0 rfl ?_
      refine nz_get F iw_X5_isOut_5 0 rfl rfl 13 (by decide) rfl fl_X5_isOut_24 rfl dX5_isOut_34 ?_
      refine nz_iload_n F dX5_isOut_37 rfl 1 rfl ?_
      obtain ⟨i5, h⟩ := h
      refine nz_iald F 5 rfl i5 dX5_isOut_38 ?_
      obtain ⟨i6, h⟩ := h
      refine nz_iald F 2 rfl i6 dX5_isOut_39 ?_
      refine nz_aload_n F dX5_isOut_40 rfl 0 rfl ?_
      refine nz_get F iw_X5_isOut_5 0 rfl rfl 11 (by decide) rfl fl_X5_isOut_18 rfl dX5_isOut_41 ?_
      refine nz_aload_n F dX5_isOut_44 rfl 0 rfl ?_
      refine nz_get F iw_X5_isOut_5 0 rfl rfl 13 (by decide) rfl fl_X5_isOut_24 rfl dX5_isOut_45 ?_
      refine nz_iload_n F dX5_isOut_48 rfl 1 rfl ?_
      obtain ⟨i7, h⟩ := h
      refine nz_iald F 5 rfl i7 dX5_isOut_49 ?_
      obtain ⟨i8, h⟩ := h
      refine nz_iald F 3 rfl i8 dX5_isOut_50 ?_
      refine nz_icmp_ne (tgt := 58) F dX5_isOut_51 (by decide) (fun c9 => ?_) (fun c9 => ?_)
      · have h := h.1 c9
        refine nz_iconst (v := 0) F dX5_isOut_58 (by decide) ?_
        exact nz_zret F hQ () h rfl (by decide) dX5_isOut_59
      · have h := h.2 c9
        refine nz_iconst (v := 1) F dX5_isOut_54 (by decide) ?_
        refine nz_goto (tgt := 59) F dX5_isOut_55 (by decide) ?_
        exact nz_zret F hQ () h rfl (by decide) dX5_isOut_59
  · have h := h.2 c2
    refine nz_iload_n F dX5_isOut_10 rfl 3 rfl ?_
    refine nz_iconst (v := 1) F dX5_isOut_11 (by decide) ?_
    refine nz_iand F dX5_isOut_12 ?_
    refine nz_if_ne (tgt := 20) F dX5_isOut_13 (by decide) (fun c10 => ?_) (fun c10 => ?_)
    · have h := h.1 c10
      refine nz_iconst (v := 0) F dX5_isOut_20 (by decide) ?_
      exact nz_zret F hQ () h rfl (by decide) dX5_isOut_21
    · have h := h.2 c10
      refine nz_iconst (v := 1) F dX5_isOut_16 (by decide) ?_
      refine nz_goto (tgt := 21) F dX5_isOut_17 (by decide) ?_
      exact nz_zret F hQ () h rfl (by decide) dX5_isOut_21
theorem k_X5_isOut_at {y : nz_Y} {g : nz_G} {k n : Nat} {ws : va_W} {pc : Nat} {ls : List (Nat × Value)} {st rest : List Value} {av : Array Value} {isC : List Nat} {K : Int32 → Prop} (o : Nat) (a9 : Nat) (a10 : Nat) (a11 : Nat) (a12 : Nat) (a13 : Nat) (a14 : Nat) (a15 : Nat) (a16 : Nat) (r0 : Int32) (r1 : Int32) (r2 : Int32) (r3 : Int32) (r4 : Int32) (r5 : Int32) (r6 : Int32) (r7 : Int32) (r8 : Int32) (f9 : Nat → Int32) (f10 : Nat → Int32) (f11 : Nat → Int32) (f12 : Nat → Int32) (f13 : Nat → Int32) (f14 : Nat → Int32) (f15 : Nat → Int32) (f16 : Nat → Int32) (v1 : Int32) (v3 : Int32) (run : nz_M (yz_l y) yX5_isOut wsX5_isOut rm_X5_isOut_at g [.ref o, .int v1, .ref a10, .int v3] [(o, .inr (5, [.int r0, .int r1, .int r2, .int r3, .int r4, .int r5, .int r6, .int r7, .int r8, .ref a9, .ref a10, .ref a11, .ref a12, .ref a13, .ref a14, .ref a15, .ref a16])), (a9, .inl (nz_cI g, 6, .inl f9)), (a10, .inl (nz_cI g, 6, .inl f10)), (a11, .inl (nz_cI g, 6, .inl f11)), (a12, .inl (nz_cI g, 5, .inl f12)), (a13, .inl (nz_cI g, 5, .inl f13)), (a14, .inl (nz_cI g, 5, .inl f14)), (a15, .inl (nz_cI g, 5, .inl f15)), (a16, .inl (nz_cI g, 48, .inl f16))] (nz_Qi g [(o, .inr (5, [.int r0, .int r1, .int r2, .int r3, .int r4, .int r5, .int r6, .int r7, .int r8, .ref a9, .ref a10, .ref a11, .ref a12, .ref a13, .ref a14, .ref a15, .ref a16])), (a9, .inl (nz_cI g, 6, .inl f9)), (a10, .inl (nz_cI g, 6, .inl f10)), (a11, .inl (nz_cI g, 6, .inl f11)), (a12, .inl (nz_cI g, 5, .inl f12)), (a13, .inl (nz_cI g, 5, .inl f13)), (a14, .inl (nz_cI g, 5, .inl f14)), (a15, .inl (nz_cI g, 5, .inl f15)), (a16, .inl (nz_cI g, 48, .inl f16))] (fun r (u : Unit) => K r) (fun u => [(o, .inr (5, [.int r0, .int r1, .int r2, .int r3, .int r4, .int r5, .int r6, .int r7, .int r8, .ref a9, .ref a10, .ref a11, .ref a12, .ref a13, .ref a14, .ref a15, .ref a16])), (a9, .inl (nz_cI g, 6, .inl f9)), (a10, .inl (nz_cI g, 6, .inl f10)), (a11, .inl (nz_cI g, 6, .inl f11)), (a12, .inl (nz_cI g, 5, .inl f12)), (a13, .inl (nz_cI g, 5, .inl f13)), (a14, .inl (nz_cI g, 5, .inl f14)), (a15, .inl (nz_cI g, 5, .inl f15)), (a16, .inl (nz_cI g, 48, .inl f16))])) → nz_C y g k n ws pc ls st rest [(o, .inr (5, [.int r0, .int r1, .int r2, .int r3, .int r4, .int r5, .int r6, .int r7, .int r8, .ref a9, .ref a10, .ref a11, .ref a12, .ref a13, .ref a14, .ref a15, .ref a16])), (a9, .inl (nz_cI g, 6, .inl f9)), (a10, .inl (nz_cI g, 6, .inl f10)), (a11, .inl (nz_cI g, 6, .inl f11)), (a12, .inl (nz_cI g, 5, .inl f12)), (a13, .inl (nz_cI g, 5, .inl f13)), (a14, .inl (nz_cI g, 5, .inl f14)), (a15, .inl (nz_cI g, 5, .inl f15)), (a16, .inl (nz_cI g, 48, .inl f16))] (nz_Qi g [(o, .inr (5, [.int r0, .int r1, .int r2, .int r3, .int r4, .int r5, .int r6, .int r7, .int r8, .ref a9, .ref a10, .ref a11, .ref a12, .ref a13, .ref a14, .ref a15, .ref a16])), (a9, .inl (nz_cI g, 6, .inl f9)), (a10, .inl (nz_cI g, 6, .inl f10)), (a11, .inl (nz_cI g, 6, .inl f11)), (a12, .inl (nz_cI g, 5, .inl f12)), (a13, .inl (nz_cI g, 5, .inl f13)), (a14, .inl (nz_cI g, 5, .inl f14)), (a15, .inl (nz_cI g, 5, .inl f15)), (a16, .inl (nz_cI g, 48, .inl f16))] (fun r (u : Unit) => K r) (fun u => [(o, .inr (5, [.int r0, .int r1, .int r2, .int r3, .int r4, .int r5, .int r6, .int r7, .int r8, .ref a9, .ref a10, .ref a11, .ref a12, .ref a13, .ref a14, .ref a15, .ref a16])), (a9, .inl (nz_cI g, 6, .inl f9)), (a10, .inl (nz_cI g, 6, .inl f10)), (a11, .inl (nz_cI g, 6, .inl f11)), (a12, .inl (nz_cI g, 5, .inl f12)), (a13, .inl (nz_cI g, 5, .inl f13)), (a14, .inl (nz_cI g, 5, .inl f14)), (a15, .inl (nz_cI g, 5, .inl f15)), (a16, .inl (nz_cI g, 48, .inl f16))])) av isC) (h : wp_X5_isOut_at f10 f11 f12 f13 v1 v3 K) (ws' : va_W) (hm : nz_mrg ws isC [(o, .inr (5, [.int r0, .int r1, .int r2, .int r3, .int r4, .int r5, .int r6, .int r7, .int r8, .ref a9, .ref a10, .ref a11, .ref a12, .ref a13, .ref a14, .ref a15, .ref a16])), (a9, .inl (nz_cI g, 6, .inl f9)), (a10, .inl (nz_cI g, 6, .inl f10)), (a11, .inl (nz_cI g, 6, .inl f11)), (a12, .inl (nz_cI g, 5, .inl f12)), (a13, .inl (nz_cI g, 5, .inl f13)), (a14, .inl (nz_cI g, 5, .inl f14)), (a15, .inl (nz_cI g, 5, .inl f15)), (a16, .inl (nz_cI g, 48, .inl f16))] = ws' ) (kk : ∀ (r : Int32), K r → nz_V y g k n ws' (pc + 3) ls (.int r :: rest)) : nz_V y g k n ws pc ls st :=
  nz_ci (ws' := fun _ => ws') (run (c_X5_isOut_at (yz_l y) g o a9 a10 a11 a12 a13 a14 a15 a16 r0 r1 r2 r3 r4 r5 r6 r7 r8 f9 f10 f11 f12 f13 f14 f15 f16 v1 v3 K h)) (fun _ => rfl) (fun _ => hm) (fun r u h => kk r h)
theorem dX5_push_0 : decode cX5_push 0 = .ok (.aload_n 0, 1) := by decide +kernel
theorem dX5_push_1 : decode cX5_push 1 = .ok (.getfield 24, 3) := by decide +kernel
theorem dX5_push_4 : decode cX5_push 4 = .ok (.iload_n 1, 1) := by decide +kernel
theorem dX5_push_5 : decode cX5_push 5 = .ok (.iaload, 1) := by decide +kernel
theorem dX5_push_6 : decode cX5_push 6 = .ok (.istore 4, 2) := by decide +kernel
theorem dX5_push_8 : decode cX5_push 8 = .ok (.aload_n 0, 1) := by decide +kernel
theorem dX5_push_9 : decode cX5_push 9 = .ok (.getfield 21, 3) := by decide +kernel
theorem dX5_push_12 : decode cX5_push 12 = .ok (.iload_n 1, 1) := by decide +kernel
theorem dX5_push_13 : decode cX5_push 13 = .ok (.iaload, 1) := by decide +kernel
theorem dX5_push_14 : decode cX5_push 14 = .ok (.iconst 2, 1) := by decide +kernel
theorem dX5_push_15 : decode cX5_push 15 = .ok (.if_icmp .ne 14, 3) := by decide +kernel
theorem dX5_push_18 : decode cX5_push 18 = .ok (.iconst 2, 1) := by decide +kernel
theorem dX5_push_19 : decode cX5_push 19 = .ok (.aload_n 0, 1) := by decide +kernel
theorem dX5_push_20 : decode cX5_push 20 = .ok (.getfield 30, 3) := by decide +kernel
theorem dX5_push_23 : decode cX5_push 23 = .ok (.iload_n 1, 1) := by decide +kernel
theorem dX5_push_24 : decode cX5_push 24 = .ok (.iaload, 1) := by decide +kernel
theorem dX5_push_25 : decode cX5_push 25 = .ok (.imul, 1) := by decide +kernel
theorem dX5_push_26 : decode cX5_push 26 = .ok (.goto 9, 3) := by decide +kernel
theorem dX5_push_29 : decode cX5_push 29 = .ok (.aload_n 0, 1) := by decide +kernel
theorem dX5_push_30 : decode cX5_push 30 = .ok (.getfield 30, 3) := by decide +kernel
theorem dX5_push_33 : decode cX5_push 33 = .ok (.iload_n 1, 1) := by decide +kernel
theorem dX5_push_34 : decode cX5_push 34 = .ok (.iaload, 1) := by decide +kernel
theorem dX5_push_35 : decode cX5_push 35 = .ok (.istore 5, 2) := by decide +kernel
theorem dX5_push_37 : decode cX5_push 37 = .ok (.aload_n 0, 1) := by decide +kernel
theorem dX5_push_38 : decode cX5_push 38 = .ok (.iload_n 1, 1) := by decide +kernel
theorem dX5_push_39 : decode cX5_push 39 = .ok (.iload_n 3, 1) := by decide +kernel
theorem dX5_push_40 : decode cX5_push 40 = .ok (.invokevirtual 100, 3) := by decide +kernel
theorem dX5_push_43 : decode cX5_push 43 = .ok (.iconst 1, 1) := by decide +kernel
theorem dX5_push_44 : decode cX5_push 44 = .ok (.if_icmp .ne 50, 3) := by decide +kernel
theorem dX5_push_47 : decode cX5_push 47 = .ok (.iload 4, 2) := by decide +kernel
theorem dX5_push_49 : decode cX5_push 49 = .ok (.iconst 1, 1) := by decide +kernel
theorem dX5_push_50 : decode cX5_push 50 = .ok (.iadd, 1) := by decide +kernel
theorem dX5_push_51 : decode cX5_push 51 = .ok (.aload_n 0, 1) := by decide +kernel
theorem dX5_push_52 : decode cX5_push 52 = .ok (.getfield 56, 3) := by decide +kernel
theorem dX5_push_55 : decode cX5_push 55 = .ok (.if_icmp .ge 14, 3) := by decide +kernel
theorem dX5_push_58 : decode cX5_push 58 = .ok (.aload_n 2, 1) := by decide +kernel
theorem dX5_push_59 : decode cX5_push 59 = .ok (.iload 4, 2) := by decide +kernel
theorem dX5_push_61 : decode cX5_push 61 = .ok (.iconst 1, 1) := by decide +kernel
theorem dX5_push_62 : decode cX5_push 62 = .ok (.iadd, 1) := by decide +kernel
theorem dX5_push_63 : decode cX5_push 63 = .ok (.iaload, 1) := by decide +kernel
theorem dX5_push_64 : decode cX5_push 64 = .ok (.iconst 1, 1) := by decide +kernel
theorem dX5_push_65 : decode cX5_push 65 = .ok (.isub, 1) := by decide +kernel
theorem dX5_push_66 : decode cX5_push 66 = .ok (.goto 7, 3) := by decide +kernel
theorem dX5_push_69 : decode cX5_push 69 = .ok (.aload_n 0, 1) := by decide +kernel
theorem dX5_push_70 : decode cX5_push 70 = .ok (.getfield 40, 3) := by decide +kernel
theorem dX5_push_73 : decode cX5_push 73 = .ok (.istore 6, 2) := by decide +kernel
theorem dX5_push_75 : decode cX5_push 75 = .ok (.aload_n 2, 1) := by decide +kernel
theorem dX5_push_76 : decode cX5_push 76 = .ok (.iload 4, 2) := by decide +kernel
theorem dX5_push_78 : decode cX5_push 78 = .ok (.aload_n 2, 1) := by decide +kernel
theorem dX5_push_79 : decode cX5_push 79 = .ok (.iload 4, 2) := by decide +kernel
theorem dX5_push_81 : decode cX5_push 81 = .ok (.iaload, 1) := by decide +kernel
theorem dX5_push_82 : decode cX5_push 82 = .ok (.iload 5, 2) := by decide +kernel
theorem dX5_push_84 : decode cX5_push 84 = .ok (.iadd, 1) := by decide +kernel
theorem dX5_push_85 : decode cX5_push 85 = .ok (.iload 6, 2) := by decide +kernel
theorem dX5_push_87 : decode cX5_push 87 = .ok (.invokestatic 83, 3) := by decide +kernel
theorem dX5_push_90 : decode cX5_push 90 = .ok (.iastore, 1) := by decide +kernel
theorem dX5_push_91 : decode cX5_push 91 = .ok (.goto 38, 3) := by decide +kernel
theorem dX5_push_94 : decode cX5_push 94 = .ok (.iload 4, 2) := by decide +kernel
theorem dX5_push_96 : decode cX5_push 96 = .ok (.ifCond .le 14, 3) := by decide +kernel
theorem dX5_push_99 : decode cX5_push 99 = .ok (.aload_n 2, 1) := by decide +kernel
theorem dX5_push_100 : decode cX5_push 100 = .ok (.iload 4, 2) := by decide +kernel
theorem dX5_push_102 : decode cX5_push 102 = .ok (.iconst 1, 1) := by decide +kernel
theorem dX5_push_103 : decode cX5_push 103 = .ok (.isub, 1) := by decide +kernel
theorem dX5_push_104 : decode cX5_push 104 = .ok (.iaload, 1) := by decide +kernel
theorem dX5_push_105 : decode cX5_push 105 = .ok (.iconst 1, 1) := by decide +kernel
theorem dX5_push_106 : decode cX5_push 106 = .ok (.iadd, 1) := by decide +kernel
theorem dX5_push_107 : decode cX5_push 107 = .ok (.goto 4, 3) := by decide +kernel
theorem dX5_push_110 : decode cX5_push 110 = .ok (.iconst 0, 1) := by decide +kernel
theorem dX5_push_111 : decode cX5_push 111 = .ok (.istore 6, 2) := by decide +kernel
theorem dX5_push_113 : decode cX5_push 113 = .ok (.aload_n 2, 1) := by decide +kernel
theorem dX5_push_114 : decode cX5_push 114 = .ok (.iload 4, 2) := by decide +kernel
theorem dX5_push_116 : decode cX5_push 116 = .ok (.aload_n 2, 1) := by decide +kernel
theorem dX5_push_117 : decode cX5_push 117 = .ok (.iload 4, 2) := by decide +kernel
theorem dX5_push_119 : decode cX5_push 119 = .ok (.iaload, 1) := by decide +kernel
theorem dX5_push_120 : decode cX5_push 120 = .ok (.iload 5, 2) := by decide +kernel
theorem dX5_push_122 : decode cX5_push 122 = .ok (.isub, 1) := by decide +kernel
theorem dX5_push_123 : decode cX5_push 123 = .ok (.iload 6, 2) := by decide +kernel
theorem dX5_push_125 : decode cX5_push 125 = .ok (.invokestatic 89, 3) := by decide +kernel
theorem dX5_push_128 : decode cX5_push 128 = .ok (.iastore, 1) := by decide +kernel
theorem dX5_push_129 : decode cX5_push 129 = .ok (.return_, 1) := by decide +kernel
set_option maxRecDepth 20000 in
theorem ggX5_push_X5_wayIn : GoodIn wsX5_push wsX5_wayIn := goodIn_r _ [17, 2, 18, 19, 20, 21, 22, 23, 24, 25, 26, 27, 28, 29, 30, 31, 32, 33, 34, 35] rfl (by decide +kernel)
set_option maxRecDepth 20000 in
theorem gX5_push_X5_wayIn : GoodIn wsX5_push (wsV RX5 100 RX5 yX5_wayIn wsX5_wayIn) := goodIn_app (goodIn_r _ [13, 14, 15, 16] rfl (by decide +kernel)) ggX5_push_X5_wayIn
theorem hd_X5_wayIn : yX5_wayIn.cls = RX5 ∧ yX5_wayIn.cls ≠ "java/lang/invoke/MethodHandle" ∧ yX5_wayIn.cls ≠ "java/lang/invoke/VarHandle" ∧ (parseMethodDescriptor yX5_wayIn.desc).map (fun d => d.parameters.length) = some 2 := by decide +kernel
/-! X5_push _at -/
abbrev rm_X5_push_at : Room := { frames := 1, cells := 0, slots := 0, locals := 23 }
theorem iw_X5_push_5 : ∀ w ∈ wsX50, w ∈ wsX5_push := fun _ h => List.mem_cons_of_mem _ (List.mem_append_right _ h)
theorem fl_X5_push_24 : Cond.fieldLink RX5 24 "NightStones$Road" "pushed" "[I" ∈ wsX5_push := List.mem_of_getElem? (i := 1) rfl
theorem fl_X5_push_21 : Cond.fieldLink RX5 21 "NightStones$Road" "kinds" "[I" ∈ wsX5_push := List.mem_of_getElem? (i := 2) rfl
theorem fl_X5_push_30 : Cond.fieldLink RX5 30 "NightStones$Road" "reach" "[I" ∈ wsX5_push := List.mem_of_getElem? (i := 3) rfl
theorem wd_X5_push_max0 : Cond.methodLink RX5 89 Lib.Math.max.name ∈ wsX5_push := List.mem_of_getElem? (i := 10) rfl
theorem wd_X5_push_max1 : Cond.static Lib.Math.max.name ∈ wsX5_push := List.mem_of_getElem? (i := 11) rfl
theorem wd_X5_push_max2 : Cond.initialized "java/lang/Math" ∈ wsX5_push := List.mem_of_getElem? (i := 8) rfl
theorem wd_X5_push_max3 : Cond.code Lib.Math.max.name Lib.Math.max.code 2 (some .int) ∈ wsX5_push := List.mem_of_getElem? (i := 12) rfl
theorem fl_X5_push_56 : Cond.fieldLink RX5 56 "NightStones$Road" "stones" "I" ∈ wsX5_push := List.mem_of_getElem? (i := 4) rfl
theorem fl_X5_push_40 : Cond.fieldLink RX5 40 "NightStones$Road" "length" "I" ∈ wsX5_push := List.mem_of_getElem? (i := 5) rfl
theorem wd_X5_push_min0 : Cond.methodLink RX5 83 Lib.Math.min.name ∈ wsX5_push := List.mem_of_getElem? (i := 6) rfl
theorem wd_X5_push_min1 : Cond.static Lib.Math.min.name ∈ wsX5_push := List.mem_of_getElem? (i := 7) rfl
theorem wd_X5_push_min2 : Cond.initialized "java/lang/Math" ∈ wsX5_push := List.mem_of_getElem? (i := 8) rfl
theorem wd_X5_push_min3 : Cond.code Lib.Math.min.name Lib.Math.min.code 2 (some .int) ∈ wsX5_push := List.mem_of_getElem? (i := 9) rfl
def S_X5_push_at_35 (r1 : Int32) (r6 : Int32) (f12 : Nat → Int32) (f14 : Nat → Int32) (v1 : Int32) (v3 : Int32) (x4 : Int32) (s0 : Int32) (f10 : Nat → Int32) (K : (Nat → Int32) → Prop) : Prop := wp_X5_wayIn f12 f14 v1 v3 (fun q5 => ((¬ q5 = 1 → ((x4 ≤ 0 → (vp_in x4 6 ∧ (∀ w9 : Int32, w9 = (if ((f10 x4.toNatClampNeg) - s0) < 0 then 0 else ((f10 x4.toNatClampNeg) - s0)) → (vp_in x4 6 ∧ K (upd f10 x4.toNatClampNeg w9))))) ∧ (¬ (x4 ≤ 0) → (vp_in (x4 - 1) 6 ∧ (vp_in x4 6 ∧ (∀ w13 : Int32, w13 = (if ((f10 x4.toNatClampNeg) - s0) < ((f10 (x4 - 1).toNatClampNeg) + 1) then ((f10 (x4 - 1).toNatClampNeg) + 1) else ((f10 x4.toNatClampNeg) - s0)) → (vp_in x4 6 ∧ K (upd f10 x4.toNatClampNeg w13)))))))) ∧ (q5 = 1 → ((r6 ≤ (x4 + 1) → (vp_in x4 6 ∧ (∀ w17 : Int32, w17 = (if r1 < ((f10 x4.toNatClampNeg) + s0) then r1 else ((f10 x4.toNatClampNeg) + s0)) → (vp_in x4 6 ∧ K (upd f10 x4.toNatClampNeg w17))))) ∧ (¬ (r6 ≤ (x4 + 1)) → (vp_in (x4 + 1) 6 ∧ (vp_in x4 6 ∧ (∀ w21 : Int32, w21 = (if ((f10 (x4 + 1).toNatClampNeg) - 1) < ((f10 x4.toNatClampNeg) + s0) then ((f10 (x4 + 1).toNatClampNeg) - 1) else ((f10 x4.toNatClampNeg) + s0)) → (vp_in x4 6 ∧ K (upd f10 x4.toNatClampNeg w21))))))))))
set_option maxHeartbeats 4000000 in
set_option maxRecDepth 100000 in
theorem t_X5_push_at_35 {y : nz_Y} {g : nz_G} (F : nz_F y g cX5_push 7 wsX5_push RX5 none rm_X5_push_at) {wc0 : va_W} {sz : Nat} {K : (Nat → Int32) → Prop} (o : Nat) (a9 : Nat) (a10 : Nat) (a11 : Nat) (a12 : Nat) (a13 : Nat) (a14 : Nat) (a15 : Nat) (a16 : Nat) (r0 : Int32) (r1 : Int32) (r2 : Int32) (r3 : Int32) (r4 : Int32) (r5 : Int32) (r6 : Int32) (r7 : Int32) (r8 : Int32) (f9 : Nat → Int32) (f11 : Nat → Int32) (f12 : Nat → Int32) (f13 : Nat → Int32) (f14 : Nat → Int32) (f15 : Nat → Int32) (f16 : Nat → Int32) (v1 : Int32) (v3 : Int32) (x4 : Int32) (s0 : Int32) (f10 : Nat → Int32) (hQ : yz_A y = va_A wc0 sz ∧ yz_Q y = MQ (yz_b y) ((nz_Qv g wc0 (fun (u : (Nat → Int32)) => K u) (fun u => [(o, .inr (5, [.int r0, .int r1, .int r2, .int r3, .int r4, .int r5, .int r6, .int r7, .int r8, .ref a9, .ref a10, .ref a11, .ref a12, .ref a13, .ref a14, .ref a15, .ref a16])), (a9, .inl (nz_cI g, 6, .inl f9)), (a10, .inl (nz_cI g, 6, .inl u)), (a11, .inl (nz_cI g, 6, .inl f11)), (a12, .inl (nz_cI g, 5, .inl f12)), (a13, .inl (nz_cI g, 5, .inl f13)), (a14, .inl (nz_cI g, 5, .inl f14)), (a15, .inl (nz_cI g, 5, .inl f15)), (a16, .inl (nz_cI g, 48, .inl f16))])) sz) (yz_a y) (yz_s y) 0 0 (va_A wc0 sz)) : S_X5_push_at_35 r1 r6 f12 f14 v1 v3 x4 s0 f10 K → nz_V y g 0 0 [(o, .inr (5, [.int r0, .int r1, .int r2, .int r3, .int r4, .int r5, .int r6, .int r7, .int r8, .ref a9, .ref a10, .ref a11, .ref a12, .ref a13, .ref a14, .ref a15, .ref a16])), (a9, .inl (nz_cI g, 6, .inl f9)), (a10, .inl (nz_cI g, 6, .inl f10)), (a11, .inl (nz_cI g, 6, .inl f11)), (a12, .inl (nz_cI g, 5, .inl f12)), (a13, .inl (nz_cI g, 5, .inl f13)), (a14, .inl (nz_cI g, 5, .inl f14)), (a15, .inl (nz_cI g, 5, .inl f15)), (a16, .inl (nz_cI g, 48, .inl f16))] 35 [(0, .ref o), (1, .int v1), (2, .ref a10), (3, .int v3), (4, .int x4)] [.int s0] := by
  intro h
  unfold S_X5_push_at_35 at h
  refine nz_istore (lv' := [(5, .int s0), (0, .ref o), (1, .int v1), (2, .ref a10), (3, .int v3), (4, .int x4)]) F dX5_push_35 (by decide) rfl ?_
  refine nz_aload_n F dX5_push_37 rfl 1 rfl ?_
  refine nz_iload_n F dX5_push_38 rfl 2 rfl ?_
  refine nz_iload_n F dX5_push_39 rfl 4 rfl ?_
  refine k_X5_wayIn o a9 a10 a11 a12 a13 a14 a15 a16 r0 r1 r2 r3 r4 r5 r6 r7 r8 f9 f10 f11 f12 f13 f14 f15 f16 v1 v3 (fun hM => nz_runV F gX5_push_X5_wayIn rfl hd_X5_wayIn rfl hM dX5_push_40 [0, 1, 2, 3, 4, 5, 6, 7, 8] rfl rfl 0 rfl rfl rfl (Nat.le_of_ble_eq_true rfl) rfl) h ([(o, .inr (5, [.int r0, .int r1, .int r2, .int r3, .int r4, .int r5, .int r6, .int r7, .int r8, .ref a9, .ref a10, .ref a11, .ref a12, .ref a13, .ref a14, .ref a15, .ref a16])), (a9, .inl (nz_cI g, 6, .inl f9)), (a10, .inl (nz_cI g, 6, .inl f10)), (a11, .inl (nz_cI g, 6, .inl f11)), (a12, .inl (nz_cI g, 5, .inl f12)), (a13, .inl (nz_cI g, 5, .inl f13)), (a14, .inl (nz_cI g, 5, .inl f14)), (a15, .inl (nz_cI g, 5, .inl f15)), (a16, .inl (nz_cI g, 48, .inl f16))]) (rfl) (fun q5 h => ?_)
  refine nz_iconst (v := 1) F dX5_push_43 (by decide) ?_
  refine nz_icmp_ne (tgt := 94) F dX5_push_44 (by decide) (fun c6 => ?_) (fun c6 => ?_)
  · have h := h.1 c6
    refine nz_iload F dX5_push_94 5 rfl ?_
    refine nz_if_le (tgt := 110) F dX5_push_96 (by decide) (fun c7 => ?_) (fun c7 => ?_)
    · have h := h.1 c7
      refine nz_iconst (v := 0) F dX5_push_110 (by decide) ?_
      refine nz_istore (lv' := [(6, .int 0), (5, .int s0), (0, .ref o), (1, .int v1), (2, .ref a10), (3, .int v3), (4, .int x4)]) F dX5_push_111 (by decide) rfl ?_
      refine nz_aload_n F dX5_push_113 rfl 4 rfl ?_
      refine nz_iload F dX5_push_114 6 rfl ?_
      refine nz_aload_n F dX5_push_116 rfl 4 rfl ?_
      refine nz_iload F dX5_push_117 6 rfl ?_
      obtain ⟨i8, h⟩ := h
      refine nz_iald F 2 rfl i8 dX5_push_119 ?_
      refine nz_iload F dX5_push_120 1 rfl ?_
      refine nz_isub F dX5_push_122 ?_
      refine nz_iload F dX5_push_123 0 rfl ?_
      refine nz_mmax F wd_X5_push_max0 wd_X5_push_max1 wd_X5_push_max2 wd_X5_push_max3 rfl (Nat.le_of_ble_eq_true rfl) ⟨Nat.le_of_ble_eq_true rfl, Nat.le_of_ble_eq_true rfl⟩ dX5_push_125 ?_
      refine nz_topi (fun w9 ew9 => ?_)
      have h := h w9 ew9
      obtain ⟨i10, h⟩ := h
      refine nz_iast (ws' := [(o, .inr (5, [.int r0, .int r1, .int r2, .int r3, .int r4, .int r5, .int r6, .int r7, .int r8, .ref a9, .ref a10, .ref a11, .ref a12, .ref a13, .ref a14, .ref a15, .ref a16])), (a9, .inl (nz_cI g, 6, .inl f9)), (a10, .inl (nz_cI g, 6, .inl (upd f10 x4.toNatClampNeg w9))), (a11, .inl (nz_cI g, 6, .inl f11)), (a12, .inl (nz_cI g, 5, .inl f12)), (a13, .inl (nz_cI g, 5, .inl f13)), (a14, .inl (nz_cI g, 5, .inl f14)), (a15, .inl (nz_cI g, 5, .inl f15)), (a16, .inl (nz_cI g, 48, .inl f16))]) F 2 rfl i10 dX5_push_128 rfl ?_
      exact nz_vret F hQ (upd f10 x4.toNatClampNeg w9) h rfl dX5_push_129
    · have h := h.2 c7
      refine nz_aload_n F dX5_push_99 rfl 3 rfl ?_
      refine nz_iload F dX5_push_100 5 rfl ?_
      refine nz_iconst (v := 1) F dX5_push_102 (by decide) ?_
      refine nz_isub F dX5_push_103 ?_
      obtain ⟨i11, h⟩ := h
      refine nz_iald F 2 rfl i11 dX5_push_104 ?_
      refine nz_iconst (v := 1) F dX5_push_105 (by decide) ?_
      refine nz_iadd F dX5_push_106 ?_
      refine nz_goto (tgt := 111) F dX5_push_107 (by decide) ?_
      refine nz_istore (lv' := [(6, .int ((f10 (x4 - 1).toNatClampNeg) + 1)), (5, .int s0), (0, .ref o), (1, .int v1), (2, .ref a10), (3, .int v3), (4, .int x4)]) F dX5_push_111 (by decide) rfl ?_
      refine nz_aload_n F dX5_push_113 rfl 4 rfl ?_
      refine nz_iload F dX5_push_114 6 rfl ?_
      refine nz_aload_n F dX5_push_116 rfl 4 rfl ?_
      refine nz_iload F dX5_push_117 6 rfl ?_
      obtain ⟨i12, h⟩ := h
      refine nz_iald F 2 rfl i12 dX5_push_119 ?_
      refine nz_iload F dX5_push_120 1 rfl ?_
      refine nz_isub F dX5_push_122 ?_
      refine nz_iload F dX5_push_123 0 rfl ?_
      refine nz_mmax F wd_X5_push_max0 wd_X5_push_max1 wd_X5_push_max2 wd_X5_push_max3 rfl (Nat.le_of_ble_eq_true rfl) ⟨Nat.le_of_ble_eq_true rfl, Nat.le_of_ble_eq_true rfl⟩ dX5_push_125 ?_
      refine nz_topi (fun w13 ew13 => ?_)
      have h := h w13 ew13
      obtain ⟨i14, h⟩ := h
      refine nz_iast (ws' := [(o, .inr (5, [.int r0, .int r1, .int r2, .int r3, .int r4, .int r5, .int r6, .int r7, .int r8, .ref a9, .ref a10, .ref a11, .ref a12, .ref a13, .ref a14, .ref a15, .ref a16])), (a9, .inl (nz_cI g, 6, .inl f9)), (a10, .inl (nz_cI g, 6, .inl (upd f10 x4.toNatClampNeg w13))), (a11, .inl (nz_cI g, 6, .inl f11)), (a12, .inl (nz_cI g, 5, .inl f12)), (a13, .inl (nz_cI g, 5, .inl f13)), (a14, .inl (nz_cI g, 5, .inl f14)), (a15, .inl (nz_cI g, 5, .inl f15)), (a16, .inl (nz_cI g, 48, .inl f16))]) F 2 rfl i14 dX5_push_128 rfl ?_
      exact nz_vret F hQ (upd f10 x4.toNatClampNeg w13) h rfl dX5_push_129
  · have h := h.2 c6
    refine nz_iload F dX5_push_47 5 rfl ?_
    refine nz_iconst (v := 1) F dX5_push_49 (by decide) ?_
    refine nz_iadd F dX5_push_50 ?_
    refine nz_aload_n F dX5_push_51 rfl 1 rfl ?_
    refine nz_get F iw_X5_push_5 0 rfl rfl 6 (by decide) rfl fl_X5_push_56 rfl dX5_push_52 ?_
    refine nz_icmp_ge (tgt := 69) F dX5_push_55 (by decide) (fun c15 => ?_) (fun c15 => ?_)
    · have h := h.1 c15
      refine nz_aload_n F dX5_push_69 rfl 1 rfl ?_
      refine nz_get F iw_X5_push_5 0 rfl rfl 1 (by decide) rfl fl_X5_push_40 rfl dX5_push_70 ?_
      refine nz_istore (lv' := [(6, .int r1), (5, .int s0), (0, .ref o), (1, .int v1), (2, .ref a10), (3, .int v3), (4, .int x4)]) F dX5_push_73 (by decide) rfl ?_
      refine nz_aload_n F dX5_push_75 rfl 4 rfl ?_
      refine nz_iload F dX5_push_76 6 rfl ?_
      refine nz_aload_n F dX5_push_78 rfl 4 rfl ?_
      refine nz_iload F dX5_push_79 6 rfl ?_
      obtain ⟨i16, h⟩ := h
      refine nz_iald F 2 rfl i16 dX5_push_81 ?_
      refine nz_iload F dX5_push_82 1 rfl ?_
      refine nz_iadd F dX5_push_84 ?_
      refine nz_iload F dX5_push_85 0 rfl ?_
      refine nz_mmin F wd_X5_push_min0 wd_X5_push_min1 wd_X5_push_min2 wd_X5_push_min3 rfl (Nat.le_of_ble_eq_true rfl) ⟨Nat.le_of_ble_eq_true rfl, Nat.le_of_ble_eq_true rfl⟩ dX5_push_87 ?_
      refine nz_topi (fun w17 ew17 => ?_)
      have h := h w17 ew17
      obtain ⟨i18, h⟩ := h
      refine nz_iast (ws' := [(o, .inr (5, [.int r0, .int r1, .int r2, .int r3, .int r4, .int r5, .int r6, .int r7, .int r8, .ref a9, .ref a10, .ref a11, .ref a12, .ref a13, .ref a14, .ref a15, .ref a16])), (a9, .inl (nz_cI g, 6, .inl f9)), (a10, .inl (nz_cI g, 6, .inl (upd f10 x4.toNatClampNeg w17))), (a11, .inl (nz_cI g, 6, .inl f11)), (a12, .inl (nz_cI g, 5, .inl f12)), (a13, .inl (nz_cI g, 5, .inl f13)), (a14, .inl (nz_cI g, 5, .inl f14)), (a15, .inl (nz_cI g, 5, .inl f15)), (a16, .inl (nz_cI g, 48, .inl f16))]) F 2 rfl i18 dX5_push_90 rfl ?_
      refine nz_goto (tgt := 129) F dX5_push_91 (by decide) ?_
      exact nz_vret F hQ (upd f10 x4.toNatClampNeg w17) h rfl dX5_push_129
    · have h := h.2 c15
      refine nz_aload_n F dX5_push_58 rfl 3 rfl ?_
      refine nz_iload F dX5_push_59 5 rfl ?_
      refine nz_iconst (v := 1) F dX5_push_61 (by decide) ?_
      refine nz_iadd F dX5_push_62 ?_
      obtain ⟨i19, h⟩ := h
      refine nz_iald F 2 rfl i19 dX5_push_63 ?_
      refine nz_iconst (v := 1) F dX5_push_64 (by decide) ?_
      refine nz_isub F dX5_push_65 ?_
      refine nz_goto (tgt := 73) F dX5_push_66 (by decide) ?_
      refine nz_istore (lv' := [(6, .int ((f10 (x4 + 1).toNatClampNeg) - 1)), (5, .int s0), (0, .ref o), (1, .int v1), (2, .ref a10), (3, .int v3), (4, .int x4)]) F dX5_push_73 (by decide) rfl ?_
      refine nz_aload_n F dX5_push_75 rfl 4 rfl ?_
      refine nz_iload F dX5_push_76 6 rfl ?_
      refine nz_aload_n F dX5_push_78 rfl 4 rfl ?_
      refine nz_iload F dX5_push_79 6 rfl ?_
      obtain ⟨i20, h⟩ := h
      refine nz_iald F 2 rfl i20 dX5_push_81 ?_
      refine nz_iload F dX5_push_82 1 rfl ?_
      refine nz_iadd F dX5_push_84 ?_
      refine nz_iload F dX5_push_85 0 rfl ?_
      refine nz_mmin F wd_X5_push_min0 wd_X5_push_min1 wd_X5_push_min2 wd_X5_push_min3 rfl (Nat.le_of_ble_eq_true rfl) ⟨Nat.le_of_ble_eq_true rfl, Nat.le_of_ble_eq_true rfl⟩ dX5_push_87 ?_
      refine nz_topi (fun w21 ew21 => ?_)
      have h := h w21 ew21
      obtain ⟨i22, h⟩ := h
      refine nz_iast (ws' := [(o, .inr (5, [.int r0, .int r1, .int r2, .int r3, .int r4, .int r5, .int r6, .int r7, .int r8, .ref a9, .ref a10, .ref a11, .ref a12, .ref a13, .ref a14, .ref a15, .ref a16])), (a9, .inl (nz_cI g, 6, .inl f9)), (a10, .inl (nz_cI g, 6, .inl (upd f10 x4.toNatClampNeg w21))), (a11, .inl (nz_cI g, 6, .inl f11)), (a12, .inl (nz_cI g, 5, .inl f12)), (a13, .inl (nz_cI g, 5, .inl f13)), (a14, .inl (nz_cI g, 5, .inl f14)), (a15, .inl (nz_cI g, 5, .inl f15)), (a16, .inl (nz_cI g, 48, .inl f16))]) F 2 rfl i22 dX5_push_90 rfl ?_
      refine nz_goto (tgt := 129) F dX5_push_91 (by decide) ?_
      exact nz_vret F hQ (upd f10 x4.toNatClampNeg w21) h rfl dX5_push_129
def wp_X5_push_at (r1 : Int32) (r6 : Int32) (f10 : Nat → Int32) (f12 : Nat → Int32) (f13 : Nat → Int32) (f14 : Nat → Int32) (f15 : Nat → Int32) (v1 : Int32) (v3 : Int32) (K : (Nat → Int32) → Prop) : Prop := (vp_in v1 5 ∧ (vp_in v1 5 ∧ ((¬ (f12 v1.toNatClampNeg) = 2 → (vp_in v1 5 ∧ S_X5_push_at_35 r1 r6 f12 f14 v1 v3 (f13 v1.toNatClampNeg) (f15 v1.toNatClampNeg) f10 K)) ∧ ((f12 v1.toNatClampNeg) = 2 → (vp_in v1 5 ∧ S_X5_push_at_35 r1 r6 f12 f14 v1 v3 (f13 v1.toNatClampNeg) (2 * (f15 v1.toNatClampNeg)) f10 K)))))
set_option maxHeartbeats 4000000 in
set_option maxRecDepth 100000 in
theorem c_X5_push_at (l : Launch) (g : nz_G) (o : Nat) (a9 : Nat) (a10 : Nat) (a11 : Nat) (a12 : Nat) (a13 : Nat) (a14 : Nat) (a15 : Nat) (a16 : Nat) (r0 : Int32) (r1 : Int32) (r2 : Int32) (r3 : Int32) (r4 : Int32) (r5 : Int32) (r6 : Int32) (r7 : Int32) (r8 : Int32) (f9 : Nat → Int32) (f10 : Nat → Int32) (f11 : Nat → Int32) (f12 : Nat → Int32) (f13 : Nat → Int32) (f14 : Nat → Int32) (f15 : Nat → Int32) (f16 : Nat → Int32) (v1 : Int32) (v3 : Int32) (K : (Nat → Int32) → Prop) (h : wp_X5_push_at r1 r6 f10 f12 f13 f14 f15 v1 v3 K) : nz_M l yX5_push wsX5_push rm_X5_push_at g [.ref o, .int v1, .ref a10, .int v3] [(o, .inr (5, [.int r0, .int r1, .int r2, .int r3, .int r4, .int r5, .int r6, .int r7, .int r8, .ref a9, .ref a10, .ref a11, .ref a12, .ref a13, .ref a14, .ref a15, .ref a16])), (a9, .inl (nz_cI g, 6, .inl f9)), (a10, .inl (nz_cI g, 6, .inl f10)), (a11, .inl (nz_cI g, 6, .inl f11)), (a12, .inl (nz_cI g, 5, .inl f12)), (a13, .inl (nz_cI g, 5, .inl f13)), (a14, .inl (nz_cI g, 5, .inl f14)), (a15, .inl (nz_cI g, 5, .inl f15)), (a16, .inl (nz_cI g, 48, .inl f16))] (nz_Qv g [(o, .inr (5, [.int r0, .int r1, .int r2, .int r3, .int r4, .int r5, .int r6, .int r7, .int r8, .ref a9, .ref a10, .ref a11, .ref a12, .ref a13, .ref a14, .ref a15, .ref a16])), (a9, .inl (nz_cI g, 6, .inl f9)), (a10, .inl (nz_cI g, 6, .inl f10)), (a11, .inl (nz_cI g, 6, .inl f11)), (a12, .inl (nz_cI g, 5, .inl f12)), (a13, .inl (nz_cI g, 5, .inl f13)), (a14, .inl (nz_cI g, 5, .inl f14)), (a15, .inl (nz_cI g, 5, .inl f15)), (a16, .inl (nz_cI g, 48, .inl f16))] (fun (u : (Nat → Int32)) => K u) (fun u => [(o, .inr (5, [.int r0, .int r1, .int r2, .int r3, .int r4, .int r5, .int r6, .int r7, .int r8, .ref a9, .ref a10, .ref a11, .ref a12, .ref a13, .ref a14, .ref a15, .ref a16])), (a9, .inl (nz_cI g, 6, .inl f9)), (a10, .inl (nz_cI g, 6, .inl u)), (a11, .inl (nz_cI g, 6, .inl f11)), (a12, .inl (nz_cI g, 5, .inl f12)), (a13, .inl (nz_cI g, 5, .inl f13)), (a14, .inl (nz_cI g, 5, .inl f14)), (a15, .inl (nz_cI g, 5, .inl f15)), (a16, .inl (nz_cI g, 48, .inl f16))])) := by
  refine nz_M.of (bytes := cX5_push) (nL := 7) (ret := none) (own := RX5) (by decide) rfl rfl ⟨rfl, rfl⟩ rfl ?_
  intro y F hl hQ
  obtain ⟨sz, hQ⟩ := hQ
  refine nz_ent (lv' := [(0, .ref o), (1, .int v1), (2, .ref a10), (3, .int v3)]) rfl ?_
  unfold wp_X5_push_at at h
  refine nz_aload_n F dX5_push_0 rfl 0 rfl ?_
  refine nz_get F iw_X5_push_5 0 rfl rfl 13 (by decide) rfl fl_X5_push_24 rfl dX5_push_1 ?_
  refine nz_iload_n F dX5_push_4 rfl 1 rfl ?_
  obtain ⟨i1, h⟩ := h
  refine nz_iald F 5 rfl i1 dX5_push_5 ?_
  refine nz_istore (lv' := [(4, .int (f13 v1.toNatClampNeg)), (0, .ref o), (1, .int v1), (2, .ref a10), (3, .int v3)]) F dX5_push_6 (by decide) rfl ?_
  refine nz_aload_n F dX5_push_8 rfl 1 rfl ?_
  refine nz_get F iw_X5_push_5 0 rfl rfl 12 (by decide) rfl fl_X5_push_21 rfl dX5_push_9 ?_
  refine nz_iload_n F dX5_push_12 rfl 2 rfl ?_
  obtain ⟨i2, h⟩ := h
  refine nz_iald F 4 rfl i2 dX5_push_13 ?_
  refine nz_iconst (v := 2) F dX5_push_14 (by decide) ?_
  refine nz_icmp_ne (tgt := 29) F dX5_push_15 (by decide) (fun c3 => ?_) (fun c3 => ?_)
  · have h := h.1 c3
    refine nz_aload_n F dX5_push_29 rfl 1 rfl ?_
    refine nz_get F iw_X5_push_5 0 rfl rfl 15 (by decide) rfl fl_X5_push_30 rfl dX5_push_30 ?_
    refine nz_iload_n F dX5_push_33 rfl 2 rfl ?_
    obtain ⟨i4, h⟩ := h
    refine nz_iald F 7 rfl i4 dX5_push_34 ?_
    refine nz_ls (lv' := [(0, .ref o), (1, .int v1), (2, .ref a10), (3, .int v3), (4, .int (f13 v1.toNatClampNeg))]) [1, 2, 3, 4, 0] rfl ?_
    exact t_X5_push_at_35 F o a9 a10 a11 a12 a13 a14 a15 a16 r0 r1 r2 r3 r4 r5 r6 r7 r8 f9 f11 f12 f13 f14 f15 f16 v1 v3 (f13 v1.toNatClampNeg) (f15 v1.toNatClampNeg) f10 hQ h
  · have h := h.2 c3
    refine nz_iconst (v := 2) F dX5_push_18 (by decide) ?_
    refine nz_aload_n F dX5_push_19 rfl 1 rfl ?_
    refine nz_get F iw_X5_push_5 0 rfl rfl 15 (by decide) rfl fl_X5_push_30 rfl dX5_push_20 ?_
    refine nz_iload_n F dX5_push_23 rfl 2 rfl ?_
    obtain ⟨i23, h⟩ := h
    refine nz_iald F 7 rfl i23 dX5_push_24 ?_
    refine nz_imul F dX5_push_25 ?_
    refine nz_goto (tgt := 35) F dX5_push_26 (by decide) ?_
    refine nz_ls (lv' := [(0, .ref o), (1, .int v1), (2, .ref a10), (3, .int v3), (4, .int (f13 v1.toNatClampNeg))]) [1, 2, 3, 4, 0] rfl ?_
    exact t_X5_push_at_35 F o a9 a10 a11 a12 a13 a14 a15 a16 r0 r1 r2 r3 r4 r5 r6 r7 r8 f9 f11 f12 f13 f14 f15 f16 v1 v3 (f13 v1.toNatClampNeg) (2 * (f15 v1.toNatClampNeg)) f10 hQ h
theorem k_X5_push_at {y : nz_Y} {g : nz_G} {k n : Nat} {ws : va_W} {pc : Nat} {ls : List (Nat × Value)} {st rest : List Value} {av : Array Value} {isC : List Nat} {K : (Nat → Int32) → Prop} (o : Nat) (a9 : Nat) (a10 : Nat) (a11 : Nat) (a12 : Nat) (a13 : Nat) (a14 : Nat) (a15 : Nat) (a16 : Nat) (r0 : Int32) (r1 : Int32) (r2 : Int32) (r3 : Int32) (r4 : Int32) (r5 : Int32) (r6 : Int32) (r7 : Int32) (r8 : Int32) (f9 : Nat → Int32) (f10 : Nat → Int32) (f11 : Nat → Int32) (f12 : Nat → Int32) (f13 : Nat → Int32) (f14 : Nat → Int32) (f15 : Nat → Int32) (f16 : Nat → Int32) (v1 : Int32) (v3 : Int32) (run : nz_M (yz_l y) yX5_push wsX5_push rm_X5_push_at g [.ref o, .int v1, .ref a10, .int v3] [(o, .inr (5, [.int r0, .int r1, .int r2, .int r3, .int r4, .int r5, .int r6, .int r7, .int r8, .ref a9, .ref a10, .ref a11, .ref a12, .ref a13, .ref a14, .ref a15, .ref a16])), (a9, .inl (nz_cI g, 6, .inl f9)), (a10, .inl (nz_cI g, 6, .inl f10)), (a11, .inl (nz_cI g, 6, .inl f11)), (a12, .inl (nz_cI g, 5, .inl f12)), (a13, .inl (nz_cI g, 5, .inl f13)), (a14, .inl (nz_cI g, 5, .inl f14)), (a15, .inl (nz_cI g, 5, .inl f15)), (a16, .inl (nz_cI g, 48, .inl f16))] (nz_Qv g [(o, .inr (5, [.int r0, .int r1, .int r2, .int r3, .int r4, .int r5, .int r6, .int r7, .int r8, .ref a9, .ref a10, .ref a11, .ref a12, .ref a13, .ref a14, .ref a15, .ref a16])), (a9, .inl (nz_cI g, 6, .inl f9)), (a10, .inl (nz_cI g, 6, .inl f10)), (a11, .inl (nz_cI g, 6, .inl f11)), (a12, .inl (nz_cI g, 5, .inl f12)), (a13, .inl (nz_cI g, 5, .inl f13)), (a14, .inl (nz_cI g, 5, .inl f14)), (a15, .inl (nz_cI g, 5, .inl f15)), (a16, .inl (nz_cI g, 48, .inl f16))] (fun (u : (Nat → Int32)) => K u) (fun u => [(o, .inr (5, [.int r0, .int r1, .int r2, .int r3, .int r4, .int r5, .int r6, .int r7, .int r8, .ref a9, .ref a10, .ref a11, .ref a12, .ref a13, .ref a14, .ref a15, .ref a16])), (a9, .inl (nz_cI g, 6, .inl f9)), (a10, .inl (nz_cI g, 6, .inl u)), (a11, .inl (nz_cI g, 6, .inl f11)), (a12, .inl (nz_cI g, 5, .inl f12)), (a13, .inl (nz_cI g, 5, .inl f13)), (a14, .inl (nz_cI g, 5, .inl f14)), (a15, .inl (nz_cI g, 5, .inl f15)), (a16, .inl (nz_cI g, 48, .inl f16))])) → nz_C y g k n ws pc ls st rest [(o, .inr (5, [.int r0, .int r1, .int r2, .int r3, .int r4, .int r5, .int r6, .int r7, .int r8, .ref a9, .ref a10, .ref a11, .ref a12, .ref a13, .ref a14, .ref a15, .ref a16])), (a9, .inl (nz_cI g, 6, .inl f9)), (a10, .inl (nz_cI g, 6, .inl f10)), (a11, .inl (nz_cI g, 6, .inl f11)), (a12, .inl (nz_cI g, 5, .inl f12)), (a13, .inl (nz_cI g, 5, .inl f13)), (a14, .inl (nz_cI g, 5, .inl f14)), (a15, .inl (nz_cI g, 5, .inl f15)), (a16, .inl (nz_cI g, 48, .inl f16))] (nz_Qv g [(o, .inr (5, [.int r0, .int r1, .int r2, .int r3, .int r4, .int r5, .int r6, .int r7, .int r8, .ref a9, .ref a10, .ref a11, .ref a12, .ref a13, .ref a14, .ref a15, .ref a16])), (a9, .inl (nz_cI g, 6, .inl f9)), (a10, .inl (nz_cI g, 6, .inl f10)), (a11, .inl (nz_cI g, 6, .inl f11)), (a12, .inl (nz_cI g, 5, .inl f12)), (a13, .inl (nz_cI g, 5, .inl f13)), (a14, .inl (nz_cI g, 5, .inl f14)), (a15, .inl (nz_cI g, 5, .inl f15)), (a16, .inl (nz_cI g, 48, .inl f16))] (fun (u : (Nat → Int32)) => K u) (fun u => [(o, .inr (5, [.int r0, .int r1, .int r2, .int r3, .int r4, .int r5, .int r6, .int r7, .int r8, .ref a9, .ref a10, .ref a11, .ref a12, .ref a13, .ref a14, .ref a15, .ref a16])), (a9, .inl (nz_cI g, 6, .inl f9)), (a10, .inl (nz_cI g, 6, .inl u)), (a11, .inl (nz_cI g, 6, .inl f11)), (a12, .inl (nz_cI g, 5, .inl f12)), (a13, .inl (nz_cI g, 5, .inl f13)), (a14, .inl (nz_cI g, 5, .inl f14)), (a15, .inl (nz_cI g, 5, .inl f15)), (a16, .inl (nz_cI g, 48, .inl f16))])) av isC) (h : wp_X5_push_at r1 r6 f10 f12 f13 f14 f15 v1 v3 K) (ws' : (Nat → Int32) → va_W) (hm : ∀ (m0 : (Nat → Int32)), nz_mrg ws isC [(o, .inr (5, [.int r0, .int r1, .int r2, .int r3, .int r4, .int r5, .int r6, .int r7, .int r8, .ref a9, .ref a10, .ref a11, .ref a12, .ref a13, .ref a14, .ref a15, .ref a16])), (a9, .inl (nz_cI g, 6, .inl f9)), (a10, .inl (nz_cI g, 6, .inl m0)), (a11, .inl (nz_cI g, 6, .inl f11)), (a12, .inl (nz_cI g, 5, .inl f12)), (a13, .inl (nz_cI g, 5, .inl f13)), (a14, .inl (nz_cI g, 5, .inl f14)), (a15, .inl (nz_cI g, 5, .inl f15)), (a16, .inl (nz_cI g, 48, .inl f16))] = ws' m0) (kk : ∀ (m0 : (Nat → Int32)), K m0 → nz_V y g k n (ws' m0) (pc + 3) ls (rest)) : nz_V y g k n ws pc ls st :=
  nz_cv (ws' := fun u => ws' u) (run (c_X5_push_at (yz_l y) g o a9 a10 a11 a12 a13 a14 a15 a16 r0 r1 r2 r3 r4 r5 r6 r7 r8 f9 f10 f11 f12 f13 f14 f15 f16 v1 v3 K h)) (fun _ => rfl) (fun u => hm u) (fun u h => kk u h)
theorem dX5_pass_0 : decode cX5_pass 0 = .ok (.iconst 0, 1) := by decide +kernel
theorem dX5_pass_1 : decode cX5_pass 1 = .ok (.istore 4, 2) := by decide +kernel
theorem dX5_pass_3 : decode cX5_pass 3 = .ok (.iload 4, 2) := by decide +kernel
theorem dX5_pass_5 : decode cX5_pass 5 = .ok (.aload_n 0, 1) := by decide +kernel
theorem dX5_pass_6 : decode cX5_pass 6 = .ok (.getfield 59, 3) := by decide +kernel
theorem dX5_pass_9 : decode cX5_pass 9 = .ok (.if_icmp .ge 37, 3) := by decide +kernel
theorem dX5_pass_12 : decode cX5_pass 12 = .ok (.iload_n 3, 1) := by decide +kernel
theorem dX5_pass_13 : decode cX5_pass 13 = .ok (.iload 4, 2) := by decide +kernel
theorem dX5_pass_15 : decode cX5_pass 15 = .ok (.ishr, 1) := by decide +kernel
theorem dX5_pass_16 : decode cX5_pass 16 = .ok (.iconst 1, 1) := by decide +kernel
theorem dX5_pass_17 : decode cX5_pass 17 = .ok (.iand, 1) := by decide +kernel
theorem dX5_pass_18 : decode cX5_pass 18 = .ok (.ifCond .eq 22, 3) := by decide +kernel
theorem dX5_pass_21 : decode cX5_pass 21 = .ok (.aload_n 0, 1) := by decide +kernel
theorem dX5_pass_22 : decode cX5_pass 22 = .ok (.iload 4, 2) := by decide +kernel
theorem dX5_pass_24 : decode cX5_pass 24 = .ok (.aload_n 1, 1) := by decide +kernel
theorem dX5_pass_25 : decode cX5_pass 25 = .ok (.iload_n 2, 1) := by decide +kernel
theorem dX5_pass_26 : decode cX5_pass 26 = .ok (.invokevirtual 92, 3) := by decide +kernel
theorem dX5_pass_29 : decode cX5_pass 29 = .ok (.ifCond .eq 11, 3) := by decide +kernel
theorem dX5_pass_32 : decode cX5_pass 32 = .ok (.aload_n 0, 1) := by decide +kernel
theorem dX5_pass_33 : decode cX5_pass 33 = .ok (.iload 4, 2) := by decide +kernel
theorem dX5_pass_35 : decode cX5_pass 35 = .ok (.aload_n 1, 1) := by decide +kernel
theorem dX5_pass_36 : decode cX5_pass 36 = .ok (.iload_n 2, 1) := by decide +kernel
theorem dX5_pass_37 : decode cX5_pass 37 = .ok (.invokevirtual 96, 3) := by decide +kernel
theorem dX5_pass_40 : decode cX5_pass 40 = .ok (.iinc 4 1, 3) := by decide +kernel
theorem dX5_pass_43 : decode cX5_pass 43 = .ok (.goto (-40), 3) := by decide +kernel
theorem dX5_pass_46 : decode cX5_pass 46 = .ok (.return_, 1) := by decide +kernel
set_option maxRecDepth 20000 in
theorem ggX5_pass_X5_isOut : GoodIn wsX5_pass wsX5_isOut := goodIn_r _ [6, 7, 8, 9, 29, 30, 31, 32, 33, 34, 35, 36, 37, 38, 39, 40, 41, 42, 43, 44, 45] rfl (by decide +kernel)
set_option maxRecDepth 20000 in
theorem gX5_pass_X5_isOut : GoodIn wsX5_pass (wsV RX5 92 RX5 yX5_isOut wsX5_isOut) := goodIn_app (goodIn_r _ [2, 3, 4, 5] rfl (by decide +kernel)) ggX5_pass_X5_isOut
set_option maxRecDepth 20000 in
theorem ggX5_pass_X5_push : GoodIn wsX5_pass wsX5_push := goodIn_r _ [13, 8, 7, 14, 15, 16, 17, 18, 19, 20, 21, 22, 23, 24, 25, 26, 5, 27, 28, 29, 30, 31, 32, 33, 34, 35, 36, 37, 38, 39, 40, 41, 42, 43, 44, 45] rfl (by decide +kernel)
set_option maxRecDepth 20000 in
theorem gX5_pass_X5_push : GoodIn wsX5_pass (wsV RX5 96 RX5 yX5_push wsX5_push) := goodIn_app (goodIn_r _ [10, 11, 12, 5] rfl (by decide +kernel)) ggX5_pass_X5_push
theorem hd_X5_isOut : yX5_isOut.cls = RX5 ∧ yX5_isOut.cls ≠ "java/lang/invoke/MethodHandle" ∧ yX5_isOut.cls ≠ "java/lang/invoke/VarHandle" ∧ (parseMethodDescriptor yX5_isOut.desc).map (fun d => d.parameters.length) = some 3 := by decide +kernel
theorem hd_X5_push : yX5_push.cls = RX5 ∧ yX5_push.cls ≠ "java/lang/invoke/MethodHandle" ∧ yX5_push.cls ≠ "java/lang/invoke/VarHandle" ∧ (parseMethodDescriptor yX5_push.desc).map (fun d => d.parameters.length) = some 3 := by decide +kernel
/-! X5_pass _at -/
abbrev rm_X5_pass_at : Room := { frames := 2, cells := 0, slots := 0, locals := 49 }
theorem iw_X5_pass_5 : ∀ w ∈ wsX50, w ∈ wsX5_pass := fun _ h => List.mem_cons_of_mem _ (List.mem_append_right _ h)
theorem fl_X5_pass_59 : Cond.fieldLink RX5 59 "NightStones$Road" "movers" "I" ∈ wsX5_pass := List.mem_of_getElem? (i := 1) rfl
def S_X5_pass_at_3 (r1 : Int32) (r6 : Int32) (r7 : Int32) (f11 : Nat → Int32) (f12 : Nat → Int32) (f13 : Nat → Int32) (f14 : Nat → Int32) (f15 : Nat → Int32) (v2 : Int32) (v3 : Int32) (K : (Nat → Int32) → Prop) (R3 : Int32 → (Nat → Int32) → Prop) (x4 : Int32) (f10 : Nat → Int32) : Prop := ((r7 ≤ x4 → K f10) ∧ (¬ (r7 ≤ x4) → ((((v3 >>> (x4 &&& 31)) &&& 1) = 0 → R3 (x4 + 1) f10) ∧ (¬ (((v3 >>> (x4 &&& 31)) &&& 1) = 0) → wp_X5_isOut_at f10 f11 f12 f13 x4 v2 (fun q3 => ((q3 = 0 → R3 (x4 + 1) f10) ∧ (¬ (q3 = 0) → wp_X5_push_at r1 r6 f10 f12 f13 f14 f15 x4 v2 (fun m5 => R3 (x4 + 1) m5))))))))
set_option maxHeartbeats 4000000 in
set_option maxRecDepth 100000 in
theorem t_X5_pass_at_3 {y : nz_Y} {g : nz_G} (F : nz_F y g cX5_pass 5 wsX5_pass RX5 none rm_X5_pass_at) {wc0 : va_W} {sz : Nat} {K : (Nat → Int32) → Prop} (o : Nat) (a9 : Nat) (a10 : Nat) (a11 : Nat) (a12 : Nat) (a13 : Nat) (a14 : Nat) (a15 : Nat) (a16 : Nat) (r0 : Int32) (r1 : Int32) (r2 : Int32) (r3 : Int32) (r4 : Int32) (r5 : Int32) (r6 : Int32) (r7 : Int32) (r8 : Int32) (f9 : Nat → Int32) (f11 : Nat → Int32) (f12 : Nat → Int32) (f13 : Nat → Int32) (f14 : Nat → Int32) (f15 : Nat → Int32) (f16 : Nat → Int32) (v2 : Int32) (v3 : Int32) (hQ : yz_A y = va_A wc0 sz ∧ yz_Q y = MQ (yz_b y) ((nz_Qv g wc0 (fun (u : (Nat → Int32)) => K u) (fun u => [(o, .inr (5, [.int r0, .int r1, .int r2, .int r3, .int r4, .int r5, .int r6, .int r7, .int r8, .ref a9, .ref a10, .ref a11, .ref a12, .ref a13, .ref a14, .ref a15, .ref a16])), (a9, .inl (nz_cI g, 6, .inl f9)), (a10, .inl (nz_cI g, 6, .inl u)), (a11, .inl (nz_cI g, 6, .inl f11)), (a12, .inl (nz_cI g, 5, .inl f12)), (a13, .inl (nz_cI g, 5, .inl f13)), (a14, .inl (nz_cI g, 5, .inl f14)), (a15, .inl (nz_cI g, 5, .inl f15)), (a16, .inl (nz_cI g, 48, .inl f16))])) sz) (yz_a y) (yz_s y) 0 0 (va_A wc0 sz)) : ∀ (n1 : Nat) (x4 : Int32) (f10 : Nat → Int32), nz_it (fun _ _ => False) (S_X5_pass_at_3 r1 r6 r7 f11 f12 f13 f14 f15 v2 v3 K) n1 x4 f10 → nz_V y g 0 0 [(o, .inr (5, [.int r0, .int r1, .int r2, .int r3, .int r4, .int r5, .int r6, .int r7, .int r8, .ref a9, .ref a10, .ref a11, .ref a12, .ref a13, .ref a14, .ref a15, .ref a16])), (a9, .inl (nz_cI g, 6, .inl f9)), (a10, .inl (nz_cI g, 6, .inl f10)), (a11, .inl (nz_cI g, 6, .inl f11)), (a12, .inl (nz_cI g, 5, .inl f12)), (a13, .inl (nz_cI g, 5, .inl f13)), (a14, .inl (nz_cI g, 5, .inl f14)), (a15, .inl (nz_cI g, 5, .inl f15)), (a16, .inl (nz_cI g, 48, .inl f16))] 3 [(0, .ref o), (1, .ref a10), (2, .int v2), (3, .int v3), (4, .int x4)] [] := by
  intro n1
  induction n1 with
  | zero =>
    intro x4 f10 h
    exact h.elim
  | succ n1 hR3 =>
    intro x4 f10 h
    have h : S_X5_pass_at_3 r1 r6 r7 f11 f12 f13 f14 f15 v2 v3 K (nz_it (fun _ _ => False) (S_X5_pass_at_3 r1 r6 r7 f11 f12 f13 f14 f15 v2 v3 K) n1) x4 f10 := h
    unfold S_X5_pass_at_3 at h
    refine nz_iload F dX5_pass_3 4 rfl ?_
    refine nz_aload_n F dX5_pass_5 rfl 0 rfl ?_
    refine nz_get F iw_X5_pass_5 0 rfl rfl 7 (by decide) rfl fl_X5_pass_59 rfl dX5_pass_6 ?_
    refine nz_icmp_ge (tgt := 46) F dX5_pass_9 (by decide) (fun c1 => ?_) (fun c1 => ?_)
    · have h := h.1 c1
      exact nz_vret F hQ f10 h rfl dX5_pass_46
    · have h := h.2 c1
      refine nz_iload_n F dX5_pass_12 rfl 3 rfl ?_
      refine nz_iload F dX5_pass_13 4 rfl ?_
      refine nz_ishr F dX5_pass_15 ?_
      refine nz_iconst (v := 1) F dX5_pass_16 (by decide) ?_
      refine nz_iand F dX5_pass_17 ?_
      refine nz_if_eq (tgt := 40) F dX5_pass_18 (by decide) (fun c2 => ?_) (fun c2 => ?_)
      · have h := h.1 c2
        refine nz_iinc (v := (x4 + 1)) (j := 4) (lv' := [(4, .int (x4 + 1)), (0, .ref o), (1, .ref a10), (2, .int v2), (3, .int v3)]) F dX5_pass_40 rfl rfl (by decide) rfl ?_
        refine nz_goto (tgt := 3) F dX5_pass_43 (by decide) ?_
        refine nz_ls (lv' := [(0, .ref o), (1, .ref a10), (2, .int v2), (3, .int v3), (4, .int (x4 + 1))]) [1, 2, 3, 4, 0] rfl ?_
        exact hR3 (x4 + 1) f10 h
      · have h := h.2 c2
        refine nz_aload_n F dX5_pass_21 rfl 0 rfl ?_
        refine nz_iload F dX5_pass_22 4 rfl ?_
        refine nz_aload_n F dX5_pass_24 rfl 1 rfl ?_
        refine nz_iload_n F dX5_pass_25 rfl 2 rfl ?_
        refine k_X5_isOut_at o a9 a10 a11 a12 a13 a14 a15 a16 r0 r1 r2 r3 r4 r5 r6 r7 r8 f9 f10 f11 f12 f13 f14 f15 f16 x4 v2 (fun hM => nz_runV F gX5_pass_X5_isOut rfl hd_X5_isOut rfl hM dX5_pass_26 [0, 1, 2, 3, 4, 5, 6, 7, 8] rfl rfl 0 rfl rfl rfl (Nat.le_of_ble_eq_true rfl) rfl) h ([(o, .inr (5, [.int r0, .int r1, .int r2, .int r3, .int r4, .int r5, .int r6, .int r7, .int r8, .ref a9, .ref a10, .ref a11, .ref a12, .ref a13, .ref a14, .ref a15, .ref a16])), (a9, .inl (nz_cI g, 6, .inl f9)), (a10, .inl (nz_cI g, 6, .inl f10)), (a11, .inl (nz_cI g, 6, .inl f11)), (a12, .inl (nz_cI g, 5, .inl f12)), (a13, .inl (nz_cI g, 5, .inl f13)), (a14, .inl (nz_cI g, 5, .inl f14)), (a15, .inl (nz_cI g, 5, .inl f15)), (a16, .inl (nz_cI g, 48, .inl f16))]) (rfl) (fun q3 h => ?_)
        refine nz_if_eq (tgt := 40) F dX5_pass_29 (by decide) (fun c4 => ?_) (fun c4 => ?_)
        · have h := h.1 c4
          refine nz_iinc (v := (x4 + 1)) (j := 4) (lv' := [(4, .int (x4 + 1)), (0, .ref o), (1, .ref a10), (2, .int v2), (3, .int v3)]) F dX5_pass_40 rfl rfl (by decide) rfl ?_
          refine nz_goto (tgt := 3) F dX5_pass_43 (by decide) ?_
          refine nz_ls (lv' := [(0, .ref o), (1, .ref a10), (2, .int v2), (3, .int v3), (4, .int (x4 + 1))]) [1, 2, 3, 4, 0] rfl ?_
          exact hR3 (x4 + 1) f10 h
        · have h := h.2 c4
          refine nz_aload_n F dX5_pass_32 rfl 0 rfl ?_
          refine nz_iload F dX5_pass_33 4 rfl ?_
          refine nz_aload_n F dX5_pass_35 rfl 1 rfl ?_
          refine nz_iload_n F dX5_pass_36 rfl 2 rfl ?_
          refine k_X5_push_at o a9 a10 a11 a12 a13 a14 a15 a16 r0 r1 r2 r3 r4 r5 r6 r7 r8 f9 f10 f11 f12 f13 f14 f15 f16 x4 v2 (fun hM => nz_runV F gX5_pass_X5_push rfl hd_X5_push rfl hM dX5_pass_37 [0, 1, 2, 3, 4, 5, 6, 7, 8] rfl rfl 0 rfl rfl rfl (Nat.le_of_ble_eq_true rfl) rfl) h (fun m5 => [(o, .inr (5, [.int r0, .int r1, .int r2, .int r3, .int r4, .int r5, .int r6, .int r7, .int r8, .ref a9, .ref a10, .ref a11, .ref a12, .ref a13, .ref a14, .ref a15, .ref a16])), (a9, .inl (nz_cI g, 6, .inl f9)), (a10, .inl (nz_cI g, 6, .inl m5)), (a11, .inl (nz_cI g, 6, .inl f11)), (a12, .inl (nz_cI g, 5, .inl f12)), (a13, .inl (nz_cI g, 5, .inl f13)), (a14, .inl (nz_cI g, 5, .inl f14)), (a15, .inl (nz_cI g, 5, .inl f15)), (a16, .inl (nz_cI g, 48, .inl f16))]) (fun _ => rfl) (fun m5 h => ?_)
          refine nz_iinc (v := (x4 + 1)) (j := 4) (lv' := [(4, .int (x4 + 1)), (0, .ref o), (1, .ref a10), (2, .int v2), (3, .int v3)]) F dX5_pass_40 rfl rfl (by decide) rfl ?_
          refine nz_goto (tgt := 3) F dX5_pass_43 (by decide) ?_
          refine nz_ls (lv' := [(0, .ref o), (1, .ref a10), (2, .int v2), (3, .int v3), (4, .int (x4 + 1))]) [1, 2, 3, 4, 0] rfl ?_
          exact hR3 (x4 + 1) m5 h
def wp_X5_pass_at (r1 : Int32) (r6 : Int32) (r7 : Int32) (f10 : Nat → Int32) (f11 : Nat → Int32) (f12 : Nat → Int32) (f13 : Nat → Int32) (f14 : Nat → Int32) (f15 : Nat → Int32) (v2 : Int32) (v3 : Int32) (K : (Nat → Int32) → Prop) : Prop := (∃ n, nz_it (fun _ _ => False) (S_X5_pass_at_3 r1 r6 r7 f11 f12 f13 f14 f15 v2 v3 K) n 0 f10)
set_option maxHeartbeats 4000000 in
set_option maxRecDepth 100000 in
theorem c_X5_pass_at (l : Launch) (g : nz_G) (o : Nat) (a9 : Nat) (a10 : Nat) (a11 : Nat) (a12 : Nat) (a13 : Nat) (a14 : Nat) (a15 : Nat) (a16 : Nat) (r0 : Int32) (r1 : Int32) (r2 : Int32) (r3 : Int32) (r4 : Int32) (r5 : Int32) (r6 : Int32) (r7 : Int32) (r8 : Int32) (f9 : Nat → Int32) (f10 : Nat → Int32) (f11 : Nat → Int32) (f12 : Nat → Int32) (f13 : Nat → Int32) (f14 : Nat → Int32) (f15 : Nat → Int32) (f16 : Nat → Int32) (v2 : Int32) (v3 : Int32) (K : (Nat → Int32) → Prop) (h : wp_X5_pass_at r1 r6 r7 f10 f11 f12 f13 f14 f15 v2 v3 K) : nz_M l yX5_pass wsX5_pass rm_X5_pass_at g [.ref o, .ref a10, .int v2, .int v3] [(o, .inr (5, [.int r0, .int r1, .int r2, .int r3, .int r4, .int r5, .int r6, .int r7, .int r8, .ref a9, .ref a10, .ref a11, .ref a12, .ref a13, .ref a14, .ref a15, .ref a16])), (a9, .inl (nz_cI g, 6, .inl f9)), (a10, .inl (nz_cI g, 6, .inl f10)), (a11, .inl (nz_cI g, 6, .inl f11)), (a12, .inl (nz_cI g, 5, .inl f12)), (a13, .inl (nz_cI g, 5, .inl f13)), (a14, .inl (nz_cI g, 5, .inl f14)), (a15, .inl (nz_cI g, 5, .inl f15)), (a16, .inl (nz_cI g, 48, .inl f16))] (nz_Qv g [(o, .inr (5, [.int r0, .int r1, .int r2, .int r3, .int r4, .int r5, .int r6, .int r7, .int r8, .ref a9, .ref a10, .ref a11, .ref a12, .ref a13, .ref a14, .ref a15, .ref a16])), (a9, .inl (nz_cI g, 6, .inl f9)), (a10, .inl (nz_cI g, 6, .inl f10)), (a11, .inl (nz_cI g, 6, .inl f11)), (a12, .inl (nz_cI g, 5, .inl f12)), (a13, .inl (nz_cI g, 5, .inl f13)), (a14, .inl (nz_cI g, 5, .inl f14)), (a15, .inl (nz_cI g, 5, .inl f15)), (a16, .inl (nz_cI g, 48, .inl f16))] (fun (u : (Nat → Int32)) => K u) (fun u => [(o, .inr (5, [.int r0, .int r1, .int r2, .int r3, .int r4, .int r5, .int r6, .int r7, .int r8, .ref a9, .ref a10, .ref a11, .ref a12, .ref a13, .ref a14, .ref a15, .ref a16])), (a9, .inl (nz_cI g, 6, .inl f9)), (a10, .inl (nz_cI g, 6, .inl u)), (a11, .inl (nz_cI g, 6, .inl f11)), (a12, .inl (nz_cI g, 5, .inl f12)), (a13, .inl (nz_cI g, 5, .inl f13)), (a14, .inl (nz_cI g, 5, .inl f14)), (a15, .inl (nz_cI g, 5, .inl f15)), (a16, .inl (nz_cI g, 48, .inl f16))])) := by
  refine nz_M.of (bytes := cX5_pass) (nL := 5) (ret := none) (own := RX5) (by decide) rfl rfl ⟨rfl, rfl⟩ rfl ?_
  intro y F hl hQ
  obtain ⟨sz, hQ⟩ := hQ
  refine nz_ent (lv' := [(0, .ref o), (1, .ref a10), (2, .int v2), (3, .int v3)]) rfl ?_
  unfold wp_X5_pass_at at h
  refine nz_iconst (v := 0) F dX5_pass_0 (by decide) ?_
  refine nz_istore (lv' := [(4, .int 0), (0, .ref o), (1, .ref a10), (2, .int v2), (3, .int v3)]) F dX5_pass_1 (by decide) rfl ?_
  refine nz_ls (lv' := [(0, .ref o), (1, .ref a10), (2, .int v2), (3, .int v3), (4, .int 0)]) [1, 2, 3, 4, 0] rfl ?_
  obtain ⟨n1, h⟩ := h
  exact t_X5_pass_at_3 F o a9 a10 a11 a12 a13 a14 a15 a16 r0 r1 r2 r3 r4 r5 r6 r7 r8 f9 f11 f12 f13 f14 f15 f16 v2 v3 hQ n1 0 f10 h
theorem k_X5_pass_at {y : nz_Y} {g : nz_G} {k n : Nat} {ws : va_W} {pc : Nat} {ls : List (Nat × Value)} {st rest : List Value} {av : Array Value} {isC : List Nat} {K : (Nat → Int32) → Prop} (o : Nat) (a9 : Nat) (a10 : Nat) (a11 : Nat) (a12 : Nat) (a13 : Nat) (a14 : Nat) (a15 : Nat) (a16 : Nat) (r0 : Int32) (r1 : Int32) (r2 : Int32) (r3 : Int32) (r4 : Int32) (r5 : Int32) (r6 : Int32) (r7 : Int32) (r8 : Int32) (f9 : Nat → Int32) (f10 : Nat → Int32) (f11 : Nat → Int32) (f12 : Nat → Int32) (f13 : Nat → Int32) (f14 : Nat → Int32) (f15 : Nat → Int32) (f16 : Nat → Int32) (v2 : Int32) (v3 : Int32) (run : nz_M (yz_l y) yX5_pass wsX5_pass rm_X5_pass_at g [.ref o, .ref a10, .int v2, .int v3] [(o, .inr (5, [.int r0, .int r1, .int r2, .int r3, .int r4, .int r5, .int r6, .int r7, .int r8, .ref a9, .ref a10, .ref a11, .ref a12, .ref a13, .ref a14, .ref a15, .ref a16])), (a9, .inl (nz_cI g, 6, .inl f9)), (a10, .inl (nz_cI g, 6, .inl f10)), (a11, .inl (nz_cI g, 6, .inl f11)), (a12, .inl (nz_cI g, 5, .inl f12)), (a13, .inl (nz_cI g, 5, .inl f13)), (a14, .inl (nz_cI g, 5, .inl f14)), (a15, .inl (nz_cI g, 5, .inl f15)), (a16, .inl (nz_cI g, 48, .inl f16))] (nz_Qv g [(o, .inr (5, [.int r0, .int r1, .int r2, .int r3, .int r4, .int r5, .int r6, .int r7, .int r8, .ref a9, .ref a10, .ref a11, .ref a12, .ref a13, .ref a14, .ref a15, .ref a16])), (a9, .inl (nz_cI g, 6, .inl f9)), (a10, .inl (nz_cI g, 6, .inl f10)), (a11, .inl (nz_cI g, 6, .inl f11)), (a12, .inl (nz_cI g, 5, .inl f12)), (a13, .inl (nz_cI g, 5, .inl f13)), (a14, .inl (nz_cI g, 5, .inl f14)), (a15, .inl (nz_cI g, 5, .inl f15)), (a16, .inl (nz_cI g, 48, .inl f16))] (fun (u : (Nat → Int32)) => K u) (fun u => [(o, .inr (5, [.int r0, .int r1, .int r2, .int r3, .int r4, .int r5, .int r6, .int r7, .int r8, .ref a9, .ref a10, .ref a11, .ref a12, .ref a13, .ref a14, .ref a15, .ref a16])), (a9, .inl (nz_cI g, 6, .inl f9)), (a10, .inl (nz_cI g, 6, .inl u)), (a11, .inl (nz_cI g, 6, .inl f11)), (a12, .inl (nz_cI g, 5, .inl f12)), (a13, .inl (nz_cI g, 5, .inl f13)), (a14, .inl (nz_cI g, 5, .inl f14)), (a15, .inl (nz_cI g, 5, .inl f15)), (a16, .inl (nz_cI g, 48, .inl f16))])) → nz_C y g k n ws pc ls st rest [(o, .inr (5, [.int r0, .int r1, .int r2, .int r3, .int r4, .int r5, .int r6, .int r7, .int r8, .ref a9, .ref a10, .ref a11, .ref a12, .ref a13, .ref a14, .ref a15, .ref a16])), (a9, .inl (nz_cI g, 6, .inl f9)), (a10, .inl (nz_cI g, 6, .inl f10)), (a11, .inl (nz_cI g, 6, .inl f11)), (a12, .inl (nz_cI g, 5, .inl f12)), (a13, .inl (nz_cI g, 5, .inl f13)), (a14, .inl (nz_cI g, 5, .inl f14)), (a15, .inl (nz_cI g, 5, .inl f15)), (a16, .inl (nz_cI g, 48, .inl f16))] (nz_Qv g [(o, .inr (5, [.int r0, .int r1, .int r2, .int r3, .int r4, .int r5, .int r6, .int r7, .int r8, .ref a9, .ref a10, .ref a11, .ref a12, .ref a13, .ref a14, .ref a15, .ref a16])), (a9, .inl (nz_cI g, 6, .inl f9)), (a10, .inl (nz_cI g, 6, .inl f10)), (a11, .inl (nz_cI g, 6, .inl f11)), (a12, .inl (nz_cI g, 5, .inl f12)), (a13, .inl (nz_cI g, 5, .inl f13)), (a14, .inl (nz_cI g, 5, .inl f14)), (a15, .inl (nz_cI g, 5, .inl f15)), (a16, .inl (nz_cI g, 48, .inl f16))] (fun (u : (Nat → Int32)) => K u) (fun u => [(o, .inr (5, [.int r0, .int r1, .int r2, .int r3, .int r4, .int r5, .int r6, .int r7, .int r8, .ref a9, .ref a10, .ref a11, .ref a12, .ref a13, .ref a14, .ref a15, .ref a16])), (a9, .inl (nz_cI g, 6, .inl f9)), (a10, .inl (nz_cI g, 6, .inl u)), (a11, .inl (nz_cI g, 6, .inl f11)), (a12, .inl (nz_cI g, 5, .inl f12)), (a13, .inl (nz_cI g, 5, .inl f13)), (a14, .inl (nz_cI g, 5, .inl f14)), (a15, .inl (nz_cI g, 5, .inl f15)), (a16, .inl (nz_cI g, 48, .inl f16))])) av isC) (h : wp_X5_pass_at r1 r6 r7 f10 f11 f12 f13 f14 f15 v2 v3 K) (ws' : (Nat → Int32) → va_W) (hm : ∀ (m0 : (Nat → Int32)), nz_mrg ws isC [(o, .inr (5, [.int r0, .int r1, .int r2, .int r3, .int r4, .int r5, .int r6, .int r7, .int r8, .ref a9, .ref a10, .ref a11, .ref a12, .ref a13, .ref a14, .ref a15, .ref a16])), (a9, .inl (nz_cI g, 6, .inl f9)), (a10, .inl (nz_cI g, 6, .inl m0)), (a11, .inl (nz_cI g, 6, .inl f11)), (a12, .inl (nz_cI g, 5, .inl f12)), (a13, .inl (nz_cI g, 5, .inl f13)), (a14, .inl (nz_cI g, 5, .inl f14)), (a15, .inl (nz_cI g, 5, .inl f15)), (a16, .inl (nz_cI g, 48, .inl f16))] = ws' m0) (kk : ∀ (m0 : (Nat → Int32)), K m0 → nz_V y g k n (ws' m0) (pc + 3) ls (rest)) : nz_V y g k n ws pc ls st :=
  nz_cv (ws' := fun u => ws' u) (run (c_X5_pass_at (yz_l y) g o a9 a10 a11 a12 a13 a14 a15 a16 r0 r1 r2 r3 r4 r5 r6 r7 r8 f9 f10 f11 f12 f13 f14 f15 f16 v2 v3 K h)) (fun _ => rfl) (fun u => hm u) (fun u h => kk u h)
/-! X5_isOut _p -/
abbrev rm_X5_isOut_p : Room := { frames := 0, cells := 0, slots := 0, locals := 0 }
def wp_X5_isOut_p (f11 : Nat → Int32) (f12 : Nat → Int32) (f13 : Nat → Int32) (fp : Nat → Int32) (v1 : Int32) (v3 : Int32) (K : Int32 → Prop) : Prop := (vp_in v1 5 ∧ ((¬ (f12 v1.toNatClampNeg) = 3 → (vp_in v1 5 ∧ ((¬ (f12 v1.toNatClampNeg) = 5 → K 1) ∧ ((f12 v1.toNatClampNeg) = 5 → (vp_in v1 5 ∧ (vp_in (f13 v1.toNatClampNeg) 6 ∧ (vp_in v1 5 ∧ (vp_in (f13 v1.toNatClampNeg) 6 ∧ ((¬ (fp (f13 v1.toNatClampNeg).toNatClampNeg) = (f11 (f13 v1.toNatClampNeg).toNatClampNeg) → K 0) ∧ ((fp (f13 v1.toNatClampNeg).toNatClampNeg) = (f11 (f13 v1.toNatClampNeg).toNatClampNeg) → K 1)))))))))) ∧ ((f12 v1.toNatClampNeg) = 3 → ((¬ (v3 &&& 1) = 0 → K 0) ∧ ((v3 &&& 1) = 0 → K 1)))))
set_option maxHeartbeats 4000000 in
set_option maxRecDepth 100000 in
theorem c_X5_isOut_p (l : Launch) (g : nz_G) (o : Nat) (a9 : Nat) (a10 : Nat) (a11 : Nat) (a12 : Nat) (a13 : Nat) (a14 : Nat) (a15 : Nat) (a16 : Nat) (ap : Nat) (r0 : Int32) (r1 : Int32) (r2 : Int32) (r3 : Int32) (r4 : Int32) (r5 : Int32) (r6 : Int32) (r7 : Int32) (r8 : Int32) (f9 : Nat → Int32) (f10 : Nat → Int32) (f11 : Nat → Int32) (f12 : Nat → Int32) (f13 : Nat → Int32) (f14 : Nat → Int32) (f15 : Nat → Int32) (f16 : Nat → Int32) (fp : Nat → Int32) (v1 : Int32) (v3 : Int32) (K : Int32 → Prop) (h : wp_X5_isOut_p f11 f12 f13 fp v1 v3 K) : nz_M l yX5_isOut wsX5_isOut rm_X5_isOut_p g [.ref o, .int v1, .ref ap, .int v3] [(o, .inr (5, [.int r0, .int r1, .int r2, .int r3, .int r4, .int r5, .int r6, .int r7, .int r8, .ref a9, .ref a10, .ref a11, .ref a12, .ref a13, .ref a14, .ref a15, .ref a16])), (a9, .inl (nz_cI g, 6, .inl f9)), (a10, .inl (nz_cI g, 6, .inl f10)), (a11, .inl (nz_cI g, 6, .inl f11)), (a12, .inl (nz_cI g, 5, .inl f12)), (a13, .inl (nz_cI g, 5, .inl f13)), (a14, .inl (nz_cI g, 5, .inl f14)), (a15, .inl (nz_cI g, 5, .inl f15)), (a16, .inl (nz_cI g, 48, .inl f16)), (ap, .inl (nz_cI g, 6, .inl fp))] (nz_Qi g [(o, .inr (5, [.int r0, .int r1, .int r2, .int r3, .int r4, .int r5, .int r6, .int r7, .int r8, .ref a9, .ref a10, .ref a11, .ref a12, .ref a13, .ref a14, .ref a15, .ref a16])), (a9, .inl (nz_cI g, 6, .inl f9)), (a10, .inl (nz_cI g, 6, .inl f10)), (a11, .inl (nz_cI g, 6, .inl f11)), (a12, .inl (nz_cI g, 5, .inl f12)), (a13, .inl (nz_cI g, 5, .inl f13)), (a14, .inl (nz_cI g, 5, .inl f14)), (a15, .inl (nz_cI g, 5, .inl f15)), (a16, .inl (nz_cI g, 48, .inl f16)), (ap, .inl (nz_cI g, 6, .inl fp))] (fun r (u : Unit) => K r) (fun u => [(o, .inr (5, [.int r0, .int r1, .int r2, .int r3, .int r4, .int r5, .int r6, .int r7, .int r8, .ref a9, .ref a10, .ref a11, .ref a12, .ref a13, .ref a14, .ref a15, .ref a16])), (a9, .inl (nz_cI g, 6, .inl f9)), (a10, .inl (nz_cI g, 6, .inl f10)), (a11, .inl (nz_cI g, 6, .inl f11)), (a12, .inl (nz_cI g, 5, .inl f12)), (a13, .inl (nz_cI g, 5, .inl f13)), (a14, .inl (nz_cI g, 5, .inl f14)), (a15, .inl (nz_cI g, 5, .inl f15)), (a16, .inl (nz_cI g, 48, .inl f16)), (ap, .inl (nz_cI g, 6, .inl fp))])) := by
  refine nz_M.of (bytes := cX5_isOut) (nL := 4) (ret := (some .boolean)) (own := RX5) (by decide) rfl rfl ⟨rfl, rfl⟩ rfl ?_
  intro y F hl hQ
  obtain ⟨sz, hQ⟩ := hQ
  refine nz_ent (lv' := [(0, .ref o), (1, .int v1), (2, .ref ap), (3, .int v3)]) rfl ?_
  unfold wp_X5_isOut_p at h
  refine nz_aload_n F dX5_isOut_0 rfl 0 rfl ?_
  refine nz_get F iw_X5_isOut_5 0 rfl rfl 12 (by decide) rfl fl_X5_isOut_21 rfl dX5_isOut_1 ?_
  refine nz_iload_n F dX5_isOut_4 rfl 1 rfl ?_
  obtain ⟨i1, h⟩ := h
  refine nz_iald F 4 rfl i1 dX5_isOut_5 ?_
  refine nz_iconst (v := 3) F dX5_isOut_6 (by decide) ?_
  refine nz_icmp_ne (tgt := 22) F dX5_isOut_7 (by decide) (fun c2 => ?_) (fun c2 => ?_)
  · have h := h.1 c2
    refine nz_aload_n F dX5_isOut_22 rfl 0 rfl ?_
    refine nz_get F iw_X5_isOut_5 0 rfl rfl 12 (by decide) rfl fl_X5_isOut_21 rfl dX5_isOut_23 ?_
    refine nz_iload_n F dX5_isOut_26 rfl 1 rfl ?_
    obtain ⟨i3, h⟩ := h
    refine nz_iald F 4 rfl i3 dX5_isOut_27 ?_
    refine nz_iconst (v := 5) F dX5_isOut_28 (by decide) ?_
    refine nz_icmp_ne (tgt := 60) F dX5_isOut_29 (by decide) (fun c4 => ?_) (fun c4 => ?_)
    · have h := h.1 c4
      refine nz_iconst (v := 1) F dX5_isOut_60 (by decide) ?_
      exact nz_zret F hQ () h rfl (by decide) dX5_isOut_61
    · have h := h.2 c4
      refine nz_aload_n F dX5_isOut_32 rfl 2 rfl ?_
      refine nz_aload_n F dX5_isOut_33 rfl 0 rfl ?_
      refine nz_get F iw_X5_isOut_5 0 rfl rfl 13 (by decide) rfl fl_X5_isOut_24 rfl dX5_isOut_34 ?_
      refine nz_iload_n F dX5_isOut_37 rfl 1 rfl ?_
      obtain ⟨i5, h⟩ := h
      refine nz_iald F 5 rfl i5 dX5_isOut_38 ?_
      obtain ⟨i6, h⟩ := h
      refine nz_iald F 9 rfl i6 dX5_isOut_39 ?_
      refine nz_aload_n F dX5_isOut_40 rfl 0 rfl ?_
      refine nz_get F iw_X5_isOut_5 0 rfl rfl 11 (by decide) rfl fl_X5_isOut_18 rfl dX5_isOut_41 ?_
      refine nz_aload_n F dX5_isOut_44 rfl 0 rfl ?_
      refine nz_get F iw_X5_isOut_5 0 rfl rfl 13 (by decide) rfl fl_X5_isOut_24 rfl dX5_isOut_45 ?_
      refine nz_iload_n F dX5_isOut_48 rfl 1 rfl ?_
      obtain ⟨i7, h⟩ := h
      refine nz_iald F 5 rfl i7 dX5_isOut_49 ?_
      obtain ⟨i8, h⟩ := h
      refine nz_iald F 3 rfl i8 dX5_isOut_50 ?_
      refine nz_icmp_ne (tgt := 58) F dX5_isOut_51 (by decide) (fun c9 => ?_) (fun c9 => ?_)
      · have h := h.1 c9
        refine nz_iconst (v := 0) F dX5_isOut_58 (by decide) ?_
        exact nz_zret F hQ () h rfl (by decide) dX5_isOut_59
      · have h := h.2 c9
        refine nz_iconst (v := 1) F dX5_isOut_54 (by decide) ?_
        refine nz_goto (tgt := 59) F dX5_isOut_55 (by decide) ?_
        exact nz_zret F hQ () h rfl (by decide) dX5_isOut_59
  · have h := h.2 c2
    refine nz_iload_n F dX5_isOut_10 rfl 3 rfl ?_
    refine nz_iconst (v := 1) F dX5_isOut_11 (by decide) ?_
    refine nz_iand F dX5_isOut_12 ?_
    refine nz_if_ne (tgt := 20) F dX5_isOut_13 (by decide) (fun c10 => ?_) (fun c10 => ?_)
    · have h := h.1 c10
      refine nz_iconst (v := 0) F dX5_isOut_20 (by decide) ?_
      exact nz_zret F hQ () h rfl (by decide) dX5_isOut_21
    · have h := h.2 c10
      refine nz_iconst (v := 1) F dX5_isOut_16 (by decide) ?_
      refine nz_goto (tgt := 21) F dX5_isOut_17 (by decide) ?_
      exact nz_zret F hQ () h rfl (by decide) dX5_isOut_21
theorem k_X5_isOut_p {y : nz_Y} {g : nz_G} {k n : Nat} {ws : va_W} {pc : Nat} {ls : List (Nat × Value)} {st rest : List Value} {av : Array Value} {isC : List Nat} {K : Int32 → Prop} (o : Nat) (a9 : Nat) (a10 : Nat) (a11 : Nat) (a12 : Nat) (a13 : Nat) (a14 : Nat) (a15 : Nat) (a16 : Nat) (ap : Nat) (r0 : Int32) (r1 : Int32) (r2 : Int32) (r3 : Int32) (r4 : Int32) (r5 : Int32) (r6 : Int32) (r7 : Int32) (r8 : Int32) (f9 : Nat → Int32) (f10 : Nat → Int32) (f11 : Nat → Int32) (f12 : Nat → Int32) (f13 : Nat → Int32) (f14 : Nat → Int32) (f15 : Nat → Int32) (f16 : Nat → Int32) (fp : Nat → Int32) (v1 : Int32) (v3 : Int32) (run : nz_M (yz_l y) yX5_isOut wsX5_isOut rm_X5_isOut_p g [.ref o, .int v1, .ref ap, .int v3] [(o, .inr (5, [.int r0, .int r1, .int r2, .int r3, .int r4, .int r5, .int r6, .int r7, .int r8, .ref a9, .ref a10, .ref a11, .ref a12, .ref a13, .ref a14, .ref a15, .ref a16])), (a9, .inl (nz_cI g, 6, .inl f9)), (a10, .inl (nz_cI g, 6, .inl f10)), (a11, .inl (nz_cI g, 6, .inl f11)), (a12, .inl (nz_cI g, 5, .inl f12)), (a13, .inl (nz_cI g, 5, .inl f13)), (a14, .inl (nz_cI g, 5, .inl f14)), (a15, .inl (nz_cI g, 5, .inl f15)), (a16, .inl (nz_cI g, 48, .inl f16)), (ap, .inl (nz_cI g, 6, .inl fp))] (nz_Qi g [(o, .inr (5, [.int r0, .int r1, .int r2, .int r3, .int r4, .int r5, .int r6, .int r7, .int r8, .ref a9, .ref a10, .ref a11, .ref a12, .ref a13, .ref a14, .ref a15, .ref a16])), (a9, .inl (nz_cI g, 6, .inl f9)), (a10, .inl (nz_cI g, 6, .inl f10)), (a11, .inl (nz_cI g, 6, .inl f11)), (a12, .inl (nz_cI g, 5, .inl f12)), (a13, .inl (nz_cI g, 5, .inl f13)), (a14, .inl (nz_cI g, 5, .inl f14)), (a15, .inl (nz_cI g, 5, .inl f15)), (a16, .inl (nz_cI g, 48, .inl f16)), (ap, .inl (nz_cI g, 6, .inl fp))] (fun r (u : Unit) => K r) (fun u => [(o, .inr (5, [.int r0, .int r1, .int r2, .int r3, .int r4, .int r5, .int r6, .int r7, .int r8, .ref a9, .ref a10, .ref a11, .ref a12, .ref a13, .ref a14, .ref a15, .ref a16])), (a9, .inl (nz_cI g, 6, .inl f9)), (a10, .inl (nz_cI g, 6, .inl f10)), (a11, .inl (nz_cI g, 6, .inl f11)), (a12, .inl (nz_cI g, 5, .inl f12)), (a13, .inl (nz_cI g, 5, .inl f13)), (a14, .inl (nz_cI g, 5, .inl f14)), (a15, .inl (nz_cI g, 5, .inl f15)), (a16, .inl (nz_cI g, 48, .inl f16)), (ap, .inl (nz_cI g, 6, .inl fp))])) → nz_C y g k n ws pc ls st rest [(o, .inr (5, [.int r0, .int r1, .int r2, .int r3, .int r4, .int r5, .int r6, .int r7, .int r8, .ref a9, .ref a10, .ref a11, .ref a12, .ref a13, .ref a14, .ref a15, .ref a16])), (a9, .inl (nz_cI g, 6, .inl f9)), (a10, .inl (nz_cI g, 6, .inl f10)), (a11, .inl (nz_cI g, 6, .inl f11)), (a12, .inl (nz_cI g, 5, .inl f12)), (a13, .inl (nz_cI g, 5, .inl f13)), (a14, .inl (nz_cI g, 5, .inl f14)), (a15, .inl (nz_cI g, 5, .inl f15)), (a16, .inl (nz_cI g, 48, .inl f16)), (ap, .inl (nz_cI g, 6, .inl fp))] (nz_Qi g [(o, .inr (5, [.int r0, .int r1, .int r2, .int r3, .int r4, .int r5, .int r6, .int r7, .int r8, .ref a9, .ref a10, .ref a11, .ref a12, .ref a13, .ref a14, .ref a15, .ref a16])), (a9, .inl (nz_cI g, 6, .inl f9)), (a10, .inl (nz_cI g, 6, .inl f10)), (a11, .inl (nz_cI g, 6, .inl f11)), (a12, .inl (nz_cI g, 5, .inl f12)), (a13, .inl (nz_cI g, 5, .inl f13)), (a14, .inl (nz_cI g, 5, .inl f14)), (a15, .inl (nz_cI g, 5, .inl f15)), (a16, .inl (nz_cI g, 48, .inl f16)), (ap, .inl (nz_cI g, 6, .inl fp))] (fun r (u : Unit) => K r) (fun u => [(o, .inr (5, [.int r0, .int r1, .int r2, .int r3, .int r4, .int r5, .int r6, .int r7, .int r8, .ref a9, .ref a10, .ref a11, .ref a12, .ref a13, .ref a14, .ref a15, .ref a16])), (a9, .inl (nz_cI g, 6, .inl f9)), (a10, .inl (nz_cI g, 6, .inl f10)), (a11, .inl (nz_cI g, 6, .inl f11)), (a12, .inl (nz_cI g, 5, .inl f12)), (a13, .inl (nz_cI g, 5, .inl f13)), (a14, .inl (nz_cI g, 5, .inl f14)), (a15, .inl (nz_cI g, 5, .inl f15)), (a16, .inl (nz_cI g, 48, .inl f16)), (ap, .inl (nz_cI g, 6, .inl fp))])) av isC) (h : wp_X5_isOut_p f11 f12 f13 fp v1 v3 K) (ws' : va_W) (hm : nz_mrg ws isC [(o, .inr (5, [.int r0, .int r1, .int r2, .int r3, .int r4, .int r5, .int r6, .int r7, .int r8, .ref a9, .ref a10, .ref a11, .ref a12, .ref a13, .ref a14, .ref a15, .ref a16])), (a9, .inl (nz_cI g, 6, .inl f9)), (a10, .inl (nz_cI g, 6, .inl f10)), (a11, .inl (nz_cI g, 6, .inl f11)), (a12, .inl (nz_cI g, 5, .inl f12)), (a13, .inl (nz_cI g, 5, .inl f13)), (a14, .inl (nz_cI g, 5, .inl f14)), (a15, .inl (nz_cI g, 5, .inl f15)), (a16, .inl (nz_cI g, 48, .inl f16)), (ap, .inl (nz_cI g, 6, .inl fp))] = ws' ) (kk : ∀ (r : Int32), K r → nz_V y g k n ws' (pc + 3) ls (.int r :: rest)) : nz_V y g k n ws pc ls st :=
  nz_ci (ws' := fun _ => ws') (run (c_X5_isOut_p (yz_l y) g o a9 a10 a11 a12 a13 a14 a15 a16 ap r0 r1 r2 r3 r4 r5 r6 r7 r8 f9 f10 f11 f12 f13 f14 f15 f16 fp v1 v3 K h)) (fun _ => rfl) (fun _ => hm) (fun r u h => kk r h)
/-! X5_push _p -/
abbrev rm_X5_push_p : Room := { frames := 1, cells := 0, slots := 0, locals := 23 }
def S_X5_push_p_35 (r1 : Int32) (r6 : Int32) (f12 : Nat → Int32) (f14 : Nat → Int32) (v1 : Int32) (v3 : Int32) (x4 : Int32) (s0 : Int32) (fp : Nat → Int32) (K : (Nat → Int32) → Prop) : Prop := wp_X5_wayIn f12 f14 v1 v3 (fun q5 => ((¬ q5 = 1 → ((x4 ≤ 0 → (vp_in x4 6 ∧ (∀ w9 : Int32, w9 = (if ((fp x4.toNatClampNeg) - s0) < 0 then 0 else ((fp x4.toNatClampNeg) - s0)) → (vp_in x4 6 ∧ K (upd fp x4.toNatClampNeg w9))))) ∧ (¬ (x4 ≤ 0) → (vp_in (x4 - 1) 6 ∧ (vp_in x4 6 ∧ (∀ w13 : Int32, w13 = (if ((fp x4.toNatClampNeg) - s0) < ((fp (x4 - 1).toNatClampNeg) + 1) then ((fp (x4 - 1).toNatClampNeg) + 1) else ((fp x4.toNatClampNeg) - s0)) → (vp_in x4 6 ∧ K (upd fp x4.toNatClampNeg w13)))))))) ∧ (q5 = 1 → ((r6 ≤ (x4 + 1) → (vp_in x4 6 ∧ (∀ w17 : Int32, w17 = (if r1 < ((fp x4.toNatClampNeg) + s0) then r1 else ((fp x4.toNatClampNeg) + s0)) → (vp_in x4 6 ∧ K (upd fp x4.toNatClampNeg w17))))) ∧ (¬ (r6 ≤ (x4 + 1)) → (vp_in (x4 + 1) 6 ∧ (vp_in x4 6 ∧ (∀ w21 : Int32, w21 = (if ((fp (x4 + 1).toNatClampNeg) - 1) < ((fp x4.toNatClampNeg) + s0) then ((fp (x4 + 1).toNatClampNeg) - 1) else ((fp x4.toNatClampNeg) + s0)) → (vp_in x4 6 ∧ K (upd fp x4.toNatClampNeg w21))))))))))
set_option maxHeartbeats 4000000 in
set_option maxRecDepth 100000 in
theorem t_X5_push_p_35 {y : nz_Y} {g : nz_G} (F : nz_F y g cX5_push 7 wsX5_push RX5 none rm_X5_push_p) {wc0 : va_W} {sz : Nat} {K : (Nat → Int32) → Prop} (o : Nat) (a9 : Nat) (a10 : Nat) (a11 : Nat) (a12 : Nat) (a13 : Nat) (a14 : Nat) (a15 : Nat) (a16 : Nat) (ap : Nat) (r0 : Int32) (r1 : Int32) (r2 : Int32) (r3 : Int32) (r4 : Int32) (r5 : Int32) (r6 : Int32) (r7 : Int32) (r8 : Int32) (f9 : Nat → Int32) (f10 : Nat → Int32) (f11 : Nat → Int32) (f12 : Nat → Int32) (f13 : Nat → Int32) (f14 : Nat → Int32) (f15 : Nat → Int32) (f16 : Nat → Int32) (v1 : Int32) (v3 : Int32) (x4 : Int32) (s0 : Int32) (fp : Nat → Int32) (hQ : yz_A y = va_A wc0 sz ∧ yz_Q y = MQ (yz_b y) ((nz_Qv g wc0 (fun (u : (Nat → Int32)) => K u) (fun u => [(o, .inr (5, [.int r0, .int r1, .int r2, .int r3, .int r4, .int r5, .int r6, .int r7, .int r8, .ref a9, .ref a10, .ref a11, .ref a12, .ref a13, .ref a14, .ref a15, .ref a16])), (a9, .inl (nz_cI g, 6, .inl f9)), (a10, .inl (nz_cI g, 6, .inl f10)), (a11, .inl (nz_cI g, 6, .inl f11)), (a12, .inl (nz_cI g, 5, .inl f12)), (a13, .inl (nz_cI g, 5, .inl f13)), (a14, .inl (nz_cI g, 5, .inl f14)), (a15, .inl (nz_cI g, 5, .inl f15)), (a16, .inl (nz_cI g, 48, .inl f16)), (ap, .inl (nz_cI g, 6, .inl u))])) sz) (yz_a y) (yz_s y) 0 0 (va_A wc0 sz)) : S_X5_push_p_35 r1 r6 f12 f14 v1 v3 x4 s0 fp K → nz_V y g 0 0 [(o, .inr (5, [.int r0, .int r1, .int r2, .int r3, .int r4, .int r5, .int r6, .int r7, .int r8, .ref a9, .ref a10, .ref a11, .ref a12, .ref a13, .ref a14, .ref a15, .ref a16])), (a9, .inl (nz_cI g, 6, .inl f9)), (a10, .inl (nz_cI g, 6, .inl f10)), (a11, .inl (nz_cI g, 6, .inl f11)), (a12, .inl (nz_cI g, 5, .inl f12)), (a13, .inl (nz_cI g, 5, .inl f13)), (a14, .inl (nz_cI g, 5, .inl f14)), (a15, .inl (nz_cI g, 5, .inl f15)), (a16, .inl (nz_cI g, 48, .inl f16)), (ap, .inl (nz_cI g, 6, .inl fp))] 35 [(0, .ref o), (1, .int v1), (2, .ref ap), (3, .int v3), (4, .int x4)] [.int s0] := by
  intro h
  unfold S_X5_push_p_35 at h
  refine nz_istore (lv' := [(5, .int s0), (0, .ref o), (1, .int v1), (2, .ref ap), (3, .int v3), (4, .int x4)]) F dX5_push_35 (by decide) rfl ?_
  refine nz_aload_n F dX5_push_37 rfl 1 rfl ?_
  refine nz_iload_n F dX5_push_38 rfl 2 rfl ?_
  refine nz_iload_n F dX5_push_39 rfl 4 rfl ?_
  refine k_X5_wayIn o a9 a10 a11 a12 a13 a14 a15 a16 r0 r1 r2 r3 r4 r5 r6 r7 r8 f9 f10 f11 f12 f13 f14 f15 f16 v1 v3 (fun hM => nz_runV F gX5_push_X5_wayIn rfl hd_X5_wayIn rfl hM dX5_push_40 [0, 1, 2, 3, 4, 5, 6, 7, 8] rfl rfl 0 rfl rfl rfl (Nat.le_of_ble_eq_true rfl) rfl) h ([(o, .inr (5, [.int r0, .int r1, .int r2, .int r3, .int r4, .int r5, .int r6, .int r7, .int r8, .ref a9, .ref a10, .ref a11, .ref a12, .ref a13, .ref a14, .ref a15, .ref a16])), (a9, .inl (nz_cI g, 6, .inl f9)), (a10, .inl (nz_cI g, 6, .inl f10)), (a11, .inl (nz_cI g, 6, .inl f11)), (a12, .inl (nz_cI g, 5, .inl f12)), (a13, .inl (nz_cI g, 5, .inl f13)), (a14, .inl (nz_cI g, 5, .inl f14)), (a15, .inl (nz_cI g, 5, .inl f15)), (a16, .inl (nz_cI g, 48, .inl f16)), (ap, .inl (nz_cI g, 6, .inl fp))]) (rfl) (fun q5 h => ?_)
  refine nz_iconst (v := 1) F dX5_push_43 (by decide) ?_
  refine nz_icmp_ne (tgt := 94) F dX5_push_44 (by decide) (fun c6 => ?_) (fun c6 => ?_)
  · have h := h.1 c6
    refine nz_iload F dX5_push_94 5 rfl ?_
    refine nz_if_le (tgt := 110) F dX5_push_96 (by decide) (fun c7 => ?_) (fun c7 => ?_)
    · have h := h.1 c7
      refine nz_iconst (v := 0) F dX5_push_110 (by decide) ?_
      refine nz_istore (lv' := [(6, .int 0), (5, .int s0), (0, .ref o), (1, .int v1), (2, .ref ap), (3, .int v3), (4, .int x4)]) F dX5_push_111 (by decide) rfl ?_
      refine nz_aload_n F dX5_push_113 rfl 4 rfl ?_
      refine nz_iload F dX5_push_114 6 rfl ?_
      refine nz_aload_n F dX5_push_116 rfl 4 rfl ?_
      refine nz_iload F dX5_push_117 6 rfl ?_
      obtain ⟨i8, h⟩ := h
      refine nz_iald F 9 rfl i8 dX5_push_119 ?_
      refine nz_iload F dX5_push_120 1 rfl ?_
      refine nz_isub F dX5_push_122 ?_
      refine nz_iload F dX5_push_123 0 rfl ?_
      refine nz_mmax F wd_X5_push_max0 wd_X5_push_max1 wd_X5_push_max2 wd_X5_push_max3 rfl (Nat.le_of_ble_eq_true rfl) ⟨Nat.le_of_ble_eq_true rfl, Nat.le_of_ble_eq_true rfl⟩ dX5_push_125 ?_
      refine nz_topi (fun w9 ew9 => ?_)
      have h := h w9 ew9
      obtain ⟨i10, h⟩ := h
      refine nz_iast (ws' := [(o, .inr (5, [.int r0, .int r1, .int r2, .int r3, .int r4, .int r5, .int r6, .int r7, .int r8, .ref a9, .ref a10, .ref a11, .ref a12, .ref a13, .ref a14, .ref a15, .ref a16])), (a9, .inl (nz_cI g, 6, .inl f9)), (a10, .inl (nz_cI g, 6, .inl f10)), (a11, .inl (nz_cI g, 6, .inl f11)), (a12, .inl (nz_cI g, 5, .inl f12)), (a13, .inl (nz_cI g, 5, .inl f13)), (a14, .inl (nz_cI g, 5, .inl f14)), (a15, .inl (nz_cI g, 5, .inl f15)), (a16, .inl (nz_cI g, 48, .inl f16)), (ap, .inl (nz_cI g, 6, .inl (upd fp x4.toNatClampNeg w9)))]) F 9 rfl i10 dX5_push_128 rfl ?_
      exact nz_vret F hQ (upd fp x4.toNatClampNeg w9) h rfl dX5_push_129
    · have h := h.2 c7
      refine nz_aload_n F dX5_push_99 rfl 3 rfl ?_
      refine nz_iload F dX5_push_100 5 rfl ?_
      refine nz_iconst (v := 1) F dX5_push_102 (by decide) ?_
      refine nz_isub F dX5_push_103 ?_
      obtain ⟨i11, h⟩ := h
      refine nz_iald F 9 rfl i11 dX5_push_104 ?_
      refine nz_iconst (v := 1) F dX5_push_105 (by decide) ?_
      refine nz_iadd F dX5_push_106 ?_
      refine nz_goto (tgt := 111) F dX5_push_107 (by decide) ?_
      refine nz_istore (lv' := [(6, .int ((fp (x4 - 1).toNatClampNeg) + 1)), (5, .int s0), (0, .ref o), (1, .int v1), (2, .ref ap), (3, .int v3), (4, .int x4)]) F dX5_push_111 (by decide) rfl ?_
      refine nz_aload_n F dX5_push_113 rfl 4 rfl ?_
      refine nz_iload F dX5_push_114 6 rfl ?_
      refine nz_aload_n F dX5_push_116 rfl 4 rfl ?_
      refine nz_iload F dX5_push_117 6 rfl ?_
      obtain ⟨i12, h⟩ := h
      refine nz_iald F 9 rfl i12 dX5_push_119 ?_
      refine nz_iload F dX5_push_120 1 rfl ?_
      refine nz_isub F dX5_push_122 ?_
      refine nz_iload F dX5_push_123 0 rfl ?_
      refine nz_mmax F wd_X5_push_max0 wd_X5_push_max1 wd_X5_push_max2 wd_X5_push_max3 rfl (Nat.le_of_ble_eq_true rfl) ⟨Nat.le_of_ble_eq_true rfl, Nat.le_of_ble_eq_true rfl⟩ dX5_push_125 ?_
      refine nz_topi (fun w13 ew13 => ?_)
      have h := h w13 ew13
      obtain ⟨i14, h⟩ := h
      refine nz_iast (ws' := [(o, .inr (5, [.int r0, .int r1, .int r2, .int r3, .int r4, .int r5, .int r6, .int r7, .int r8, .ref a9, .ref a10, .ref a11, .ref a12, .ref a13, .ref a14, .ref a15, .ref a16])), (a9, .inl (nz_cI g, 6, .inl f9)), (a10, .inl (nz_cI g, 6, .inl f10)), (a11, .inl (nz_cI g, 6, .inl f11)), (a12, .inl (nz_cI g, 5, .inl f12)), (a13, .inl (nz_cI g, 5, .inl f13)), (a14, .inl (nz_cI g, 5, .inl f14)), (a15, .inl (nz_cI g, 5, .inl f15)), (a16, .inl (nz_cI g, 48, .inl f16)), (ap, .inl (nz_cI g, 6, .inl (upd fp x4.toNatClampNeg w13)))]) F 9 rfl i14 dX5_push_128 rfl ?_
      exact nz_vret F hQ (upd fp x4.toNatClampNeg w13) h rfl dX5_push_129
  · have h := h.2 c6
    refine nz_iload F dX5_push_47 5 rfl ?_
    refine nz_iconst (v := 1) F dX5_push_49 (by decide) ?_
    refine nz_iadd F dX5_push_50 ?_
    refine nz_aload_n F dX5_push_51 rfl 1 rfl ?_
    refine nz_get F iw_X5_push_5 0 rfl rfl 6 (by decide) rfl fl_X5_push_56 rfl dX5_push_52 ?_
    refine nz_icmp_ge (tgt := 69) F dX5_push_55 (by decide) (fun c15 => ?_) (fun c15 => ?_)
    · have h := h.1 c15
      refine nz_aload_n F dX5_push_69 rfl 1 rfl ?_
      refine nz_get F iw_X5_push_5 0 rfl rfl 1 (by decide) rfl fl_X5_push_40 rfl dX5_push_70 ?_
      refine nz_istore (lv' := [(6, .int r1), (5, .int s0), (0, .ref o), (1, .int v1), (2, .ref ap), (3, .int v3), (4, .int x4)]) F dX5_push_73 (by decide) rfl ?_
      refine nz_aload_n F dX5_push_75 rfl 4 rfl ?_
      refine nz_iload F dX5_push_76 6 rfl ?_
      refine nz_aload_n F dX5_push_78 rfl 4 rfl ?_
      refine nz_iload F dX5_push_79 6 rfl ?_
      obtain ⟨i16, h⟩ := h
      refine nz_iald F 9 rfl i16 dX5_push_81 ?_
      refine nz_iload F dX5_push_82 1 rfl ?_
      refine nz_iadd F dX5_push_84 ?_
      refine nz_iload F dX5_push_85 0 rfl ?_
      refine nz_mmin F wd_X5_push_min0 wd_X5_push_min1 wd_X5_push_min2 wd_X5_push_min3 rfl (Nat.le_of_ble_eq_true rfl) ⟨Nat.le_of_ble_eq_true rfl, Nat.le_of_ble_eq_true rfl⟩ dX5_push_87 ?_
      refine nz_topi (fun w17 ew17 => ?_)
      have h := h w17 ew17
      obtain ⟨i18, h⟩ := h
      refine nz_iast (ws' := [(o, .inr (5, [.int r0, .int r1, .int r2, .int r3, .int r4, .int r5, .int r6, .int r7, .int r8, .ref a9, .ref a10, .ref a11, .ref a12, .ref a13, .ref a14, .ref a15, .ref a16])), (a9, .inl (nz_cI g, 6, .inl f9)), (a10, .inl (nz_cI g, 6, .inl f10)), (a11, .inl (nz_cI g, 6, .inl f11)), (a12, .inl (nz_cI g, 5, .inl f12)), (a13, .inl (nz_cI g, 5, .inl f13)), (a14, .inl (nz_cI g, 5, .inl f14)), (a15, .inl (nz_cI g, 5, .inl f15)), (a16, .inl (nz_cI g, 48, .inl f16)), (ap, .inl (nz_cI g, 6, .inl (upd fp x4.toNatClampNeg w17)))]) F 9 rfl i18 dX5_push_90 rfl ?_
      refine nz_goto (tgt := 129) F dX5_push_91 (by decide) ?_
      exact nz_vret F hQ (upd fp x4.toNatClampNeg w17) h rfl dX5_push_129
    · have h := h.2 c15
      refine nz_aload_n F dX5_push_58 rfl 3 rfl ?_
      refine nz_iload F dX5_push_59 5 rfl ?_
      refine nz_iconst (v := 1) F dX5_push_61 (by decide) ?_
      refine nz_iadd F dX5_push_62 ?_
      obtain ⟨i19, h⟩ := h
      refine nz_iald F 9 rfl i19 dX5_push_63 ?_
      refine nz_iconst (v := 1) F dX5_push_64 (by decide) ?_
      refine nz_isub F dX5_push_65 ?_
      refine nz_goto (tgt := 73) F dX5_push_66 (by decide) ?_
      refine nz_istore (lv' := [(6, .int ((fp (x4 + 1).toNatClampNeg) - 1)), (5, .int s0), (0, .ref o), (1, .int v1), (2, .ref ap), (3, .int v3), (4, .int x4)]) F dX5_push_73 (by decide) rfl ?_
      refine nz_aload_n F dX5_push_75 rfl 4 rfl ?_
      refine nz_iload F dX5_push_76 6 rfl ?_
      refine nz_aload_n F dX5_push_78 rfl 4 rfl ?_
      refine nz_iload F dX5_push_79 6 rfl ?_
      obtain ⟨i20, h⟩ := h
      refine nz_iald F 9 rfl i20 dX5_push_81 ?_
      refine nz_iload F dX5_push_82 1 rfl ?_
      refine nz_iadd F dX5_push_84 ?_
      refine nz_iload F dX5_push_85 0 rfl ?_
      refine nz_mmin F wd_X5_push_min0 wd_X5_push_min1 wd_X5_push_min2 wd_X5_push_min3 rfl (Nat.le_of_ble_eq_true rfl) ⟨Nat.le_of_ble_eq_true rfl, Nat.le_of_ble_eq_true rfl⟩ dX5_push_87 ?_
      refine nz_topi (fun w21 ew21 => ?_)
      have h := h w21 ew21
      obtain ⟨i22, h⟩ := h
      refine nz_iast (ws' := [(o, .inr (5, [.int r0, .int r1, .int r2, .int r3, .int r4, .int r5, .int r6, .int r7, .int r8, .ref a9, .ref a10, .ref a11, .ref a12, .ref a13, .ref a14, .ref a15, .ref a16])), (a9, .inl (nz_cI g, 6, .inl f9)), (a10, .inl (nz_cI g, 6, .inl f10)), (a11, .inl (nz_cI g, 6, .inl f11)), (a12, .inl (nz_cI g, 5, .inl f12)), (a13, .inl (nz_cI g, 5, .inl f13)), (a14, .inl (nz_cI g, 5, .inl f14)), (a15, .inl (nz_cI g, 5, .inl f15)), (a16, .inl (nz_cI g, 48, .inl f16)), (ap, .inl (nz_cI g, 6, .inl (upd fp x4.toNatClampNeg w21)))]) F 9 rfl i22 dX5_push_90 rfl ?_
      refine nz_goto (tgt := 129) F dX5_push_91 (by decide) ?_
      exact nz_vret F hQ (upd fp x4.toNatClampNeg w21) h rfl dX5_push_129
def wp_X5_push_p (r1 : Int32) (r6 : Int32) (f12 : Nat → Int32) (f13 : Nat → Int32) (f14 : Nat → Int32) (f15 : Nat → Int32) (fp : Nat → Int32) (v1 : Int32) (v3 : Int32) (K : (Nat → Int32) → Prop) : Prop := (vp_in v1 5 ∧ (vp_in v1 5 ∧ ((¬ (f12 v1.toNatClampNeg) = 2 → (vp_in v1 5 ∧ S_X5_push_p_35 r1 r6 f12 f14 v1 v3 (f13 v1.toNatClampNeg) (f15 v1.toNatClampNeg) fp K)) ∧ ((f12 v1.toNatClampNeg) = 2 → (vp_in v1 5 ∧ S_X5_push_p_35 r1 r6 f12 f14 v1 v3 (f13 v1.toNatClampNeg) (2 * (f15 v1.toNatClampNeg)) fp K)))))
set_option maxHeartbeats 4000000 in
set_option maxRecDepth 100000 in
theorem c_X5_push_p (l : Launch) (g : nz_G) (o : Nat) (a9 : Nat) (a10 : Nat) (a11 : Nat) (a12 : Nat) (a13 : Nat) (a14 : Nat) (a15 : Nat) (a16 : Nat) (ap : Nat) (r0 : Int32) (r1 : Int32) (r2 : Int32) (r3 : Int32) (r4 : Int32) (r5 : Int32) (r6 : Int32) (r7 : Int32) (r8 : Int32) (f9 : Nat → Int32) (f10 : Nat → Int32) (f11 : Nat → Int32) (f12 : Nat → Int32) (f13 : Nat → Int32) (f14 : Nat → Int32) (f15 : Nat → Int32) (f16 : Nat → Int32) (fp : Nat → Int32) (v1 : Int32) (v3 : Int32) (K : (Nat → Int32) → Prop) (h : wp_X5_push_p r1 r6 f12 f13 f14 f15 fp v1 v3 K) : nz_M l yX5_push wsX5_push rm_X5_push_p g [.ref o, .int v1, .ref ap, .int v3] [(o, .inr (5, [.int r0, .int r1, .int r2, .int r3, .int r4, .int r5, .int r6, .int r7, .int r8, .ref a9, .ref a10, .ref a11, .ref a12, .ref a13, .ref a14, .ref a15, .ref a16])), (a9, .inl (nz_cI g, 6, .inl f9)), (a10, .inl (nz_cI g, 6, .inl f10)), (a11, .inl (nz_cI g, 6, .inl f11)), (a12, .inl (nz_cI g, 5, .inl f12)), (a13, .inl (nz_cI g, 5, .inl f13)), (a14, .inl (nz_cI g, 5, .inl f14)), (a15, .inl (nz_cI g, 5, .inl f15)), (a16, .inl (nz_cI g, 48, .inl f16)), (ap, .inl (nz_cI g, 6, .inl fp))] (nz_Qv g [(o, .inr (5, [.int r0, .int r1, .int r2, .int r3, .int r4, .int r5, .int r6, .int r7, .int r8, .ref a9, .ref a10, .ref a11, .ref a12, .ref a13, .ref a14, .ref a15, .ref a16])), (a9, .inl (nz_cI g, 6, .inl f9)), (a10, .inl (nz_cI g, 6, .inl f10)), (a11, .inl (nz_cI g, 6, .inl f11)), (a12, .inl (nz_cI g, 5, .inl f12)), (a13, .inl (nz_cI g, 5, .inl f13)), (a14, .inl (nz_cI g, 5, .inl f14)), (a15, .inl (nz_cI g, 5, .inl f15)), (a16, .inl (nz_cI g, 48, .inl f16)), (ap, .inl (nz_cI g, 6, .inl fp))] (fun (u : (Nat → Int32)) => K u) (fun u => [(o, .inr (5, [.int r0, .int r1, .int r2, .int r3, .int r4, .int r5, .int r6, .int r7, .int r8, .ref a9, .ref a10, .ref a11, .ref a12, .ref a13, .ref a14, .ref a15, .ref a16])), (a9, .inl (nz_cI g, 6, .inl f9)), (a10, .inl (nz_cI g, 6, .inl f10)), (a11, .inl (nz_cI g, 6, .inl f11)), (a12, .inl (nz_cI g, 5, .inl f12)), (a13, .inl (nz_cI g, 5, .inl f13)), (a14, .inl (nz_cI g, 5, .inl f14)), (a15, .inl (nz_cI g, 5, .inl f15)), (a16, .inl (nz_cI g, 48, .inl f16)), (ap, .inl (nz_cI g, 6, .inl u))])) := by
  refine nz_M.of (bytes := cX5_push) (nL := 7) (ret := none) (own := RX5) (by decide) rfl rfl ⟨rfl, rfl⟩ rfl ?_
  intro y F hl hQ
  obtain ⟨sz, hQ⟩ := hQ
  refine nz_ent (lv' := [(0, .ref o), (1, .int v1), (2, .ref ap), (3, .int v3)]) rfl ?_
  unfold wp_X5_push_p at h
  refine nz_aload_n F dX5_push_0 rfl 0 rfl ?_
  refine nz_get F iw_X5_push_5 0 rfl rfl 13 (by decide) rfl fl_X5_push_24 rfl dX5_push_1 ?_
  refine nz_iload_n F dX5_push_4 rfl 1 rfl ?_
  obtain ⟨i1, h⟩ := h
  refine nz_iald F 5 rfl i1 dX5_push_5 ?_
  refine nz_istore (lv' := [(4, .int (f13 v1.toNatClampNeg)), (0, .ref o), (1, .int v1), (2, .ref ap), (3, .int v3)]) F dX5_push_6 (by decide) rfl ?_
  refine nz_aload_n F dX5_push_8 rfl 1 rfl ?_
  refine nz_get F iw_X5_push_5 0 rfl rfl 12 (by decide) rfl fl_X5_push_21 rfl dX5_push_9 ?_
  refine nz_iload_n F dX5_push_12 rfl 2 rfl ?_
  obtain ⟨i2, h⟩ := h
  refine nz_iald F 4 rfl i2 dX5_push_13 ?_
  refine nz_iconst (v := 2) F dX5_push_14 (by decide) ?_
  refine nz_icmp_ne (tgt := 29) F dX5_push_15 (by decide) (fun c3 => ?_) (fun c3 => ?_)
  · have h := h.1 c3
    refine nz_aload_n F dX5_push_29 rfl 1 rfl ?_
    refine nz_get F iw_X5_push_5 0 rfl rfl 15 (by decide) rfl fl_X5_push_30 rfl dX5_push_30 ?_
    refine nz_iload_n F dX5_push_33 rfl 2 rfl ?_
    obtain ⟨i4, h⟩ := h
    refine nz_iald F 7 rfl i4 dX5_push_34 ?_
    refine nz_ls (lv' := [(0, .ref o), (1, .int v1), (2, .ref ap), (3, .int v3), (4, .int (f13 v1.toNatClampNeg))]) [1, 2, 3, 4, 0] rfl ?_
    exact t_X5_push_p_35 F o a9 a10 a11 a12 a13 a14 a15 a16 ap r0 r1 r2 r3 r4 r5 r6 r7 r8 f9 f10 f11 f12 f13 f14 f15 f16 v1 v3 (f13 v1.toNatClampNeg) (f15 v1.toNatClampNeg) fp hQ h
  · have h := h.2 c3
    refine nz_iconst (v := 2) F dX5_push_18 (by decide) ?_
    refine nz_aload_n F dX5_push_19 rfl 1 rfl ?_
    refine nz_get F iw_X5_push_5 0 rfl rfl 15 (by decide) rfl fl_X5_push_30 rfl dX5_push_20 ?_
    refine nz_iload_n F dX5_push_23 rfl 2 rfl ?_
    obtain ⟨i23, h⟩ := h
    refine nz_iald F 7 rfl i23 dX5_push_24 ?_
    refine nz_imul F dX5_push_25 ?_
    refine nz_goto (tgt := 35) F dX5_push_26 (by decide) ?_
    refine nz_ls (lv' := [(0, .ref o), (1, .int v1), (2, .ref ap), (3, .int v3), (4, .int (f13 v1.toNatClampNeg))]) [1, 2, 3, 4, 0] rfl ?_
    exact t_X5_push_p_35 F o a9 a10 a11 a12 a13 a14 a15 a16 ap r0 r1 r2 r3 r4 r5 r6 r7 r8 f9 f10 f11 f12 f13 f14 f15 f16 v1 v3 (f13 v1.toNatClampNeg) (2 * (f15 v1.toNatClampNeg)) fp hQ h
theorem k_X5_push_p {y : nz_Y} {g : nz_G} {k n : Nat} {ws : va_W} {pc : Nat} {ls : List (Nat × Value)} {st rest : List Value} {av : Array Value} {isC : List Nat} {K : (Nat → Int32) → Prop} (o : Nat) (a9 : Nat) (a10 : Nat) (a11 : Nat) (a12 : Nat) (a13 : Nat) (a14 : Nat) (a15 : Nat) (a16 : Nat) (ap : Nat) (r0 : Int32) (r1 : Int32) (r2 : Int32) (r3 : Int32) (r4 : Int32) (r5 : Int32) (r6 : Int32) (r7 : Int32) (r8 : Int32) (f9 : Nat → Int32) (f10 : Nat → Int32) (f11 : Nat → Int32) (f12 : Nat → Int32) (f13 : Nat → Int32) (f14 : Nat → Int32) (f15 : Nat → Int32) (f16 : Nat → Int32) (fp : Nat → Int32) (v1 : Int32) (v3 : Int32) (run : nz_M (yz_l y) yX5_push wsX5_push rm_X5_push_p g [.ref o, .int v1, .ref ap, .int v3] [(o, .inr (5, [.int r0, .int r1, .int r2, .int r3, .int r4, .int r5, .int r6, .int r7, .int r8, .ref a9, .ref a10, .ref a11, .ref a12, .ref a13, .ref a14, .ref a15, .ref a16])), (a9, .inl (nz_cI g, 6, .inl f9)), (a10, .inl (nz_cI g, 6, .inl f10)), (a11, .inl (nz_cI g, 6, .inl f11)), (a12, .inl (nz_cI g, 5, .inl f12)), (a13, .inl (nz_cI g, 5, .inl f13)), (a14, .inl (nz_cI g, 5, .inl f14)), (a15, .inl (nz_cI g, 5, .inl f15)), (a16, .inl (nz_cI g, 48, .inl f16)), (ap, .inl (nz_cI g, 6, .inl fp))] (nz_Qv g [(o, .inr (5, [.int r0, .int r1, .int r2, .int r3, .int r4, .int r5, .int r6, .int r7, .int r8, .ref a9, .ref a10, .ref a11, .ref a12, .ref a13, .ref a14, .ref a15, .ref a16])), (a9, .inl (nz_cI g, 6, .inl f9)), (a10, .inl (nz_cI g, 6, .inl f10)), (a11, .inl (nz_cI g, 6, .inl f11)), (a12, .inl (nz_cI g, 5, .inl f12)), (a13, .inl (nz_cI g, 5, .inl f13)), (a14, .inl (nz_cI g, 5, .inl f14)), (a15, .inl (nz_cI g, 5, .inl f15)), (a16, .inl (nz_cI g, 48, .inl f16)), (ap, .inl (nz_cI g, 6, .inl fp))] (fun (u : (Nat → Int32)) => K u) (fun u => [(o, .inr (5, [.int r0, .int r1, .int r2, .int r3, .int r4, .int r5, .int r6, .int r7, .int r8, .ref a9, .ref a10, .ref a11, .ref a12, .ref a13, .ref a14, .ref a15, .ref a16])), (a9, .inl (nz_cI g, 6, .inl f9)), (a10, .inl (nz_cI g, 6, .inl f10)), (a11, .inl (nz_cI g, 6, .inl f11)), (a12, .inl (nz_cI g, 5, .inl f12)), (a13, .inl (nz_cI g, 5, .inl f13)), (a14, .inl (nz_cI g, 5, .inl f14)), (a15, .inl (nz_cI g, 5, .inl f15)), (a16, .inl (nz_cI g, 48, .inl f16)), (ap, .inl (nz_cI g, 6, .inl u))])) → nz_C y g k n ws pc ls st rest [(o, .inr (5, [.int r0, .int r1, .int r2, .int r3, .int r4, .int r5, .int r6, .int r7, .int r8, .ref a9, .ref a10, .ref a11, .ref a12, .ref a13, .ref a14, .ref a15, .ref a16])), (a9, .inl (nz_cI g, 6, .inl f9)), (a10, .inl (nz_cI g, 6, .inl f10)), (a11, .inl (nz_cI g, 6, .inl f11)), (a12, .inl (nz_cI g, 5, .inl f12)), (a13, .inl (nz_cI g, 5, .inl f13)), (a14, .inl (nz_cI g, 5, .inl f14)), (a15, .inl (nz_cI g, 5, .inl f15)), (a16, .inl (nz_cI g, 48, .inl f16)), (ap, .inl (nz_cI g, 6, .inl fp))] (nz_Qv g [(o, .inr (5, [.int r0, .int r1, .int r2, .int r3, .int r4, .int r5, .int r6, .int r7, .int r8, .ref a9, .ref a10, .ref a11, .ref a12, .ref a13, .ref a14, .ref a15, .ref a16])), (a9, .inl (nz_cI g, 6, .inl f9)), (a10, .inl (nz_cI g, 6, .inl f10)), (a11, .inl (nz_cI g, 6, .inl f11)), (a12, .inl (nz_cI g, 5, .inl f12)), (a13, .inl (nz_cI g, 5, .inl f13)), (a14, .inl (nz_cI g, 5, .inl f14)), (a15, .inl (nz_cI g, 5, .inl f15)), (a16, .inl (nz_cI g, 48, .inl f16)), (ap, .inl (nz_cI g, 6, .inl fp))] (fun (u : (Nat → Int32)) => K u) (fun u => [(o, .inr (5, [.int r0, .int r1, .int r2, .int r3, .int r4, .int r5, .int r6, .int r7, .int r8, .ref a9, .ref a10, .ref a11, .ref a12, .ref a13, .ref a14, .ref a15, .ref a16])), (a9, .inl (nz_cI g, 6, .inl f9)), (a10, .inl (nz_cI g, 6, .inl f10)), (a11, .inl (nz_cI g, 6, .inl f11)), (a12, .inl (nz_cI g, 5, .inl f12)), (a13, .inl (nz_cI g, 5, .inl f13)), (a14, .inl (nz_cI g, 5, .inl f14)), (a15, .inl (nz_cI g, 5, .inl f15)), (a16, .inl (nz_cI g, 48, .inl f16)), (ap, .inl (nz_cI g, 6, .inl u))])) av isC) (h : wp_X5_push_p r1 r6 f12 f13 f14 f15 fp v1 v3 K) (ws' : (Nat → Int32) → va_W) (hm : ∀ (m0 : (Nat → Int32)), nz_mrg ws isC [(o, .inr (5, [.int r0, .int r1, .int r2, .int r3, .int r4, .int r5, .int r6, .int r7, .int r8, .ref a9, .ref a10, .ref a11, .ref a12, .ref a13, .ref a14, .ref a15, .ref a16])), (a9, .inl (nz_cI g, 6, .inl f9)), (a10, .inl (nz_cI g, 6, .inl f10)), (a11, .inl (nz_cI g, 6, .inl f11)), (a12, .inl (nz_cI g, 5, .inl f12)), (a13, .inl (nz_cI g, 5, .inl f13)), (a14, .inl (nz_cI g, 5, .inl f14)), (a15, .inl (nz_cI g, 5, .inl f15)), (a16, .inl (nz_cI g, 48, .inl f16)), (ap, .inl (nz_cI g, 6, .inl m0))] = ws' m0) (kk : ∀ (m0 : (Nat → Int32)), K m0 → nz_V y g k n (ws' m0) (pc + 3) ls (rest)) : nz_V y g k n ws pc ls st :=
  nz_cv (ws' := fun u => ws' u) (run (c_X5_push_p (yz_l y) g o a9 a10 a11 a12 a13 a14 a15 a16 ap r0 r1 r2 r3 r4 r5 r6 r7 r8 f9 f10 f11 f12 f13 f14 f15 f16 fp v1 v3 K h)) (fun _ => rfl) (fun u => hm u) (fun u h => kk u h)
/-! X5_pass _p -/
abbrev rm_X5_pass_p : Room := { frames := 2, cells := 0, slots := 0, locals := 49 }
def S_X5_pass_p_3 (r1 : Int32) (r6 : Int32) (r7 : Int32) (f11 : Nat → Int32) (f12 : Nat → Int32) (f13 : Nat → Int32) (f14 : Nat → Int32) (f15 : Nat → Int32) (v2 : Int32) (v3 : Int32) (K : (Nat → Int32) → Prop) (R3 : Int32 → (Nat → Int32) → Prop) (x4 : Int32) (fp : Nat → Int32) : Prop := ((r7 ≤ x4 → K fp) ∧ (¬ (r7 ≤ x4) → ((((v3 >>> (x4 &&& 31)) &&& 1) = 0 → R3 (x4 + 1) fp) ∧ (¬ (((v3 >>> (x4 &&& 31)) &&& 1) = 0) → wp_X5_isOut_p f11 f12 f13 fp x4 v2 (fun q3 => ((q3 = 0 → R3 (x4 + 1) fp) ∧ (¬ (q3 = 0) → wp_X5_push_p r1 r6 f12 f13 f14 f15 fp x4 v2 (fun m5 => R3 (x4 + 1) m5))))))))
set_option maxHeartbeats 4000000 in
set_option maxRecDepth 100000 in
theorem t_X5_pass_p_3 {y : nz_Y} {g : nz_G} (F : nz_F y g cX5_pass 5 wsX5_pass RX5 none rm_X5_pass_p) {wc0 : va_W} {sz : Nat} {K : (Nat → Int32) → Prop} (o : Nat) (a9 : Nat) (a10 : Nat) (a11 : Nat) (a12 : Nat) (a13 : Nat) (a14 : Nat) (a15 : Nat) (a16 : Nat) (ap : Nat) (r0 : Int32) (r1 : Int32) (r2 : Int32) (r3 : Int32) (r4 : Int32) (r5 : Int32) (r6 : Int32) (r7 : Int32) (r8 : Int32) (f9 : Nat → Int32) (f10 : Nat → Int32) (f11 : Nat → Int32) (f12 : Nat → Int32) (f13 : Nat → Int32) (f14 : Nat → Int32) (f15 : Nat → Int32) (f16 : Nat → Int32) (v2 : Int32) (v3 : Int32) (hQ : yz_A y = va_A wc0 sz ∧ yz_Q y = MQ (yz_b y) ((nz_Qv g wc0 (fun (u : (Nat → Int32)) => K u) (fun u => [(o, .inr (5, [.int r0, .int r1, .int r2, .int r3, .int r4, .int r5, .int r6, .int r7, .int r8, .ref a9, .ref a10, .ref a11, .ref a12, .ref a13, .ref a14, .ref a15, .ref a16])), (a9, .inl (nz_cI g, 6, .inl f9)), (a10, .inl (nz_cI g, 6, .inl f10)), (a11, .inl (nz_cI g, 6, .inl f11)), (a12, .inl (nz_cI g, 5, .inl f12)), (a13, .inl (nz_cI g, 5, .inl f13)), (a14, .inl (nz_cI g, 5, .inl f14)), (a15, .inl (nz_cI g, 5, .inl f15)), (a16, .inl (nz_cI g, 48, .inl f16)), (ap, .inl (nz_cI g, 6, .inl u))])) sz) (yz_a y) (yz_s y) 0 0 (va_A wc0 sz)) : ∀ (n1 : Nat) (x4 : Int32) (fp : Nat → Int32), nz_it (fun _ _ => False) (S_X5_pass_p_3 r1 r6 r7 f11 f12 f13 f14 f15 v2 v3 K) n1 x4 fp → nz_V y g 0 0 [(o, .inr (5, [.int r0, .int r1, .int r2, .int r3, .int r4, .int r5, .int r6, .int r7, .int r8, .ref a9, .ref a10, .ref a11, .ref a12, .ref a13, .ref a14, .ref a15, .ref a16])), (a9, .inl (nz_cI g, 6, .inl f9)), (a10, .inl (nz_cI g, 6, .inl f10)), (a11, .inl (nz_cI g, 6, .inl f11)), (a12, .inl (nz_cI g, 5, .inl f12)), (a13, .inl (nz_cI g, 5, .inl f13)), (a14, .inl (nz_cI g, 5, .inl f14)), (a15, .inl (nz_cI g, 5, .inl f15)), (a16, .inl (nz_cI g, 48, .inl f16)), (ap, .inl (nz_cI g, 6, .inl fp))] 3 [(0, .ref o), (1, .ref ap), (2, .int v2), (3, .int v3), (4, .int x4)] [] := by
  intro n1
  induction n1 with
  | zero =>
    intro x4 fp h
    exact h.elim
  | succ n1 hR3 =>
    intro x4 fp h
    have h : S_X5_pass_p_3 r1 r6 r7 f11 f12 f13 f14 f15 v2 v3 K (nz_it (fun _ _ => False) (S_X5_pass_p_3 r1 r6 r7 f11 f12 f13 f14 f15 v2 v3 K) n1) x4 fp := h
    unfold S_X5_pass_p_3 at h
    refine nz_iload F dX5_pass_3 4 rfl ?_
    refine nz_aload_n F dX5_pass_5 rfl 0 rfl ?_
    refine nz_get F iw_X5_pass_5 0 rfl rfl 7 (by decide) rfl fl_X5_pass_59 rfl dX5_pass_6 ?_
    refine nz_icmp_ge (tgt := 46) F dX5_pass_9 (by decide) (fun c1 => ?_) (fun c1 => ?_)
    · have h := h.1 c1
      exact nz_vret F hQ fp h rfl dX5_pass_46
    · have h := h.2 c1
      refine nz_iload_n F dX5_pass_12 rfl 3 rfl ?_
      refine nz_iload F dX5_pass_13 4 rfl ?_
      refine nz_ishr F dX5_pass_15 ?_
      refine nz_iconst (v := 1) F dX5_pass_16 (by decide) ?_
      refine nz_iand F dX5_pass_17 ?_
      refine nz_if_eq (tgt := 40) F dX5_pass_18 (by decide) (fun c2 => ?_) (fun c2 => ?_)
      · have h := h.1 c2
        refine nz_iinc (v := (x4 + 1)) (j := 4) (lv' := [(4, .int (x4 + 1)), (0, .ref o), (1, .ref ap), (2, .int v2), (3, .int v3)]) F dX5_pass_40 rfl rfl (by decide) rfl ?_
        refine nz_goto (tgt := 3) F dX5_pass_43 (by decide) ?_
        refine nz_ls (lv' := [(0, .ref o), (1, .ref ap), (2, .int v2), (3, .int v3), (4, .int (x4 + 1))]) [1, 2, 3, 4, 0] rfl ?_
        exact hR3 (x4 + 1) fp h
      · have h := h.2 c2
        refine nz_aload_n F dX5_pass_21 rfl 0 rfl ?_
        refine nz_iload F dX5_pass_22 4 rfl ?_
        refine nz_aload_n F dX5_pass_24 rfl 1 rfl ?_
        refine nz_iload_n F dX5_pass_25 rfl 2 rfl ?_
        refine k_X5_isOut_p o a9 a10 a11 a12 a13 a14 a15 a16 ap r0 r1 r2 r3 r4 r5 r6 r7 r8 f9 f10 f11 f12 f13 f14 f15 f16 fp x4 v2 (fun hM => nz_runV F gX5_pass_X5_isOut rfl hd_X5_isOut rfl hM dX5_pass_26 [0, 1, 2, 3, 4, 5, 6, 7, 8, 9] rfl rfl 0 rfl rfl rfl (Nat.le_of_ble_eq_true rfl) rfl) h ([(o, .inr (5, [.int r0, .int r1, .int r2, .int r3, .int r4, .int r5, .int r6, .int r7, .int r8, .ref a9, .ref a10, .ref a11, .ref a12, .ref a13, .ref a14, .ref a15, .ref a16])), (a9, .inl (nz_cI g, 6, .inl f9)), (a10, .inl (nz_cI g, 6, .inl f10)), (a11, .inl (nz_cI g, 6, .inl f11)), (a12, .inl (nz_cI g, 5, .inl f12)), (a13, .inl (nz_cI g, 5, .inl f13)), (a14, .inl (nz_cI g, 5, .inl f14)), (a15, .inl (nz_cI g, 5, .inl f15)), (a16, .inl (nz_cI g, 48, .inl f16)), (ap, .inl (nz_cI g, 6, .inl fp))]) (rfl) (fun q3 h => ?_)
        refine nz_if_eq (tgt := 40) F dX5_pass_29 (by decide) (fun c4 => ?_) (fun c4 => ?_)
        · have h := h.1 c4
          refine nz_iinc (v := (x4 + 1)) (j := 4) (lv' := [(4, .int (x4 + 1)), (0, .ref o), (1, .ref ap), (2, .int v2), (3, .int v3)]) F dX5_pass_40 rfl rfl (by decide) rfl ?_
          refine nz_goto (tgt := 3) F dX5_pass_43 (by decide) ?_
          refine nz_ls (lv' := [(0, .ref o), (1, .ref ap), (2, .int v2), (3, .int v3), (4, .int (x4 + 1))]) [1, 2, 3, 4, 0] rfl ?_
          exact hR3 (x4 + 1) fp h
        · have h := h.2 c4
          refine nz_aload_n F dX5_pass_32 rfl 0 rfl ?_
          refine nz_iload F dX5_pass_33 4 rfl ?_
          refine nz_aload_n F dX5_pass_35 rfl 1 rfl ?_
          refine nz_iload_n F dX5_pass_36 rfl 2 rfl ?_
          refine k_X5_push_p o a9 a10 a11 a12 a13 a14 a15 a16 ap r0 r1 r2 r3 r4 r5 r6 r7 r8 f9 f10 f11 f12 f13 f14 f15 f16 fp x4 v2 (fun hM => nz_runV F gX5_pass_X5_push rfl hd_X5_push rfl hM dX5_pass_37 [0, 1, 2, 3, 4, 5, 6, 7, 8, 9] rfl rfl 0 rfl rfl rfl (Nat.le_of_ble_eq_true rfl) rfl) h (fun m5 => [(o, .inr (5, [.int r0, .int r1, .int r2, .int r3, .int r4, .int r5, .int r6, .int r7, .int r8, .ref a9, .ref a10, .ref a11, .ref a12, .ref a13, .ref a14, .ref a15, .ref a16])), (a9, .inl (nz_cI g, 6, .inl f9)), (a10, .inl (nz_cI g, 6, .inl f10)), (a11, .inl (nz_cI g, 6, .inl f11)), (a12, .inl (nz_cI g, 5, .inl f12)), (a13, .inl (nz_cI g, 5, .inl f13)), (a14, .inl (nz_cI g, 5, .inl f14)), (a15, .inl (nz_cI g, 5, .inl f15)), (a16, .inl (nz_cI g, 48, .inl f16)), (ap, .inl (nz_cI g, 6, .inl m5))]) (fun _ => rfl) (fun m5 h => ?_)
          refine nz_iinc (v := (x4 + 1)) (j := 4) (lv' := [(4, .int (x4 + 1)), (0, .ref o), (1, .ref ap), (2, .int v2), (3, .int v3)]) F dX5_pass_40 rfl rfl (by decide) rfl ?_
          refine nz_goto (tgt := 3) F dX5_pass_43 (by decide) ?_
          refine nz_ls (lv' := [(0, .ref o), (1, .ref ap), (2, .int v2), (3, .int v3), (4, .int (x4 + 1))]) [1, 2, 3, 4, 0] rfl ?_
          exact hR3 (x4 + 1) m5 h
def wp_X5_pass_p (r1 : Int32) (r6 : Int32) (r7 : Int32) (f11 : Nat → Int32) (f12 : Nat → Int32) (f13 : Nat → Int32) (f14 : Nat → Int32) (f15 : Nat → Int32) (fp : Nat → Int32) (v2 : Int32) (v3 : Int32) (K : (Nat → Int32) → Prop) : Prop := (∃ n, nz_it (fun _ _ => False) (S_X5_pass_p_3 r1 r6 r7 f11 f12 f13 f14 f15 v2 v3 K) n 0 fp)
set_option maxHeartbeats 4000000 in
set_option maxRecDepth 100000 in
theorem c_X5_pass_p (l : Launch) (g : nz_G) (o : Nat) (a9 : Nat) (a10 : Nat) (a11 : Nat) (a12 : Nat) (a13 : Nat) (a14 : Nat) (a15 : Nat) (a16 : Nat) (ap : Nat) (r0 : Int32) (r1 : Int32) (r2 : Int32) (r3 : Int32) (r4 : Int32) (r5 : Int32) (r6 : Int32) (r7 : Int32) (r8 : Int32) (f9 : Nat → Int32) (f10 : Nat → Int32) (f11 : Nat → Int32) (f12 : Nat → Int32) (f13 : Nat → Int32) (f14 : Nat → Int32) (f15 : Nat → Int32) (f16 : Nat → Int32) (fp : Nat → Int32) (v2 : Int32) (v3 : Int32) (K : (Nat → Int32) → Prop) (h : wp_X5_pass_p r1 r6 r7 f11 f12 f13 f14 f15 fp v2 v3 K) : nz_M l yX5_pass wsX5_pass rm_X5_pass_p g [.ref o, .ref ap, .int v2, .int v3] [(o, .inr (5, [.int r0, .int r1, .int r2, .int r3, .int r4, .int r5, .int r6, .int r7, .int r8, .ref a9, .ref a10, .ref a11, .ref a12, .ref a13, .ref a14, .ref a15, .ref a16])), (a9, .inl (nz_cI g, 6, .inl f9)), (a10, .inl (nz_cI g, 6, .inl f10)), (a11, .inl (nz_cI g, 6, .inl f11)), (a12, .inl (nz_cI g, 5, .inl f12)), (a13, .inl (nz_cI g, 5, .inl f13)), (a14, .inl (nz_cI g, 5, .inl f14)), (a15, .inl (nz_cI g, 5, .inl f15)), (a16, .inl (nz_cI g, 48, .inl f16)), (ap, .inl (nz_cI g, 6, .inl fp))] (nz_Qv g [(o, .inr (5, [.int r0, .int r1, .int r2, .int r3, .int r4, .int r5, .int r6, .int r7, .int r8, .ref a9, .ref a10, .ref a11, .ref a12, .ref a13, .ref a14, .ref a15, .ref a16])), (a9, .inl (nz_cI g, 6, .inl f9)), (a10, .inl (nz_cI g, 6, .inl f10)), (a11, .inl (nz_cI g, 6, .inl f11)), (a12, .inl (nz_cI g, 5, .inl f12)), (a13, .inl (nz_cI g, 5, .inl f13)), (a14, .inl (nz_cI g, 5, .inl f14)), (a15, .inl (nz_cI g, 5, .inl f15)), (a16, .inl (nz_cI g, 48, .inl f16)), (ap, .inl (nz_cI g, 6, .inl fp))] (fun (u : (Nat → Int32)) => K u) (fun u => [(o, .inr (5, [.int r0, .int r1, .int r2, .int r3, .int r4, .int r5, .int r6, .int r7, .int r8, .ref a9, .ref a10, .ref a11, .ref a12, .ref a13, .ref a14, .ref a15, .ref a16])), (a9, .inl (nz_cI g, 6, .inl f9)), (a10, .inl (nz_cI g, 6, .inl f10)), (a11, .inl (nz_cI g, 6, .inl f11)), (a12, .inl (nz_cI g, 5, .inl f12)), (a13, .inl (nz_cI g, 5, .inl f13)), (a14, .inl (nz_cI g, 5, .inl f14)), (a15, .inl (nz_cI g, 5, .inl f15)), (a16, .inl (nz_cI g, 48, .inl f16)), (ap, .inl (nz_cI g, 6, .inl u))])) := by
  refine nz_M.of (bytes := cX5_pass) (nL := 5) (ret := none) (own := RX5) (by decide) rfl rfl ⟨rfl, rfl⟩ rfl ?_
  intro y F hl hQ
  obtain ⟨sz, hQ⟩ := hQ
  refine nz_ent (lv' := [(0, .ref o), (1, .ref ap), (2, .int v2), (3, .int v3)]) rfl ?_
  unfold wp_X5_pass_p at h
  refine nz_iconst (v := 0) F dX5_pass_0 (by decide) ?_
  refine nz_istore (lv' := [(4, .int 0), (0, .ref o), (1, .ref ap), (2, .int v2), (3, .int v3)]) F dX5_pass_1 (by decide) rfl ?_
  refine nz_ls (lv' := [(0, .ref o), (1, .ref ap), (2, .int v2), (3, .int v3), (4, .int 0)]) [1, 2, 3, 4, 0] rfl ?_
  obtain ⟨n1, h⟩ := h
  exact t_X5_pass_p_3 F o a9 a10 a11 a12 a13 a14 a15 a16 ap r0 r1 r2 r3 r4 r5 r6 r7 r8 f9 f10 f11 f12 f13 f14 f15 f16 v2 v3 hQ n1 0 fp h
theorem k_X5_pass_p {y : nz_Y} {g : nz_G} {k n : Nat} {ws : va_W} {pc : Nat} {ls : List (Nat × Value)} {st rest : List Value} {av : Array Value} {isC : List Nat} {K : (Nat → Int32) → Prop} (o : Nat) (a9 : Nat) (a10 : Nat) (a11 : Nat) (a12 : Nat) (a13 : Nat) (a14 : Nat) (a15 : Nat) (a16 : Nat) (ap : Nat) (r0 : Int32) (r1 : Int32) (r2 : Int32) (r3 : Int32) (r4 : Int32) (r5 : Int32) (r6 : Int32) (r7 : Int32) (r8 : Int32) (f9 : Nat → Int32) (f10 : Nat → Int32) (f11 : Nat → Int32) (f12 : Nat → Int32) (f13 : Nat → Int32) (f14 : Nat → Int32) (f15 : Nat → Int32) (f16 : Nat → Int32) (fp : Nat → Int32) (v2 : Int32) (v3 : Int32) (run : nz_M (yz_l y) yX5_pass wsX5_pass rm_X5_pass_p g [.ref o, .ref ap, .int v2, .int v3] [(o, .inr (5, [.int r0, .int r1, .int r2, .int r3, .int r4, .int r5, .int r6, .int r7, .int r8, .ref a9, .ref a10, .ref a11, .ref a12, .ref a13, .ref a14, .ref a15, .ref a16])), (a9, .inl (nz_cI g, 6, .inl f9)), (a10, .inl (nz_cI g, 6, .inl f10)), (a11, .inl (nz_cI g, 6, .inl f11)), (a12, .inl (nz_cI g, 5, .inl f12)), (a13, .inl (nz_cI g, 5, .inl f13)), (a14, .inl (nz_cI g, 5, .inl f14)), (a15, .inl (nz_cI g, 5, .inl f15)), (a16, .inl (nz_cI g, 48, .inl f16)), (ap, .inl (nz_cI g, 6, .inl fp))] (nz_Qv g [(o, .inr (5, [.int r0, .int r1, .int r2, .int r3, .int r4, .int r5, .int r6, .int r7, .int r8, .ref a9, .ref a10, .ref a11, .ref a12, .ref a13, .ref a14, .ref a15, .ref a16])), (a9, .inl (nz_cI g, 6, .inl f9)), (a10, .inl (nz_cI g, 6, .inl f10)), (a11, .inl (nz_cI g, 6, .inl f11)), (a12, .inl (nz_cI g, 5, .inl f12)), (a13, .inl (nz_cI g, 5, .inl f13)), (a14, .inl (nz_cI g, 5, .inl f14)), (a15, .inl (nz_cI g, 5, .inl f15)), (a16, .inl (nz_cI g, 48, .inl f16)), (ap, .inl (nz_cI g, 6, .inl fp))] (fun (u : (Nat → Int32)) => K u) (fun u => [(o, .inr (5, [.int r0, .int r1, .int r2, .int r3, .int r4, .int r5, .int r6, .int r7, .int r8, .ref a9, .ref a10, .ref a11, .ref a12, .ref a13, .ref a14, .ref a15, .ref a16])), (a9, .inl (nz_cI g, 6, .inl f9)), (a10, .inl (nz_cI g, 6, .inl f10)), (a11, .inl (nz_cI g, 6, .inl f11)), (a12, .inl (nz_cI g, 5, .inl f12)), (a13, .inl (nz_cI g, 5, .inl f13)), (a14, .inl (nz_cI g, 5, .inl f14)), (a15, .inl (nz_cI g, 5, .inl f15)), (a16, .inl (nz_cI g, 48, .inl f16)), (ap, .inl (nz_cI g, 6, .inl u))])) → nz_C y g k n ws pc ls st rest [(o, .inr (5, [.int r0, .int r1, .int r2, .int r3, .int r4, .int r5, .int r6, .int r7, .int r8, .ref a9, .ref a10, .ref a11, .ref a12, .ref a13, .ref a14, .ref a15, .ref a16])), (a9, .inl (nz_cI g, 6, .inl f9)), (a10, .inl (nz_cI g, 6, .inl f10)), (a11, .inl (nz_cI g, 6, .inl f11)), (a12, .inl (nz_cI g, 5, .inl f12)), (a13, .inl (nz_cI g, 5, .inl f13)), (a14, .inl (nz_cI g, 5, .inl f14)), (a15, .inl (nz_cI g, 5, .inl f15)), (a16, .inl (nz_cI g, 48, .inl f16)), (ap, .inl (nz_cI g, 6, .inl fp))] (nz_Qv g [(o, .inr (5, [.int r0, .int r1, .int r2, .int r3, .int r4, .int r5, .int r6, .int r7, .int r8, .ref a9, .ref a10, .ref a11, .ref a12, .ref a13, .ref a14, .ref a15, .ref a16])), (a9, .inl (nz_cI g, 6, .inl f9)), (a10, .inl (nz_cI g, 6, .inl f10)), (a11, .inl (nz_cI g, 6, .inl f11)), (a12, .inl (nz_cI g, 5, .inl f12)), (a13, .inl (nz_cI g, 5, .inl f13)), (a14, .inl (nz_cI g, 5, .inl f14)), (a15, .inl (nz_cI g, 5, .inl f15)), (a16, .inl (nz_cI g, 48, .inl f16)), (ap, .inl (nz_cI g, 6, .inl fp))] (fun (u : (Nat → Int32)) => K u) (fun u => [(o, .inr (5, [.int r0, .int r1, .int r2, .int r3, .int r4, .int r5, .int r6, .int r7, .int r8, .ref a9, .ref a10, .ref a11, .ref a12, .ref a13, .ref a14, .ref a15, .ref a16])), (a9, .inl (nz_cI g, 6, .inl f9)), (a10, .inl (nz_cI g, 6, .inl f10)), (a11, .inl (nz_cI g, 6, .inl f11)), (a12, .inl (nz_cI g, 5, .inl f12)), (a13, .inl (nz_cI g, 5, .inl f13)), (a14, .inl (nz_cI g, 5, .inl f14)), (a15, .inl (nz_cI g, 5, .inl f15)), (a16, .inl (nz_cI g, 48, .inl f16)), (ap, .inl (nz_cI g, 6, .inl u))])) av isC) (h : wp_X5_pass_p r1 r6 r7 f11 f12 f13 f14 f15 fp v2 v3 K) (ws' : (Nat → Int32) → va_W) (hm : ∀ (m0 : (Nat → Int32)), nz_mrg ws isC [(o, .inr (5, [.int r0, .int r1, .int r2, .int r3, .int r4, .int r5, .int r6, .int r7, .int r8, .ref a9, .ref a10, .ref a11, .ref a12, .ref a13, .ref a14, .ref a15, .ref a16])), (a9, .inl (nz_cI g, 6, .inl f9)), (a10, .inl (nz_cI g, 6, .inl f10)), (a11, .inl (nz_cI g, 6, .inl f11)), (a12, .inl (nz_cI g, 5, .inl f12)), (a13, .inl (nz_cI g, 5, .inl f13)), (a14, .inl (nz_cI g, 5, .inl f14)), (a15, .inl (nz_cI g, 5, .inl f15)), (a16, .inl (nz_cI g, 48, .inl f16)), (ap, .inl (nz_cI g, 6, .inl m0))] = ws' m0) (kk : ∀ (m0 : (Nat → Int32)), K m0 → nz_V y g k n (ws' m0) (pc + 3) ls (rest)) : nz_V y g k n ws pc ls st :=
  nz_cv (ws' := fun u => ws' u) (run (c_X5_pass_p (yz_l y) g o a9 a10 a11 a12 a13 a14 a15 a16 ap r0 r1 r2 r3 r4 r5 r6 r7 r8 f9 f10 f11 f12 f13 f14 f15 f16 fp v2 v3 K h)) (fun _ => rfl) (fun u => hm u) (fun u h => kk u h)
theorem dX5_standAlike_0 : decode cX5_standAlike 0 = .ok (.iconst 0, 1) := by decide +kernel
theorem dX5_standAlike_1 : decode cX5_standAlike 1 = .ok (.istore_n 3, 1) := by decide +kernel
theorem dX5_standAlike_2 : decode cX5_standAlike 2 = .ok (.iload_n 3, 1) := by decide +kernel
theorem dX5_standAlike_3 : decode cX5_standAlike 3 = .ok (.aload_n 0, 1) := by decide +kernel
theorem dX5_standAlike_4 : decode cX5_standAlike 4 = .ok (.getfield 56, 3) := by decide +kernel
theorem dX5_standAlike_7 : decode cX5_standAlike 7 = .ok (.if_icmp .ge 20, 3) := by decide +kernel
theorem dX5_standAlike_10 : decode cX5_standAlike 10 = .ok (.aload_n 1, 1) := by decide +kernel
theorem dX5_standAlike_11 : decode cX5_standAlike 11 = .ok (.iload_n 3, 1) := by decide +kernel
theorem dX5_standAlike_12 : decode cX5_standAlike 12 = .ok (.iaload, 1) := by decide +kernel
theorem dX5_standAlike_13 : decode cX5_standAlike 13 = .ok (.aload_n 2, 1) := by decide +kernel
theorem dX5_standAlike_14 : decode cX5_standAlike 14 = .ok (.iload_n 3, 1) := by decide +kernel
theorem dX5_standAlike_15 : decode cX5_standAlike 15 = .ok (.iaload, 1) := by decide +kernel
theorem dX5_standAlike_16 : decode cX5_standAlike 16 = .ok (.if_icmp .eq 5, 3) := by decide +kernel
theorem dX5_standAlike_19 : decode cX5_standAlike 19 = .ok (.iconst 0, 1) := by decide +kernel
theorem dX5_standAlike_20 : decode cX5_standAlike 20 = .ok (.ireturn, 1) := by decide +kernel
theorem dX5_standAlike_21 : decode cX5_standAlike 21 = .ok (.iinc 3 1, 3) := by decide +kernel
theorem dX5_standAlike_24 : decode cX5_standAlike 24 = .ok (.goto (-22), 3) := by decide +kernel
theorem dX5_standAlike_27 : decode cX5_standAlike 27 = .ok (.iconst 1, 1) := by decide +kernel
theorem dX5_standAlike_28 : decode cX5_standAlike 28 = .ok (.ireturn, 1) := by decide +kernel
/-! X5_standAlike _pq -/
abbrev rm_X5_standAlike_pq : Room := { frames := 0, cells := 0, slots := 0, locals := 0 }
theorem iw_X5_standAlike_5 : ∀ w ∈ wsX50, w ∈ wsX5_standAlike := fun _ h => List.mem_cons_of_mem _ (List.mem_append_right _ h)
theorem fl_X5_standAlike_56 : Cond.fieldLink RX5 56 "NightStones$Road" "stones" "I" ∈ wsX5_standAlike := List.mem_of_getElem? (i := 1) rfl
def S_X5_standAlike_pq_2 (r6 : Int32) (fp : Nat → Int32) (fq : Nat → Int32) (K : Int32 → Prop) (R2 : Int32 → Prop) (x3 : Int32) : Prop := ((r6 ≤ x3 → K 1) ∧ (¬ (r6 ≤ x3) → (vp_in x3 6 ∧ (vp_in x3 6 ∧ (((fp x3.toNatClampNeg) = (fq x3.toNatClampNeg) → R2 (x3 + 1)) ∧ (¬ ((fp x3.toNatClampNeg) = (fq x3.toNatClampNeg)) → K 0))))))
set_option maxHeartbeats 4000000 in
set_option maxRecDepth 100000 in
theorem t_X5_standAlike_pq_2 {y : nz_Y} {g : nz_G} (F : nz_F y g cX5_standAlike 4 wsX5_standAlike RX5 (some .boolean) rm_X5_standAlike_pq) {wc0 : va_W} {sz : Nat} {K : Int32 → Prop} (o : Nat) (a9 : Nat) (a10 : Nat) (a11 : Nat) (a12 : Nat) (a13 : Nat) (a14 : Nat) (a15 : Nat) (a16 : Nat) (ap : Nat) (aq : Nat) (r0 : Int32) (r1 : Int32) (r2 : Int32) (r3 : Int32) (r4 : Int32) (r5 : Int32) (r6 : Int32) (r7 : Int32) (r8 : Int32) (f9 : Nat → Int32) (f10 : Nat → Int32) (f11 : Nat → Int32) (f12 : Nat → Int32) (f13 : Nat → Int32) (f14 : Nat → Int32) (f15 : Nat → Int32) (f16 : Nat → Int32) (fp : Nat → Int32) (fq : Nat → Int32) (hQ : yz_A y = va_A wc0 sz ∧ yz_Q y = MQ (yz_b y) ((nz_Qi g wc0 (fun r (u : Unit) => K r) (fun u => [(o, .inr (5, [.int r0, .int r1, .int r2, .int r3, .int r4, .int r5, .int r6, .int r7, .int r8, .ref a9, .ref a10, .ref a11, .ref a12, .ref a13, .ref a14, .ref a15, .ref a16])), (a9, .inl (nz_cI g, 6, .inl f9)), (a10, .inl (nz_cI g, 6, .inl f10)), (a11, .inl (nz_cI g, 6, .inl f11)), (a12, .inl (nz_cI g, 5, .inl f12)), (a13, .inl (nz_cI g, 5, .inl f13)), (a14, .inl (nz_cI g, 5, .inl f14)), (a15, .inl (nz_cI g, 5, .inl f15)), (a16, .inl (nz_cI g, 48, .inl f16)), (ap, .inl (nz_cI g, 6, .inl fp)), (aq, .inl (nz_cI g, 6, .inl fq))])) sz) (yz_a y) (yz_s y) 0 0 (va_A wc0 sz)) : ∀ (n1 : Nat) (x3 : Int32), nz_it (fun _ => False) (S_X5_standAlike_pq_2 r6 fp fq K) n1 x3 → nz_V y g 0 0 [(o, .inr (5, [.int r0, .int r1, .int r2, .int r3, .int r4, .int r5, .int r6, .int r7, .int r8, .ref a9, .ref a10, .ref a11, .ref a12, .ref a13, .ref a14, .ref a15, .ref a16])), (a9, .inl (nz_cI g, 6, .inl f9)), (a10, .inl (nz_cI g, 6, .inl f10)), (a11, .inl (nz_cI g, 6, .inl f11)), (a12, .inl (nz_cI g, 5, .inl f12)), (a13, .inl (nz_cI g, 5, .inl f13)), (a14, .inl (nz_cI g, 5, .inl f14)), (a15, .inl (nz_cI g, 5, .inl f15)), (a16, .inl (nz_cI g, 48, .inl f16)), (ap, .inl (nz_cI g, 6, .inl fp)), (aq, .inl (nz_cI g, 6, .inl fq))] 2 [(0, .ref o), (1, .ref ap), (2, .ref aq), (3, .int x3)] [] := by
  intro n1
  induction n1 with
  | zero =>
    intro x3 h
    exact h.elim
  | succ n1 hR2 =>
    intro x3 h
    have h : S_X5_standAlike_pq_2 r6 fp fq K (nz_it (fun _ => False) (S_X5_standAlike_pq_2 r6 fp fq K) n1) x3 := h
    unfold S_X5_standAlike_pq_2 at h
    refine nz_iload_n F dX5_standAlike_2 rfl 3 rfl ?_
    refine nz_aload_n F dX5_standAlike_3 rfl 0 rfl ?_
    refine nz_get F iw_X5_standAlike_5 0 rfl rfl 6 (by decide) rfl fl_X5_standAlike_56 rfl dX5_standAlike_4 ?_
    refine nz_icmp_ge (tgt := 27) F dX5_standAlike_7 (by decide) (fun c1 => ?_) (fun c1 => ?_)
    · have h := h.1 c1
      refine nz_iconst (v := 1) F dX5_standAlike_27 (by decide) ?_
      exact nz_zret F hQ () h rfl (by decide) dX5_standAlike_28
    · have h := h.2 c1
      refine nz_aload_n F dX5_standAlike_10 rfl 1 rfl ?_
      refine nz_iload_n F dX5_standAlike_11 rfl 3 rfl ?_
      obtain ⟨i2, h⟩ := h
      refine nz_iald F 9 rfl i2 dX5_standAlike_12 ?_
      refine nz_aload_n F dX5_standAlike_13 rfl 2 rfl ?_
      refine nz_iload_n F dX5_standAlike_14 rfl 3 rfl ?_
      obtain ⟨i3, h⟩ := h
      refine nz_iald F 10 rfl i3 dX5_standAlike_15 ?_
      refine nz_icmp_eq (tgt := 21) F dX5_standAlike_16 (by decide) (fun c4 => ?_) (fun c4 => ?_)
      · have h := h.1 c4
        refine nz_iinc (v := (x3 + 1)) (j := 3) (lv' := [(3, .int (x3 + 1)), (0, .ref o), (1, .ref ap), (2, .ref aq)]) F dX5_standAlike_21 rfl rfl (by decide) rfl ?_
        refine nz_goto (tgt := 2) F dX5_standAlike_24 (by decide) ?_
        refine nz_ls (lv' := [(0, .ref o), (1, .ref ap), (2, .ref aq), (3, .int (x3 + 1))]) [1, 2, 3, 0] rfl ?_
        exact hR2 (x3 + 1) h
      · have h := h.2 c4
        refine nz_iconst (v := 0) F dX5_standAlike_19 (by decide) ?_
        exact nz_zret F hQ () h rfl (by decide) dX5_standAlike_20
def wp_X5_standAlike_pq (r6 : Int32) (fp : Nat → Int32) (fq : Nat → Int32) (K : Int32 → Prop) : Prop := (∃ n, nz_it (fun _ => False) (S_X5_standAlike_pq_2 r6 fp fq K) n 0)
set_option maxHeartbeats 4000000 in
set_option maxRecDepth 100000 in
theorem c_X5_standAlike_pq (l : Launch) (g : nz_G) (o : Nat) (a9 : Nat) (a10 : Nat) (a11 : Nat) (a12 : Nat) (a13 : Nat) (a14 : Nat) (a15 : Nat) (a16 : Nat) (ap : Nat) (aq : Nat) (r0 : Int32) (r1 : Int32) (r2 : Int32) (r3 : Int32) (r4 : Int32) (r5 : Int32) (r6 : Int32) (r7 : Int32) (r8 : Int32) (f9 : Nat → Int32) (f10 : Nat → Int32) (f11 : Nat → Int32) (f12 : Nat → Int32) (f13 : Nat → Int32) (f14 : Nat → Int32) (f15 : Nat → Int32) (f16 : Nat → Int32) (fp : Nat → Int32) (fq : Nat → Int32) (K : Int32 → Prop) (h : wp_X5_standAlike_pq r6 fp fq K) : nz_M l yX5_standAlike wsX5_standAlike rm_X5_standAlike_pq g [.ref o, .ref ap, .ref aq] [(o, .inr (5, [.int r0, .int r1, .int r2, .int r3, .int r4, .int r5, .int r6, .int r7, .int r8, .ref a9, .ref a10, .ref a11, .ref a12, .ref a13, .ref a14, .ref a15, .ref a16])), (a9, .inl (nz_cI g, 6, .inl f9)), (a10, .inl (nz_cI g, 6, .inl f10)), (a11, .inl (nz_cI g, 6, .inl f11)), (a12, .inl (nz_cI g, 5, .inl f12)), (a13, .inl (nz_cI g, 5, .inl f13)), (a14, .inl (nz_cI g, 5, .inl f14)), (a15, .inl (nz_cI g, 5, .inl f15)), (a16, .inl (nz_cI g, 48, .inl f16)), (ap, .inl (nz_cI g, 6, .inl fp)), (aq, .inl (nz_cI g, 6, .inl fq))] (nz_Qi g [(o, .inr (5, [.int r0, .int r1, .int r2, .int r3, .int r4, .int r5, .int r6, .int r7, .int r8, .ref a9, .ref a10, .ref a11, .ref a12, .ref a13, .ref a14, .ref a15, .ref a16])), (a9, .inl (nz_cI g, 6, .inl f9)), (a10, .inl (nz_cI g, 6, .inl f10)), (a11, .inl (nz_cI g, 6, .inl f11)), (a12, .inl (nz_cI g, 5, .inl f12)), (a13, .inl (nz_cI g, 5, .inl f13)), (a14, .inl (nz_cI g, 5, .inl f14)), (a15, .inl (nz_cI g, 5, .inl f15)), (a16, .inl (nz_cI g, 48, .inl f16)), (ap, .inl (nz_cI g, 6, .inl fp)), (aq, .inl (nz_cI g, 6, .inl fq))] (fun r (u : Unit) => K r) (fun u => [(o, .inr (5, [.int r0, .int r1, .int r2, .int r3, .int r4, .int r5, .int r6, .int r7, .int r8, .ref a9, .ref a10, .ref a11, .ref a12, .ref a13, .ref a14, .ref a15, .ref a16])), (a9, .inl (nz_cI g, 6, .inl f9)), (a10, .inl (nz_cI g, 6, .inl f10)), (a11, .inl (nz_cI g, 6, .inl f11)), (a12, .inl (nz_cI g, 5, .inl f12)), (a13, .inl (nz_cI g, 5, .inl f13)), (a14, .inl (nz_cI g, 5, .inl f14)), (a15, .inl (nz_cI g, 5, .inl f15)), (a16, .inl (nz_cI g, 48, .inl f16)), (ap, .inl (nz_cI g, 6, .inl fp)), (aq, .inl (nz_cI g, 6, .inl fq))])) := by
  refine nz_M.of (bytes := cX5_standAlike) (nL := 4) (ret := (some .boolean)) (own := RX5) (by decide) rfl rfl ⟨rfl, rfl⟩ rfl ?_
  intro y F hl hQ
  obtain ⟨sz, hQ⟩ := hQ
  refine nz_ent (lv' := [(0, .ref o), (1, .ref ap), (2, .ref aq)]) rfl ?_
  unfold wp_X5_standAlike_pq at h
  refine nz_iconst (v := 0) F dX5_standAlike_0 (by decide) ?_
  refine nz_istore_n (lv' := [(3, .int 0), (0, .ref o), (1, .ref ap), (2, .ref aq)]) F dX5_standAlike_1 rfl (by decide) rfl ?_
  refine nz_ls (lv' := [(0, .ref o), (1, .ref ap), (2, .ref aq), (3, .int 0)]) [1, 2, 3, 0] rfl ?_
  obtain ⟨n1, h⟩ := h
  exact t_X5_standAlike_pq_2 F o a9 a10 a11 a12 a13 a14 a15 a16 ap aq r0 r1 r2 r3 r4 r5 r6 r7 r8 f9 f10 f11 f12 f13 f14 f15 f16 fp fq hQ n1 0 h
theorem k_X5_standAlike_pq {y : nz_Y} {g : nz_G} {k n : Nat} {ws : va_W} {pc : Nat} {ls : List (Nat × Value)} {st rest : List Value} {av : Array Value} {isC : List Nat} {K : Int32 → Prop} (o : Nat) (a9 : Nat) (a10 : Nat) (a11 : Nat) (a12 : Nat) (a13 : Nat) (a14 : Nat) (a15 : Nat) (a16 : Nat) (ap : Nat) (aq : Nat) (r0 : Int32) (r1 : Int32) (r2 : Int32) (r3 : Int32) (r4 : Int32) (r5 : Int32) (r6 : Int32) (r7 : Int32) (r8 : Int32) (f9 : Nat → Int32) (f10 : Nat → Int32) (f11 : Nat → Int32) (f12 : Nat → Int32) (f13 : Nat → Int32) (f14 : Nat → Int32) (f15 : Nat → Int32) (f16 : Nat → Int32) (fp : Nat → Int32) (fq : Nat → Int32) (run : nz_M (yz_l y) yX5_standAlike wsX5_standAlike rm_X5_standAlike_pq g [.ref o, .ref ap, .ref aq] [(o, .inr (5, [.int r0, .int r1, .int r2, .int r3, .int r4, .int r5, .int r6, .int r7, .int r8, .ref a9, .ref a10, .ref a11, .ref a12, .ref a13, .ref a14, .ref a15, .ref a16])), (a9, .inl (nz_cI g, 6, .inl f9)), (a10, .inl (nz_cI g, 6, .inl f10)), (a11, .inl (nz_cI g, 6, .inl f11)), (a12, .inl (nz_cI g, 5, .inl f12)), (a13, .inl (nz_cI g, 5, .inl f13)), (a14, .inl (nz_cI g, 5, .inl f14)), (a15, .inl (nz_cI g, 5, .inl f15)), (a16, .inl (nz_cI g, 48, .inl f16)), (ap, .inl (nz_cI g, 6, .inl fp)), (aq, .inl (nz_cI g, 6, .inl fq))] (nz_Qi g [(o, .inr (5, [.int r0, .int r1, .int r2, .int r3, .int r4, .int r5, .int r6, .int r7, .int r8, .ref a9, .ref a10, .ref a11, .ref a12, .ref a13, .ref a14, .ref a15, .ref a16])), (a9, .inl (nz_cI g, 6, .inl f9)), (a10, .inl (nz_cI g, 6, .inl f10)), (a11, .inl (nz_cI g, 6, .inl f11)), (a12, .inl (nz_cI g, 5, .inl f12)), (a13, .inl (nz_cI g, 5, .inl f13)), (a14, .inl (nz_cI g, 5, .inl f14)), (a15, .inl (nz_cI g, 5, .inl f15)), (a16, .inl (nz_cI g, 48, .inl f16)), (ap, .inl (nz_cI g, 6, .inl fp)), (aq, .inl (nz_cI g, 6, .inl fq))] (fun r (u : Unit) => K r) (fun u => [(o, .inr (5, [.int r0, .int r1, .int r2, .int r3, .int r4, .int r5, .int r6, .int r7, .int r8, .ref a9, .ref a10, .ref a11, .ref a12, .ref a13, .ref a14, .ref a15, .ref a16])), (a9, .inl (nz_cI g, 6, .inl f9)), (a10, .inl (nz_cI g, 6, .inl f10)), (a11, .inl (nz_cI g, 6, .inl f11)), (a12, .inl (nz_cI g, 5, .inl f12)), (a13, .inl (nz_cI g, 5, .inl f13)), (a14, .inl (nz_cI g, 5, .inl f14)), (a15, .inl (nz_cI g, 5, .inl f15)), (a16, .inl (nz_cI g, 48, .inl f16)), (ap, .inl (nz_cI g, 6, .inl fp)), (aq, .inl (nz_cI g, 6, .inl fq))])) → nz_C y g k n ws pc ls st rest [(o, .inr (5, [.int r0, .int r1, .int r2, .int r3, .int r4, .int r5, .int r6, .int r7, .int r8, .ref a9, .ref a10, .ref a11, .ref a12, .ref a13, .ref a14, .ref a15, .ref a16])), (a9, .inl (nz_cI g, 6, .inl f9)), (a10, .inl (nz_cI g, 6, .inl f10)), (a11, .inl (nz_cI g, 6, .inl f11)), (a12, .inl (nz_cI g, 5, .inl f12)), (a13, .inl (nz_cI g, 5, .inl f13)), (a14, .inl (nz_cI g, 5, .inl f14)), (a15, .inl (nz_cI g, 5, .inl f15)), (a16, .inl (nz_cI g, 48, .inl f16)), (ap, .inl (nz_cI g, 6, .inl fp)), (aq, .inl (nz_cI g, 6, .inl fq))] (nz_Qi g [(o, .inr (5, [.int r0, .int r1, .int r2, .int r3, .int r4, .int r5, .int r6, .int r7, .int r8, .ref a9, .ref a10, .ref a11, .ref a12, .ref a13, .ref a14, .ref a15, .ref a16])), (a9, .inl (nz_cI g, 6, .inl f9)), (a10, .inl (nz_cI g, 6, .inl f10)), (a11, .inl (nz_cI g, 6, .inl f11)), (a12, .inl (nz_cI g, 5, .inl f12)), (a13, .inl (nz_cI g, 5, .inl f13)), (a14, .inl (nz_cI g, 5, .inl f14)), (a15, .inl (nz_cI g, 5, .inl f15)), (a16, .inl (nz_cI g, 48, .inl f16)), (ap, .inl (nz_cI g, 6, .inl fp)), (aq, .inl (nz_cI g, 6, .inl fq))] (fun r (u : Unit) => K r) (fun u => [(o, .inr (5, [.int r0, .int r1, .int r2, .int r3, .int r4, .int r5, .int r6, .int r7, .int r8, .ref a9, .ref a10, .ref a11, .ref a12, .ref a13, .ref a14, .ref a15, .ref a16])), (a9, .inl (nz_cI g, 6, .inl f9)), (a10, .inl (nz_cI g, 6, .inl f10)), (a11, .inl (nz_cI g, 6, .inl f11)), (a12, .inl (nz_cI g, 5, .inl f12)), (a13, .inl (nz_cI g, 5, .inl f13)), (a14, .inl (nz_cI g, 5, .inl f14)), (a15, .inl (nz_cI g, 5, .inl f15)), (a16, .inl (nz_cI g, 48, .inl f16)), (ap, .inl (nz_cI g, 6, .inl fp)), (aq, .inl (nz_cI g, 6, .inl fq))])) av isC) (h : wp_X5_standAlike_pq r6 fp fq K) (ws' : va_W) (hm : nz_mrg ws isC [(o, .inr (5, [.int r0, .int r1, .int r2, .int r3, .int r4, .int r5, .int r6, .int r7, .int r8, .ref a9, .ref a10, .ref a11, .ref a12, .ref a13, .ref a14, .ref a15, .ref a16])), (a9, .inl (nz_cI g, 6, .inl f9)), (a10, .inl (nz_cI g, 6, .inl f10)), (a11, .inl (nz_cI g, 6, .inl f11)), (a12, .inl (nz_cI g, 5, .inl f12)), (a13, .inl (nz_cI g, 5, .inl f13)), (a14, .inl (nz_cI g, 5, .inl f14)), (a15, .inl (nz_cI g, 5, .inl f15)), (a16, .inl (nz_cI g, 48, .inl f16)), (ap, .inl (nz_cI g, 6, .inl fp)), (aq, .inl (nz_cI g, 6, .inl fq))] = ws' ) (kk : ∀ (r : Int32), K r → nz_V y g k n ws' (pc + 3) ls (.int r :: rest)) : nz_V y g k n ws pc ls st :=
  nz_ci (ws' := fun _ => ws') (run (c_X5_standAlike_pq (yz_l y) g o a9 a10 a11 a12 a13 a14 a15 a16 ap aq r0 r1 r2 r3 r4 r5 r6 r7 r8 f9 f10 f11 f12 f13 f14 f15 f16 fp fq K h)) (fun _ => rfl) (fun _ => hm) (fun r u h => kk r h)
/-! X5_standAlike _pa -/
abbrev rm_X5_standAlike_pa : Room := { frames := 0, cells := 0, slots := 0, locals := 0 }
def S_X5_standAlike_pa_2 (r6 : Int32) (f10 : Nat → Int32) (fp : Nat → Int32) (K : Int32 → Prop) (R2 : Int32 → Prop) (x3 : Int32) : Prop := ((r6 ≤ x3 → K 1) ∧ (¬ (r6 ≤ x3) → (vp_in x3 6 ∧ (vp_in x3 6 ∧ (((fp x3.toNatClampNeg) = (f10 x3.toNatClampNeg) → R2 (x3 + 1)) ∧ (¬ ((fp x3.toNatClampNeg) = (f10 x3.toNatClampNeg)) → K 0))))))
set_option maxHeartbeats 4000000 in
set_option maxRecDepth 100000 in
theorem t_X5_standAlike_pa_2 {y : nz_Y} {g : nz_G} (F : nz_F y g cX5_standAlike 4 wsX5_standAlike RX5 (some .boolean) rm_X5_standAlike_pa) {wc0 : va_W} {sz : Nat} {K : Int32 → Prop} (o : Nat) (a9 : Nat) (a10 : Nat) (a11 : Nat) (a12 : Nat) (a13 : Nat) (a14 : Nat) (a15 : Nat) (a16 : Nat) (ap : Nat) (r0 : Int32) (r1 : Int32) (r2 : Int32) (r3 : Int32) (r4 : Int32) (r5 : Int32) (r6 : Int32) (r7 : Int32) (r8 : Int32) (f9 : Nat → Int32) (f10 : Nat → Int32) (f11 : Nat → Int32) (f12 : Nat → Int32) (f13 : Nat → Int32) (f14 : Nat → Int32) (f15 : Nat → Int32) (f16 : Nat → Int32) (fp : Nat → Int32) (hQ : yz_A y = va_A wc0 sz ∧ yz_Q y = MQ (yz_b y) ((nz_Qi g wc0 (fun r (u : Unit) => K r) (fun u => [(o, .inr (5, [.int r0, .int r1, .int r2, .int r3, .int r4, .int r5, .int r6, .int r7, .int r8, .ref a9, .ref a10, .ref a11, .ref a12, .ref a13, .ref a14, .ref a15, .ref a16])), (a9, .inl (nz_cI g, 6, .inl f9)), (a10, .inl (nz_cI g, 6, .inl f10)), (a11, .inl (nz_cI g, 6, .inl f11)), (a12, .inl (nz_cI g, 5, .inl f12)), (a13, .inl (nz_cI g, 5, .inl f13)), (a14, .inl (nz_cI g, 5, .inl f14)), (a15, .inl (nz_cI g, 5, .inl f15)), (a16, .inl (nz_cI g, 48, .inl f16)), (ap, .inl (nz_cI g, 6, .inl fp))])) sz) (yz_a y) (yz_s y) 0 0 (va_A wc0 sz)) : ∀ (n1 : Nat) (x3 : Int32), nz_it (fun _ => False) (S_X5_standAlike_pa_2 r6 f10 fp K) n1 x3 → nz_V y g 0 0 [(o, .inr (5, [.int r0, .int r1, .int r2, .int r3, .int r4, .int r5, .int r6, .int r7, .int r8, .ref a9, .ref a10, .ref a11, .ref a12, .ref a13, .ref a14, .ref a15, .ref a16])), (a9, .inl (nz_cI g, 6, .inl f9)), (a10, .inl (nz_cI g, 6, .inl f10)), (a11, .inl (nz_cI g, 6, .inl f11)), (a12, .inl (nz_cI g, 5, .inl f12)), (a13, .inl (nz_cI g, 5, .inl f13)), (a14, .inl (nz_cI g, 5, .inl f14)), (a15, .inl (nz_cI g, 5, .inl f15)), (a16, .inl (nz_cI g, 48, .inl f16)), (ap, .inl (nz_cI g, 6, .inl fp))] 2 [(0, .ref o), (1, .ref ap), (2, .ref a10), (3, .int x3)] [] := by
  intro n1
  induction n1 with
  | zero =>
    intro x3 h
    exact h.elim
  | succ n1 hR2 =>
    intro x3 h
    have h : S_X5_standAlike_pa_2 r6 f10 fp K (nz_it (fun _ => False) (S_X5_standAlike_pa_2 r6 f10 fp K) n1) x3 := h
    unfold S_X5_standAlike_pa_2 at h
    refine nz_iload_n F dX5_standAlike_2 rfl 3 rfl ?_
    refine nz_aload_n F dX5_standAlike_3 rfl 0 rfl ?_
    refine nz_get F iw_X5_standAlike_5 0 rfl rfl 6 (by decide) rfl fl_X5_standAlike_56 rfl dX5_standAlike_4 ?_
    refine nz_icmp_ge (tgt := 27) F dX5_standAlike_7 (by decide) (fun c1 => ?_) (fun c1 => ?_)
    · have h := h.1 c1
      refine nz_iconst (v := 1) F dX5_standAlike_27 (by decide) ?_
      exact nz_zret F hQ () h rfl (by decide) dX5_standAlike_28
    · have h := h.2 c1
      refine nz_aload_n F dX5_standAlike_10 rfl 1 rfl ?_
      refine nz_iload_n F dX5_standAlike_11 rfl 3 rfl ?_
      obtain ⟨i2, h⟩ := h
      refine nz_iald F 9 rfl i2 dX5_standAlike_12 ?_
      refine nz_aload_n F dX5_standAlike_13 rfl 2 rfl ?_
      refine nz_iload_n F dX5_standAlike_14 rfl 3 rfl ?_
      obtain ⟨i3, h⟩ := h
      refine nz_iald F 2 rfl i3 dX5_standAlike_15 ?_
      refine nz_icmp_eq (tgt := 21) F dX5_standAlike_16 (by decide) (fun c4 => ?_) (fun c4 => ?_)
      · have h := h.1 c4
        refine nz_iinc (v := (x3 + 1)) (j := 3) (lv' := [(3, .int (x3 + 1)), (0, .ref o), (1, .ref ap), (2, .ref a10)]) F dX5_standAlike_21 rfl rfl (by decide) rfl ?_
        refine nz_goto (tgt := 2) F dX5_standAlike_24 (by decide) ?_
        refine nz_ls (lv' := [(0, .ref o), (1, .ref ap), (2, .ref a10), (3, .int (x3 + 1))]) [1, 2, 3, 0] rfl ?_
        exact hR2 (x3 + 1) h
      · have h := h.2 c4
        refine nz_iconst (v := 0) F dX5_standAlike_19 (by decide) ?_
        exact nz_zret F hQ () h rfl (by decide) dX5_standAlike_20
def wp_X5_standAlike_pa (r6 : Int32) (f10 : Nat → Int32) (fp : Nat → Int32) (K : Int32 → Prop) : Prop := (∃ n, nz_it (fun _ => False) (S_X5_standAlike_pa_2 r6 f10 fp K) n 0)
set_option maxHeartbeats 4000000 in
set_option maxRecDepth 100000 in
theorem c_X5_standAlike_pa (l : Launch) (g : nz_G) (o : Nat) (a9 : Nat) (a10 : Nat) (a11 : Nat) (a12 : Nat) (a13 : Nat) (a14 : Nat) (a15 : Nat) (a16 : Nat) (ap : Nat) (r0 : Int32) (r1 : Int32) (r2 : Int32) (r3 : Int32) (r4 : Int32) (r5 : Int32) (r6 : Int32) (r7 : Int32) (r8 : Int32) (f9 : Nat → Int32) (f10 : Nat → Int32) (f11 : Nat → Int32) (f12 : Nat → Int32) (f13 : Nat → Int32) (f14 : Nat → Int32) (f15 : Nat → Int32) (f16 : Nat → Int32) (fp : Nat → Int32) (K : Int32 → Prop) (h : wp_X5_standAlike_pa r6 f10 fp K) : nz_M l yX5_standAlike wsX5_standAlike rm_X5_standAlike_pa g [.ref o, .ref ap, .ref a10] [(o, .inr (5, [.int r0, .int r1, .int r2, .int r3, .int r4, .int r5, .int r6, .int r7, .int r8, .ref a9, .ref a10, .ref a11, .ref a12, .ref a13, .ref a14, .ref a15, .ref a16])), (a9, .inl (nz_cI g, 6, .inl f9)), (a10, .inl (nz_cI g, 6, .inl f10)), (a11, .inl (nz_cI g, 6, .inl f11)), (a12, .inl (nz_cI g, 5, .inl f12)), (a13, .inl (nz_cI g, 5, .inl f13)), (a14, .inl (nz_cI g, 5, .inl f14)), (a15, .inl (nz_cI g, 5, .inl f15)), (a16, .inl (nz_cI g, 48, .inl f16)), (ap, .inl (nz_cI g, 6, .inl fp))] (nz_Qi g [(o, .inr (5, [.int r0, .int r1, .int r2, .int r3, .int r4, .int r5, .int r6, .int r7, .int r8, .ref a9, .ref a10, .ref a11, .ref a12, .ref a13, .ref a14, .ref a15, .ref a16])), (a9, .inl (nz_cI g, 6, .inl f9)), (a10, .inl (nz_cI g, 6, .inl f10)), (a11, .inl (nz_cI g, 6, .inl f11)), (a12, .inl (nz_cI g, 5, .inl f12)), (a13, .inl (nz_cI g, 5, .inl f13)), (a14, .inl (nz_cI g, 5, .inl f14)), (a15, .inl (nz_cI g, 5, .inl f15)), (a16, .inl (nz_cI g, 48, .inl f16)), (ap, .inl (nz_cI g, 6, .inl fp))] (fun r (u : Unit) => K r) (fun u => [(o, .inr (5, [.int r0, .int r1, .int r2, .int r3, .int r4, .int r5, .int r6, .int r7, .int r8, .ref a9, .ref a10, .ref a11, .ref a12, .ref a13, .ref a14, .ref a15, .ref a16])), (a9, .inl (nz_cI g, 6, .inl f9)), (a10, .inl (nz_cI g, 6, .inl f10)), (a11, .inl (nz_cI g, 6, .inl f11)), (a12, .inl (nz_cI g, 5, .inl f12)), (a13, .inl (nz_cI g, 5, .inl f13)), (a14, .inl (nz_cI g, 5, .inl f14)), (a15, .inl (nz_cI g, 5, .inl f15)), (a16, .inl (nz_cI g, 48, .inl f16)), (ap, .inl (nz_cI g, 6, .inl fp))])) := by
  refine nz_M.of (bytes := cX5_standAlike) (nL := 4) (ret := (some .boolean)) (own := RX5) (by decide) rfl rfl ⟨rfl, rfl⟩ rfl ?_
  intro y F hl hQ
  obtain ⟨sz, hQ⟩ := hQ
  refine nz_ent (lv' := [(0, .ref o), (1, .ref ap), (2, .ref a10)]) rfl ?_
  unfold wp_X5_standAlike_pa at h
  refine nz_iconst (v := 0) F dX5_standAlike_0 (by decide) ?_
  refine nz_istore_n (lv' := [(3, .int 0), (0, .ref o), (1, .ref ap), (2, .ref a10)]) F dX5_standAlike_1 rfl (by decide) rfl ?_
  refine nz_ls (lv' := [(0, .ref o), (1, .ref ap), (2, .ref a10), (3, .int 0)]) [1, 2, 3, 0] rfl ?_
  obtain ⟨n1, h⟩ := h
  exact t_X5_standAlike_pa_2 F o a9 a10 a11 a12 a13 a14 a15 a16 ap r0 r1 r2 r3 r4 r5 r6 r7 r8 f9 f10 f11 f12 f13 f14 f15 f16 fp hQ n1 0 h
theorem k_X5_standAlike_pa {y : nz_Y} {g : nz_G} {k n : Nat} {ws : va_W} {pc : Nat} {ls : List (Nat × Value)} {st rest : List Value} {av : Array Value} {isC : List Nat} {K : Int32 → Prop} (o : Nat) (a9 : Nat) (a10 : Nat) (a11 : Nat) (a12 : Nat) (a13 : Nat) (a14 : Nat) (a15 : Nat) (a16 : Nat) (ap : Nat) (r0 : Int32) (r1 : Int32) (r2 : Int32) (r3 : Int32) (r4 : Int32) (r5 : Int32) (r6 : Int32) (r7 : Int32) (r8 : Int32) (f9 : Nat → Int32) (f10 : Nat → Int32) (f11 : Nat → Int32) (f12 : Nat → Int32) (f13 : Nat → Int32) (f14 : Nat → Int32) (f15 : Nat → Int32) (f16 : Nat → Int32) (fp : Nat → Int32) (run : nz_M (yz_l y) yX5_standAlike wsX5_standAlike rm_X5_standAlike_pa g [.ref o, .ref ap, .ref a10] [(o, .inr (5, [.int r0, .int r1, .int r2, .int r3, .int r4, .int r5, .int r6, .int r7, .int r8, .ref a9, .ref a10, .ref a11, .ref a12, .ref a13, .ref a14, .ref a15, .ref a16])), (a9, .inl (nz_cI g, 6, .inl f9)), (a10, .inl (nz_cI g, 6, .inl f10)), (a11, .inl (nz_cI g, 6, .inl f11)), (a12, .inl (nz_cI g, 5, .inl f12)), (a13, .inl (nz_cI g, 5, .inl f13)), (a14, .inl (nz_cI g, 5, .inl f14)), (a15, .inl (nz_cI g, 5, .inl f15)), (a16, .inl (nz_cI g, 48, .inl f16)), (ap, .inl (nz_cI g, 6, .inl fp))] (nz_Qi g [(o, .inr (5, [.int r0, .int r1, .int r2, .int r3, .int r4, .int r5, .int r6, .int r7, .int r8, .ref a9, .ref a10, .ref a11, .ref a12, .ref a13, .ref a14, .ref a15, .ref a16])), (a9, .inl (nz_cI g, 6, .inl f9)), (a10, .inl (nz_cI g, 6, .inl f10)), (a11, .inl (nz_cI g, 6, .inl f11)), (a12, .inl (nz_cI g, 5, .inl f12)), (a13, .inl (nz_cI g, 5, .inl f13)), (a14, .inl (nz_cI g, 5, .inl f14)), (a15, .inl (nz_cI g, 5, .inl f15)), (a16, .inl (nz_cI g, 48, .inl f16)), (ap, .inl (nz_cI g, 6, .inl fp))] (fun r (u : Unit) => K r) (fun u => [(o, .inr (5, [.int r0, .int r1, .int r2, .int r3, .int r4, .int r5, .int r6, .int r7, .int r8, .ref a9, .ref a10, .ref a11, .ref a12, .ref a13, .ref a14, .ref a15, .ref a16])), (a9, .inl (nz_cI g, 6, .inl f9)), (a10, .inl (nz_cI g, 6, .inl f10)), (a11, .inl (nz_cI g, 6, .inl f11)), (a12, .inl (nz_cI g, 5, .inl f12)), (a13, .inl (nz_cI g, 5, .inl f13)), (a14, .inl (nz_cI g, 5, .inl f14)), (a15, .inl (nz_cI g, 5, .inl f15)), (a16, .inl (nz_cI g, 48, .inl f16)), (ap, .inl (nz_cI g, 6, .inl fp))])) → nz_C y g k n ws pc ls st rest [(o, .inr (5, [.int r0, .int r1, .int r2, .int r3, .int r4, .int r5, .int r6, .int r7, .int r8, .ref a9, .ref a10, .ref a11, .ref a12, .ref a13, .ref a14, .ref a15, .ref a16])), (a9, .inl (nz_cI g, 6, .inl f9)), (a10, .inl (nz_cI g, 6, .inl f10)), (a11, .inl (nz_cI g, 6, .inl f11)), (a12, .inl (nz_cI g, 5, .inl f12)), (a13, .inl (nz_cI g, 5, .inl f13)), (a14, .inl (nz_cI g, 5, .inl f14)), (a15, .inl (nz_cI g, 5, .inl f15)), (a16, .inl (nz_cI g, 48, .inl f16)), (ap, .inl (nz_cI g, 6, .inl fp))] (nz_Qi g [(o, .inr (5, [.int r0, .int r1, .int r2, .int r3, .int r4, .int r5, .int r6, .int r7, .int r8, .ref a9, .ref a10, .ref a11, .ref a12, .ref a13, .ref a14, .ref a15, .ref a16])), (a9, .inl (nz_cI g, 6, .inl f9)), (a10, .inl (nz_cI g, 6, .inl f10)), (a11, .inl (nz_cI g, 6, .inl f11)), (a12, .inl (nz_cI g, 5, .inl f12)), (a13, .inl (nz_cI g, 5, .inl f13)), (a14, .inl (nz_cI g, 5, .inl f14)), (a15, .inl (nz_cI g, 5, .inl f15)), (a16, .inl (nz_cI g, 48, .inl f16)), (ap, .inl (nz_cI g, 6, .inl fp))] (fun r (u : Unit) => K r) (fun u => [(o, .inr (5, [.int r0, .int r1, .int r2, .int r3, .int r4, .int r5, .int r6, .int r7, .int r8, .ref a9, .ref a10, .ref a11, .ref a12, .ref a13, .ref a14, .ref a15, .ref a16])), (a9, .inl (nz_cI g, 6, .inl f9)), (a10, .inl (nz_cI g, 6, .inl f10)), (a11, .inl (nz_cI g, 6, .inl f11)), (a12, .inl (nz_cI g, 5, .inl f12)), (a13, .inl (nz_cI g, 5, .inl f13)), (a14, .inl (nz_cI g, 5, .inl f14)), (a15, .inl (nz_cI g, 5, .inl f15)), (a16, .inl (nz_cI g, 48, .inl f16)), (ap, .inl (nz_cI g, 6, .inl fp))])) av isC) (h : wp_X5_standAlike_pa r6 f10 fp K) (ws' : va_W) (hm : nz_mrg ws isC [(o, .inr (5, [.int r0, .int r1, .int r2, .int r3, .int r4, .int r5, .int r6, .int r7, .int r8, .ref a9, .ref a10, .ref a11, .ref a12, .ref a13, .ref a14, .ref a15, .ref a16])), (a9, .inl (nz_cI g, 6, .inl f9)), (a10, .inl (nz_cI g, 6, .inl f10)), (a11, .inl (nz_cI g, 6, .inl f11)), (a12, .inl (nz_cI g, 5, .inl f12)), (a13, .inl (nz_cI g, 5, .inl f13)), (a14, .inl (nz_cI g, 5, .inl f14)), (a15, .inl (nz_cI g, 5, .inl f15)), (a16, .inl (nz_cI g, 48, .inl f16)), (ap, .inl (nz_cI g, 6, .inl fp))] = ws' ) (kk : ∀ (r : Int32), K r → nz_V y g k n ws' (pc + 3) ls (.int r :: rest)) : nz_V y g k n ws pc ls st :=
  nz_ci (ws' := fun _ => ws') (run (c_X5_standAlike_pa (yz_l y) g o a9 a10 a11 a12 a13 a14 a15 a16 ap r0 r1 r2 r3 r4 r5 r6 r7 r8 f9 f10 f11 f12 f13 f14 f15 f16 fp K h)) (fun _ => rfl) (fun _ => hm) (fun r u h => kk r h)
theorem dX5_become_0 : decode cX5_become 0 = .ok (.aload_n 0, 1) := by decide +kernel
theorem dX5_become_1 : decode cX5_become 1 = .ok (.aload_n 1, 1) := by decide +kernel
theorem dX5_become_2 : decode cX5_become 2 = .ok (.getfield 36, 3) := by decide +kernel
theorem dX5_become_5 : decode cX5_become 5 = .ok (.putfield 36, 3) := by decide +kernel
theorem dX5_become_8 : decode cX5_become 8 = .ok (.aload_n 0, 1) := by decide +kernel
theorem dX5_become_9 : decode cX5_become 9 = .ok (.aload_n 1, 1) := by decide +kernel
theorem dX5_become_10 : decode cX5_become 10 = .ok (.getfield 40, 3) := by decide +kernel
theorem dX5_become_13 : decode cX5_become 13 = .ok (.putfield 40, 3) := by decide +kernel
theorem dX5_become_16 : decode cX5_become 16 = .ok (.aload_n 0, 1) := by decide +kernel
theorem dX5_become_17 : decode cX5_become 17 = .ok (.aload_n 1, 1) := by decide +kernel
theorem dX5_become_18 : decode cX5_become 18 = .ok (.getfield 44, 3) := by decide +kernel
theorem dX5_become_21 : decode cX5_become 21 = .ok (.putfield 44, 3) := by decide +kernel
theorem dX5_become_24 : decode cX5_become 24 = .ok (.aload_n 0, 1) := by decide +kernel
theorem dX5_become_25 : decode cX5_become 25 = .ok (.aload_n 1, 1) := by decide +kernel
theorem dX5_become_26 : decode cX5_become 26 = .ok (.getfield 47, 3) := by decide +kernel
theorem dX5_become_29 : decode cX5_become 29 = .ok (.putfield 47, 3) := by decide +kernel
theorem dX5_become_32 : decode cX5_become 32 = .ok (.aload_n 0, 1) := by decide +kernel
theorem dX5_become_33 : decode cX5_become 33 = .ok (.aload_n 1, 1) := by decide +kernel
theorem dX5_become_34 : decode cX5_become 34 = .ok (.getfield 50, 3) := by decide +kernel
theorem dX5_become_37 : decode cX5_become 37 = .ok (.putfield 50, 3) := by decide +kernel
theorem dX5_become_40 : decode cX5_become 40 = .ok (.aload_n 0, 1) := by decide +kernel
theorem dX5_become_41 : decode cX5_become 41 = .ok (.aload_n 1, 1) := by decide +kernel
theorem dX5_become_42 : decode cX5_become 42 = .ok (.getfield 53, 3) := by decide +kernel
theorem dX5_become_45 : decode cX5_become 45 = .ok (.putfield 53, 3) := by decide +kernel
theorem dX5_become_48 : decode cX5_become 48 = .ok (.aload_n 0, 1) := by decide +kernel
theorem dX5_become_49 : decode cX5_become 49 = .ok (.aload_n 1, 1) := by decide +kernel
theorem dX5_become_50 : decode cX5_become 50 = .ok (.getfield 56, 3) := by decide +kernel
theorem dX5_become_53 : decode cX5_become 53 = .ok (.putfield 56, 3) := by decide +kernel
theorem dX5_become_56 : decode cX5_become 56 = .ok (.aload_n 0, 1) := by decide +kernel
theorem dX5_become_57 : decode cX5_become 57 = .ok (.aload_n 1, 1) := by decide +kernel
theorem dX5_become_58 : decode cX5_become 58 = .ok (.getfield 59, 3) := by decide +kernel
theorem dX5_become_61 : decode cX5_become 61 = .ok (.putfield 59, 3) := by decide +kernel
theorem dX5_become_64 : decode cX5_become 64 = .ok (.aload_n 0, 1) := by decide +kernel
theorem dX5_become_65 : decode cX5_become 65 = .ok (.aload_n 1, 1) := by decide +kernel
theorem dX5_become_66 : decode cX5_become 66 = .ok (.getfield 62, 3) := by decide +kernel
theorem dX5_become_69 : decode cX5_become 69 = .ok (.putfield 62, 3) := by decide +kernel
theorem dX5_become_72 : decode cX5_become 72 = .ok (.aload_n 1, 1) := by decide +kernel
theorem dX5_become_73 : decode cX5_become 73 = .ok (.getfield 11, 3) := by decide +kernel
theorem dX5_become_76 : decode cX5_become 76 = .ok (.iconst 0, 1) := by decide +kernel
theorem dX5_become_77 : decode cX5_become 77 = .ok (.aload_n 0, 1) := by decide +kernel
theorem dX5_become_78 : decode cX5_become 78 = .ok (.getfield 11, 3) := by decide +kernel
theorem dX5_become_81 : decode cX5_become 81 = .ok (.iconst 0, 1) := by decide +kernel
theorem dX5_become_82 : decode cX5_become 82 = .ok (.bipush 6, 2) := by decide +kernel
theorem dX5_become_84 : decode cX5_become 84 = .ok (.invokestatic 65, 3) := by decide +kernel
theorem dX5_become_87 : decode cX5_become 87 = .ok (.aload_n 1, 1) := by decide +kernel
theorem dX5_become_88 : decode cX5_become 88 = .ok (.getfield 15, 3) := by decide +kernel
theorem dX5_become_91 : decode cX5_become 91 = .ok (.iconst 0, 1) := by decide +kernel
theorem dX5_become_92 : decode cX5_become 92 = .ok (.aload_n 0, 1) := by decide +kernel
theorem dX5_become_93 : decode cX5_become 93 = .ok (.getfield 15, 3) := by decide +kernel
theorem dX5_become_96 : decode cX5_become 96 = .ok (.iconst 0, 1) := by decide +kernel
theorem dX5_become_97 : decode cX5_become 97 = .ok (.bipush 6, 2) := by decide +kernel
theorem dX5_become_99 : decode cX5_become 99 = .ok (.invokestatic 65, 3) := by decide +kernel
theorem dX5_become_102 : decode cX5_become 102 = .ok (.aload_n 1, 1) := by decide +kernel
theorem dX5_become_103 : decode cX5_become 103 = .ok (.getfield 18, 3) := by decide +kernel
theorem dX5_become_106 : decode cX5_become 106 = .ok (.iconst 0, 1) := by decide +kernel
theorem dX5_become_107 : decode cX5_become 107 = .ok (.aload_n 0, 1) := by decide +kernel
theorem dX5_become_108 : decode cX5_become 108 = .ok (.getfield 18, 3) := by decide +kernel
theorem dX5_become_111 : decode cX5_become 111 = .ok (.iconst 0, 1) := by decide +kernel
theorem dX5_become_112 : decode cX5_become 112 = .ok (.bipush 6, 2) := by decide +kernel
theorem dX5_become_114 : decode cX5_become 114 = .ok (.invokestatic 65, 3) := by decide +kernel
theorem dX5_become_117 : decode cX5_become 117 = .ok (.aload_n 1, 1) := by decide +kernel
theorem dX5_become_118 : decode cX5_become 118 = .ok (.getfield 21, 3) := by decide +kernel
theorem dX5_become_121 : decode cX5_become 121 = .ok (.iconst 0, 1) := by decide +kernel
theorem dX5_become_122 : decode cX5_become 122 = .ok (.aload_n 0, 1) := by decide +kernel
theorem dX5_become_123 : decode cX5_become 123 = .ok (.getfield 21, 3) := by decide +kernel
theorem dX5_become_126 : decode cX5_become 126 = .ok (.iconst 0, 1) := by decide +kernel
theorem dX5_become_127 : decode cX5_become 127 = .ok (.iconst 5, 1) := by decide +kernel
theorem dX5_become_128 : decode cX5_become 128 = .ok (.invokestatic 65, 3) := by decide +kernel
theorem dX5_become_131 : decode cX5_become 131 = .ok (.aload_n 1, 1) := by decide +kernel
theorem dX5_become_132 : decode cX5_become 132 = .ok (.getfield 24, 3) := by decide +kernel
theorem dX5_become_135 : decode cX5_become 135 = .ok (.iconst 0, 1) := by decide +kernel
theorem dX5_become_136 : decode cX5_become 136 = .ok (.aload_n 0, 1) := by decide +kernel
theorem dX5_become_137 : decode cX5_become 137 = .ok (.getfield 24, 3) := by decide +kernel
theorem dX5_become_140 : decode cX5_become 140 = .ok (.iconst 0, 1) := by decide +kernel
theorem dX5_become_141 : decode cX5_become 141 = .ok (.iconst 5, 1) := by decide +kernel
theorem dX5_become_142 : decode cX5_become 142 = .ok (.invokestatic 65, 3) := by decide +kernel
theorem dX5_become_145 : decode cX5_become 145 = .ok (.aload_n 1, 1) := by decide +kernel
theorem dX5_become_146 : decode cX5_become 146 = .ok (.getfield 27, 3) := by decide +kernel
theorem dX5_become_149 : decode cX5_become 149 = .ok (.iconst 0, 1) := by decide +kernel
theorem dX5_become_150 : decode cX5_become 150 = .ok (.aload_n 0, 1) := by decide +kernel
theorem dX5_become_151 : decode cX5_become 151 = .ok (.getfield 27, 3) := by decide +kernel
theorem dX5_become_154 : decode cX5_become 154 = .ok (.iconst 0, 1) := by decide +kernel
theorem dX5_become_155 : decode cX5_become 155 = .ok (.iconst 5, 1) := by decide +kernel
theorem dX5_become_156 : decode cX5_become 156 = .ok (.invokestatic 65, 3) := by decide +kernel
theorem dX5_become_159 : decode cX5_become 159 = .ok (.aload_n 1, 1) := by decide +kernel
theorem dX5_become_160 : decode cX5_become 160 = .ok (.getfield 30, 3) := by decide +kernel
theorem dX5_become_163 : decode cX5_become 163 = .ok (.iconst 0, 1) := by decide +kernel
theorem dX5_become_164 : decode cX5_become 164 = .ok (.aload_n 0, 1) := by decide +kernel
theorem dX5_become_165 : decode cX5_become 165 = .ok (.getfield 30, 3) := by decide +kernel
theorem dX5_become_168 : decode cX5_become 168 = .ok (.iconst 0, 1) := by decide +kernel
theorem dX5_become_169 : decode cX5_become 169 = .ok (.iconst 5, 1) := by decide +kernel
theorem dX5_become_170 : decode cX5_become 170 = .ok (.invokestatic 65, 3) := by decide +kernel
theorem dX5_become_173 : decode cX5_become 173 = .ok (.aload_n 1, 1) := by decide +kernel
theorem dX5_become_174 : decode cX5_become 174 = .ok (.getfield 33, 3) := by decide +kernel
theorem dX5_become_177 : decode cX5_become 177 = .ok (.iconst 0, 1) := by decide +kernel
theorem dX5_become_178 : decode cX5_become 178 = .ok (.aload_n 0, 1) := by decide +kernel
theorem dX5_become_179 : decode cX5_become 179 = .ok (.getfield 33, 3) := by decide +kernel
theorem dX5_become_182 : decode cX5_become 182 = .ok (.iconst 0, 1) := by decide +kernel
theorem dX5_become_183 : decode cX5_become 183 = .ok (.aload_n 0, 1) := by decide +kernel
theorem dX5_become_184 : decode cX5_become 184 = .ok (.getfield 33, 3) := by decide +kernel
theorem dX5_become_187 : decode cX5_become 187 = .ok (.arraylength, 1) := by decide +kernel
theorem dX5_become_188 : decode cX5_become 188 = .ok (.invokestatic 65, 3) := by decide +kernel
theorem dX5_become_191 : decode cX5_become 191 = .ok (.return_, 1) := by decide +kernel
/-! X5_become -/
abbrev rm_X5_become : Room := { frames := 1, cells := 0, slots := 0, locals := 26 }
theorem iw_X5_become_5 : ∀ w ∈ wsX50, w ∈ wsX5_become := fun _ h => List.mem_cons_of_mem _ (List.mem_append_right _ h)
theorem fl_X5_become_36 : Cond.fieldLink RX5 36 "NightStones$Road" "isThere" "Z" ∈ wsX5_become := List.mem_of_getElem? (i := 1) rfl
theorem fl_X5_become_40 : Cond.fieldLink RX5 40 "NightStones$Road" "length" "I" ∈ wsX5_become := List.mem_of_getElem? (i := 2) rfl
theorem fl_X5_become_44 : Cond.fieldLink RX5 44 "NightStones$Road" "fee" "I" ∈ wsX5_become := List.mem_of_getElem? (i := 3) rfl
theorem fl_X5_become_47 : Cond.fieldLink RX5 47 "NightStones$Road" "seen" "I" ∈ wsX5_become := List.mem_of_getElem? (i := 4) rfl
theorem fl_X5_become_50 : Cond.fieldLink RX5 50 "NightStones$Road" "fine" "I" ∈ wsX5_become := List.mem_of_getElem? (i := 5) rfl
theorem fl_X5_become_53 : Cond.fieldLink RX5 53 "NightStones$Road" "nights" "I" ∈ wsX5_become := List.mem_of_getElem? (i := 6) rfl
theorem fl_X5_become_56 : Cond.fieldLink RX5 56 "NightStones$Road" "stones" "I" ∈ wsX5_become := List.mem_of_getElem? (i := 7) rfl
theorem fl_X5_become_59 : Cond.fieldLink RX5 59 "NightStones$Road" "movers" "I" ∈ wsX5_become := List.mem_of_getElem? (i := 8) rfl
theorem fl_X5_become_62 : Cond.fieldLink RX5 62 "NightStones$Road" "heard" "I" ∈ wsX5_become := List.mem_of_getElem? (i := 9) rfl
theorem fl_X5_become_11 : Cond.fieldLink RX5 11 "NightStones$Road" "says" "[I" ∈ wsX5_become := List.mem_of_getElem? (i := 10) rfl
theorem wd_X5_become_cp0_65 : Cond.methodLink RX5 65 arraycopyName ∈ wsX5_become := List.mem_of_getElem? (i := 11) rfl
theorem wd_X5_become_cp1 : Cond.native arraycopyName ∈ wsX5_become := List.mem_of_getElem? (i := 12) rfl
theorem wd_X5_become_cp2 : Cond.static arraycopyName ∈ wsX5_become := List.mem_of_getElem? (i := 13) rfl
theorem wd_X5_become_cp3 : Cond.initialized "java/lang/System" ∈ wsX5_become := List.mem_of_getElem? (i := 14) rfl
theorem fl_X5_become_15 : Cond.fieldLink RX5 15 "NightStones$Road" "at" "[I" ∈ wsX5_become := List.mem_of_getElem? (i := 15) rfl
theorem fl_X5_become_18 : Cond.fieldLink RX5 18 "NightStones$Road" "home" "[I" ∈ wsX5_become := List.mem_of_getElem? (i := 16) rfl
theorem fl_X5_become_21 : Cond.fieldLink RX5 21 "NightStones$Road" "kinds" "[I" ∈ wsX5_become := List.mem_of_getElem? (i := 17) rfl
theorem fl_X5_become_24 : Cond.fieldLink RX5 24 "NightStones$Road" "pushed" "[I" ∈ wsX5_become := List.mem_of_getElem? (i := 18) rfl
theorem fl_X5_become_27 : Cond.fieldLink RX5 27 "NightStones$Road" "ways" "[I" ∈ wsX5_become := List.mem_of_getElem? (i := 19) rfl
theorem fl_X5_become_30 : Cond.fieldLink RX5 30 "NightStones$Road" "reach" "[I" ∈ wsX5_become := List.mem_of_getElem? (i := 20) rfl
theorem fl_X5_become_33 : Cond.fieldLink RX5 33 "NightStones$Road" "heardOf" "[I" ∈ wsX5_become := List.mem_of_getElem? (i := 21) rfl
def wp_X5_become (f9 : Nat → Int32) (f10 : Nat → Int32) (f11 : Nat → Int32) (f12 : Nat → Int32) (f13 : Nat → Int32) (f14 : Nat → Int32) (f15 : Nat → Int32) (f16 : Nat → Int32) (tr0 : Int32) (tr1 : Int32) (tr2 : Int32) (tr3 : Int32) (tr4 : Int32) (tr5 : Int32) (tr6 : Int32) (tr7 : Int32) (tr8 : Int32) (tf9 : Nat → Int32) (tf10 : Nat → Int32) (tf11 : Nat → Int32) (tf12 : Nat → Int32) (tf13 : Nat → Int32) (tf14 : Nat → Int32) (tf15 : Nat → Int32) (tf16 : Nat → Int32) (K : Int32 → Int32 → Int32 → Int32 → Int32 → Int32 → Int32 → Int32 → Int32 → (Nat → Int32) → (Nat → Int32) → (Nat → Int32) → (Nat → Int32) → (Nat → Int32) → (Nat → Int32) → (Nat → Int32) → (Nat → Int32) → Prop) : Prop := (fits .boolean (.int tr0) = true ∧ K tr0 tr1 tr2 tr3 tr4 tr5 tr6 tr7 tr8 (va_cpy tf9 f9 0 0 6) (va_cpy tf10 f10 0 0 6) (va_cpy tf11 f11 0 0 6) (va_cpy tf12 f12 0 0 5) (va_cpy tf13 f13 0 0 5) (va_cpy tf14 f14 0 0 5) (va_cpy tf15 f15 0 0 5) (va_cpy tf16 f16 0 0 48))
set_option maxHeartbeats 4000000 in
set_option maxRecDepth 100000 in
theorem c_X5_become (l : Launch) (g : nz_G) (o : Nat) (a9 : Nat) (a10 : Nat) (a11 : Nat) (a12 : Nat) (a13 : Nat) (a14 : Nat) (a15 : Nat) (a16 : Nat) (to : Nat) (ta9 : Nat) (ta10 : Nat) (ta11 : Nat) (ta12 : Nat) (ta13 : Nat) (ta14 : Nat) (ta15 : Nat) (ta16 : Nat) (r0 : Int32) (r1 : Int32) (r2 : Int32) (r3 : Int32) (r4 : Int32) (r5 : Int32) (r6 : Int32) (r7 : Int32) (r8 : Int32) (f9 : Nat → Int32) (f10 : Nat → Int32) (f11 : Nat → Int32) (f12 : Nat → Int32) (f13 : Nat → Int32) (f14 : Nat → Int32) (f15 : Nat → Int32) (f16 : Nat → Int32) (tr0 : Int32) (tr1 : Int32) (tr2 : Int32) (tr3 : Int32) (tr4 : Int32) (tr5 : Int32) (tr6 : Int32) (tr7 : Int32) (tr8 : Int32) (tf9 : Nat → Int32) (tf10 : Nat → Int32) (tf11 : Nat → Int32) (tf12 : Nat → Int32) (tf13 : Nat → Int32) (tf14 : Nat → Int32) (tf15 : Nat → Int32) (tf16 : Nat → Int32) (K : Int32 → Int32 → Int32 → Int32 → Int32 → Int32 → Int32 → Int32 → Int32 → (Nat → Int32) → (Nat → Int32) → (Nat → Int32) → (Nat → Int32) → (Nat → Int32) → (Nat → Int32) → (Nat → Int32) → (Nat → Int32) → Prop) (h : wp_X5_become f9 f10 f11 f12 f13 f14 f15 f16 tr0 tr1 tr2 tr3 tr4 tr5 tr6 tr7 tr8 tf9 tf10 tf11 tf12 tf13 tf14 tf15 tf16 K) : nz_M l yX5_become wsX5_become rm_X5_become g [.ref o, .ref to] [(o, .inr (5, [.int r0, .int r1, .int r2, .int r3, .int r4, .int r5, .int r6, .int r7, .int r8, .ref a9, .ref a10, .ref a11, .ref a12, .ref a13, .ref a14, .ref a15, .ref a16])), (a9, .inl (nz_cI g, 6, .inl f9)), (a10, .inl (nz_cI g, 6, .inl f10)), (a11, .inl (nz_cI g, 6, .inl f11)), (a12, .inl (nz_cI g, 5, .inl f12)), (a13, .inl (nz_cI g, 5, .inl f13)), (a14, .inl (nz_cI g, 5, .inl f14)), (a15, .inl (nz_cI g, 5, .inl f15)), (a16, .inl (nz_cI g, 48, .inl f16)), (to, .inr (5, [.int tr0, .int tr1, .int tr2, .int tr3, .int tr4, .int tr5, .int tr6, .int tr7, .int tr8, .ref ta9, .ref ta10, .ref ta11, .ref ta12, .ref ta13, .ref ta14, .ref ta15, .ref ta16])), (ta9, .inl (nz_cI g, 6, .inl tf9)), (ta10, .inl (nz_cI g, 6, .inl tf10)), (ta11, .inl (nz_cI g, 6, .inl tf11)), (ta12, .inl (nz_cI g, 5, .inl tf12)), (ta13, .inl (nz_cI g, 5, .inl tf13)), (ta14, .inl (nz_cI g, 5, .inl tf14)), (ta15, .inl (nz_cI g, 5, .inl tf15)), (ta16, .inl (nz_cI g, 48, .inl tf16))] (nz_Qv g [(o, .inr (5, [.int r0, .int r1, .int r2, .int r3, .int r4, .int r5, .int r6, .int r7, .int r8, .ref a9, .ref a10, .ref a11, .ref a12, .ref a13, .ref a14, .ref a15, .ref a16])), (a9, .inl (nz_cI g, 6, .inl f9)), (a10, .inl (nz_cI g, 6, .inl f10)), (a11, .inl (nz_cI g, 6, .inl f11)), (a12, .inl (nz_cI g, 5, .inl f12)), (a13, .inl (nz_cI g, 5, .inl f13)), (a14, .inl (nz_cI g, 5, .inl f14)), (a15, .inl (nz_cI g, 5, .inl f15)), (a16, .inl (nz_cI g, 48, .inl f16)), (to, .inr (5, [.int tr0, .int tr1, .int tr2, .int tr3, .int tr4, .int tr5, .int tr6, .int tr7, .int tr8, .ref ta9, .ref ta10, .ref ta11, .ref ta12, .ref ta13, .ref ta14, .ref ta15, .ref ta16])), (ta9, .inl (nz_cI g, 6, .inl tf9)), (ta10, .inl (nz_cI g, 6, .inl tf10)), (ta11, .inl (nz_cI g, 6, .inl tf11)), (ta12, .inl (nz_cI g, 5, .inl tf12)), (ta13, .inl (nz_cI g, 5, .inl tf13)), (ta14, .inl (nz_cI g, 5, .inl tf14)), (ta15, .inl (nz_cI g, 5, .inl tf15)), (ta16, .inl (nz_cI g, 48, .inl tf16))] (fun (u : Int32 × Int32 × Int32 × Int32 × Int32 × Int32 × Int32 × Int32 × Int32 × (Nat → Int32) × (Nat → Int32) × (Nat → Int32) × (Nat → Int32) × (Nat → Int32) × (Nat → Int32) × (Nat → Int32) × (Nat → Int32)) => K u.1 u.2.1 u.2.2.1 u.2.2.2.1 u.2.2.2.2.1 u.2.2.2.2.2.1 u.2.2.2.2.2.2.1 u.2.2.2.2.2.2.2.1 u.2.2.2.2.2.2.2.2.1 u.2.2.2.2.2.2.2.2.2.1 u.2.2.2.2.2.2.2.2.2.2.1 u.2.2.2.2.2.2.2.2.2.2.2.1 u.2.2.2.2.2.2.2.2.2.2.2.2.1 u.2.2.2.2.2.2.2.2.2.2.2.2.2.1 u.2.2.2.2.2.2.2.2.2.2.2.2.2.2.1 u.2.2.2.2.2.2.2.2.2.2.2.2.2.2.2.1 u.2.2.2.2.2.2.2.2.2.2.2.2.2.2.2.2) (fun u => [(o, .inr (5, [.int u.1, .int u.2.1, .int u.2.2.1, .int u.2.2.2.1, .int u.2.2.2.2.1, .int u.2.2.2.2.2.1, .int u.2.2.2.2.2.2.1, .int u.2.2.2.2.2.2.2.1, .int u.2.2.2.2.2.2.2.2.1, .ref a9, .ref a10, .ref a11, .ref a12, .ref a13, .ref a14, .ref a15, .ref a16])), (a9, .inl (nz_cI g, 6, .inl u.2.2.2.2.2.2.2.2.2.1)), (a10, .inl (nz_cI g, 6, .inl u.2.2.2.2.2.2.2.2.2.2.1)), (a11, .inl (nz_cI g, 6, .inl u.2.2.2.2.2.2.2.2.2.2.2.1)), (a12, .inl (nz_cI g, 5, .inl u.2.2.2.2.2.2.2.2.2.2.2.2.1)), (a13, .inl (nz_cI g, 5, .inl u.2.2.2.2.2.2.2.2.2.2.2.2.2.1)), (a14, .inl (nz_cI g, 5, .inl u.2.2.2.2.2.2.2.2.2.2.2.2.2.2.1)), (a15, .inl (nz_cI g, 5, .inl u.2.2.2.2.2.2.2.2.2.2.2.2.2.2.2.1)), (a16, .inl (nz_cI g, 48, .inl u.2.2.2.2.2.2.2.2.2.2.2.2.2.2.2.2)), (to, .inr (5, [.int tr0, .int tr1, .int tr2, .int tr3, .int tr4, .int tr5, .int tr6, .int tr7, .int tr8, .ref ta9, .ref ta10, .ref ta11, .ref ta12, .ref ta13, .ref ta14, .ref ta15, .ref ta16])), (ta9, .inl (nz_cI g, 6, .inl tf9)), (ta10, .inl (nz_cI g, 6, .inl tf10)), (ta11, .inl (nz_cI g, 6, .inl tf11)), (ta12, .inl (nz_cI g, 5, .inl tf12)), (ta13, .inl (nz_cI g, 5, .inl tf13)), (ta14, .inl (nz_cI g, 5, .inl tf14)), (ta15, .inl (nz_cI g, 5, .inl tf15)), (ta16, .inl (nz_cI g, 48, .inl tf16))])) := by
  refine nz_M.of (bytes := cX5_become) (nL := 2) (ret := none) (own := RX5) (by decide) rfl rfl ⟨rfl, rfl⟩ rfl ?_
  intro y F hl hQ
  obtain ⟨sz, hQ⟩ := hQ
  refine nz_ent (lv' := [(0, .ref o), (1, .ref to)]) rfl ?_
  unfold wp_X5_become at h
  refine nz_aload_n F dX5_become_0 rfl 0 rfl ?_
  refine nz_aload_n F dX5_become_1 rfl 1 rfl ?_
  refine nz_get F iw_X5_become_5 9 rfl rfl 0 (by decide) rfl fl_X5_become_36 rfl dX5_become_2 ?_
  obtain ⟨b1, h⟩ := h
  refine nz_put (ws' := [(o, .inr (5, [.int tr0, .int r1, .int r2, .int r3, .int r4, .int r5, .int r6, .int r7, .int r8, .ref a9, .ref a10, .ref a11, .ref a12, .ref a13, .ref a14, .ref a15, .ref a16])), (a9, .inl (nz_cI g, 6, .inl f9)), (a10, .inl (nz_cI g, 6, .inl f10)), (a11, .inl (nz_cI g, 6, .inl f11)), (a12, .inl (nz_cI g, 5, .inl f12)), (a13, .inl (nz_cI g, 5, .inl f13)), (a14, .inl (nz_cI g, 5, .inl f14)), (a15, .inl (nz_cI g, 5, .inl f15)), (a16, .inl (nz_cI g, 48, .inl f16)), (to, .inr (5, [.int tr0, .int tr1, .int tr2, .int tr3, .int tr4, .int tr5, .int tr6, .int tr7, .int tr8, .ref ta9, .ref ta10, .ref ta11, .ref ta12, .ref ta13, .ref ta14, .ref ta15, .ref ta16])), (ta9, .inl (nz_cI g, 6, .inl tf9)), (ta10, .inl (nz_cI g, 6, .inl tf10)), (ta11, .inl (nz_cI g, 6, .inl tf11)), (ta12, .inl (nz_cI g, 5, .inl tf12)), (ta13, .inl (nz_cI g, 5, .inl tf13)), (ta14, .inl (nz_cI g, 5, .inl tf14)), (ta15, .inl (nz_cI g, 5, .inl tf15)), (ta16, .inl (nz_cI g, 48, .inl tf16))]) F iw_X5_become_5 tyX5 tyX5_ok nmX5 0 rfl rfl 0 (by decide) rfl fl_X5_become_36 (nz_nar b1) b1 (Nat.le_of_ble_eq_true rfl) dX5_become_5 rfl ?_
  refine nz_aload_n F dX5_become_8 rfl 0 rfl ?_
  refine nz_aload_n F dX5_become_9 rfl 1 rfl ?_
  refine nz_get F iw_X5_become_5 9 rfl rfl 1 (by decide) rfl fl_X5_become_40 rfl dX5_become_10 ?_
  refine nz_put (ws' := [(o, .inr (5, [.int tr0, .int tr1, .int r2, .int r3, .int r4, .int r5, .int r6, .int r7, .int r8, .ref a9, .ref a10, .ref a11, .ref a12, .ref a13, .ref a14, .ref a15, .ref a16])), (a9, .inl (nz_cI g, 6, .inl f9)), (a10, .inl (nz_cI g, 6, .inl f10)), (a11, .inl (nz_cI g, 6, .inl f11)), (a12, .inl (nz_cI g, 5, .inl f12)), (a13, .inl (nz_cI g, 5, .inl f13)), (a14, .inl (nz_cI g, 5, .inl f14)), (a15, .inl (nz_cI g, 5, .inl f15)), (a16, .inl (nz_cI g, 48, .inl f16)), (to, .inr (5, [.int tr0, .int tr1, .int tr2, .int tr3, .int tr4, .int tr5, .int tr6, .int tr7, .int tr8, .ref ta9, .ref ta10, .ref ta11, .ref ta12, .ref ta13, .ref ta14, .ref ta15, .ref ta16])), (ta9, .inl (nz_cI g, 6, .inl tf9)), (ta10, .inl (nz_cI g, 6, .inl tf10)), (ta11, .inl (nz_cI g, 6, .inl tf11)), (ta12, .inl (nz_cI g, 5, .inl tf12)), (ta13, .inl (nz_cI g, 5, .inl tf13)), (ta14, .inl (nz_cI g, 5, .inl tf14)), (ta15, .inl (nz_cI g, 5, .inl tf15)), (ta16, .inl (nz_cI g, 48, .inl tf16))]) F iw_X5_become_5 tyX5 tyX5_ok nmX5 0 rfl rfl 1 (by decide) rfl fl_X5_become_40 rfl rfl (Nat.le_of_ble_eq_true rfl) dX5_become_13 rfl ?_
  refine nz_aload_n F dX5_become_16 rfl 0 rfl ?_
  refine nz_aload_n F dX5_become_17 rfl 1 rfl ?_
  refine nz_get F iw_X5_become_5 9 rfl rfl 2 (by decide) rfl fl_X5_become_44 rfl dX5_become_18 ?_
  refine nz_put (ws' := [(o, .inr (5, [.int tr0, .int tr1, .int tr2, .int r3, .int r4, .int r5, .int r6, .int r7, .int r8, .ref a9, .ref a10, .ref a11, .ref a12, .ref a13, .ref a14, .ref a15, .ref a16])), (a9, .inl (nz_cI g, 6, .inl f9)), (a10, .inl (nz_cI g, 6, .inl f10)), (a11, .inl (nz_cI g, 6, .inl f11)), (a12, .inl (nz_cI g, 5, .inl f12)), (a13, .inl (nz_cI g, 5, .inl f13)), (a14, .inl (nz_cI g, 5, .inl f14)), (a15, .inl (nz_cI g, 5, .inl f15)), (a16, .inl (nz_cI g, 48, .inl f16)), (to, .inr (5, [.int tr0, .int tr1, .int tr2, .int tr3, .int tr4, .int tr5, .int tr6, .int tr7, .int tr8, .ref ta9, .ref ta10, .ref ta11, .ref ta12, .ref ta13, .ref ta14, .ref ta15, .ref ta16])), (ta9, .inl (nz_cI g, 6, .inl tf9)), (ta10, .inl (nz_cI g, 6, .inl tf10)), (ta11, .inl (nz_cI g, 6, .inl tf11)), (ta12, .inl (nz_cI g, 5, .inl tf12)), (ta13, .inl (nz_cI g, 5, .inl tf13)), (ta14, .inl (nz_cI g, 5, .inl tf14)), (ta15, .inl (nz_cI g, 5, .inl tf15)), (ta16, .inl (nz_cI g, 48, .inl tf16))]) F iw_X5_become_5 tyX5 tyX5_ok nmX5 0 rfl rfl 2 (by decide) rfl fl_X5_become_44 rfl rfl (Nat.le_of_ble_eq_true rfl) dX5_become_21 rfl ?_
  refine nz_aload_n F dX5_become_24 rfl 0 rfl ?_
  refine nz_aload_n F dX5_become_25 rfl 1 rfl ?_
  refine nz_get F iw_X5_become_5 9 rfl rfl 3 (by decide) rfl fl_X5_become_47 rfl dX5_become_26 ?_
  refine nz_put (ws' := [(o, .inr (5, [.int tr0, .int tr1, .int tr2, .int tr3, .int r4, .int r5, .int r6, .int r7, .int r8, .ref a9, .ref a10, .ref a11, .ref a12, .ref a13, .ref a14, .ref a15, .ref a16])), (a9, .inl (nz_cI g, 6, .inl f9)), (a10, .inl (nz_cI g, 6, .inl f10)), (a11, .inl (nz_cI g, 6, .inl f11)), (a12, .inl (nz_cI g, 5, .inl f12)), (a13, .inl (nz_cI g, 5, .inl f13)), (a14, .inl (nz_cI g, 5, .inl f14)), (a15, .inl (nz_cI g, 5, .inl f15)), (a16, .inl (nz_cI g, 48, .inl f16)), (to, .inr (5, [.int tr0, .int tr1, .int tr2, .int tr3, .int tr4, .int tr5, .int tr6, .int tr7, .int tr8, .ref ta9, .ref ta10, .ref ta11, .ref ta12, .ref ta13, .ref ta14, .ref ta15, .ref ta16])), (ta9, .inl (nz_cI g, 6, .inl tf9)), (ta10, .inl (nz_cI g, 6, .inl tf10)), (ta11, .inl (nz_cI g, 6, .inl tf11)), (ta12, .inl (nz_cI g, 5, .inl tf12)), (ta13, .inl (nz_cI g, 5, .inl tf13)), (ta14, .inl (nz_cI g, 5, .inl tf14)), (ta15, .inl (nz_cI g, 5, .inl tf15)), (ta16, .inl (nz_cI g, 48, .inl tf16))]) F iw_X5_become_5 tyX5 tyX5_ok nmX5 0 rfl rfl 3 (by decide) rfl fl_X5_become_47 rfl rfl (Nat.le_of_ble_eq_true rfl) dX5_become_29 rfl ?_
  refine nz_aload_n F dX5_become_32 rfl 0 rfl ?_
  refine nz_aload_n F dX5_become_33 rfl 1 rfl ?_
  refine nz_get F iw_X5_become_5 9 rfl rfl 4 (by decide) rfl fl_X5_become_50 rfl dX5_become_34 ?_
  refine nz_put (ws' := [(o, .inr (5, [.int tr0, .int tr1, .int tr2, .int tr3, .int tr4, .int r5, .int r6, .int r7, .int r8, .ref a9, .ref a10, .ref a11, .ref a12, .ref a13, .ref a14, .ref a15, .ref a16])), (a9, .inl (nz_cI g, 6, .inl f9)), (a10, .inl (nz_cI g, 6, .inl f10)), (a11, .inl (nz_cI g, 6, .inl f11)), (a12, .inl (nz_cI g, 5, .inl f12)), (a13, .inl (nz_cI g, 5, .inl f13)), (a14, .inl (nz_cI g, 5, .inl f14)), (a15, .inl (nz_cI g, 5, .inl f15)), (a16, .inl (nz_cI g, 48, .inl f16)), (to, .inr (5, [.int tr0, .int tr1, .int tr2, .int tr3, .int tr4, .int tr5, .int tr6, .int tr7, .int tr8, .ref ta9, .ref ta10, .ref ta11, .ref ta12, .ref ta13, .ref ta14, .ref ta15, .ref ta16])), (ta9, .inl (nz_cI g, 6, .inl tf9)), (ta10, .inl (nz_cI g, 6, .inl tf10)), (ta11, .inl (nz_cI g, 6, .inl tf11)), (ta12, .inl (nz_cI g, 5, .inl tf12)), (ta13, .inl (nz_cI g, 5, .inl tf13)), (ta14, .inl (nz_cI g, 5, .inl tf14)), (ta15, .inl (nz_cI g, 5, .inl tf15)), (ta16, .inl (nz_cI g, 48, .inl tf16))]) F iw_X5_become_5 tyX5 tyX5_ok nmX5 0 rfl rfl 4 (by decide) rfl fl_X5_become_50 rfl rfl (Nat.le_of_ble_eq_true rfl) dX5_become_37 rfl ?_
  refine nz_aload_n F dX5_become_40 rfl 0 rfl ?_
  refine nz_aload_n F dX5_become_41 rfl 1 rfl ?_
  refine nz_get F iw_X5_become_5 9 rfl rfl 5 (by decide) rfl fl_X5_become_53 rfl dX5_become_42 ?_
  refine nz_put (ws' := [(o, .inr (5, [.int tr0, .int tr1, .int tr2, .int tr3, .int tr4, .int tr5, .int r6, .int r7, .int r8, .ref a9, .ref a10, .ref a11, .ref a12, .ref a13, .ref a14, .ref a15, .ref a16])), (a9, .inl (nz_cI g, 6, .inl f9)), (a10, .inl (nz_cI g, 6, .inl f10)), (a11, .inl (nz_cI g, 6, .inl f11)), (a12, .inl (nz_cI g, 5, .inl f12)), (a13, .inl (nz_cI g, 5, .inl f13)), (a14, .inl (nz_cI g, 5, .inl f14)), (a15, .inl (nz_cI g, 5, .inl f15)), (a16, .inl (nz_cI g, 48, .inl f16)), (to, .inr (5, [.int tr0, .int tr1, .int tr2, .int tr3, .int tr4, .int tr5, .int tr6, .int tr7, .int tr8, .ref ta9, .ref ta10, .ref ta11, .ref ta12, .ref ta13, .ref ta14, .ref ta15, .ref ta16])), (ta9, .inl (nz_cI g, 6, .inl tf9)), (ta10, .inl (nz_cI g, 6, .inl tf10)), (ta11, .inl (nz_cI g, 6, .inl tf11)), (ta12, .inl (nz_cI g, 5, .inl tf12)), (ta13, .inl (nz_cI g, 5, .inl tf13)), (ta14, .inl (nz_cI g, 5, .inl tf14)), (ta15, .inl (nz_cI g, 5, .inl tf15)), (ta16, .inl (nz_cI g, 48, .inl tf16))]) F iw_X5_become_5 tyX5 tyX5_ok nmX5 0 rfl rfl 5 (by decide) rfl fl_X5_become_53 rfl rfl (Nat.le_of_ble_eq_true rfl) dX5_become_45 rfl ?_
  refine nz_aload_n F dX5_become_48 rfl 0 rfl ?_
  refine nz_aload_n F dX5_become_49 rfl 1 rfl ?_
  refine nz_get F iw_X5_become_5 9 rfl rfl 6 (by decide) rfl fl_X5_become_56 rfl dX5_become_50 ?_
  refine nz_put (ws' := [(o, .inr (5, [.int tr0, .int tr1, .int tr2, .int tr3, .int tr4, .int tr5, .int tr6, .int r7, .int r8, .ref a9, .ref a10, .ref a11, .ref a12, .ref a13, .ref a14, .ref a15, .ref a16])), (a9, .inl (nz_cI g, 6, .inl f9)), (a10, .inl (nz_cI g, 6, .inl f10)), (a11, .inl (nz_cI g, 6, .inl f11)), (a12, .inl (nz_cI g, 5, .inl f12)), (a13, .inl (nz_cI g, 5, .inl f13)), (a14, .inl (nz_cI g, 5, .inl f14)), (a15, .inl (nz_cI g, 5, .inl f15)), (a16, .inl (nz_cI g, 48, .inl f16)), (to, .inr (5, [.int tr0, .int tr1, .int tr2, .int tr3, .int tr4, .int tr5, .int tr6, .int tr7, .int tr8, .ref ta9, .ref ta10, .ref ta11, .ref ta12, .ref ta13, .ref ta14, .ref ta15, .ref ta16])), (ta9, .inl (nz_cI g, 6, .inl tf9)), (ta10, .inl (nz_cI g, 6, .inl tf10)), (ta11, .inl (nz_cI g, 6, .inl tf11)), (ta12, .inl (nz_cI g, 5, .inl tf12)), (ta13, .inl (nz_cI g, 5, .inl tf13)), (ta14, .inl (nz_cI g, 5, .inl tf14)), (ta15, .inl (nz_cI g, 5, .inl tf15)), (ta16, .inl (nz_cI g, 48, .inl tf16))]) F iw_X5_become_5 tyX5 tyX5_ok nmX5 0 rfl rfl 6 (by decide) rfl fl_X5_become_56 rfl rfl (Nat.le_of_ble_eq_true rfl) dX5_become_53 rfl ?_
  refine nz_aload_n F dX5_become_56 rfl 0 rfl ?_
  refine nz_aload_n F dX5_become_57 rfl 1 rfl ?_
  refine nz_get F iw_X5_become_5 9 rfl rfl 7 (by decide) rfl fl_X5_become_59 rfl dX5_become_58 ?_
  refine nz_put (ws' := [(o, .inr (5, [.int tr0, .int tr1, .int tr2, .int tr3, .int tr4, .int tr5, .int tr6, .int tr7, .int r8, .ref a9, .ref a10, .ref a11, .ref a12, .ref a13, .ref a14, .ref a15, .ref a16])), (a9, .inl (nz_cI g, 6, .inl f9)), (a10, .inl (nz_cI g, 6, .inl f10)), (a11, .inl (nz_cI g, 6, .inl f11)), (a12, .inl (nz_cI g, 5, .inl f12)), (a13, .inl (nz_cI g, 5, .inl f13)), (a14, .inl (nz_cI g, 5, .inl f14)), (a15, .inl (nz_cI g, 5, .inl f15)), (a16, .inl (nz_cI g, 48, .inl f16)), (to, .inr (5, [.int tr0, .int tr1, .int tr2, .int tr3, .int tr4, .int tr5, .int tr6, .int tr7, .int tr8, .ref ta9, .ref ta10, .ref ta11, .ref ta12, .ref ta13, .ref ta14, .ref ta15, .ref ta16])), (ta9, .inl (nz_cI g, 6, .inl tf9)), (ta10, .inl (nz_cI g, 6, .inl tf10)), (ta11, .inl (nz_cI g, 6, .inl tf11)), (ta12, .inl (nz_cI g, 5, .inl tf12)), (ta13, .inl (nz_cI g, 5, .inl tf13)), (ta14, .inl (nz_cI g, 5, .inl tf14)), (ta15, .inl (nz_cI g, 5, .inl tf15)), (ta16, .inl (nz_cI g, 48, .inl tf16))]) F iw_X5_become_5 tyX5 tyX5_ok nmX5 0 rfl rfl 7 (by decide) rfl fl_X5_become_59 rfl rfl (Nat.le_of_ble_eq_true rfl) dX5_become_61 rfl ?_
  refine nz_aload_n F dX5_become_64 rfl 0 rfl ?_
  refine nz_aload_n F dX5_become_65 rfl 1 rfl ?_
  refine nz_get F iw_X5_become_5 9 rfl rfl 8 (by decide) rfl fl_X5_become_62 rfl dX5_become_66 ?_
  refine nz_put (ws' := [(o, .inr (5, [.int tr0, .int tr1, .int tr2, .int tr3, .int tr4, .int tr5, .int tr6, .int tr7, .int tr8, .ref a9, .ref a10, .ref a11, .ref a12, .ref a13, .ref a14, .ref a15, .ref a16])), (a9, .inl (nz_cI g, 6, .inl f9)), (a10, .inl (nz_cI g, 6, .inl f10)), (a11, .inl (nz_cI g, 6, .inl f11)), (a12, .inl (nz_cI g, 5, .inl f12)), (a13, .inl (nz_cI g, 5, .inl f13)), (a14, .inl (nz_cI g, 5, .inl f14)), (a15, .inl (nz_cI g, 5, .inl f15)), (a16, .inl (nz_cI g, 48, .inl f16)), (to, .inr (5, [.int tr0, .int tr1, .int tr2, .int tr3, .int tr4, .int tr5, .int tr6, .int tr7, .int tr8, .ref ta9, .ref ta10, .ref ta11, .ref ta12, .ref ta13, .ref ta14, .ref ta15, .ref ta16])), (ta9, .inl (nz_cI g, 6, .inl tf9)), (ta10, .inl (nz_cI g, 6, .inl tf10)), (ta11, .inl (nz_cI g, 6, .inl tf11)), (ta12, .inl (nz_cI g, 5, .inl tf12)), (ta13, .inl (nz_cI g, 5, .inl tf13)), (ta14, .inl (nz_cI g, 5, .inl tf14)), (ta15, .inl (nz_cI g, 5, .inl tf15)), (ta16, .inl (nz_cI g, 48, .inl tf16))]) F iw_X5_become_5 tyX5 tyX5_ok nmX5 0 rfl rfl 8 (by decide) rfl fl_X5_become_62 rfl rfl (Nat.le_of_ble_eq_true rfl) dX5_become_69 rfl ?_
  refine nz_aload_n F dX5_become_72 rfl 1 rfl ?_
  refine nz_get F iw_X5_become_5 9 rfl rfl 9 (by decide) rfl fl_X5_become_11 rfl dX5_become_73 ?_
  refine nz_iconst (v := 0) F dX5_become_76 (by decide) ?_
  refine nz_aload_n F dX5_become_77 rfl 0 rfl ?_
  refine nz_get F iw_X5_become_5 0 rfl rfl 9 (by decide) rfl fl_X5_become_11 rfl dX5_become_78 ?_
  refine nz_iconst (v := 0) F dX5_become_81 (by decide) ?_
  refine nz_bipush (v := 6) F dX5_become_82 (by decide) ?_
  refine nz_copy (ws' := [(o, .inr (5, [.int tr0, .int tr1, .int tr2, .int tr3, .int tr4, .int tr5, .int tr6, .int tr7, .int tr8, .ref a9, .ref a10, .ref a11, .ref a12, .ref a13, .ref a14, .ref a15, .ref a16])), (a9, .inl (nz_cI g, 6, .inl (va_cpy tf9 f9 0 0 6))), (a10, .inl (nz_cI g, 6, .inl f10)), (a11, .inl (nz_cI g, 6, .inl f11)), (a12, .inl (nz_cI g, 5, .inl f12)), (a13, .inl (nz_cI g, 5, .inl f13)), (a14, .inl (nz_cI g, 5, .inl f14)), (a15, .inl (nz_cI g, 5, .inl f15)), (a16, .inl (nz_cI g, 48, .inl f16)), (to, .inr (5, [.int tr0, .int tr1, .int tr2, .int tr3, .int tr4, .int tr5, .int tr6, .int tr7, .int tr8, .ref ta9, .ref ta10, .ref ta11, .ref ta12, .ref ta13, .ref ta14, .ref ta15, .ref ta16])), (ta9, .inl (nz_cI g, 6, .inl tf9)), (ta10, .inl (nz_cI g, 6, .inl tf10)), (ta11, .inl (nz_cI g, 6, .inl tf11)), (ta12, .inl (nz_cI g, 5, .inl tf12)), (ta13, .inl (nz_cI g, 5, .inl tf13)), (ta14, .inl (nz_cI g, 5, .inl tf14)), (ta15, .inl (nz_cI g, 5, .inl tf15)), (ta16, .inl (nz_cI g, 48, .inl tf16))]) F wd_X5_become_cp0_65 wd_X5_become_cp1 wd_X5_become_cp2 wd_X5_become_cp3 10 1 rfl rfl (by decide) (by decide) (by decide) (by decide) (by decide) rfl (Nat.le_of_ble_eq_true rfl) dX5_become_84 rfl ?_
  refine nz_aload_n F dX5_become_87 rfl 1 rfl ?_
  refine nz_get F iw_X5_become_5 9 rfl rfl 10 (by decide) rfl fl_X5_become_15 rfl dX5_become_88 ?_
  refine nz_iconst (v := 0) F dX5_become_91 (by decide) ?_
  refine nz_aload_n F dX5_become_92 rfl 0 rfl ?_
  refine nz_get F iw_X5_become_5 0 rfl rfl 10 (by decide) rfl fl_X5_become_15 rfl dX5_become_93 ?_
  refine nz_iconst (v := 0) F dX5_become_96 (by decide) ?_
  refine nz_bipush (v := 6) F dX5_become_97 (by decide) ?_
  refine nz_copy (ws' := [(o, .inr (5, [.int tr0, .int tr1, .int tr2, .int tr3, .int tr4, .int tr5, .int tr6, .int tr7, .int tr8, .ref a9, .ref a10, .ref a11, .ref a12, .ref a13, .ref a14, .ref a15, .ref a16])), (a9, .inl (nz_cI g, 6, .inl (va_cpy tf9 f9 0 0 6))), (a10, .inl (nz_cI g, 6, .inl (va_cpy tf10 f10 0 0 6))), (a11, .inl (nz_cI g, 6, .inl f11)), (a12, .inl (nz_cI g, 5, .inl f12)), (a13, .inl (nz_cI g, 5, .inl f13)), (a14, .inl (nz_cI g, 5, .inl f14)), (a15, .inl (nz_cI g, 5, .inl f15)), (a16, .inl (nz_cI g, 48, .inl f16)), (to, .inr (5, [.int tr0, .int tr1, .int tr2, .int tr3, .int tr4, .int tr5, .int tr6, .int tr7, .int tr8, .ref ta9, .ref ta10, .ref ta11, .ref ta12, .ref ta13, .ref ta14, .ref ta15, .ref ta16])), (ta9, .inl (nz_cI g, 6, .inl tf9)), (ta10, .inl (nz_cI g, 6, .inl tf10)), (ta11, .inl (nz_cI g, 6, .inl tf11)), (ta12, .inl (nz_cI g, 5, .inl tf12)), (ta13, .inl (nz_cI g, 5, .inl tf13)), (ta14, .inl (nz_cI g, 5, .inl tf14)), (ta15, .inl (nz_cI g, 5, .inl tf15)), (ta16, .inl (nz_cI g, 48, .inl tf16))]) F wd_X5_become_cp0_65 wd_X5_become_cp1 wd_X5_become_cp2 wd_X5_become_cp3 11 2 rfl rfl (by decide) (by decide) (by decide) (by decide) (by decide) rfl (Nat.le_of_ble_eq_true rfl) dX5_become_99 rfl ?_
  refine nz_aload_n F dX5_become_102 rfl 1 rfl ?_
  refine nz_get F iw_X5_become_5 9 rfl rfl 11 (by decide) rfl fl_X5_become_18 rfl dX5_become_103 ?_
  refine nz_iconst (v := 0) F dX5_become_106 (by decide) ?_
  refine nz_aload_n F dX5_become_107 rfl 0 rfl ?_
  refine nz_get F iw_X5_become_5 0 rfl rfl 11 (by decide) rfl fl_X5_become_18 rfl dX5_become_108 ?_
  refine nz_iconst (v := 0) F dX5_become_111 (by decide) ?_
  refine nz_bipush (v := 6) F dX5_become_112 (by decide) ?_
  refine nz_copy (ws' := [(o, .inr (5, [.int tr0, .int tr1, .int tr2, .int tr3, .int tr4, .int tr5, .int tr6, .int tr7, .int tr8, .ref a9, .ref a10, .ref a11, .ref a12, .ref a13, .ref a14, .ref a15, .ref a16])), (a9, .inl (nz_cI g, 6, .inl (va_cpy tf9 f9 0 0 6))), (a10, .inl (nz_cI g, 6, .inl (va_cpy tf10 f10 0 0 6))), (a11, .inl (nz_cI g, 6, .inl (va_cpy tf11 f11 0 0 6))), (a12, .inl (nz_cI g, 5, .inl f12)), (a13, .inl (nz_cI g, 5, .inl f13)), (a14, .inl (nz_cI g, 5, .inl f14)), (a15, .inl (nz_cI g, 5, .inl f15)), (a16, .inl (nz_cI g, 48, .inl f16)), (to, .inr (5, [.int tr0, .int tr1, .int tr2, .int tr3, .int tr4, .int tr5, .int tr6, .int tr7, .int tr8, .ref ta9, .ref ta10, .ref ta11, .ref ta12, .ref ta13, .ref ta14, .ref ta15, .ref ta16])), (ta9, .inl (nz_cI g, 6, .inl tf9)), (ta10, .inl (nz_cI g, 6, .inl tf10)), (ta11, .inl (nz_cI g, 6, .inl tf11)), (ta12, .inl (nz_cI g, 5, .inl tf12)), (ta13, .inl (nz_cI g, 5, .inl tf13)), (ta14, .inl (nz_cI g, 5, .inl tf14)), (ta15, .inl (nz_cI g, 5, .inl tf15)), (ta16, .inl (nz_cI g, 48, .inl tf16))]) F wd_X5_become_cp0_65 wd_X5_become_cp1 wd_X5_become_cp2 wd_X5_become_cp3 12 3 rfl rfl (by decide) (by decide) (by decide) (by decide) (by decide) rfl (Nat.le_of_ble_eq_true rfl) dX5_become_114 rfl ?_
  refine nz_aload_n F dX5_become_117 rfl 1 rfl ?_
  refine nz_get F iw_X5_become_5 9 rfl rfl 12 (by decide) rfl fl_X5_become_21 rfl dX5_become_118 ?_
  refine nz_iconst (v := 0) F dX5_become_121 (by decide) ?_
  refine nz_aload_n F dX5_become_122 rfl 0 rfl ?_
  refine nz_get F iw_X5_become_5 0 rfl rfl 12 (by decide) rfl fl_X5_become_21 rfl dX5_become_123 ?_
  refine nz_iconst (v := 0) F dX5_become_126 (by decide) ?_
  refine nz_iconst (v := 5) F dX5_become_127 (by decide) ?_
  refine nz_copy (ws' := [(o, .inr (5, [.int tr0, .int tr1, .int tr2, .int tr3, .int tr4, .int tr5, .int tr6, .int tr7, .int tr8, .ref a9, .ref a10, .ref a11, .ref a12, .ref a13, .ref a14, .ref a15, .ref a16])), (a9, .inl (nz_cI g, 6, .inl (va_cpy tf9 f9 0 0 6))), (a10, .inl (nz_cI g, 6, .inl (va_cpy tf10 f10 0 0 6))), (a11, .inl (nz_cI g, 6, .inl (va_cpy tf11 f11 0 0 6))), (a12, .inl (nz_cI g, 5, .inl (va_cpy tf12 f12 0 0 5))), (a13, .inl (nz_cI g, 5, .inl f13)), (a14, .inl (nz_cI g, 5, .inl f14)), (a15, .inl (nz_cI g, 5, .inl f15)), (a16, .inl (nz_cI g, 48, .inl f16)), (to, .inr (5, [.int tr0, .int tr1, .int tr2, .int tr3, .int tr4, .int tr5, .int tr6, .int tr7, .int tr8, .ref ta9, .ref ta10, .ref ta11, .ref ta12, .ref ta13, .ref ta14, .ref ta15, .ref ta16])), (ta9, .inl (nz_cI g, 6, .inl tf9)), (ta10, .inl (nz_cI g, 6, .inl tf10)), (ta11, .inl (nz_cI g, 6, .inl tf11)), (ta12, .inl (nz_cI g, 5, .inl tf12)), (ta13, .inl (nz_cI g, 5, .inl tf13)), (ta14, .inl (nz_cI g, 5, .inl tf14)), (ta15, .inl (nz_cI g, 5, .inl tf15)), (ta16, .inl (nz_cI g, 48, .inl tf16))]) F wd_X5_become_cp0_65 wd_X5_become_cp1 wd_X5_become_cp2 wd_X5_become_cp3 13 4 rfl rfl (by decide) (by decide) (by decide) (by decide) (by decide) rfl (Nat.le_of_ble_eq_true rfl) dX5_become_128 rfl ?_
  refine nz_aload_n F dX5_become_131 rfl 1 rfl ?_
  refine nz_get F iw_X5_become_5 9 rfl rfl 13 (by decide) rfl fl_X5_become_24 rfl dX5_become_132 ?_
  refine nz_iconst (v := 0) F dX5_become_135 (by decide) ?_
  refine nz_aload_n F dX5_become_136 rfl 0 rfl ?_
  refine nz_get F iw_X5_become_5 0 rfl rfl 13 (by decide) rfl fl_X5_become_24 rfl dX5_become_137 ?_
  refine nz_iconst (v := 0) F dX5_become_140 (by decide) ?_
  refine nz_iconst (v := 5) F dX5_become_141 (by decide) ?_
  refine nz_copy (ws' := [(o, .inr (5, [.int tr0, .int tr1, .int tr2, .int tr3, .int tr4, .int tr5, .int tr6, .int tr7, .int tr8, .ref a9, .ref a10, .ref a11, .ref a12, .ref a13, .ref a14, .ref a15, .ref a16])), (a9, .inl (nz_cI g, 6, .inl (va_cpy tf9 f9 0 0 6))), (a10, .inl (nz_cI g, 6, .inl (va_cpy tf10 f10 0 0 6))), (a11, .inl (nz_cI g, 6, .inl (va_cpy tf11 f11 0 0 6))), (a12, .inl (nz_cI g, 5, .inl (va_cpy tf12 f12 0 0 5))), (a13, .inl (nz_cI g, 5, .inl (va_cpy tf13 f13 0 0 5))), (a14, .inl (nz_cI g, 5, .inl f14)), (a15, .inl (nz_cI g, 5, .inl f15)), (a16, .inl (nz_cI g, 48, .inl f16)), (to, .inr (5, [.int tr0, .int tr1, .int tr2, .int tr3, .int tr4, .int tr5, .int tr6, .int tr7, .int tr8, .ref ta9, .ref ta10, .ref ta11, .ref ta12, .ref ta13, .ref ta14, .ref ta15, .ref ta16])), (ta9, .inl (nz_cI g, 6, .inl tf9)), (ta10, .inl (nz_cI g, 6, .inl tf10)), (ta11, .inl (nz_cI g, 6, .inl tf11)), (ta12, .inl (nz_cI g, 5, .inl tf12)), (ta13, .inl (nz_cI g, 5, .inl tf13)), (ta14, .inl (nz_cI g, 5, .inl tf14)), (ta15, .inl (nz_cI g, 5, .inl tf15)), (ta16, .inl (nz_cI g, 48, .inl tf16))]) F wd_X5_become_cp0_65 wd_X5_become_cp1 wd_X5_become_cp2 wd_X5_become_cp3 14 5 rfl rfl (by decide) (by decide) (by decide) (by decide) (by decide) rfl (Nat.le_of_ble_eq_true rfl) dX5_become_142 rfl ?_
  refine nz_aload_n F dX5_become_145 rfl 1 rfl ?_
  refine nz_get F iw_X5_become_5 9 rfl rfl 14 (by decide) rfl fl_X5_become_27 rfl dX5_become_146 ?_
  refine nz_iconst (v := 0) F dX5_become_149 (by decide) ?_
  refine nz_aload_n F dX5_become_150 rfl 0 rfl ?_
  refine nz_get F iw_X5_become_5 0 rfl rfl 14 (by decide) rfl fl_X5_become_27 rfl dX5_become_151 ?_
  refine nz_iconst (v := 0) F dX5_become_154 (by decide) ?_
  refine nz_iconst (v := 5) F dX5_become_155 (by decide) ?_
  refine nz_copy (ws' := [(o, .inr (5, [.int tr0, .int tr1, .int tr2, .int tr3, .int tr4, .int tr5, .int tr6, .int tr7, .int tr8, .ref a9, .ref a10, .ref a11, .ref a12, .ref a13, .ref a14, .ref a15, .ref a16])), (a9, .inl (nz_cI g, 6, .inl (va_cpy tf9 f9 0 0 6))), (a10, .inl (nz_cI g, 6, .inl (va_cpy tf10 f10 0 0 6))), (a11, .inl (nz_cI g, 6, .inl (va_cpy tf11 f11 0 0 6))), (a12, .inl (nz_cI g, 5, .inl (va_cpy tf12 f12 0 0 5))), (a13, .inl (nz_cI g, 5, .inl (va_cpy tf13 f13 0 0 5))), (a14, .inl (nz_cI g, 5, .inl (va_cpy tf14 f14 0 0 5))), (a15, .inl (nz_cI g, 5, .inl f15)), (a16, .inl (nz_cI g, 48, .inl f16)), (to, .inr (5, [.int tr0, .int tr1, .int tr2, .int tr3, .int tr4, .int tr5, .int tr6, .int tr7, .int tr8, .ref ta9, .ref ta10, .ref ta11, .ref ta12, .ref ta13, .ref ta14, .ref ta15, .ref ta16])), (ta9, .inl (nz_cI g, 6, .inl tf9)), (ta10, .inl (nz_cI g, 6, .inl tf10)), (ta11, .inl (nz_cI g, 6, .inl tf11)), (ta12, .inl (nz_cI g, 5, .inl tf12)), (ta13, .inl (nz_cI g, 5, .inl tf13)), (ta14, .inl (nz_cI g, 5, .inl tf14)), (ta15, .inl (nz_cI g, 5, .inl tf15)), (ta16, .inl (nz_cI g, 48, .inl tf16))]) F wd_X5_become_cp0_65 wd_X5_become_cp1 wd_X5_become_cp2 wd_X5_become_cp3 15 6 rfl rfl (by decide) (by decide) (by decide) (by decide) (by decide) rfl (Nat.le_of_ble_eq_true rfl) dX5_become_156 rfl ?_
  refine nz_aload_n F dX5_become_159 rfl 1 rfl ?_
  refine nz_get F iw_X5_become_5 9 rfl rfl 15 (by decide) rfl fl_X5_become_30 rfl dX5_become_160 ?_
  refine nz_iconst (v := 0) F dX5_become_163 (by decide) ?_
  refine nz_aload_n F dX5_become_164 rfl 0 rfl ?_
  refine nz_get F iw_X5_become_5 0 rfl rfl 15 (by decide) rfl fl_X5_become_30 rfl dX5_become_165 ?_
  refine nz_iconst (v := 0) F dX5_become_168 (by decide) ?_
  refine nz_iconst (v := 5) F dX5_become_169 (by decide) ?_
  refine nz_copy (ws' := [(o, .inr (5, [.int tr0, .int tr1, .int tr2, .int tr3, .int tr4, .int tr5, .int tr6, .int tr7, .int tr8, .ref a9, .ref a10, .ref a11, .ref a12, .ref a13, .ref a14, .ref a15, .ref a16])), (a9, .inl (nz_cI g, 6, .inl (va_cpy tf9 f9 0 0 6))), (a10, .inl (nz_cI g, 6, .inl (va_cpy tf10 f10 0 0 6))), (a11, .inl (nz_cI g, 6, .inl (va_cpy tf11 f11 0 0 6))), (a12, .inl (nz_cI g, 5, .inl (va_cpy tf12 f12 0 0 5))), (a13, .inl (nz_cI g, 5, .inl (va_cpy tf13 f13 0 0 5))), (a14, .inl (nz_cI g, 5, .inl (va_cpy tf14 f14 0 0 5))), (a15, .inl (nz_cI g, 5, .inl (va_cpy tf15 f15 0 0 5))), (a16, .inl (nz_cI g, 48, .inl f16)), (to, .inr (5, [.int tr0, .int tr1, .int tr2, .int tr3, .int tr4, .int tr5, .int tr6, .int tr7, .int tr8, .ref ta9, .ref ta10, .ref ta11, .ref ta12, .ref ta13, .ref ta14, .ref ta15, .ref ta16])), (ta9, .inl (nz_cI g, 6, .inl tf9)), (ta10, .inl (nz_cI g, 6, .inl tf10)), (ta11, .inl (nz_cI g, 6, .inl tf11)), (ta12, .inl (nz_cI g, 5, .inl tf12)), (ta13, .inl (nz_cI g, 5, .inl tf13)), (ta14, .inl (nz_cI g, 5, .inl tf14)), (ta15, .inl (nz_cI g, 5, .inl tf15)), (ta16, .inl (nz_cI g, 48, .inl tf16))]) F wd_X5_become_cp0_65 wd_X5_become_cp1 wd_X5_become_cp2 wd_X5_become_cp3 16 7 rfl rfl (by decide) (by decide) (by decide) (by decide) (by decide) rfl (Nat.le_of_ble_eq_true rfl) dX5_become_170 rfl ?_
  refine nz_aload_n F dX5_become_173 rfl 1 rfl ?_
  refine nz_get F iw_X5_become_5 9 rfl rfl 16 (by decide) rfl fl_X5_become_33 rfl dX5_become_174 ?_
  refine nz_iconst (v := 0) F dX5_become_177 (by decide) ?_
  refine nz_aload_n F dX5_become_178 rfl 0 rfl ?_
  refine nz_get F iw_X5_become_5 0 rfl rfl 16 (by decide) rfl fl_X5_become_33 rfl dX5_become_179 ?_
  refine nz_iconst (v := 0) F dX5_become_182 (by decide) ?_
  refine nz_aload_n F dX5_become_183 rfl 0 rfl ?_
  refine nz_get F iw_X5_become_5 0 rfl rfl 16 (by decide) rfl fl_X5_become_33 rfl dX5_become_184 ?_
  refine nz_alen (v := 48) F 8 0 rfl rfl rfl dX5_become_187 ?_
  refine nz_copy (ws' := [(o, .inr (5, [.int tr0, .int tr1, .int tr2, .int tr3, .int tr4, .int tr5, .int tr6, .int tr7, .int tr8, .ref a9, .ref a10, .ref a11, .ref a12, .ref a13, .ref a14, .ref a15, .ref a16])), (a9, .inl (nz_cI g, 6, .inl (va_cpy tf9 f9 0 0 6))), (a10, .inl (nz_cI g, 6, .inl (va_cpy tf10 f10 0 0 6))), (a11, .inl (nz_cI g, 6, .inl (va_cpy tf11 f11 0 0 6))), (a12, .inl (nz_cI g, 5, .inl (va_cpy tf12 f12 0 0 5))), (a13, .inl (nz_cI g, 5, .inl (va_cpy tf13 f13 0 0 5))), (a14, .inl (nz_cI g, 5, .inl (va_cpy tf14 f14 0 0 5))), (a15, .inl (nz_cI g, 5, .inl (va_cpy tf15 f15 0 0 5))), (a16, .inl (nz_cI g, 48, .inl (va_cpy tf16 f16 0 0 48))), (to, .inr (5, [.int tr0, .int tr1, .int tr2, .int tr3, .int tr4, .int tr5, .int tr6, .int tr7, .int tr8, .ref ta9, .ref ta10, .ref ta11, .ref ta12, .ref ta13, .ref ta14, .ref ta15, .ref ta16])), (ta9, .inl (nz_cI g, 6, .inl tf9)), (ta10, .inl (nz_cI g, 6, .inl tf10)), (ta11, .inl (nz_cI g, 6, .inl tf11)), (ta12, .inl (nz_cI g, 5, .inl tf12)), (ta13, .inl (nz_cI g, 5, .inl tf13)), (ta14, .inl (nz_cI g, 5, .inl tf14)), (ta15, .inl (nz_cI g, 5, .inl tf15)), (ta16, .inl (nz_cI g, 48, .inl tf16))]) F wd_X5_become_cp0_65 wd_X5_become_cp1 wd_X5_become_cp2 wd_X5_become_cp3 17 8 rfl rfl (by decide) (by decide) (by decide) (by decide) (by decide) rfl (Nat.le_of_ble_eq_true rfl) dX5_become_188 rfl ?_
  exact nz_vret F hQ (tr0, tr1, tr2, tr3, tr4, tr5, tr6, tr7, tr8, (va_cpy tf9 f9 0 0 6), (va_cpy tf10 f10 0 0 6), (va_cpy tf11 f11 0 0 6), (va_cpy tf12 f12 0 0 5), (va_cpy tf13 f13 0 0 5), (va_cpy tf14 f14 0 0 5), (va_cpy tf15 f15 0 0 5), (va_cpy tf16 f16 0 0 48)) h rfl dX5_become_191
theorem k_X5_become {y : nz_Y} {g : nz_G} {k n : Nat} {ws : va_W} {pc : Nat} {ls : List (Nat × Value)} {st rest : List Value} {av : Array Value} {isC : List Nat} {K : Int32 → Int32 → Int32 → Int32 → Int32 → Int32 → Int32 → Int32 → Int32 → (Nat → Int32) → (Nat → Int32) → (Nat → Int32) → (Nat → Int32) → (Nat → Int32) → (Nat → Int32) → (Nat → Int32) → (Nat → Int32) → Prop} (o : Nat) (a9 : Nat) (a10 : Nat) (a11 : Nat) (a12 : Nat) (a13 : Nat) (a14 : Nat) (a15 : Nat) (a16 : Nat) (to : Nat) (ta9 : Nat) (ta10 : Nat) (ta11 : Nat) (ta12 : Nat) (ta13 : Nat) (ta14 : Nat) (ta15 : Nat) (ta16 : Nat) (r0 : Int32) (r1 : Int32) (r2 : Int32) (r3 : Int32) (r4 : Int32) (r5 : Int32) (r6 : Int32) (r7 : Int32) (r8 : Int32) (f9 : Nat → Int32) (f10 : Nat → Int32) (f11 : Nat → Int32) (f12 : Nat → Int32) (f13 : Nat → Int32) (f14 : Nat → Int32) (f15 : Nat → Int32) (f16 : Nat → Int32) (tr0 : Int32) (tr1 : Int32) (tr2 : Int32) (tr3 : Int32) (tr4 : Int32) (tr5 : Int32) (tr6 : Int32) (tr7 : Int32) (tr8 : Int32) (tf9 : Nat → Int32) (tf10 : Nat → Int32) (tf11 : Nat → Int32) (tf12 : Nat → Int32) (tf13 : Nat → Int32) (tf14 : Nat → Int32) (tf15 : Nat → Int32) (tf16 : Nat → Int32) (run : nz_M (yz_l y) yX5_become wsX5_become rm_X5_become g [.ref o, .ref to] [(o, .inr (5, [.int r0, .int r1, .int r2, .int r3, .int r4, .int r5, .int r6, .int r7, .int r8, .ref a9, .ref a10, .ref a11, .ref a12, .ref a13, .ref a14, .ref a15, .ref a16])), (a9, .inl (nz_cI g, 6, .inl f9)), (a10, .inl (nz_cI g, 6, .inl f10)), (a11, .inl (nz_cI g, 6, .inl f11)), (a12, .inl (nz_cI g, 5, .inl f12)), (a13, .inl (nz_cI g, 5, .inl f13)), (a14, .inl (nz_cI g, 5, .inl f14)), (a15, .inl (nz_cI g, 5, .inl f15)), (a16, .inl (nz_cI g, 48, .inl f16)), (to, .inr (5, [.int tr0, .int tr1, .int tr2, .int tr3, .int tr4, .int tr5, .int tr6, .int tr7, .int tr8, .ref ta9, .ref ta10, .ref ta11, .ref ta12, .ref ta13, .ref ta14, .ref ta15, .ref ta16])), (ta9, .inl (nz_cI g, 6, .inl tf9)), (ta10, .inl (nz_cI g, 6, .inl tf10)), (ta11, .inl (nz_cI g, 6, .inl tf11)), (ta12, .inl (nz_cI g, 5, .inl tf12)), (ta13, .inl (nz_cI g, 5, .inl tf13)), (ta14, .inl (nz_cI g, 5, .inl tf14)), (ta15, .inl (nz_cI g, 5, .inl tf15)), (ta16, .inl (nz_cI g, 48, .inl tf16))] (nz_Qv g [(o, .inr (5, [.int r0, .int r1, .int r2, .int r3, .int r4, .int r5, .int r6, .int r7, .int r8, .ref a9, .ref a10, .ref a11, .ref a12, .ref a13, .ref a14, .ref a15, .ref a16])), (a9, .inl (nz_cI g, 6, .inl f9)), (a10, .inl (nz_cI g, 6, .inl f10)), (a11, .inl (nz_cI g, 6, .inl f11)), (a12, .inl (nz_cI g, 5, .inl f12)), (a13, .inl (nz_cI g, 5, .inl f13)), (a14, .inl (nz_cI g, 5, .inl f14)), (a15, .inl (nz_cI g, 5, .inl f15)), (a16, .inl (nz_cI g, 48, .inl f16)), (to, .inr (5, [.int tr0, .int tr1, .int tr2, .int tr3, .int tr4, .int tr5, .int tr6, .int tr7, .int tr8, .ref ta9, .ref ta10, .ref ta11, .ref ta12, .ref ta13, .ref ta14, .ref ta15, .ref ta16])), (ta9, .inl (nz_cI g, 6, .inl tf9)), (ta10, .inl (nz_cI g, 6, .inl tf10)), (ta11, .inl (nz_cI g, 6, .inl tf11)), (ta12, .inl (nz_cI g, 5, .inl tf12)), (ta13, .inl (nz_cI g, 5, .inl tf13)), (ta14, .inl (nz_cI g, 5, .inl tf14)), (ta15, .inl (nz_cI g, 5, .inl tf15)), (ta16, .inl (nz_cI g, 48, .inl tf16))] (fun (u : Int32 × Int32 × Int32 × Int32 × Int32 × Int32 × Int32 × Int32 × Int32 × (Nat → Int32) × (Nat → Int32) × (Nat → Int32) × (Nat → Int32) × (Nat → Int32) × (Nat → Int32) × (Nat → Int32) × (Nat → Int32)) => K u.1 u.2.1 u.2.2.1 u.2.2.2.1 u.2.2.2.2.1 u.2.2.2.2.2.1 u.2.2.2.2.2.2.1 u.2.2.2.2.2.2.2.1 u.2.2.2.2.2.2.2.2.1 u.2.2.2.2.2.2.2.2.2.1 u.2.2.2.2.2.2.2.2.2.2.1 u.2.2.2.2.2.2.2.2.2.2.2.1 u.2.2.2.2.2.2.2.2.2.2.2.2.1 u.2.2.2.2.2.2.2.2.2.2.2.2.2.1 u.2.2.2.2.2.2.2.2.2.2.2.2.2.2.1 u.2.2.2.2.2.2.2.2.2.2.2.2.2.2.2.1 u.2.2.2.2.2.2.2.2.2.2.2.2.2.2.2.2) (fun u => [(o, .inr (5, [.int u.1, .int u.2.1, .int u.2.2.1, .int u.2.2.2.1, .int u.2.2.2.2.1, .int u.2.2.2.2.2.1, .int u.2.2.2.2.2.2.1, .int u.2.2.2.2.2.2.2.1, .int u.2.2.2.2.2.2.2.2.1, .ref a9, .ref a10, .ref a11, .ref a12, .ref a13, .ref a14, .ref a15, .ref a16])), (a9, .inl (nz_cI g, 6, .inl u.2.2.2.2.2.2.2.2.2.1)), (a10, .inl (nz_cI g, 6, .inl u.2.2.2.2.2.2.2.2.2.2.1)), (a11, .inl (nz_cI g, 6, .inl u.2.2.2.2.2.2.2.2.2.2.2.1)), (a12, .inl (nz_cI g, 5, .inl u.2.2.2.2.2.2.2.2.2.2.2.2.1)), (a13, .inl (nz_cI g, 5, .inl u.2.2.2.2.2.2.2.2.2.2.2.2.2.1)), (a14, .inl (nz_cI g, 5, .inl u.2.2.2.2.2.2.2.2.2.2.2.2.2.2.1)), (a15, .inl (nz_cI g, 5, .inl u.2.2.2.2.2.2.2.2.2.2.2.2.2.2.2.1)), (a16, .inl (nz_cI g, 48, .inl u.2.2.2.2.2.2.2.2.2.2.2.2.2.2.2.2)), (to, .inr (5, [.int tr0, .int tr1, .int tr2, .int tr3, .int tr4, .int tr5, .int tr6, .int tr7, .int tr8, .ref ta9, .ref ta10, .ref ta11, .ref ta12, .ref ta13, .ref ta14, .ref ta15, .ref ta16])), (ta9, .inl (nz_cI g, 6, .inl tf9)), (ta10, .inl (nz_cI g, 6, .inl tf10)), (ta11, .inl (nz_cI g, 6, .inl tf11)), (ta12, .inl (nz_cI g, 5, .inl tf12)), (ta13, .inl (nz_cI g, 5, .inl tf13)), (ta14, .inl (nz_cI g, 5, .inl tf14)), (ta15, .inl (nz_cI g, 5, .inl tf15)), (ta16, .inl (nz_cI g, 48, .inl tf16))])) → nz_C y g k n ws pc ls st rest [(o, .inr (5, [.int r0, .int r1, .int r2, .int r3, .int r4, .int r5, .int r6, .int r7, .int r8, .ref a9, .ref a10, .ref a11, .ref a12, .ref a13, .ref a14, .ref a15, .ref a16])), (a9, .inl (nz_cI g, 6, .inl f9)), (a10, .inl (nz_cI g, 6, .inl f10)), (a11, .inl (nz_cI g, 6, .inl f11)), (a12, .inl (nz_cI g, 5, .inl f12)), (a13, .inl (nz_cI g, 5, .inl f13)), (a14, .inl (nz_cI g, 5, .inl f14)), (a15, .inl (nz_cI g, 5, .inl f15)), (a16, .inl (nz_cI g, 48, .inl f16)), (to, .inr (5, [.int tr0, .int tr1, .int tr2, .int tr3, .int tr4, .int tr5, .int tr6, .int tr7, .int tr8, .ref ta9, .ref ta10, .ref ta11, .ref ta12, .ref ta13, .ref ta14, .ref ta15, .ref ta16])), (ta9, .inl (nz_cI g, 6, .inl tf9)), (ta10, .inl (nz_cI g, 6, .inl tf10)), (ta11, .inl (nz_cI g, 6, .inl tf11)), (ta12, .inl (nz_cI g, 5, .inl tf12)), (ta13, .inl (nz_cI g, 5, .inl tf13)), (ta14, .inl (nz_cI g, 5, .inl tf14)), (ta15, .inl (nz_cI g, 5, .inl tf15)), (ta16, .inl (nz_cI g, 48, .inl tf16))] (nz_Qv g [(o, .inr (5, [.int r0, .int r1, .int r2, .int r3, .int r4, .int r5, .int r6, .int r7, .int r8, .ref a9, .ref a10, .ref a11, .ref a12, .ref a13, .ref a14, .ref a15, .ref a16])), (a9, .inl (nz_cI g, 6, .inl f9)), (a10, .inl (nz_cI g, 6, .inl f10)), (a11, .inl (nz_cI g, 6, .inl f11)), (a12, .inl (nz_cI g, 5, .inl f12)), (a13, .inl (nz_cI g, 5, .inl f13)), (a14, .inl (nz_cI g, 5, .inl f14)), (a15, .inl (nz_cI g, 5, .inl f15)), (a16, .inl (nz_cI g, 48, .inl f16)), (to, .inr (5, [.int tr0, .int tr1, .int tr2, .int tr3, .int tr4, .int tr5, .int tr6, .int tr7, .int tr8, .ref ta9, .ref ta10, .ref ta11, .ref ta12, .ref ta13, .ref ta14, .ref ta15, .ref ta16])), (ta9, .inl (nz_cI g, 6, .inl tf9)), (ta10, .inl (nz_cI g, 6, .inl tf10)), (ta11, .inl (nz_cI g, 6, .inl tf11)), (ta12, .inl (nz_cI g, 5, .inl tf12)), (ta13, .inl (nz_cI g, 5, .inl tf13)), (ta14, .inl (nz_cI g, 5, .inl tf14)), (ta15, .inl (nz_cI g, 5, .inl tf15)), (ta16, .inl (nz_cI g, 48, .inl tf16))] (fun (u : Int32 × Int32 × Int32 × Int32 × Int32 × Int32 × Int32 × Int32 × Int32 × (Nat → Int32) × (Nat → Int32) × (Nat → Int32) × (Nat → Int32) × (Nat → Int32) × (Nat → Int32) × (Nat → Int32) × (Nat → Int32)) => K u.1 u.2.1 u.2.2.1 u.2.2.2.1 u.2.2.2.2.1 u.2.2.2.2.2.1 u.2.2.2.2.2.2.1 u.2.2.2.2.2.2.2.1 u.2.2.2.2.2.2.2.2.1 u.2.2.2.2.2.2.2.2.2.1 u.2.2.2.2.2.2.2.2.2.2.1 u.2.2.2.2.2.2.2.2.2.2.2.1 u.2.2.2.2.2.2.2.2.2.2.2.2.1 u.2.2.2.2.2.2.2.2.2.2.2.2.2.1 u.2.2.2.2.2.2.2.2.2.2.2.2.2.2.1 u.2.2.2.2.2.2.2.2.2.2.2.2.2.2.2.1 u.2.2.2.2.2.2.2.2.2.2.2.2.2.2.2.2) (fun u => [(o, .inr (5, [.int u.1, .int u.2.1, .int u.2.2.1, .int u.2.2.2.1, .int u.2.2.2.2.1, .int u.2.2.2.2.2.1, .int u.2.2.2.2.2.2.1, .int u.2.2.2.2.2.2.2.1, .int u.2.2.2.2.2.2.2.2.1, .ref a9, .ref a10, .ref a11, .ref a12, .ref a13, .ref a14, .ref a15, .ref a16])), (a9, .inl (nz_cI g, 6, .inl u.2.2.2.2.2.2.2.2.2.1)), (a10, .inl (nz_cI g, 6, .inl u.2.2.2.2.2.2.2.2.2.2.1)), (a11, .inl (nz_cI g, 6, .inl u.2.2.2.2.2.2.2.2.2.2.2.1)), (a12, .inl (nz_cI g, 5, .inl u.2.2.2.2.2.2.2.2.2.2.2.2.1)), (a13, .inl (nz_cI g, 5, .inl u.2.2.2.2.2.2.2.2.2.2.2.2.2.1)), (a14, .inl (nz_cI g, 5, .inl u.2.2.2.2.2.2.2.2.2.2.2.2.2.2.1)), (a15, .inl (nz_cI g, 5, .inl u.2.2.2.2.2.2.2.2.2.2.2.2.2.2.2.1)), (a16, .inl (nz_cI g, 48, .inl u.2.2.2.2.2.2.2.2.2.2.2.2.2.2.2.2)), (to, .inr (5, [.int tr0, .int tr1, .int tr2, .int tr3, .int tr4, .int tr5, .int tr6, .int tr7, .int tr8, .ref ta9, .ref ta10, .ref ta11, .ref ta12, .ref ta13, .ref ta14, .ref ta15, .ref ta16])), (ta9, .inl (nz_cI g, 6, .inl tf9)), (ta10, .inl (nz_cI g, 6, .inl tf10)), (ta11, .inl (nz_cI g, 6, .inl tf11)), (ta12, .inl (nz_cI g, 5, .inl tf12)), (ta13, .inl (nz_cI g, 5, .inl tf13)), (ta14, .inl (nz_cI g, 5, .inl tf14)), (ta15, .inl (nz_cI g, 5, .inl tf15)), (ta16, .inl (nz_cI g, 48, .inl tf16))])) av isC) (h : wp_X5_become f9 f10 f11 f12 f13 f14 f15 f16 tr0 tr1 tr2 tr3 tr4 tr5 tr6 tr7 tr8 tf9 tf10 tf11 tf12 tf13 tf14 tf15 tf16 K) (ws' : Int32 → Int32 → Int32 → Int32 → Int32 → Int32 → Int32 → Int32 → Int32 → (Nat → Int32) → (Nat → Int32) → (Nat → Int32) → (Nat → Int32) → (Nat → Int32) → (Nat → Int32) → (Nat → Int32) → (Nat → Int32) → va_W) (hm : ∀ (m0 : Int32) (m1 : Int32) (m2 : Int32) (m3 : Int32) (m4 : Int32) (m5 : Int32) (m6 : Int32) (m7 : Int32) (m8 : Int32) (m9 : (Nat → Int32)) (m10 : (Nat → Int32)) (m11 : (Nat → Int32)) (m12 : (Nat → Int32)) (m13 : (Nat → Int32)) (m14 : (Nat → Int32)) (m15 : (Nat → Int32)) (m16 : (Nat → Int32)), nz_mrg ws isC [(o, .inr (5, [.int m0, .int m1, .int m2, .int m3, .int m4, .int m5, .int m6, .int m7, .int m8, .ref a9, .ref a10, .ref a11, .ref a12, .ref a13, .ref a14, .ref a15, .ref a16])), (a9, .inl (nz_cI g, 6, .inl m9)), (a10, .inl (nz_cI g, 6, .inl m10)), (a11, .inl (nz_cI g, 6, .inl m11)), (a12, .inl (nz_cI g, 5, .inl m12)), (a13, .inl (nz_cI g, 5, .inl m13)), (a14, .inl (nz_cI g, 5, .inl m14)), (a15, .inl (nz_cI g, 5, .inl m15)), (a16, .inl (nz_cI g, 48, .inl m16)), (to, .inr (5, [.int tr0, .int tr1, .int tr2, .int tr3, .int tr4, .int tr5, .int tr6, .int tr7, .int tr8, .ref ta9, .ref ta10, .ref ta11, .ref ta12, .ref ta13, .ref ta14, .ref ta15, .ref ta16])), (ta9, .inl (nz_cI g, 6, .inl tf9)), (ta10, .inl (nz_cI g, 6, .inl tf10)), (ta11, .inl (nz_cI g, 6, .inl tf11)), (ta12, .inl (nz_cI g, 5, .inl tf12)), (ta13, .inl (nz_cI g, 5, .inl tf13)), (ta14, .inl (nz_cI g, 5, .inl tf14)), (ta15, .inl (nz_cI g, 5, .inl tf15)), (ta16, .inl (nz_cI g, 48, .inl tf16))] = ws' m0 m1 m2 m3 m4 m5 m6 m7 m8 m9 m10 m11 m12 m13 m14 m15 m16) (kk : ∀ (m0 : Int32) (m1 : Int32) (m2 : Int32) (m3 : Int32) (m4 : Int32) (m5 : Int32) (m6 : Int32) (m7 : Int32) (m8 : Int32) (m9 : (Nat → Int32)) (m10 : (Nat → Int32)) (m11 : (Nat → Int32)) (m12 : (Nat → Int32)) (m13 : (Nat → Int32)) (m14 : (Nat → Int32)) (m15 : (Nat → Int32)) (m16 : (Nat → Int32)), K m0 m1 m2 m3 m4 m5 m6 m7 m8 m9 m10 m11 m12 m13 m14 m15 m16 → nz_V y g k n (ws' m0 m1 m2 m3 m4 m5 m6 m7 m8 m9 m10 m11 m12 m13 m14 m15 m16) (pc + 3) ls (rest)) : nz_V y g k n ws pc ls st :=
  nz_cv (ws' := fun u => ws' u.1 u.2.1 u.2.2.1 u.2.2.2.1 u.2.2.2.2.1 u.2.2.2.2.2.1 u.2.2.2.2.2.2.1 u.2.2.2.2.2.2.2.1 u.2.2.2.2.2.2.2.2.1 u.2.2.2.2.2.2.2.2.2.1 u.2.2.2.2.2.2.2.2.2.2.1 u.2.2.2.2.2.2.2.2.2.2.2.1 u.2.2.2.2.2.2.2.2.2.2.2.2.1 u.2.2.2.2.2.2.2.2.2.2.2.2.2.1 u.2.2.2.2.2.2.2.2.2.2.2.2.2.2.1 u.2.2.2.2.2.2.2.2.2.2.2.2.2.2.2.1 u.2.2.2.2.2.2.2.2.2.2.2.2.2.2.2.2) (run (c_X5_become (yz_l y) g o a9 a10 a11 a12 a13 a14 a15 a16 to ta9 ta10 ta11 ta12 ta13 ta14 ta15 ta16 r0 r1 r2 r3 r4 r5 r6 r7 r8 f9 f10 f11 f12 f13 f14 f15 f16 tr0 tr1 tr2 tr3 tr4 tr5 tr6 tr7 tr8 tf9 tf10 tf11 tf12 tf13 tf14 tf15 tf16 K h)) (fun _ => rfl) (fun u => hm u.1 u.2.1 u.2.2.1 u.2.2.2.1 u.2.2.2.2.1 u.2.2.2.2.2.1 u.2.2.2.2.2.2.1 u.2.2.2.2.2.2.2.1 u.2.2.2.2.2.2.2.2.1 u.2.2.2.2.2.2.2.2.2.1 u.2.2.2.2.2.2.2.2.2.2.1 u.2.2.2.2.2.2.2.2.2.2.2.1 u.2.2.2.2.2.2.2.2.2.2.2.2.1 u.2.2.2.2.2.2.2.2.2.2.2.2.2.1 u.2.2.2.2.2.2.2.2.2.2.2.2.2.2.1 u.2.2.2.2.2.2.2.2.2.2.2.2.2.2.2.1 u.2.2.2.2.2.2.2.2.2.2.2.2.2.2.2.2) (fun u h => kk u.1 u.2.1 u.2.2.1 u.2.2.2.1 u.2.2.2.2.1 u.2.2.2.2.2.1 u.2.2.2.2.2.2.1 u.2.2.2.2.2.2.2.1 u.2.2.2.2.2.2.2.2.1 u.2.2.2.2.2.2.2.2.2.1 u.2.2.2.2.2.2.2.2.2.2.1 u.2.2.2.2.2.2.2.2.2.2.2.1 u.2.2.2.2.2.2.2.2.2.2.2.2.1 u.2.2.2.2.2.2.2.2.2.2.2.2.2.1 u.2.2.2.2.2.2.2.2.2.2.2.2.2.2.1 u.2.2.2.2.2.2.2.2.2.2.2.2.2.2.2.1 u.2.2.2.2.2.2.2.2.2.2.2.2.2.2.2.2 h)
