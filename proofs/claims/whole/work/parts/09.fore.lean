theorem dX2_setApartFrom_0 : decode cX2_setApartFrom 0 = .ok (.iconst 0, 1) := by decide +kernel
theorem dX2_setApartFrom_1 : decode cX2_setApartFrom 1 = .ok (.istore_n 2, 1) := by decide +kernel
theorem dX2_setApartFrom_2 : decode cX2_setApartFrom 2 = .ok (.iconst 0, 1) := by decide +kernel
theorem dX2_setApartFrom_3 : decode cX2_setApartFrom 3 = .ok (.istore_n 3, 1) := by decide +kernel
theorem dX2_setApartFrom_4 : decode cX2_setApartFrom 4 = .ok (.iload_n 3, 1) := by decide +kernel
theorem dX2_setApartFrom_5 : decode cX2_setApartFrom 5 = .ok (.aload_n 0, 1) := by decide +kernel
theorem dX2_setApartFrom_6 : decode cX2_setApartFrom 6 = .ok (.getfield 42, 3) := by decide +kernel
theorem dX2_setApartFrom_9 : decode cX2_setApartFrom 9 = .ok (.if_icmp .ge 32, 3) := by decide +kernel
theorem dX2_setApartFrom_12 : decode cX2_setApartFrom 12 = .ok (.aload_n 0, 1) := by decide +kernel
theorem dX2_setApartFrom_13 : decode cX2_setApartFrom 13 = .ok (.getfield 20, 3) := by decide +kernel
theorem dX2_setApartFrom_16 : decode cX2_setApartFrom 16 = .ok (.iload_n 3, 1) := by decide +kernel
theorem dX2_setApartFrom_17 : decode cX2_setApartFrom 17 = .ok (.iaload, 1) := by decide +kernel
theorem dX2_setApartFrom_18 : decode cX2_setApartFrom 18 = .ok (.aload_n 0, 1) := by decide +kernel
theorem dX2_setApartFrom_19 : decode cX2_setApartFrom 19 = .ok (.getfield 45, 3) := by decide +kernel
theorem dX2_setApartFrom_22 : decode cX2_setApartFrom 22 = .ok (.iload_n 3, 1) := by decide +kernel
theorem dX2_setApartFrom_23 : decode cX2_setApartFrom 23 = .ok (.iaload, 1) := by decide +kernel
theorem dX2_setApartFrom_24 : decode cX2_setApartFrom 24 = .ok (.isub, 1) := by decide +kernel
theorem dX2_setApartFrom_25 : decode cX2_setApartFrom 25 = .ok (.iload_n 1, 1) := by decide +kernel
theorem dX2_setApartFrom_26 : decode cX2_setApartFrom 26 = .ok (.if_icmp .eq 9, 3) := by decide +kernel
theorem dX2_setApartFrom_29 : decode cX2_setApartFrom 29 = .ok (.iload_n 2, 1) := by decide +kernel
theorem dX2_setApartFrom_30 : decode cX2_setApartFrom 30 = .ok (.iconst 1, 1) := by decide +kernel
theorem dX2_setApartFrom_31 : decode cX2_setApartFrom 31 = .ok (.iload_n 3, 1) := by decide +kernel
theorem dX2_setApartFrom_32 : decode cX2_setApartFrom 32 = .ok (.ishl, 1) := by decide +kernel
theorem dX2_setApartFrom_33 : decode cX2_setApartFrom 33 = .ok (.ior, 1) := by decide +kernel
theorem dX2_setApartFrom_34 : decode cX2_setApartFrom 34 = .ok (.istore_n 2, 1) := by decide +kernel
theorem dX2_setApartFrom_35 : decode cX2_setApartFrom 35 = .ok (.iinc 3 1, 3) := by decide +kernel
theorem dX2_setApartFrom_38 : decode cX2_setApartFrom 38 = .ok (.goto (-34), 3) := by decide +kernel
theorem dX2_setApartFrom_41 : decode cX2_setApartFrom 41 = .ok (.iload_n 2, 1) := by decide +kernel
theorem dX2_setApartFrom_42 : decode cX2_setApartFrom 42 = .ok (.ireturn, 1) := by decide +kernel
/-! X2_setApartFrom -/
abbrev rm_X2_setApartFrom : Room := { frames := 0, cells := 0, slots := 0, locals := 0 }
theorem iw_X2_setApartFrom_5 : ∀ w ∈ wsX50, w ∈ wsX2_setApartFrom := fun _ h => List.mem_cons_of_mem _ (List.mem_append_right _ h)
theorem fn_X2_setApartFrom_42 : Cond.fieldLinkNest RX2 42 "NightStones$Road" "stones" "I" RX7 ∈ nz_nest := List.mem_of_getElem? (i := 18) rfl
theorem fn_X2_setApartFrom_20 : Cond.fieldLinkNest RX2 20 "NightStones$Road" "at" "[I" RX7 ∈ nz_nest := List.mem_of_getElem? (i := 31) rfl
theorem fn_X2_setApartFrom_45 : Cond.fieldLinkNest RX2 45 "NightStones$Road" "says" "[I" RX7 ∈ nz_nest := List.mem_of_getElem? (i := 28) rfl
def S_X2_setApartFrom_4 (r6 : Int32) (f9 : Nat → Int32) (f10 : Nat → Int32) (v1 : Int32) (K : Int32 → Prop) (R4 : Int32 → Int32 → Prop) (x2 : Int32) (x3 : Int32) : Prop := ((r6 ≤ x3 → K x2) ∧ (¬ (r6 ≤ x3) → (vp_in x3 6 ∧ (vp_in x3 6 ∧ ((((f10 x3.toNatClampNeg) - (f9 x3.toNatClampNeg)) = v1 → R4 x2 (x3 + 1)) ∧ (¬ (((f10 x3.toNatClampNeg) - (f9 x3.toNatClampNeg)) = v1) → R4 (x2 ||| (1 <<< (x3 &&& 31))) (x3 + 1)))))))
set_option maxHeartbeats 4000000 in
set_option maxRecDepth 100000 in
theorem t_X2_setApartFrom_4 {y : nz_Y} {g : nz_G} (F : nz_F y g cX2_setApartFrom 4 wsX2_setApartFrom RX2 (some .int) rm_X2_setApartFrom) {wc0 : va_W} {sz : Nat} {K : Int32 → Prop} (o : Nat) (a9 : Nat) (a10 : Nat) (a11 : Nat) (a12 : Nat) (a13 : Nat) (a14 : Nat) (a15 : Nat) (a16 : Nat) (r0 : Int32) (r1 : Int32) (r2 : Int32) (r3 : Int32) (r4 : Int32) (r5 : Int32) (r6 : Int32) (r7 : Int32) (r8 : Int32) (f9 : Nat → Int32) (f10 : Nat → Int32) (f11 : Nat → Int32) (f12 : Nat → Int32) (f13 : Nat → Int32) (f14 : Nat → Int32) (f15 : Nat → Int32) (f16 : Nat → Int32) (v1 : Int32) (hQ : yz_A y = va_A wc0 sz ∧ yz_Q y = MQ (yz_b y) ((nz_Qi g wc0 (fun r (u : Unit) => K r) (fun u => [(o, .inr (5, [.int r0, .int r1, .int r2, .int r3, .int r4, .int r5, .int r6, .int r7, .int r8, .ref a9, .ref a10, .ref a11, .ref a12, .ref a13, .ref a14, .ref a15, .ref a16])), (a9, .inl (nz_cI g, 6, .inl f9)), (a10, .inl (nz_cI g, 6, .inl f10)), (a11, .inl (nz_cI g, 6, .inl f11)), (a12, .inl (nz_cI g, 5, .inl f12)), (a13, .inl (nz_cI g, 5, .inl f13)), (a14, .inl (nz_cI g, 5, .inl f14)), (a15, .inl (nz_cI g, 5, .inl f15)), (a16, .inl (nz_cI g, 48, .inl f16))])) sz) (yz_a y) (yz_s y) 0 0 (va_A wc0 sz)) : ∀ (n1 : Nat) (x2 : Int32) (x3 : Int32), nz_it (fun _ _ => False) (S_X2_setApartFrom_4 r6 f9 f10 v1 K) n1 x2 x3 → nz_V y g 0 0 [(o, .inr (5, [.int r0, .int r1, .int r2, .int r3, .int r4, .int r5, .int r6, .int r7, .int r8, .ref a9, .ref a10, .ref a11, .ref a12, .ref a13, .ref a14, .ref a15, .ref a16])), (a9, .inl (nz_cI g, 6, .inl f9)), (a10, .inl (nz_cI g, 6, .inl f10)), (a11, .inl (nz_cI g, 6, .inl f11)), (a12, .inl (nz_cI g, 5, .inl f12)), (a13, .inl (nz_cI g, 5, .inl f13)), (a14, .inl (nz_cI g, 5, .inl f14)), (a15, .inl (nz_cI g, 5, .inl f15)), (a16, .inl (nz_cI g, 48, .inl f16))] 4 [(0, .ref o), (1, .int v1), (2, .int x2), (3, .int x3)] [] := by
  intro n1
  induction n1 with
  | zero =>
    intro x2 x3 h
    exact h.elim
  | succ n1 hR4 =>
    intro x2 x3 h
    have h : S_X2_setApartFrom_4 r6 f9 f10 v1 K (nz_it (fun _ _ => False) (S_X2_setApartFrom_4 r6 f9 f10 v1 K) n1) x2 x3 := h
    unfold S_X2_setApartFrom_4 at h
    refine nz_iload_n F dX2_setApartFrom_4 rfl 3 rfl ?_
    refine nz_aload_n F dX2_setApartFrom_5 rfl 0 rfl ?_
    refine nz_getN F iw_X2_setApartFrom_5 0 rfl rfl 6 (by decide) rfl fn_X2_setApartFrom_42 rfl dX2_setApartFrom_6 ?_
    refine nz_icmp_ge (tgt := 41) F dX2_setApartFrom_9 (by decide) (fun c1 => ?_) (fun c1 => ?_)
    · have h := h.1 c1
      refine nz_iload_n F dX2_setApartFrom_41 rfl 2 rfl ?_
      exact nz_iret F hQ () h rfl dX2_setApartFrom_42
    · have h := h.2 c1
      refine nz_aload_n F dX2_setApartFrom_12 rfl 0 rfl ?_
      refine nz_getN F iw_X2_setApartFrom_5 0 rfl rfl 10 (by decide) rfl fn_X2_setApartFrom_20 rfl dX2_setApartFrom_13 ?_
      refine nz_iload_n F dX2_setApartFrom_16 rfl 3 rfl ?_
      obtain ⟨i2, h⟩ := h
      refine nz_iald F 2 rfl i2 dX2_setApartFrom_17 ?_
      refine nz_aload_n F dX2_setApartFrom_18 rfl 0 rfl ?_
      refine nz_getN F iw_X2_setApartFrom_5 0 rfl rfl 9 (by decide) rfl fn_X2_setApartFrom_45 rfl dX2_setApartFrom_19 ?_
      refine nz_iload_n F dX2_setApartFrom_22 rfl 3 rfl ?_
      obtain ⟨i3, h⟩ := h
      refine nz_iald F 1 rfl i3 dX2_setApartFrom_23 ?_
      refine nz_isub F dX2_setApartFrom_24 ?_
      refine nz_iload_n F dX2_setApartFrom_25 rfl 1 rfl ?_
      refine nz_icmp_eq (tgt := 35) F dX2_setApartFrom_26 (by decide) (fun c4 => ?_) (fun c4 => ?_)
      · have h := h.1 c4
        refine nz_iinc (v := (x3 + 1)) (j := 3) (lv' := [(3, .int (x3 + 1)), (0, .ref o), (1, .int v1), (2, .int x2)]) F dX2_setApartFrom_35 rfl rfl (by decide) rfl ?_
        refine nz_goto (tgt := 4) F dX2_setApartFrom_38 (by decide) ?_
        refine nz_ls (lv' := [(0, .ref o), (1, .int v1), (2, .int x2), (3, .int (x3 + 1))]) [1, 2, 3, 0] rfl ?_
        exact hR4 x2 (x3 + 1) h
      · have h := h.2 c4
        refine nz_iload_n F dX2_setApartFrom_29 rfl 2 rfl ?_
        refine nz_iconst (v := 1) F dX2_setApartFrom_30 (by decide) ?_
        refine nz_iload_n F dX2_setApartFrom_31 rfl 3 rfl ?_
        refine nz_ishl F dX2_setApartFrom_32 ?_
        refine nz_ior F dX2_setApartFrom_33 ?_
        refine nz_istore_n (lv' := [(2, .int (x2 ||| (1 <<< (x3 &&& 31)))), (0, .ref o), (1, .int v1), (3, .int x3)]) F dX2_setApartFrom_34 rfl (by decide) rfl ?_
        refine nz_iinc (v := (x3 + 1)) (j := 3) (lv' := [(3, .int (x3 + 1)), (2, .int (x2 ||| (1 <<< (x3 &&& 31)))), (0, .ref o), (1, .int v1)]) F dX2_setApartFrom_35 rfl rfl (by decide) rfl ?_
        refine nz_goto (tgt := 4) F dX2_setApartFrom_38 (by decide) ?_
        refine nz_ls (lv' := [(0, .ref o), (1, .int v1), (2, .int (x2 ||| (1 <<< (x3 &&& 31)))), (3, .int (x3 + 1))]) [2, 3, 1, 0] rfl ?_
        exact hR4 (x2 ||| (1 <<< (x3 &&& 31))) (x3 + 1) h
def wp_X2_setApartFrom (r6 : Int32) (f9 : Nat → Int32) (f10 : Nat → Int32) (v1 : Int32) (K : Int32 → Prop) : Prop := (∃ n, nz_it (fun _ _ => False) (S_X2_setApartFrom_4 r6 f9 f10 v1 K) n 0 0)
set_option maxHeartbeats 4000000 in
set_option maxRecDepth 100000 in
theorem c_X2_setApartFrom (l : Launch) (g : nz_G) (o : Nat) (a9 : Nat) (a10 : Nat) (a11 : Nat) (a12 : Nat) (a13 : Nat) (a14 : Nat) (a15 : Nat) (a16 : Nat) (r0 : Int32) (r1 : Int32) (r2 : Int32) (r3 : Int32) (r4 : Int32) (r5 : Int32) (r6 : Int32) (r7 : Int32) (r8 : Int32) (f9 : Nat → Int32) (f10 : Nat → Int32) (f11 : Nat → Int32) (f12 : Nat → Int32) (f13 : Nat → Int32) (f14 : Nat → Int32) (f15 : Nat → Int32) (f16 : Nat → Int32) (v1 : Int32) (K : Int32 → Prop) (h : wp_X2_setApartFrom r6 f9 f10 v1 K) : nz_M l yX2_setApartFrom wsX2_setApartFrom rm_X2_setApartFrom g [.ref o, .int v1] [(o, .inr (5, [.int r0, .int r1, .int r2, .int r3, .int r4, .int r5, .int r6, .int r7, .int r8, .ref a9, .ref a10, .ref a11, .ref a12, .ref a13, .ref a14, .ref a15, .ref a16])), (a9, .inl (nz_cI g, 6, .inl f9)), (a10, .inl (nz_cI g, 6, .inl f10)), (a11, .inl (nz_cI g, 6, .inl f11)), (a12, .inl (nz_cI g, 5, .inl f12)), (a13, .inl (nz_cI g, 5, .inl f13)), (a14, .inl (nz_cI g, 5, .inl f14)), (a15, .inl (nz_cI g, 5, .inl f15)), (a16, .inl (nz_cI g, 48, .inl f16))] (nz_Qi g [(o, .inr (5, [.int r0, .int r1, .int r2, .int r3, .int r4, .int r5, .int r6, .int r7, .int r8, .ref a9, .ref a10, .ref a11, .ref a12, .ref a13, .ref a14, .ref a15, .ref a16])), (a9, .inl (nz_cI g, 6, .inl f9)), (a10, .inl (nz_cI g, 6, .inl f10)), (a11, .inl (nz_cI g, 6, .inl f11)), (a12, .inl (nz_cI g, 5, .inl f12)), (a13, .inl (nz_cI g, 5, .inl f13)), (a14, .inl (nz_cI g, 5, .inl f14)), (a15, .inl (nz_cI g, 5, .inl f15)), (a16, .inl (nz_cI g, 48, .inl f16))] (fun r (u : Unit) => K r) (fun u => [(o, .inr (5, [.int r0, .int r1, .int r2, .int r3, .int r4, .int r5, .int r6, .int r7, .int r8, .ref a9, .ref a10, .ref a11, .ref a12, .ref a13, .ref a14, .ref a15, .ref a16])), (a9, .inl (nz_cI g, 6, .inl f9)), (a10, .inl (nz_cI g, 6, .inl f10)), (a11, .inl (nz_cI g, 6, .inl f11)), (a12, .inl (nz_cI g, 5, .inl f12)), (a13, .inl (nz_cI g, 5, .inl f13)), (a14, .inl (nz_cI g, 5, .inl f14)), (a15, .inl (nz_cI g, 5, .inl f15)), (a16, .inl (nz_cI g, 48, .inl f16))])) := by
  refine nz_M.of (bytes := cX2_setApartFrom) (nL := 4) (ret := (some .int)) (own := RX2) (by decide) rfl rfl ⟨rfl, rfl⟩ rfl ?_
  intro y F hl hQ
  obtain ⟨sz, hQ⟩ := hQ
  refine nz_ent (lv' := [(0, .ref o), (1, .int v1)]) rfl ?_
  unfold wp_X2_setApartFrom at h
  refine nz_iconst (v := 0) F dX2_setApartFrom_0 (by decide) ?_
  refine nz_istore_n (lv' := [(2, .int 0), (0, .ref o), (1, .int v1)]) F dX2_setApartFrom_1 rfl (by decide) rfl ?_
  refine nz_iconst (v := 0) F dX2_setApartFrom_2 (by decide) ?_
  refine nz_istore_n (lv' := [(3, .int 0), (2, .int 0), (0, .ref o), (1, .int v1)]) F dX2_setApartFrom_3 rfl (by decide) rfl ?_
  refine nz_ls (lv' := [(0, .ref o), (1, .int v1), (2, .int 0), (3, .int 0)]) [2, 3, 1, 0] rfl ?_
  obtain ⟨n1, h⟩ := h
  exact t_X2_setApartFrom_4 F o a9 a10 a11 a12 a13 a14 a15 a16 r0 r1 r2 r3 r4 r5 r6 r7 r8 f9 f10 f11 f12 f13 f14 f15 f16 v1 hQ n1 0 0 h
theorem k_X2_setApartFrom {y : nz_Y} {g : nz_G} {k n : Nat} {ws : va_W} {pc : Nat} {ls : List (Nat × Value)} {st rest : List Value} {av : Array Value} {isC : List Nat} {K : Int32 → Prop} (o : Nat) (a9 : Nat) (a10 : Nat) (a11 : Nat) (a12 : Nat) (a13 : Nat) (a14 : Nat) (a15 : Nat) (a16 : Nat) (r0 : Int32) (r1 : Int32) (r2 : Int32) (r3 : Int32) (r4 : Int32) (r5 : Int32) (r6 : Int32) (r7 : Int32) (r8 : Int32) (f9 : Nat → Int32) (f10 : Nat → Int32) (f11 : Nat → Int32) (f12 : Nat → Int32) (f13 : Nat → Int32) (f14 : Nat → Int32) (f15 : Nat → Int32) (f16 : Nat → Int32) (v1 : Int32) (run : nz_M (yz_l y) yX2_setApartFrom wsX2_setApartFrom rm_X2_setApartFrom g [.ref o, .int v1] [(o, .inr (5, [.int r0, .int r1, .int r2, .int r3, .int r4, .int r5, .int r6, .int r7, .int r8, .ref a9, .ref a10, .ref a11, .ref a12, .ref a13, .ref a14, .ref a15, .ref a16])), (a9, .inl (nz_cI g, 6, .inl f9)), (a10, .inl (nz_cI g, 6, .inl f10)), (a11, .inl (nz_cI g, 6, .inl f11)), (a12, .inl (nz_cI g, 5, .inl f12)), (a13, .inl (nz_cI g, 5, .inl f13)), (a14, .inl (nz_cI g, 5, .inl f14)), (a15, .inl (nz_cI g, 5, .inl f15)), (a16, .inl (nz_cI g, 48, .inl f16))] (nz_Qi g [(o, .inr (5, [.int r0, .int r1, .int r2, .int r3, .int r4, .int r5, .int r6, .int r7, .int r8, .ref a9, .ref a10, .ref a11, .ref a12, .ref a13, .ref a14, .ref a15, .ref a16])), (a9, .inl (nz_cI g, 6, .inl f9)), (a10, .inl (nz_cI g, 6, .inl f10)), (a11, .inl (nz_cI g, 6, .inl f11)), (a12, .inl (nz_cI g, 5, .inl f12)), (a13, .inl (nz_cI g, 5, .inl f13)), (a14, .inl (nz_cI g, 5, .inl f14)), (a15, .inl (nz_cI g, 5, .inl f15)), (a16, .inl (nz_cI g, 48, .inl f16))] (fun r (u : Unit) => K r) (fun u => [(o, .inr (5, [.int r0, .int r1, .int r2, .int r3, .int r4, .int r5, .int r6, .int r7, .int r8, .ref a9, .ref a10, .ref a11, .ref a12, .ref a13, .ref a14, .ref a15, .ref a16])), (a9, .inl (nz_cI g, 6, .inl f9)), (a10, .inl (nz_cI g, 6, .inl f10)), (a11, .inl (nz_cI g, 6, .inl f11)), (a12, .inl (nz_cI g, 5, .inl f12)), (a13, .inl (nz_cI g, 5, .inl f13)), (a14, .inl (nz_cI g, 5, .inl f14)), (a15, .inl (nz_cI g, 5, .inl f15)), (a16, .inl (nz_cI g, 48, .inl f16))])) → nz_C y g k n ws pc ls st rest [(o, .inr (5, [.int r0, .int r1, .int r2, .int r3, .int r4, .int r5, .int r6, .int r7, .int r8, .ref a9, .ref a10, .ref a11, .ref a12, .ref a13, .ref a14, .ref a15, .ref a16])), (a9, .inl (nz_cI g, 6, .inl f9)), (a10, .inl (nz_cI g, 6, .inl f10)), (a11, .inl (nz_cI g, 6, .inl f11)), (a12, .inl (nz_cI g, 5, .inl f12)), (a13, .inl (nz_cI g, 5, .inl f13)), (a14, .inl (nz_cI g, 5, .inl f14)), (a15, .inl (nz_cI g, 5, .inl f15)), (a16, .inl (nz_cI g, 48, .inl f16))] (nz_Qi g [(o, .inr (5, [.int r0, .int r1, .int r2, .int r3, .int r4, .int r5, .int r6, .int r7, .int r8, .ref a9, .ref a10, .ref a11, .ref a12, .ref a13, .ref a14, .ref a15, .ref a16])), (a9, .inl (nz_cI g, 6, .inl f9)), (a10, .inl (nz_cI g, 6, .inl f10)), (a11, .inl (nz_cI g, 6, .inl f11)), (a12, .inl (nz_cI g, 5, .inl f12)), (a13, .inl (nz_cI g, 5, .inl f13)), (a14, .inl (nz_cI g, 5, .inl f14)), (a15, .inl (nz_cI g, 5, .inl f15)), (a16, .inl (nz_cI g, 48, .inl f16))] (fun r (u : Unit) => K r) (fun u => [(o, .inr (5, [.int r0, .int r1, .int r2, .int r3, .int r4, .int r5, .int r6, .int r7, .int r8, .ref a9, .ref a10, .ref a11, .ref a12, .ref a13, .ref a14, .ref a15, .ref a16])), (a9, .inl (nz_cI g, 6, .inl f9)), (a10, .inl (nz_cI g, 6, .inl f10)), (a11, .inl (nz_cI g, 6, .inl f11)), (a12, .inl (nz_cI g, 5, .inl f12)), (a13, .inl (nz_cI g, 5, .inl f13)), (a14, .inl (nz_cI g, 5, .inl f14)), (a15, .inl (nz_cI g, 5, .inl f15)), (a16, .inl (nz_cI g, 48, .inl f16))])) av isC) (h : wp_X2_setApartFrom r6 f9 f10 v1 K) (ws' : va_W) (hm : nz_mrg ws isC [(o, .inr (5, [.int r0, .int r1, .int r2, .int r3, .int r4, .int r5, .int r6, .int r7, .int r8, .ref a9, .ref a10, .ref a11, .ref a12, .ref a13, .ref a14, .ref a15, .ref a16])), (a9, .inl (nz_cI g, 6, .inl f9)), (a10, .inl (nz_cI g, 6, .inl f10)), (a11, .inl (nz_cI g, 6, .inl f11)), (a12, .inl (nz_cI g, 5, .inl f12)), (a13, .inl (nz_cI g, 5, .inl f13)), (a14, .inl (nz_cI g, 5, .inl f14)), (a15, .inl (nz_cI g, 5, .inl f15)), (a16, .inl (nz_cI g, 48, .inl f16))] = ws' ) (kk : ∀ (r : Int32), K r → nz_V y g k n ws' (pc + 3) ls (.int r :: rest)) : nz_V y g k n ws pc ls st :=
  nz_ci (ws' := fun _ => ws') (run (c_X2_setApartFrom (yz_l y) g o a9 a10 a11 a12 a13 a14 a15 a16 r0 r1 r2 r3 r4 r5 r6 r7 r8 f9 f10 f11 f12 f13 f14 f15 f16 v1 K h)) (fun _ => rfl) (fun _ => hm) (fun r u h => kk r h)
theorem dJ6_bitCount_0f7a4_0 : decode cJ6_bitCount_0f7a4 0 = .ok (.iload_n 0, 1) := by decide +kernel
theorem dJ6_bitCount_0f7a4_1 : decode cJ6_bitCount_0f7a4 1 = .ok (.iload_n 0, 1) := by decide +kernel
theorem dJ6_bitCount_0f7a4_2 : decode cJ6_bitCount_0f7a4 2 = .ok (.iconst 1, 1) := by decide +kernel
theorem dJ6_bitCount_0f7a4_3 : decode cJ6_bitCount_0f7a4 3 = .ok (.iushr, 1) := by decide +kernel
theorem dJ6_bitCount_0f7a4_4 : decode cJ6_bitCount_0f7a4 4 = .ok (.ldc_w 265, 3) := by decide +kernel
theorem dJ6_bitCount_0f7a4_7 : decode cJ6_bitCount_0f7a4 7 = .ok (.iand, 1) := by decide +kernel
theorem dJ6_bitCount_0f7a4_8 : decode cJ6_bitCount_0f7a4 8 = .ok (.isub, 1) := by decide +kernel
theorem dJ6_bitCount_0f7a4_9 : decode cJ6_bitCount_0f7a4 9 = .ok (.istore_n 0, 1) := by decide +kernel
theorem dJ6_bitCount_0f7a4_10 : decode cJ6_bitCount_0f7a4 10 = .ok (.iload_n 0, 1) := by decide +kernel
theorem dJ6_bitCount_0f7a4_11 : decode cJ6_bitCount_0f7a4 11 = .ok (.ldc_w 266, 3) := by decide +kernel
theorem dJ6_bitCount_0f7a4_14 : decode cJ6_bitCount_0f7a4 14 = .ok (.iand, 1) := by decide +kernel
theorem dJ6_bitCount_0f7a4_15 : decode cJ6_bitCount_0f7a4 15 = .ok (.iload_n 0, 1) := by decide +kernel
theorem dJ6_bitCount_0f7a4_16 : decode cJ6_bitCount_0f7a4 16 = .ok (.iconst 2, 1) := by decide +kernel
theorem dJ6_bitCount_0f7a4_17 : decode cJ6_bitCount_0f7a4 17 = .ok (.iushr, 1) := by decide +kernel
theorem dJ6_bitCount_0f7a4_18 : decode cJ6_bitCount_0f7a4 18 = .ok (.ldc_w 266, 3) := by decide +kernel
theorem dJ6_bitCount_0f7a4_21 : decode cJ6_bitCount_0f7a4 21 = .ok (.iand, 1) := by decide +kernel
theorem dJ6_bitCount_0f7a4_22 : decode cJ6_bitCount_0f7a4 22 = .ok (.iadd, 1) := by decide +kernel
theorem dJ6_bitCount_0f7a4_23 : decode cJ6_bitCount_0f7a4 23 = .ok (.istore_n 0, 1) := by decide +kernel
theorem dJ6_bitCount_0f7a4_24 : decode cJ6_bitCount_0f7a4 24 = .ok (.iload_n 0, 1) := by decide +kernel
theorem dJ6_bitCount_0f7a4_25 : decode cJ6_bitCount_0f7a4 25 = .ok (.iload_n 0, 1) := by decide +kernel
theorem dJ6_bitCount_0f7a4_26 : decode cJ6_bitCount_0f7a4 26 = .ok (.iconst 4, 1) := by decide +kernel
theorem dJ6_bitCount_0f7a4_27 : decode cJ6_bitCount_0f7a4 27 = .ok (.iushr, 1) := by decide +kernel
theorem dJ6_bitCount_0f7a4_28 : decode cJ6_bitCount_0f7a4 28 = .ok (.iadd, 1) := by decide +kernel
theorem dJ6_bitCount_0f7a4_29 : decode cJ6_bitCount_0f7a4 29 = .ok (.ldc_w 267, 3) := by decide +kernel
theorem dJ6_bitCount_0f7a4_32 : decode cJ6_bitCount_0f7a4 32 = .ok (.iand, 1) := by decide +kernel
theorem dJ6_bitCount_0f7a4_33 : decode cJ6_bitCount_0f7a4 33 = .ok (.istore_n 0, 1) := by decide +kernel
theorem dJ6_bitCount_0f7a4_34 : decode cJ6_bitCount_0f7a4 34 = .ok (.iload_n 0, 1) := by decide +kernel
theorem dJ6_bitCount_0f7a4_35 : decode cJ6_bitCount_0f7a4 35 = .ok (.iload_n 0, 1) := by decide +kernel
theorem dJ6_bitCount_0f7a4_36 : decode cJ6_bitCount_0f7a4 36 = .ok (.bipush 8, 2) := by decide +kernel
theorem dJ6_bitCount_0f7a4_38 : decode cJ6_bitCount_0f7a4 38 = .ok (.iushr, 1) := by decide +kernel
theorem dJ6_bitCount_0f7a4_39 : decode cJ6_bitCount_0f7a4 39 = .ok (.iadd, 1) := by decide +kernel
theorem dJ6_bitCount_0f7a4_40 : decode cJ6_bitCount_0f7a4 40 = .ok (.istore_n 0, 1) := by decide +kernel
theorem dJ6_bitCount_0f7a4_41 : decode cJ6_bitCount_0f7a4 41 = .ok (.iload_n 0, 1) := by decide +kernel
theorem dJ6_bitCount_0f7a4_42 : decode cJ6_bitCount_0f7a4 42 = .ok (.iload_n 0, 1) := by decide +kernel
theorem dJ6_bitCount_0f7a4_43 : decode cJ6_bitCount_0f7a4 43 = .ok (.bipush 16, 2) := by decide +kernel
theorem dJ6_bitCount_0f7a4_45 : decode cJ6_bitCount_0f7a4 45 = .ok (.iushr, 1) := by decide +kernel
theorem dJ6_bitCount_0f7a4_46 : decode cJ6_bitCount_0f7a4 46 = .ok (.iadd, 1) := by decide +kernel
theorem dJ6_bitCount_0f7a4_47 : decode cJ6_bitCount_0f7a4 47 = .ok (.istore_n 0, 1) := by decide +kernel
theorem dJ6_bitCount_0f7a4_48 : decode cJ6_bitCount_0f7a4 48 = .ok (.iload_n 0, 1) := by decide +kernel
theorem dJ6_bitCount_0f7a4_49 : decode cJ6_bitCount_0f7a4 49 = .ok (.bipush 63, 2) := by decide +kernel
theorem dJ6_bitCount_0f7a4_51 : decode cJ6_bitCount_0f7a4 51 = .ok (.iand, 1) := by decide +kernel
theorem dJ6_bitCount_0f7a4_52 : decode cJ6_bitCount_0f7a4 52 = .ok (.ireturn, 1) := by decide +kernel
/-! J6_bitCount_0f7a4 -/
abbrev rm_J6_bitCount_0f7a4 : Room := { frames := 0, cells := 0, slots := 0, locals := 0 }
theorem wd_J6_bitCount_0f7a4_c265 : Cond.constant RJ6 265 (1431655765) ∈ wsJ6_bitCount_0f7a4 := List.mem_of_getElem? (i := 1) rfl
theorem wd_J6_bitCount_0f7a4_c266 : Cond.constant RJ6 266 (858993459) ∈ wsJ6_bitCount_0f7a4 := List.mem_of_getElem? (i := 2) rfl
theorem wd_J6_bitCount_0f7a4_c267 : Cond.constant RJ6 267 (252645135) ∈ wsJ6_bitCount_0f7a4 := List.mem_of_getElem? (i := 3) rfl
def wp_J6_bitCount_0f7a4 (v0 : Int32) (K : Int32 → Prop) : Prop := (∀ w1 : Int32, w1 = (((v0 - ((v0.toUInt32 >>> ((1 : Int32).toUInt32 &&& Int32.toUInt32 31)).toInt32 &&& 1431655765)) &&& 858993459) + (((v0 - ((v0.toUInt32 >>> ((1 : Int32).toUInt32 &&& Int32.toUInt32 31)).toInt32 &&& 1431655765)).toUInt32 >>> ((2 : Int32).toUInt32 &&& Int32.toUInt32 31)).toInt32 &&& 858993459)) → (∀ w2 : Int32, w2 = (((w1 + (w1.toUInt32 >>> ((4 : Int32).toUInt32 &&& Int32.toUInt32 31)).toInt32) &&& 252645135) + (((w1 + (w1.toUInt32 >>> ((4 : Int32).toUInt32 &&& Int32.toUInt32 31)).toInt32) &&& 252645135).toUInt32 >>> ((8 : Int32).toUInt32 &&& Int32.toUInt32 31)).toInt32) → K ((w2 + (w2.toUInt32 >>> ((16 : Int32).toUInt32 &&& Int32.toUInt32 31)).toInt32) &&& 63)))
set_option maxHeartbeats 4000000 in
set_option maxRecDepth 100000 in
theorem c_J6_bitCount_0f7a4 (l : Launch) (g : nz_G) (v0 : Int32) (K : Int32 → Prop) (h : wp_J6_bitCount_0f7a4 v0 K) : nz_M l yJ6_bitCount_0f7a4 wsJ6_bitCount_0f7a4 rm_J6_bitCount_0f7a4 g [.int v0] [] (nz_Qi g [] (fun r (u : Unit) => K r) (fun u => [])) := by
  refine nz_M.of (bytes := cJ6_bitCount_0f7a4) (nL := 1) (ret := (some .int)) (own := RJ6) (by decide) rfl rfl ⟨rfl, rfl⟩ rfl ?_
  intro y F hl hQ
  obtain ⟨sz, hQ⟩ := hQ
  refine nz_ent (lv' := [(0, .int v0)]) rfl ?_
  unfold wp_J6_bitCount_0f7a4 at h
  refine nz_iload_n F dJ6_bitCount_0f7a4_0 rfl 0 rfl ?_
  refine nz_iload_n F dJ6_bitCount_0f7a4_1 rfl 0 rfl ?_
  refine nz_iconst (v := 1) F dJ6_bitCount_0f7a4_2 (by decide) ?_
  refine nz_iushr (v := (v0.toUInt32 >>> ((1 : Int32).toUInt32 &&& Int32.toUInt32 31)).toInt32) F dJ6_bitCount_0f7a4_3 rfl ?_
  refine nz_ldcw (v := 1431655765) F wd_J6_bitCount_0f7a4_c265 dJ6_bitCount_0f7a4_4 ?_
  refine nz_iand F dJ6_bitCount_0f7a4_7 ?_
  refine nz_isub F dJ6_bitCount_0f7a4_8 ?_
  refine nz_istore_n (lv' := [(0, .int (v0 - ((v0.toUInt32 >>> ((1 : Int32).toUInt32 &&& Int32.toUInt32 31)).toInt32 &&& 1431655765)))]) F dJ6_bitCount_0f7a4_9 rfl (by decide) rfl ?_
  refine nz_iload_n F dJ6_bitCount_0f7a4_10 rfl 0 rfl ?_
  refine nz_ldcw (v := 858993459) F wd_J6_bitCount_0f7a4_c266 dJ6_bitCount_0f7a4_11 ?_
  refine nz_iand F dJ6_bitCount_0f7a4_14 ?_
  refine nz_iload_n F dJ6_bitCount_0f7a4_15 rfl 0 rfl ?_
  refine nz_iconst (v := 2) F dJ6_bitCount_0f7a4_16 (by decide) ?_
  refine nz_iushr (v := ((v0 - ((v0.toUInt32 >>> ((1 : Int32).toUInt32 &&& Int32.toUInt32 31)).toInt32 &&& 1431655765)).toUInt32 >>> ((2 : Int32).toUInt32 &&& Int32.toUInt32 31)).toInt32) F dJ6_bitCount_0f7a4_17 rfl ?_
  refine nz_ldcw (v := 858993459) F wd_J6_bitCount_0f7a4_c266 dJ6_bitCount_0f7a4_18 ?_
  refine nz_iand F dJ6_bitCount_0f7a4_21 ?_
  refine nz_iadd F dJ6_bitCount_0f7a4_22 ?_
  refine nz_topi (fun w1 ew1 => ?_)
  have h := h w1 ew1
  refine nz_istore_n (lv' := [(0, .int w1)]) F dJ6_bitCount_0f7a4_23 rfl (by decide) rfl ?_
  refine nz_iload_n F dJ6_bitCount_0f7a4_24 rfl 0 rfl ?_
  refine nz_iload_n F dJ6_bitCount_0f7a4_25 rfl 0 rfl ?_
  refine nz_iconst (v := 4) F dJ6_bitCount_0f7a4_26 (by decide) ?_
  refine nz_iushr (v := (w1.toUInt32 >>> ((4 : Int32).toUInt32 &&& Int32.toUInt32 31)).toInt32) F dJ6_bitCount_0f7a4_27 rfl ?_
  refine nz_iadd F dJ6_bitCount_0f7a4_28 ?_
  refine nz_ldcw (v := 252645135) F wd_J6_bitCount_0f7a4_c267 dJ6_bitCount_0f7a4_29 ?_
  refine nz_iand F dJ6_bitCount_0f7a4_32 ?_
  refine nz_istore_n (lv' := [(0, .int ((w1 + (w1.toUInt32 >>> ((4 : Int32).toUInt32 &&& Int32.toUInt32 31)).toInt32) &&& 252645135))]) F dJ6_bitCount_0f7a4_33 rfl (by decide) rfl ?_
  refine nz_iload_n F dJ6_bitCount_0f7a4_34 rfl 0 rfl ?_
  refine nz_iload_n F dJ6_bitCount_0f7a4_35 rfl 0 rfl ?_
  refine nz_bipush (v := 8) F dJ6_bitCount_0f7a4_36 (by decide) ?_
  refine nz_iushr (v := (((w1 + (w1.toUInt32 >>> ((4 : Int32).toUInt32 &&& Int32.toUInt32 31)).toInt32) &&& 252645135).toUInt32 >>> ((8 : Int32).toUInt32 &&& Int32.toUInt32 31)).toInt32) F dJ6_bitCount_0f7a4_38 rfl ?_
  refine nz_iadd F dJ6_bitCount_0f7a4_39 ?_
  refine nz_topi (fun w2 ew2 => ?_)
  have h := h w2 ew2
  refine nz_istore_n (lv' := [(0, .int w2)]) F dJ6_bitCount_0f7a4_40 rfl (by decide) rfl ?_
  refine nz_iload_n F dJ6_bitCount_0f7a4_41 rfl 0 rfl ?_
  refine nz_iload_n F dJ6_bitCount_0f7a4_42 rfl 0 rfl ?_
  refine nz_bipush (v := 16) F dJ6_bitCount_0f7a4_43 (by decide) ?_
  refine nz_iushr (v := (w2.toUInt32 >>> ((16 : Int32).toUInt32 &&& Int32.toUInt32 31)).toInt32) F dJ6_bitCount_0f7a4_45 rfl ?_
  refine nz_iadd F dJ6_bitCount_0f7a4_46 ?_
  refine nz_istore_n (lv' := [(0, .int (w2 + (w2.toUInt32 >>> ((16 : Int32).toUInt32 &&& Int32.toUInt32 31)).toInt32))]) F dJ6_bitCount_0f7a4_47 rfl (by decide) rfl ?_
  refine nz_iload_n F dJ6_bitCount_0f7a4_48 rfl 0 rfl ?_
  refine nz_bipush (v := 63) F dJ6_bitCount_0f7a4_49 (by decide) ?_
  refine nz_iand F dJ6_bitCount_0f7a4_51 ?_
  exact nz_iret F hQ () h rfl dJ6_bitCount_0f7a4_52
theorem k_J6_bitCount_0f7a4 {y : nz_Y} {g : nz_G} {k n : Nat} {ws : va_W} {pc : Nat} {ls : List (Nat × Value)} {st rest : List Value} {av : Array Value} {isC : List Nat} {K : Int32 → Prop} (v0 : Int32) (run : nz_M (yz_l y) yJ6_bitCount_0f7a4 wsJ6_bitCount_0f7a4 rm_J6_bitCount_0f7a4 g [.int v0] [] (nz_Qi g [] (fun r (u : Unit) => K r) (fun u => [])) → nz_C y g k n ws pc ls st rest [] (nz_Qi g [] (fun r (u : Unit) => K r) (fun u => [])) av isC) (h : wp_J6_bitCount_0f7a4 v0 K) (ws' : va_W) (hm : nz_mrg ws isC [] = ws' ) (kk : ∀ (r : Int32), K r → nz_V y g k n ws' (pc + 3) ls (.int r :: rest)) : nz_V y g k n ws pc ls st :=
  nz_ci (ws' := fun _ => ws') (run (c_J6_bitCount_0f7a4 (yz_l y) g v0 K h)) (fun _ => rfl) (fun _ => hm) (fun r u h => kk r h)
theorem dX2_leastSetMoved_0 : decode cX2_leastSetMoved 0 = .ok (.iconst 0, 1) := by decide +kernel
theorem dX2_leastSetMoved_1 : decode cX2_leastSetMoved 1 = .ok (.istore_n 1, 1) := by decide +kernel
theorem dX2_leastSetMoved_2 : decode cX2_leastSetMoved 2 = .ok (.bipush 7, 2) := by decide +kernel
theorem dX2_leastSetMoved_4 : decode cX2_leastSetMoved 4 = .ok (.istore_n 2, 1) := by decide +kernel
theorem dX2_leastSetMoved_5 : decode cX2_leastSetMoved 5 = .ok (.iconst 0, 1) := by decide +kernel
theorem dX2_leastSetMoved_6 : decode cX2_leastSetMoved 6 = .ok (.istore_n 3, 1) := by decide +kernel
theorem dX2_leastSetMoved_7 : decode cX2_leastSetMoved 7 = .ok (.iload_n 3, 1) := by decide +kernel
theorem dX2_leastSetMoved_8 : decode cX2_leastSetMoved 8 = .ok (.aload_n 0, 1) := by decide +kernel
theorem dX2_leastSetMoved_9 : decode cX2_leastSetMoved 9 = .ok (.getfield 42, 3) := by decide +kernel
theorem dX2_leastSetMoved_12 : decode cX2_leastSetMoved 12 = .ok (.if_icmp .ge 59, 3) := by decide +kernel
theorem dX2_leastSetMoved_15 : decode cX2_leastSetMoved 15 = .ok (.aload_n 0, 1) := by decide +kernel
theorem dX2_leastSetMoved_16 : decode cX2_leastSetMoved 16 = .ok (.aload_n 0, 1) := by decide +kernel
theorem dX2_leastSetMoved_17 : decode cX2_leastSetMoved 17 = .ok (.getfield 20, 3) := by decide +kernel
theorem dX2_leastSetMoved_20 : decode cX2_leastSetMoved 20 = .ok (.iload_n 3, 1) := by decide +kernel
theorem dX2_leastSetMoved_21 : decode cX2_leastSetMoved 21 = .ok (.iaload, 1) := by decide +kernel
theorem dX2_leastSetMoved_22 : decode cX2_leastSetMoved 22 = .ok (.aload_n 0, 1) := by decide +kernel
theorem dX2_leastSetMoved_23 : decode cX2_leastSetMoved 23 = .ok (.getfield 45, 3) := by decide +kernel
theorem dX2_leastSetMoved_26 : decode cX2_leastSetMoved 26 = .ok (.iload_n 3, 1) := by decide +kernel
theorem dX2_leastSetMoved_27 : decode cX2_leastSetMoved 27 = .ok (.iaload, 1) := by decide +kernel
theorem dX2_leastSetMoved_28 : decode cX2_leastSetMoved 28 = .ok (.isub, 1) := by decide +kernel
theorem dX2_leastSetMoved_29 : decode cX2_leastSetMoved 29 = .ok (.invokestatic 48, 3) := by decide +kernel
theorem dX2_leastSetMoved_32 : decode cX2_leastSetMoved 32 = .ok (.istore 4, 2) := by decide +kernel
theorem dX2_leastSetMoved_34 : decode cX2_leastSetMoved 34 = .ok (.iload 4, 2) := by decide +kernel
theorem dX2_leastSetMoved_36 : decode cX2_leastSetMoved 36 = .ok (.invokestatic 52, 3) := by decide +kernel
theorem dX2_leastSetMoved_39 : decode cX2_leastSetMoved 39 = .ok (.istore 5, 2) := by decide +kernel
theorem dX2_leastSetMoved_41 : decode cX2_leastSetMoved 41 = .ok (.iload 5, 2) := by decide +kernel
theorem dX2_leastSetMoved_43 : decode cX2_leastSetMoved 43 = .ok (.iload_n 2, 1) := by decide +kernel
theorem dX2_leastSetMoved_44 : decode cX2_leastSetMoved 44 = .ok (.if_icmp .lt 15, 3) := by decide +kernel
theorem dX2_leastSetMoved_47 : decode cX2_leastSetMoved 47 = .ok (.iload 5, 2) := by decide +kernel
theorem dX2_leastSetMoved_49 : decode cX2_leastSetMoved 49 = .ok (.iload_n 2, 1) := by decide +kernel
theorem dX2_leastSetMoved_50 : decode cX2_leastSetMoved 50 = .ok (.if_icmp .ne 15, 3) := by decide +kernel
theorem dX2_leastSetMoved_53 : decode cX2_leastSetMoved 53 = .ok (.iload 4, 2) := by decide +kernel
theorem dX2_leastSetMoved_55 : decode cX2_leastSetMoved 55 = .ok (.iload_n 1, 1) := by decide +kernel
theorem dX2_leastSetMoved_56 : decode cX2_leastSetMoved 56 = .ok (.if_icmp .ge 9, 3) := by decide +kernel
theorem dX2_leastSetMoved_59 : decode cX2_leastSetMoved 59 = .ok (.iload 5, 2) := by decide +kernel
theorem dX2_leastSetMoved_61 : decode cX2_leastSetMoved 61 = .ok (.istore_n 2, 1) := by decide +kernel
theorem dX2_leastSetMoved_62 : decode cX2_leastSetMoved 62 = .ok (.iload 4, 2) := by decide +kernel
theorem dX2_leastSetMoved_64 : decode cX2_leastSetMoved 64 = .ok (.istore_n 1, 1) := by decide +kernel
theorem dX2_leastSetMoved_65 : decode cX2_leastSetMoved 65 = .ok (.iinc 3 1, 3) := by decide +kernel
theorem dX2_leastSetMoved_68 : decode cX2_leastSetMoved 68 = .ok (.goto (-61), 3) := by decide +kernel
theorem dX2_leastSetMoved_71 : decode cX2_leastSetMoved 71 = .ok (.iload_n 1, 1) := by decide +kernel
theorem dX2_leastSetMoved_72 : decode cX2_leastSetMoved 72 = .ok (.ireturn, 1) := by decide +kernel
set_option maxRecDepth 20000 in
theorem ggX2_leastSetMoved_J6_bitCount_0f7a4 : GoodIn wsX2_leastSetMoved wsJ6_bitCount_0f7a4 := goodIn_r _ [8, 9, 10, 11] rfl (by decide +kernel)
set_option maxRecDepth 20000 in
theorem gX2_leastSetMoved_J6_bitCount_0f7a4 : GoodIn wsX2_leastSetMoved (va_wsS RX2 52 yJ6_bitCount_0f7a4 wsJ6_bitCount_0f7a4) := goodIn_app (goodIn_r _ [5, 6, 7] rfl (by decide +kernel)) ggX2_leastSetMoved_J6_bitCount_0f7a4
set_option maxRecDepth 20000 in
theorem ggX2_leastSetMoved_X2_setApartFrom : GoodIn wsX2_leastSetMoved wsX2_setApartFrom := goodIn_r _ [4, 12, 13, 14, 15, 16, 17, 18, 19, 20, 21, 22, 23, 24, 25, 26, 27, 28] rfl (by decide +kernel)
set_option maxRecDepth 20000 in
theorem gX2_leastSetMoved_X2_setApartFrom : GoodIn wsX2_leastSetMoved (va_wsS RX2 48 yX2_setApartFrom wsX2_setApartFrom) := goodIn_app (goodIn_r _ [1, 2, 3] rfl (by decide +kernel)) ggX2_leastSetMoved_X2_setApartFrom
theorem hd_J6_bitCount_0f7a4 : yJ6_bitCount_0f7a4.cls = RJ6 ∧ yJ6_bitCount_0f7a4.cls ≠ "java/lang/invoke/MethodHandle" ∧ yJ6_bitCount_0f7a4.cls ≠ "java/lang/invoke/VarHandle" ∧ (parseMethodDescriptor yJ6_bitCount_0f7a4.desc).map (fun d => d.parameters.length) = some 1 := by decide +kernel
theorem hd_X2_setApartFrom : yX2_setApartFrom.cls = RX2 ∧ yX2_setApartFrom.cls ≠ "java/lang/invoke/MethodHandle" ∧ yX2_setApartFrom.cls ≠ "java/lang/invoke/VarHandle" ∧ (parseMethodDescriptor yX2_setApartFrom.desc).map (fun d => d.parameters.length) = some 2 := by decide +kernel
/-! X2_leastSetMoved -/
abbrev rm_X2_leastSetMoved : Room := { frames := 1, cells := 0, slots := 0, locals := 23 }
theorem iw_X2_leastSetMoved_5 : ∀ w ∈ wsX50, w ∈ wsX2_leastSetMoved := fun _ h => List.mem_cons_of_mem _ (List.mem_append_right _ h)
theorem fn_X2_leastSetMoved_42 : Cond.fieldLinkNest RX2 42 "NightStones$Road" "stones" "I" RX7 ∈ nz_nest := List.mem_of_getElem? (i := 18) rfl
theorem fn_X2_leastSetMoved_20 : Cond.fieldLinkNest RX2 20 "NightStones$Road" "at" "[I" RX7 ∈ nz_nest := List.mem_of_getElem? (i := 31) rfl
theorem fn_X2_leastSetMoved_45 : Cond.fieldLinkNest RX2 45 "NightStones$Road" "says" "[I" RX7 ∈ nz_nest := List.mem_of_getElem? (i := 28) rfl
def S_X2_leastSetMoved_7 (r6 : Int32) (f9 : Nat → Int32) (f10 : Nat → Int32) (K : Int32 → Prop) (R7 : Int32 → Int32 → Int32 → Prop) (x1 : Int32) (x2 : Int32) (x3 : Int32) : Prop := ((r6 ≤ x3 → K x1) ∧ (¬ (r6 ≤ x3) → (vp_in x3 6 ∧ (vp_in x3 6 ∧ wp_X2_setApartFrom r6 f9 f10 ((f10 x3.toNatClampNeg) - (f9 x3.toNatClampNeg)) (fun q4 => wp_J6_bitCount_0f7a4 q4 (fun q5 => ((q5 < x2 → R7 q4 q5 (x3 + 1)) ∧ (¬ (q5 < x2) → ((¬ q5 = x2 → R7 x1 x2 (x3 + 1)) ∧ (q5 = x2 → ((x1 ≤ q4 → R7 x1 x2 (x3 + 1)) ∧ (¬ (x1 ≤ q4) → R7 q4 q5 (x3 + 1)))))))))))))
set_option maxHeartbeats 4000000 in
set_option maxRecDepth 100000 in
theorem t_X2_leastSetMoved_7 {y : nz_Y} {g : nz_G} (F : nz_F y g cX2_leastSetMoved 6 wsX2_leastSetMoved RX2 (some .int) rm_X2_leastSetMoved) {wc0 : va_W} {sz : Nat} {K : Int32 → Prop} (o : Nat) (a9 : Nat) (a10 : Nat) (a11 : Nat) (a12 : Nat) (a13 : Nat) (a14 : Nat) (a15 : Nat) (a16 : Nat) (r0 : Int32) (r1 : Int32) (r2 : Int32) (r3 : Int32) (r4 : Int32) (r5 : Int32) (r6 : Int32) (r7 : Int32) (r8 : Int32) (f9 : Nat → Int32) (f10 : Nat → Int32) (f11 : Nat → Int32) (f12 : Nat → Int32) (f13 : Nat → Int32) (f14 : Nat → Int32) (f15 : Nat → Int32) (f16 : Nat → Int32) (hQ : yz_A y = va_A wc0 sz ∧ yz_Q y = MQ (yz_b y) ((nz_Qi g wc0 (fun r (u : Unit) => K r) (fun u => [(o, .inr (5, [.int r0, .int r1, .int r2, .int r3, .int r4, .int r5, .int r6, .int r7, .int r8, .ref a9, .ref a10, .ref a11, .ref a12, .ref a13, .ref a14, .ref a15, .ref a16])), (a9, .inl (nz_cI g, 6, .inl f9)), (a10, .inl (nz_cI g, 6, .inl f10)), (a11, .inl (nz_cI g, 6, .inl f11)), (a12, .inl (nz_cI g, 5, .inl f12)), (a13, .inl (nz_cI g, 5, .inl f13)), (a14, .inl (nz_cI g, 5, .inl f14)), (a15, .inl (nz_cI g, 5, .inl f15)), (a16, .inl (nz_cI g, 48, .inl f16))])) sz) (yz_a y) (yz_s y) 0 0 (va_A wc0 sz)) : ∀ (n1 : Nat) (x1 : Int32) (x2 : Int32) (x3 : Int32), nz_it (fun _ _ _ => False) (S_X2_leastSetMoved_7 r6 f9 f10 K) n1 x1 x2 x3 → nz_V y g 0 0 [(o, .inr (5, [.int r0, .int r1, .int r2, .int r3, .int r4, .int r5, .int r6, .int r7, .int r8, .ref a9, .ref a10, .ref a11, .ref a12, .ref a13, .ref a14, .ref a15, .ref a16])), (a9, .inl (nz_cI g, 6, .inl f9)), (a10, .inl (nz_cI g, 6, .inl f10)), (a11, .inl (nz_cI g, 6, .inl f11)), (a12, .inl (nz_cI g, 5, .inl f12)), (a13, .inl (nz_cI g, 5, .inl f13)), (a14, .inl (nz_cI g, 5, .inl f14)), (a15, .inl (nz_cI g, 5, .inl f15)), (a16, .inl (nz_cI g, 48, .inl f16))] 7 [(0, .ref o), (1, .int x1), (2, .int x2), (3, .int x3)] [] := by
  intro n1
  induction n1 with
  | zero =>
    intro x1 x2 x3 h
    exact h.elim
  | succ n1 hR7 =>
    intro x1 x2 x3 h
    have h : S_X2_leastSetMoved_7 r6 f9 f10 K (nz_it (fun _ _ _ => False) (S_X2_leastSetMoved_7 r6 f9 f10 K) n1) x1 x2 x3 := h
    unfold S_X2_leastSetMoved_7 at h
    refine nz_iload_n F dX2_leastSetMoved_7 rfl 3 rfl ?_
    refine nz_aload_n F dX2_leastSetMoved_8 rfl 0 rfl ?_
    refine nz_getN F iw_X2_leastSetMoved_5 0 rfl rfl 6 (by decide) rfl fn_X2_leastSetMoved_42 rfl dX2_leastSetMoved_9 ?_
    refine nz_icmp_ge (tgt := 71) F dX2_leastSetMoved_12 (by decide) (fun c1 => ?_) (fun c1 => ?_)
    · have h := h.1 c1
      refine nz_iload_n F dX2_leastSetMoved_71 rfl 1 rfl ?_
      exact nz_iret F hQ () h rfl dX2_leastSetMoved_72
    · have h := h.2 c1
      refine nz_aload_n F dX2_leastSetMoved_15 rfl 0 rfl ?_
      refine nz_aload_n F dX2_leastSetMoved_16 rfl 0 rfl ?_
      refine nz_getN F iw_X2_leastSetMoved_5 0 rfl rfl 10 (by decide) rfl fn_X2_leastSetMoved_20 rfl dX2_leastSetMoved_17 ?_
      refine nz_iload_n F dX2_leastSetMoved_20 rfl 3 rfl ?_
      obtain ⟨i2, h⟩ := h
      refine nz_iald F 2 rfl i2 dX2_leastSetMoved_21 ?_
      refine nz_aload_n F dX2_leastSetMoved_22 rfl 0 rfl ?_
      refine nz_getN F iw_X2_leastSetMoved_5 0 rfl rfl 9 (by decide) rfl fn_X2_leastSetMoved_45 rfl dX2_leastSetMoved_23 ?_
      refine nz_iload_n F dX2_leastSetMoved_26 rfl 3 rfl ?_
      obtain ⟨i3, h⟩ := h
      refine nz_iald F 1 rfl i3 dX2_leastSetMoved_27 ?_
      refine nz_isub F dX2_leastSetMoved_28 ?_
      refine k_X2_setApartFrom o a9 a10 a11 a12 a13 a14 a15 a16 r0 r1 r2 r3 r4 r5 r6 r7 r8 f9 f10 f11 f12 f13 f14 f15 f16 ((f10 x3.toNatClampNeg) - (f9 x3.toNatClampNeg)) (fun hM => nz_runS F gX2_leastSetMoved_X2_setApartFrom rfl hd_X2_setApartFrom.2 rfl hM dX2_leastSetMoved_29 [0, 1, 2, 3, 4, 5, 6, 7, 8] rfl rfl rfl (Nat.le_of_ble_eq_true rfl) rfl) h ([(o, .inr (5, [.int r0, .int r1, .int r2, .int r3, .int r4, .int r5, .int r6, .int r7, .int r8, .ref a9, .ref a10, .ref a11, .ref a12, .ref a13, .ref a14, .ref a15, .ref a16])), (a9, .inl (nz_cI g, 6, .inl f9)), (a10, .inl (nz_cI g, 6, .inl f10)), (a11, .inl (nz_cI g, 6, .inl f11)), (a12, .inl (nz_cI g, 5, .inl f12)), (a13, .inl (nz_cI g, 5, .inl f13)), (a14, .inl (nz_cI g, 5, .inl f14)), (a15, .inl (nz_cI g, 5, .inl f15)), (a16, .inl (nz_cI g, 48, .inl f16))]) (rfl) (fun q4 h => ?_)
      refine nz_istore (lv' := [(4, .int q4), (0, .ref o), (1, .int x1), (2, .int x2), (3, .int x3)]) F dX2_leastSetMoved_32 (by decide) rfl ?_
      refine nz_iload F dX2_leastSetMoved_34 0 rfl ?_
      refine k_J6_bitCount_0f7a4 q4 (fun hM => nz_runS F gX2_leastSetMoved_J6_bitCount_0f7a4 rfl hd_J6_bitCount_0f7a4.2 rfl hM dX2_leastSetMoved_36 [] rfl rfl rfl (Nat.le_of_ble_eq_true rfl) rfl) h ([(o, .inr (5, [.int r0, .int r1, .int r2, .int r3, .int r4, .int r5, .int r6, .int r7, .int r8, .ref a9, .ref a10, .ref a11, .ref a12, .ref a13, .ref a14, .ref a15, .ref a16])), (a9, .inl (nz_cI g, 6, .inl f9)), (a10, .inl (nz_cI g, 6, .inl f10)), (a11, .inl (nz_cI g, 6, .inl f11)), (a12, .inl (nz_cI g, 5, .inl f12)), (a13, .inl (nz_cI g, 5, .inl f13)), (a14, .inl (nz_cI g, 5, .inl f14)), (a15, .inl (nz_cI g, 5, .inl f15)), (a16, .inl (nz_cI g, 48, .inl f16))]) (rfl) (fun q5 h => ?_)
      refine nz_istore (lv' := [(5, .int q5), (4, .int q4), (0, .ref o), (1, .int x1), (2, .int x2), (3, .int x3)]) F dX2_leastSetMoved_39 (by decide) rfl ?_
      refine nz_iload F dX2_leastSetMoved_41 0 rfl ?_
      refine nz_iload_n F dX2_leastSetMoved_43 rfl 4 rfl ?_
      refine nz_icmp_lt (tgt := 59) F dX2_leastSetMoved_44 (by decide) (fun c6 => ?_) (fun c6 => ?_)
      · have h := h.1 c6
        refine nz_iload F dX2_leastSetMoved_59 0 rfl ?_
        refine nz_istore_n (lv' := [(2, .int q5), (5, .int q5), (4, .int q4), (0, .ref o), (1, .int x1), (3, .int x3)]) F dX2_leastSetMoved_61 rfl (by decide) rfl ?_
        refine nz_iload F dX2_leastSetMoved_62 2 rfl ?_
        refine nz_istore_n (lv' := [(1, .int q4), (2, .int q5), (5, .int q5), (4, .int q4), (0, .ref o), (3, .int x3)]) F dX2_leastSetMoved_64 rfl (by decide) rfl ?_
        refine nz_iinc (v := (x3 + 1)) (j := 5) (lv' := [(3, .int (x3 + 1)), (1, .int q4), (2, .int q5), (5, .int q5), (4, .int q4), (0, .ref o)]) F dX2_leastSetMoved_65 rfl rfl (by decide) rfl ?_
        refine nz_goto (tgt := 7) F dX2_leastSetMoved_68 (by decide) ?_
        refine nz_ls (lv' := [(0, .ref o), (1, .int q4), (2, .int q5), (3, .int (x3 + 1))]) [5, 1, 2, 0] rfl ?_
        exact hR7 q4 q5 (x3 + 1) h
      · have h := h.2 c6
        refine nz_iload F dX2_leastSetMoved_47 0 rfl ?_
        refine nz_iload_n F dX2_leastSetMoved_49 rfl 4 rfl ?_
        refine nz_icmp_ne (tgt := 65) F dX2_leastSetMoved_50 (by decide) (fun c7 => ?_) (fun c7 => ?_)
        · have h := h.1 c7
          refine nz_iinc (v := (x3 + 1)) (j := 5) (lv' := [(3, .int (x3 + 1)), (5, .int q5), (4, .int q4), (0, .ref o), (1, .int x1), (2, .int x2)]) F dX2_leastSetMoved_65 rfl rfl (by decide) rfl ?_
          refine nz_goto (tgt := 7) F dX2_leastSetMoved_68 (by decide) ?_
          refine nz_ls (lv' := [(0, .ref o), (1, .int x1), (2, .int x2), (3, .int (x3 + 1))]) [3, 4, 5, 0] rfl ?_
          exact hR7 x1 x2 (x3 + 1) h
        · have h := h.2 c7
          refine nz_iload F dX2_leastSetMoved_53 1 rfl ?_
          refine nz_iload_n F dX2_leastSetMoved_55 rfl 3 rfl ?_
          refine nz_icmp_ge (tgt := 65) F dX2_leastSetMoved_56 (by decide) (fun c8 => ?_) (fun c8 => ?_)
          · have h := h.1 c8
            refine nz_iinc (v := (x3 + 1)) (j := 5) (lv' := [(3, .int (x3 + 1)), (5, .int q5), (4, .int q4), (0, .ref o), (1, .int x1), (2, .int x2)]) F dX2_leastSetMoved_65 rfl rfl (by decide) rfl ?_
            refine nz_goto (tgt := 7) F dX2_leastSetMoved_68 (by decide) ?_
            refine nz_ls (lv' := [(0, .ref o), (1, .int x1), (2, .int x2), (3, .int (x3 + 1))]) [3, 4, 5, 0] rfl ?_
            exact hR7 x1 x2 (x3 + 1) h
          · have h := h.2 c8
            refine nz_iload F dX2_leastSetMoved_59 0 rfl ?_
            refine nz_istore_n (lv' := [(2, .int q5), (5, .int q5), (4, .int q4), (0, .ref o), (1, .int x1), (3, .int x3)]) F dX2_leastSetMoved_61 rfl (by decide) rfl ?_
            refine nz_iload F dX2_leastSetMoved_62 2 rfl ?_
            refine nz_istore_n (lv' := [(1, .int q4), (2, .int q5), (5, .int q5), (4, .int q4), (0, .ref o), (3, .int x3)]) F dX2_leastSetMoved_64 rfl (by decide) rfl ?_
            refine nz_iinc (v := (x3 + 1)) (j := 5) (lv' := [(3, .int (x3 + 1)), (1, .int q4), (2, .int q5), (5, .int q5), (4, .int q4), (0, .ref o)]) F dX2_leastSetMoved_65 rfl rfl (by decide) rfl ?_
            refine nz_goto (tgt := 7) F dX2_leastSetMoved_68 (by decide) ?_
            refine nz_ls (lv' := [(0, .ref o), (1, .int q4), (2, .int q5), (3, .int (x3 + 1))]) [5, 1, 2, 0] rfl ?_
            exact hR7 q4 q5 (x3 + 1) h
def wp_X2_leastSetMoved (r6 : Int32) (f9 : Nat → Int32) (f10 : Nat → Int32) (K : Int32 → Prop) : Prop := (∃ n, nz_it (fun _ _ _ => False) (S_X2_leastSetMoved_7 r6 f9 f10 K) n 0 7 0)
set_option maxHeartbeats 4000000 in
set_option maxRecDepth 100000 in
theorem c_X2_leastSetMoved (l : Launch) (g : nz_G) (o : Nat) (a9 : Nat) (a10 : Nat) (a11 : Nat) (a12 : Nat) (a13 : Nat) (a14 : Nat) (a15 : Nat) (a16 : Nat) (r0 : Int32) (r1 : Int32) (r2 : Int32) (r3 : Int32) (r4 : Int32) (r5 : Int32) (r6 : Int32) (r7 : Int32) (r8 : Int32) (f9 : Nat → Int32) (f10 : Nat → Int32) (f11 : Nat → Int32) (f12 : Nat → Int32) (f13 : Nat → Int32) (f14 : Nat → Int32) (f15 : Nat → Int32) (f16 : Nat → Int32) (K : Int32 → Prop) (h : wp_X2_leastSetMoved r6 f9 f10 K) : nz_M l yX2_leastSetMoved wsX2_leastSetMoved rm_X2_leastSetMoved g [.ref o] [(o, .inr (5, [.int r0, .int r1, .int r2, .int r3, .int r4, .int r5, .int r6, .int r7, .int r8, .ref a9, .ref a10, .ref a11, .ref a12, .ref a13, .ref a14, .ref a15, .ref a16])), (a9, .inl (nz_cI g, 6, .inl f9)), (a10, .inl (nz_cI g, 6, .inl f10)), (a11, .inl (nz_cI g, 6, .inl f11)), (a12, .inl (nz_cI g, 5, .inl f12)), (a13, .inl (nz_cI g, 5, .inl f13)), (a14, .inl (nz_cI g, 5, .inl f14)), (a15, .inl (nz_cI g, 5, .inl f15)), (a16, .inl (nz_cI g, 48, .inl f16))] (nz_Qi g [(o, .inr (5, [.int r0, .int r1, .int r2, .int r3, .int r4, .int r5, .int r6, .int r7, .int r8, .ref a9, .ref a10, .ref a11, .ref a12, .ref a13, .ref a14, .ref a15, .ref a16])), (a9, .inl (nz_cI g, 6, .inl f9)), (a10, .inl (nz_cI g, 6, .inl f10)), (a11, .inl (nz_cI g, 6, .inl f11)), (a12, .inl (nz_cI g, 5, .inl f12)), (a13, .inl (nz_cI g, 5, .inl f13)), (a14, .inl (nz_cI g, 5, .inl f14)), (a15, .inl (nz_cI g, 5, .inl f15)), (a16, .inl (nz_cI g, 48, .inl f16))] (fun r (u : Unit) => K r) (fun u => [(o, .inr (5, [.int r0, .int r1, .int r2, .int r3, .int r4, .int r5, .int r6, .int r7, .int r8, .ref a9, .ref a10, .ref a11, .ref a12, .ref a13, .ref a14, .ref a15, .ref a16])), (a9, .inl (nz_cI g, 6, .inl f9)), (a10, .inl (nz_cI g, 6, .inl f10)), (a11, .inl (nz_cI g, 6, .inl f11)), (a12, .inl (nz_cI g, 5, .inl f12)), (a13, .inl (nz_cI g, 5, .inl f13)), (a14, .inl (nz_cI g, 5, .inl f14)), (a15, .inl (nz_cI g, 5, .inl f15)), (a16, .inl (nz_cI g, 48, .inl f16))])) := by
  refine nz_M.of (bytes := cX2_leastSetMoved) (nL := 6) (ret := (some .int)) (own := RX2) (by decide) rfl rfl ⟨rfl, rfl⟩ rfl ?_
  intro y F hl hQ
  obtain ⟨sz, hQ⟩ := hQ
  refine nz_ent (lv' := [(0, .ref o)]) rfl ?_
  unfold wp_X2_leastSetMoved at h
  refine nz_iconst (v := 0) F dX2_leastSetMoved_0 (by decide) ?_
  refine nz_istore_n (lv' := [(1, .int 0), (0, .ref o)]) F dX2_leastSetMoved_1 rfl (by decide) rfl ?_
  refine nz_bipush (v := 7) F dX2_leastSetMoved_2 (by decide) ?_
  refine nz_istore_n (lv' := [(2, .int 7), (1, .int 0), (0, .ref o)]) F dX2_leastSetMoved_4 rfl (by decide) rfl ?_
  refine nz_iconst (v := 0) F dX2_leastSetMoved_5 (by decide) ?_
  refine nz_istore_n (lv' := [(3, .int 0), (2, .int 7), (1, .int 0), (0, .ref o)]) F dX2_leastSetMoved_6 rfl (by decide) rfl ?_
  refine nz_ls (lv' := [(0, .ref o), (1, .int 0), (2, .int 7), (3, .int 0)]) [3, 2, 1, 0] rfl ?_
  obtain ⟨n1, h⟩ := h
  exact t_X2_leastSetMoved_7 F o a9 a10 a11 a12 a13 a14 a15 a16 r0 r1 r2 r3 r4 r5 r6 r7 r8 f9 f10 f11 f12 f13 f14 f15 f16 hQ n1 0 7 0 h
theorem k_X2_leastSetMoved {y : nz_Y} {g : nz_G} {k n : Nat} {ws : va_W} {pc : Nat} {ls : List (Nat × Value)} {st rest : List Value} {av : Array Value} {isC : List Nat} {K : Int32 → Prop} (o : Nat) (a9 : Nat) (a10 : Nat) (a11 : Nat) (a12 : Nat) (a13 : Nat) (a14 : Nat) (a15 : Nat) (a16 : Nat) (r0 : Int32) (r1 : Int32) (r2 : Int32) (r3 : Int32) (r4 : Int32) (r5 : Int32) (r6 : Int32) (r7 : Int32) (r8 : Int32) (f9 : Nat → Int32) (f10 : Nat → Int32) (f11 : Nat → Int32) (f12 : Nat → Int32) (f13 : Nat → Int32) (f14 : Nat → Int32) (f15 : Nat → Int32) (f16 : Nat → Int32) (run : nz_M (yz_l y) yX2_leastSetMoved wsX2_leastSetMoved rm_X2_leastSetMoved g [.ref o] [(o, .inr (5, [.int r0, .int r1, .int r2, .int r3, .int r4, .int r5, .int r6, .int r7, .int r8, .ref a9, .ref a10, .ref a11, .ref a12, .ref a13, .ref a14, .ref a15, .ref a16])), (a9, .inl (nz_cI g, 6, .inl f9)), (a10, .inl (nz_cI g, 6, .inl f10)), (a11, .inl (nz_cI g, 6, .inl f11)), (a12, .inl (nz_cI g, 5, .inl f12)), (a13, .inl (nz_cI g, 5, .inl f13)), (a14, .inl (nz_cI g, 5, .inl f14)), (a15, .inl (nz_cI g, 5, .inl f15)), (a16, .inl (nz_cI g, 48, .inl f16))] (nz_Qi g [(o, .inr (5, [.int r0, .int r1, .int r2, .int r3, .int r4, .int r5, .int r6, .int r7, .int r8, .ref a9, .ref a10, .ref a11, .ref a12, .ref a13, .ref a14, .ref a15, .ref a16])), (a9, .inl (nz_cI g, 6, .inl f9)), (a10, .inl (nz_cI g, 6, .inl f10)), (a11, .inl (nz_cI g, 6, .inl f11)), (a12, .inl (nz_cI g, 5, .inl f12)), (a13, .inl (nz_cI g, 5, .inl f13)), (a14, .inl (nz_cI g, 5, .inl f14)), (a15, .inl (nz_cI g, 5, .inl f15)), (a16, .inl (nz_cI g, 48, .inl f16))] (fun r (u : Unit) => K r) (fun u => [(o, .inr (5, [.int r0, .int r1, .int r2, .int r3, .int r4, .int r5, .int r6, .int r7, .int r8, .ref a9, .ref a10, .ref a11, .ref a12, .ref a13, .ref a14, .ref a15, .ref a16])), (a9, .inl (nz_cI g, 6, .inl f9)), (a10, .inl (nz_cI g, 6, .inl f10)), (a11, .inl (nz_cI g, 6, .inl f11)), (a12, .inl (nz_cI g, 5, .inl f12)), (a13, .inl (nz_cI g, 5, .inl f13)), (a14, .inl (nz_cI g, 5, .inl f14)), (a15, .inl (nz_cI g, 5, .inl f15)), (a16, .inl (nz_cI g, 48, .inl f16))])) → nz_C y g k n ws pc ls st rest [(o, .inr (5, [.int r0, .int r1, .int r2, .int r3, .int r4, .int r5, .int r6, .int r7, .int r8, .ref a9, .ref a10, .ref a11, .ref a12, .ref a13, .ref a14, .ref a15, .ref a16])), (a9, .inl (nz_cI g, 6, .inl f9)), (a10, .inl (nz_cI g, 6, .inl f10)), (a11, .inl (nz_cI g, 6, .inl f11)), (a12, .inl (nz_cI g, 5, .inl f12)), (a13, .inl (nz_cI g, 5, .inl f13)), (a14, .inl (nz_cI g, 5, .inl f14)), (a15, .inl (nz_cI g, 5, .inl f15)), (a16, .inl (nz_cI g, 48, .inl f16))] (nz_Qi g [(o, .inr (5, [.int r0, .int r1, .int r2, .int r3, .int r4, .int r5, .int r6, .int r7, .int r8, .ref a9, .ref a10, .ref a11, .ref a12, .ref a13, .ref a14, .ref a15, .ref a16])), (a9, .inl (nz_cI g, 6, .inl f9)), (a10, .inl (nz_cI g, 6, .inl f10)), (a11, .inl (nz_cI g, 6, .inl f11)), (a12, .inl (nz_cI g, 5, .inl f12)), (a13, .inl (nz_cI g, 5, .inl f13)), (a14, .inl (nz_cI g, 5, .inl f14)), (a15, .inl (nz_cI g, 5, .inl f15)), (a16, .inl (nz_cI g, 48, .inl f16))] (fun r (u : Unit) => K r) (fun u => [(o, .inr (5, [.int r0, .int r1, .int r2, .int r3, .int r4, .int r5, .int r6, .int r7, .int r8, .ref a9, .ref a10, .ref a11, .ref a12, .ref a13, .ref a14, .ref a15, .ref a16])), (a9, .inl (nz_cI g, 6, .inl f9)), (a10, .inl (nz_cI g, 6, .inl f10)), (a11, .inl (nz_cI g, 6, .inl f11)), (a12, .inl (nz_cI g, 5, .inl f12)), (a13, .inl (nz_cI g, 5, .inl f13)), (a14, .inl (nz_cI g, 5, .inl f14)), (a15, .inl (nz_cI g, 5, .inl f15)), (a16, .inl (nz_cI g, 48, .inl f16))])) av isC) (h : wp_X2_leastSetMoved r6 f9 f10 K) (ws' : va_W) (hm : nz_mrg ws isC [(o, .inr (5, [.int r0, .int r1, .int r2, .int r3, .int r4, .int r5, .int r6, .int r7, .int r8, .ref a9, .ref a10, .ref a11, .ref a12, .ref a13, .ref a14, .ref a15, .ref a16])), (a9, .inl (nz_cI g, 6, .inl f9)), (a10, .inl (nz_cI g, 6, .inl f10)), (a11, .inl (nz_cI g, 6, .inl f11)), (a12, .inl (nz_cI g, 5, .inl f12)), (a13, .inl (nz_cI g, 5, .inl f13)), (a14, .inl (nz_cI g, 5, .inl f14)), (a15, .inl (nz_cI g, 5, .inl f15)), (a16, .inl (nz_cI g, 48, .inl f16))] = ws' ) (kk : ∀ (r : Int32), K r → nz_V y g k n ws' (pc + 3) ls (.int r :: rest)) : nz_V y g k n ws pc ls st :=
  nz_ci (ws' := fun _ => ws') (run (c_X2_leastSetMoved (yz_l y) g o a9 a10 a11 a12 a13 a14 a15 a16 r0 r1 r2 r3 r4 r5 r6 r7 r8 f9 f10 f11 f12 f13 f14 f15 f16 K h)) (fun _ => rfl) (fun _ => hm) (fun r u h => kk r h)
theorem dX2_meanInMillionths_0 : decode cX2_meanInMillionths 0 = .ok (.ldc 68, 2) := by decide +kernel
theorem dX2_meanInMillionths_2 : decode cX2_meanInMillionths 2 = .ok (.istore_n 3, 1) := by decide +kernel
theorem dX2_meanInMillionths_3 : decode cX2_meanInMillionths 3 = .ok (.iconst 0, 1) := by decide +kernel
theorem dX2_meanInMillionths_4 : decode cX2_meanInMillionths 4 = .ok (.istore 4, 2) := by decide +kernel
theorem dX2_meanInMillionths_6 : decode cX2_meanInMillionths 6 = .ok (.iload 4, 2) := by decide +kernel
theorem dX2_meanInMillionths_8 : decode cX2_meanInMillionths 8 = .ok (.iload_n 2, 1) := by decide +kernel
theorem dX2_meanInMillionths_9 : decode cX2_meanInMillionths 9 = .ok (.if_icmp .ge 22, 3) := by decide +kernel
theorem dX2_meanInMillionths_12 : decode cX2_meanInMillionths 12 = .ok (.iload_n 3, 1) := by decide +kernel
theorem dX2_meanInMillionths_13 : decode cX2_meanInMillionths 13 = .ok (.bipush 100, 2) := by decide +kernel
theorem dX2_meanInMillionths_15 : decode cX2_meanInMillionths 15 = .ok (.idiv, 1) := by decide +kernel
theorem dX2_meanInMillionths_16 : decode cX2_meanInMillionths 16 = .ok (.bipush 100, 2) := by decide +kernel
theorem dX2_meanInMillionths_18 : decode cX2_meanInMillionths 18 = .ok (.aload_n 0, 1) := by decide +kernel
theorem dX2_meanInMillionths_19 : decode cX2_meanInMillionths 19 = .ok (.getfield 69, 3) := by decide +kernel
theorem dX2_meanInMillionths_22 : decode cX2_meanInMillionths 22 = .ok (.isub, 1) := by decide +kernel
theorem dX2_meanInMillionths_23 : decode cX2_meanInMillionths 23 = .ok (.imul, 1) := by decide +kernel
theorem dX2_meanInMillionths_24 : decode cX2_meanInMillionths 24 = .ok (.istore_n 3, 1) := by decide +kernel
theorem dX2_meanInMillionths_25 : decode cX2_meanInMillionths 25 = .ok (.iinc 4 1, 3) := by decide +kernel
theorem dX2_meanInMillionths_28 : decode cX2_meanInMillionths 28 = .ok (.goto (-22), 3) := by decide +kernel
theorem dX2_meanInMillionths_31 : decode cX2_meanInMillionths 31 = .ok (.iload_n 3, 1) := by decide +kernel
theorem dX2_meanInMillionths_32 : decode cX2_meanInMillionths 32 = .ok (.iload_n 1, 1) := by decide +kernel
theorem dX2_meanInMillionths_33 : decode cX2_meanInMillionths 33 = .ok (.imul, 1) := by decide +kernel
theorem dX2_meanInMillionths_34 : decode cX2_meanInMillionths 34 = .ok (.iload_n 2, 1) := by decide +kernel
theorem dX2_meanInMillionths_35 : decode cX2_meanInMillionths 35 = .ok (.imul, 1) := by decide +kernel
theorem dX2_meanInMillionths_36 : decode cX2_meanInMillionths 36 = .ok (.ldc 68, 2) := by decide +kernel
theorem dX2_meanInMillionths_38 : decode cX2_meanInMillionths 38 = .ok (.iload_n 3, 1) := by decide +kernel
theorem dX2_meanInMillionths_39 : decode cX2_meanInMillionths 39 = .ok (.isub, 1) := by decide +kernel
theorem dX2_meanInMillionths_40 : decode cX2_meanInMillionths 40 = .ok (.aload_n 0, 1) := by decide +kernel
theorem dX2_meanInMillionths_41 : decode cX2_meanInMillionths 41 = .ok (.getfield 72, 3) := by decide +kernel
theorem dX2_meanInMillionths_44 : decode cX2_meanInMillionths 44 = .ok (.imul, 1) := by decide +kernel
theorem dX2_meanInMillionths_45 : decode cX2_meanInMillionths 45 = .ok (.isub, 1) := by decide +kernel
theorem dX2_meanInMillionths_46 : decode cX2_meanInMillionths 46 = .ok (.ireturn, 1) := by decide +kernel
/-! X2_meanInMillionths -/
abbrev rm_X2_meanInMillionths : Room := { frames := 0, cells := 0, slots := 0, locals := 0 }
theorem iw_X2_meanInMillionths_5 : ∀ w ∈ wsX50, w ∈ wsX2_meanInMillionths := fun _ h => List.mem_cons_of_mem _ (List.mem_append_right _ h)
theorem wd_X2_meanInMillionths_c68 : Cond.constant RX2 68 (1000000) ∈ wsX2_meanInMillionths := List.mem_of_getElem? (i := 1) rfl
theorem fn_X2_meanInMillionths_72 : Cond.fieldLinkNest RX2 72 "NightStones$Road" "fine" "I" RX7 ∈ nz_nest := List.mem_of_getElem? (i := 12) rfl
theorem fn_X2_meanInMillionths_69 : Cond.fieldLinkNest RX2 69 "NightStones$Road" "seen" "I" RX7 ∈ nz_nest := List.mem_of_getElem? (i := 10) rfl
def S_X2_meanInMillionths_6 (r3 : Int32) (r4 : Int32) (v1 : Int32) (v2 : Int32) (K : Int32 → Prop) (R6 : Int32 → Int32 → Prop) (x3 : Int32) (x4 : Int32) : Prop := ((v2 ≤ x4 → K (((x3 * v1) * v2) - ((1000000 - x3) * r4))) ∧ (¬ (v2 ≤ x4) → R6 ((x3 / 100) * (100 - r3)) (x4 + 1)))
set_option maxHeartbeats 4000000 in
set_option maxRecDepth 100000 in
theorem t_X2_meanInMillionths_6 {y : nz_Y} {g : nz_G} (F : nz_F y g cX2_meanInMillionths 5 wsX2_meanInMillionths RX2 (some .int) rm_X2_meanInMillionths) {wc0 : va_W} {sz : Nat} {K : Int32 → Prop} (o : Nat) (a9 : Nat) (a10 : Nat) (a11 : Nat) (a12 : Nat) (a13 : Nat) (a14 : Nat) (a15 : Nat) (a16 : Nat) (r0 : Int32) (r1 : Int32) (r2 : Int32) (r3 : Int32) (r4 : Int32) (r5 : Int32) (r6 : Int32) (r7 : Int32) (r8 : Int32) (f9 : Nat → Int32) (f10 : Nat → Int32) (f11 : Nat → Int32) (f12 : Nat → Int32) (f13 : Nat → Int32) (f14 : Nat → Int32) (f15 : Nat → Int32) (f16 : Nat → Int32) (v1 : Int32) (v2 : Int32) (hQ : yz_A y = va_A wc0 sz ∧ yz_Q y = MQ (yz_b y) ((nz_Qi g wc0 (fun r (u : Unit) => K r) (fun u => [(o, .inr (5, [.int r0, .int r1, .int r2, .int r3, .int r4, .int r5, .int r6, .int r7, .int r8, .ref a9, .ref a10, .ref a11, .ref a12, .ref a13, .ref a14, .ref a15, .ref a16])), (a9, .inl (nz_cI g, 6, .inl f9)), (a10, .inl (nz_cI g, 6, .inl f10)), (a11, .inl (nz_cI g, 6, .inl f11)), (a12, .inl (nz_cI g, 5, .inl f12)), (a13, .inl (nz_cI g, 5, .inl f13)), (a14, .inl (nz_cI g, 5, .inl f14)), (a15, .inl (nz_cI g, 5, .inl f15)), (a16, .inl (nz_cI g, 48, .inl f16))])) sz) (yz_a y) (yz_s y) 0 0 (va_A wc0 sz)) : ∀ (n1 : Nat) (x3 : Int32) (x4 : Int32), nz_it (fun _ _ => False) (S_X2_meanInMillionths_6 r3 r4 v1 v2 K) n1 x3 x4 → nz_V y g 0 0 [(o, .inr (5, [.int r0, .int r1, .int r2, .int r3, .int r4, .int r5, .int r6, .int r7, .int r8, .ref a9, .ref a10, .ref a11, .ref a12, .ref a13, .ref a14, .ref a15, .ref a16])), (a9, .inl (nz_cI g, 6, .inl f9)), (a10, .inl (nz_cI g, 6, .inl f10)), (a11, .inl (nz_cI g, 6, .inl f11)), (a12, .inl (nz_cI g, 5, .inl f12)), (a13, .inl (nz_cI g, 5, .inl f13)), (a14, .inl (nz_cI g, 5, .inl f14)), (a15, .inl (nz_cI g, 5, .inl f15)), (a16, .inl (nz_cI g, 48, .inl f16))] 6 [(0, .ref o), (1, .int v1), (2, .int v2), (3, .int x3), (4, .int x4)] [] := by
  intro n1
  induction n1 with
  | zero =>
    intro x3 x4 h
    exact h.elim
  | succ n1 hR6 =>
    intro x3 x4 h
    have h : S_X2_meanInMillionths_6 r3 r4 v1 v2 K (nz_it (fun _ _ => False) (S_X2_meanInMillionths_6 r3 r4 v1 v2 K) n1) x3 x4 := h
    unfold S_X2_meanInMillionths_6 at h
    refine nz_iload F dX2_meanInMillionths_6 4 rfl ?_
    refine nz_iload_n F dX2_meanInMillionths_8 rfl 2 rfl ?_
    refine nz_icmp_ge (tgt := 31) F dX2_meanInMillionths_9 (by decide) (fun c1 => ?_) (fun c1 => ?_)
    · have h := h.1 c1
      refine nz_iload_n F dX2_meanInMillionths_31 rfl 3 rfl ?_
      refine nz_iload_n F dX2_meanInMillionths_32 rfl 1 rfl ?_
      refine nz_imul F dX2_meanInMillionths_33 ?_
      refine nz_iload_n F dX2_meanInMillionths_34 rfl 2 rfl ?_
      refine nz_imul F dX2_meanInMillionths_35 ?_
      refine nz_ldc (v := 1000000) F wd_X2_meanInMillionths_c68 dX2_meanInMillionths_36 ?_
      refine nz_iload_n F dX2_meanInMillionths_38 rfl 3 rfl ?_
      refine nz_isub F dX2_meanInMillionths_39 ?_
      refine nz_aload_n F dX2_meanInMillionths_40 rfl 0 rfl ?_
      refine nz_getN F iw_X2_meanInMillionths_5 0 rfl rfl 4 (by decide) rfl fn_X2_meanInMillionths_72 rfl dX2_meanInMillionths_41 ?_
      refine nz_imul F dX2_meanInMillionths_44 ?_
      refine nz_isub F dX2_meanInMillionths_45 ?_
      exact nz_iret F hQ () h rfl dX2_meanInMillionths_46
    · have h := h.2 c1
      refine nz_iload_n F dX2_meanInMillionths_12 rfl 3 rfl ?_
      refine nz_bipush (v := 100) F dX2_meanInMillionths_13 (by decide) ?_
      refine nz_idiv F dX2_meanInMillionths_15 (by decide) ?_
      refine nz_bipush (v := 100) F dX2_meanInMillionths_16 (by decide) ?_
      refine nz_aload_n F dX2_meanInMillionths_18 rfl 0 rfl ?_
      refine nz_getN F iw_X2_meanInMillionths_5 0 rfl rfl 3 (by decide) rfl fn_X2_meanInMillionths_69 rfl dX2_meanInMillionths_19 ?_
      refine nz_isub F dX2_meanInMillionths_22 ?_
      refine nz_imul F dX2_meanInMillionths_23 ?_
      refine nz_istore_n (lv' := [(3, .int ((x3 / 100) * (100 - r3))), (0, .ref o), (1, .int v1), (2, .int v2), (4, .int x4)]) F dX2_meanInMillionths_24 rfl (by decide) rfl ?_
      refine nz_iinc (v := (x4 + 1)) (j := 4) (lv' := [(4, .int (x4 + 1)), (3, .int ((x3 / 100) * (100 - r3))), (0, .ref o), (1, .int v1), (2, .int v2)]) F dX2_meanInMillionths_25 rfl rfl (by decide) rfl ?_
      refine nz_goto (tgt := 6) F dX2_meanInMillionths_28 (by decide) ?_
      refine nz_ls (lv' := [(0, .ref o), (1, .int v1), (2, .int v2), (3, .int ((x3 / 100) * (100 - r3))), (4, .int (x4 + 1))]) [2, 3, 4, 1, 0] rfl ?_
      exact hR6 ((x3 / 100) * (100 - r3)) (x4 + 1) h
def wp_X2_meanInMillionths (r3 : Int32) (r4 : Int32) (v1 : Int32) (v2 : Int32) (K : Int32 → Prop) : Prop := (∃ n, nz_it (fun _ _ => False) (S_X2_meanInMillionths_6 r3 r4 v1 v2 K) n 1000000 0)
set_option maxHeartbeats 4000000 in
set_option maxRecDepth 100000 in
theorem c_X2_meanInMillionths (l : Launch) (g : nz_G) (o : Nat) (a9 : Nat) (a10 : Nat) (a11 : Nat) (a12 : Nat) (a13 : Nat) (a14 : Nat) (a15 : Nat) (a16 : Nat) (r0 : Int32) (r1 : Int32) (r2 : Int32) (r3 : Int32) (r4 : Int32) (r5 : Int32) (r6 : Int32) (r7 : Int32) (r8 : Int32) (f9 : Nat → Int32) (f10 : Nat → Int32) (f11 : Nat → Int32) (f12 : Nat → Int32) (f13 : Nat → Int32) (f14 : Nat → Int32) (f15 : Nat → Int32) (f16 : Nat → Int32) (v1 : Int32) (v2 : Int32) (K : Int32 → Prop) (h : wp_X2_meanInMillionths r3 r4 v1 v2 K) : nz_M l yX2_meanInMillionths wsX2_meanInMillionths rm_X2_meanInMillionths g [.ref o, .int v1, .int v2] [(o, .inr (5, [.int r0, .int r1, .int r2, .int r3, .int r4, .int r5, .int r6, .int r7, .int r8, .ref a9, .ref a10, .ref a11, .ref a12, .ref a13, .ref a14, .ref a15, .ref a16])), (a9, .inl (nz_cI g, 6, .inl f9)), (a10, .inl (nz_cI g, 6, .inl f10)), (a11, .inl (nz_cI g, 6, .inl f11)), (a12, .inl (nz_cI g, 5, .inl f12)), (a13, .inl (nz_cI g, 5, .inl f13)), (a14, .inl (nz_cI g, 5, .inl f14)), (a15, .inl (nz_cI g, 5, .inl f15)), (a16, .inl (nz_cI g, 48, .inl f16))] (nz_Qi g [(o, .inr (5, [.int r0, .int r1, .int r2, .int r3, .int r4, .int r5, .int r6, .int r7, .int r8, .ref a9, .ref a10, .ref a11, .ref a12, .ref a13, .ref a14, .ref a15, .ref a16])), (a9, .inl (nz_cI g, 6, .inl f9)), (a10, .inl (nz_cI g, 6, .inl f10)), (a11, .inl (nz_cI g, 6, .inl f11)), (a12, .inl (nz_cI g, 5, .inl f12)), (a13, .inl (nz_cI g, 5, .inl f13)), (a14, .inl (nz_cI g, 5, .inl f14)), (a15, .inl (nz_cI g, 5, .inl f15)), (a16, .inl (nz_cI g, 48, .inl f16))] (fun r (u : Unit) => K r) (fun u => [(o, .inr (5, [.int r0, .int r1, .int r2, .int r3, .int r4, .int r5, .int r6, .int r7, .int r8, .ref a9, .ref a10, .ref a11, .ref a12, .ref a13, .ref a14, .ref a15, .ref a16])), (a9, .inl (nz_cI g, 6, .inl f9)), (a10, .inl (nz_cI g, 6, .inl f10)), (a11, .inl (nz_cI g, 6, .inl f11)), (a12, .inl (nz_cI g, 5, .inl f12)), (a13, .inl (nz_cI g, 5, .inl f13)), (a14, .inl (nz_cI g, 5, .inl f14)), (a15, .inl (nz_cI g, 5, .inl f15)), (a16, .inl (nz_cI g, 48, .inl f16))])) := by
  refine nz_M.of (bytes := cX2_meanInMillionths) (nL := 5) (ret := (some .int)) (own := RX2) (by decide) rfl rfl ⟨rfl, rfl⟩ rfl ?_
  intro y F hl hQ
  obtain ⟨sz, hQ⟩ := hQ
  refine nz_ent (lv' := [(0, .ref o), (1, .int v1), (2, .int v2)]) rfl ?_
  unfold wp_X2_meanInMillionths at h
  refine nz_ldc (v := 1000000) F wd_X2_meanInMillionths_c68 dX2_meanInMillionths_0 ?_
  refine nz_istore_n (lv' := [(3, .int 1000000), (0, .ref o), (1, .int v1), (2, .int v2)]) F dX2_meanInMillionths_2 rfl (by decide) rfl ?_
  refine nz_iconst (v := 0) F dX2_meanInMillionths_3 (by decide) ?_
  refine nz_istore (lv' := [(4, .int 0), (3, .int 1000000), (0, .ref o), (1, .int v1), (2, .int v2)]) F dX2_meanInMillionths_4 (by decide) rfl ?_
  refine nz_ls (lv' := [(0, .ref o), (1, .int v1), (2, .int v2), (3, .int 1000000), (4, .int 0)]) [2, 3, 4, 1, 0] rfl ?_
  obtain ⟨n1, h⟩ := h
  exact t_X2_meanInMillionths_6 F o a9 a10 a11 a12 a13 a14 a15 a16 r0 r1 r2 r3 r4 r5 r6 r7 r8 f9 f10 f11 f12 f13 f14 f15 f16 v1 v2 hQ n1 1000000 0 h
theorem k_X2_meanInMillionths {y : nz_Y} {g : nz_G} {k n : Nat} {ws : va_W} {pc : Nat} {ls : List (Nat × Value)} {st rest : List Value} {av : Array Value} {isC : List Nat} {K : Int32 → Prop} (o : Nat) (a9 : Nat) (a10 : Nat) (a11 : Nat) (a12 : Nat) (a13 : Nat) (a14 : Nat) (a15 : Nat) (a16 : Nat) (r0 : Int32) (r1 : Int32) (r2 : Int32) (r3 : Int32) (r4 : Int32) (r5 : Int32) (r6 : Int32) (r7 : Int32) (r8 : Int32) (f9 : Nat → Int32) (f10 : Nat → Int32) (f11 : Nat → Int32) (f12 : Nat → Int32) (f13 : Nat → Int32) (f14 : Nat → Int32) (f15 : Nat → Int32) (f16 : Nat → Int32) (v1 : Int32) (v2 : Int32) (run : nz_M (yz_l y) yX2_meanInMillionths wsX2_meanInMillionths rm_X2_meanInMillionths g [.ref o, .int v1, .int v2] [(o, .inr (5, [.int r0, .int r1, .int r2, .int r3, .int r4, .int r5, .int r6, .int r7, .int r8, .ref a9, .ref a10, .ref a11, .ref a12, .ref a13, .ref a14, .ref a15, .ref a16])), (a9, .inl (nz_cI g, 6, .inl f9)), (a10, .inl (nz_cI g, 6, .inl f10)), (a11, .inl (nz_cI g, 6, .inl f11)), (a12, .inl (nz_cI g, 5, .inl f12)), (a13, .inl (nz_cI g, 5, .inl f13)), (a14, .inl (nz_cI g, 5, .inl f14)), (a15, .inl (nz_cI g, 5, .inl f15)), (a16, .inl (nz_cI g, 48, .inl f16))] (nz_Qi g [(o, .inr (5, [.int r0, .int r1, .int r2, .int r3, .int r4, .int r5, .int r6, .int r7, .int r8, .ref a9, .ref a10, .ref a11, .ref a12, .ref a13, .ref a14, .ref a15, .ref a16])), (a9, .inl (nz_cI g, 6, .inl f9)), (a10, .inl (nz_cI g, 6, .inl f10)), (a11, .inl (nz_cI g, 6, .inl f11)), (a12, .inl (nz_cI g, 5, .inl f12)), (a13, .inl (nz_cI g, 5, .inl f13)), (a14, .inl (nz_cI g, 5, .inl f14)), (a15, .inl (nz_cI g, 5, .inl f15)), (a16, .inl (nz_cI g, 48, .inl f16))] (fun r (u : Unit) => K r) (fun u => [(o, .inr (5, [.int r0, .int r1, .int r2, .int r3, .int r4, .int r5, .int r6, .int r7, .int r8, .ref a9, .ref a10, .ref a11, .ref a12, .ref a13, .ref a14, .ref a15, .ref a16])), (a9, .inl (nz_cI g, 6, .inl f9)), (a10, .inl (nz_cI g, 6, .inl f10)), (a11, .inl (nz_cI g, 6, .inl f11)), (a12, .inl (nz_cI g, 5, .inl f12)), (a13, .inl (nz_cI g, 5, .inl f13)), (a14, .inl (nz_cI g, 5, .inl f14)), (a15, .inl (nz_cI g, 5, .inl f15)), (a16, .inl (nz_cI g, 48, .inl f16))])) → nz_C y g k n ws pc ls st rest [(o, .inr (5, [.int r0, .int r1, .int r2, .int r3, .int r4, .int r5, .int r6, .int r7, .int r8, .ref a9, .ref a10, .ref a11, .ref a12, .ref a13, .ref a14, .ref a15, .ref a16])), (a9, .inl (nz_cI g, 6, .inl f9)), (a10, .inl (nz_cI g, 6, .inl f10)), (a11, .inl (nz_cI g, 6, .inl f11)), (a12, .inl (nz_cI g, 5, .inl f12)), (a13, .inl (nz_cI g, 5, .inl f13)), (a14, .inl (nz_cI g, 5, .inl f14)), (a15, .inl (nz_cI g, 5, .inl f15)), (a16, .inl (nz_cI g, 48, .inl f16))] (nz_Qi g [(o, .inr (5, [.int r0, .int r1, .int r2, .int r3, .int r4, .int r5, .int r6, .int r7, .int r8, .ref a9, .ref a10, .ref a11, .ref a12, .ref a13, .ref a14, .ref a15, .ref a16])), (a9, .inl (nz_cI g, 6, .inl f9)), (a10, .inl (nz_cI g, 6, .inl f10)), (a11, .inl (nz_cI g, 6, .inl f11)), (a12, .inl (nz_cI g, 5, .inl f12)), (a13, .inl (nz_cI g, 5, .inl f13)), (a14, .inl (nz_cI g, 5, .inl f14)), (a15, .inl (nz_cI g, 5, .inl f15)), (a16, .inl (nz_cI g, 48, .inl f16))] (fun r (u : Unit) => K r) (fun u => [(o, .inr (5, [.int r0, .int r1, .int r2, .int r3, .int r4, .int r5, .int r6, .int r7, .int r8, .ref a9, .ref a10, .ref a11, .ref a12, .ref a13, .ref a14, .ref a15, .ref a16])), (a9, .inl (nz_cI g, 6, .inl f9)), (a10, .inl (nz_cI g, 6, .inl f10)), (a11, .inl (nz_cI g, 6, .inl f11)), (a12, .inl (nz_cI g, 5, .inl f12)), (a13, .inl (nz_cI g, 5, .inl f13)), (a14, .inl (nz_cI g, 5, .inl f14)), (a15, .inl (nz_cI g, 5, .inl f15)), (a16, .inl (nz_cI g, 48, .inl f16))])) av isC) (h : wp_X2_meanInMillionths r3 r4 v1 v2 K) (ws' : va_W) (hm : nz_mrg ws isC [(o, .inr (5, [.int r0, .int r1, .int r2, .int r3, .int r4, .int r5, .int r6, .int r7, .int r8, .ref a9, .ref a10, .ref a11, .ref a12, .ref a13, .ref a14, .ref a15, .ref a16])), (a9, .inl (nz_cI g, 6, .inl f9)), (a10, .inl (nz_cI g, 6, .inl f10)), (a11, .inl (nz_cI g, 6, .inl f11)), (a12, .inl (nz_cI g, 5, .inl f12)), (a13, .inl (nz_cI g, 5, .inl f13)), (a14, .inl (nz_cI g, 5, .inl f14)), (a15, .inl (nz_cI g, 5, .inl f15)), (a16, .inl (nz_cI g, 48, .inl f16))] = ws' ) (kk : ∀ (r : Int32), K r → nz_V y g k n ws' (pc + 3) ls (.int r :: rest)) : nz_V y g k n ws pc ls st :=
  nz_ci (ws' := fun _ => ws') (run (c_X2_meanInMillionths (yz_l y) g o a9 a10 a11 a12 a13 a14 a15 a16 r0 r1 r2 r3 r4 r5 r6 r7 r8 f9 f10 f11 f12 f13 f14 f15 f16 v1 v2 K h)) (fun _ => rfl) (fun _ => hm) (fun r u h => kk r h)
theorem dX2_bestDare_0 : decode cX2_bestDare 0 = .ok (.iconst 0, 1) := by decide +kernel
theorem dX2_bestDare_1 : decode cX2_bestDare 1 = .ok (.istore_n 2, 1) := by decide +kernel
theorem dX2_bestDare_2 : decode cX2_bestDare 2 = .ok (.iconst 0, 1) := by decide +kernel
theorem dX2_bestDare_3 : decode cX2_bestDare 3 = .ok (.istore_n 3, 1) := by decide +kernel
theorem dX2_bestDare_4 : decode cX2_bestDare 4 = .ok (.iconst 1, 1) := by decide +kernel
theorem dX2_bestDare_5 : decode cX2_bestDare 5 = .ok (.istore 4, 2) := by decide +kernel
theorem dX2_bestDare_7 : decode cX2_bestDare 7 = .ok (.iload 4, 2) := by decide +kernel
theorem dX2_bestDare_9 : decode cX2_bestDare 9 = .ok (.iconst 3, 1) := by decide +kernel
theorem dX2_bestDare_10 : decode cX2_bestDare 10 = .ok (.if_icmp .gt 30, 3) := by decide +kernel
theorem dX2_bestDare_13 : decode cX2_bestDare 13 = .ok (.aload_n 0, 1) := by decide +kernel
theorem dX2_bestDare_14 : decode cX2_bestDare 14 = .ok (.iload_n 1, 1) := by decide +kernel
theorem dX2_bestDare_15 : decode cX2_bestDare 15 = .ok (.iload 4, 2) := by decide +kernel
theorem dX2_bestDare_17 : decode cX2_bestDare 17 = .ok (.invokestatic 75, 3) := by decide +kernel
theorem dX2_bestDare_20 : decode cX2_bestDare 20 = .ok (.istore 5, 2) := by decide +kernel
theorem dX2_bestDare_22 : decode cX2_bestDare 22 = .ok (.iload 5, 2) := by decide +kernel
theorem dX2_bestDare_24 : decode cX2_bestDare 24 = .ok (.iload_n 3, 1) := by decide +kernel
theorem dX2_bestDare_25 : decode cX2_bestDare 25 = .ok (.if_icmp .le 9, 3) := by decide +kernel
theorem dX2_bestDare_28 : decode cX2_bestDare 28 = .ok (.iload 5, 2) := by decide +kernel
theorem dX2_bestDare_30 : decode cX2_bestDare 30 = .ok (.istore_n 3, 1) := by decide +kernel
theorem dX2_bestDare_31 : decode cX2_bestDare 31 = .ok (.iload 4, 2) := by decide +kernel
theorem dX2_bestDare_33 : decode cX2_bestDare 33 = .ok (.istore_n 2, 1) := by decide +kernel
theorem dX2_bestDare_34 : decode cX2_bestDare 34 = .ok (.iinc 4 1, 3) := by decide +kernel
theorem dX2_bestDare_37 : decode cX2_bestDare 37 = .ok (.goto (-30), 3) := by decide +kernel
theorem dX2_bestDare_40 : decode cX2_bestDare 40 = .ok (.iload_n 2, 1) := by decide +kernel
theorem dX2_bestDare_41 : decode cX2_bestDare 41 = .ok (.ireturn, 1) := by decide +kernel
set_option maxRecDepth 20000 in
theorem ggX2_bestDare_X2_meanInMillionths : GoodIn wsX2_bestDare wsX2_meanInMillionths := goodIn_r _ [4, 5, 6, 7, 8, 9, 10, 11, 12, 13, 14, 15, 16, 17, 18, 19, 20, 21, 22] rfl (by decide +kernel)
set_option maxRecDepth 20000 in
theorem gX2_bestDare_X2_meanInMillionths : GoodIn wsX2_bestDare (va_wsS RX2 75 yX2_meanInMillionths wsX2_meanInMillionths) := goodIn_app (goodIn_r _ [1, 2, 3] rfl (by decide +kernel)) ggX2_bestDare_X2_meanInMillionths
theorem hd_X2_meanInMillionths : yX2_meanInMillionths.cls = RX2 ∧ yX2_meanInMillionths.cls ≠ "java/lang/invoke/MethodHandle" ∧ yX2_meanInMillionths.cls ≠ "java/lang/invoke/VarHandle" ∧ (parseMethodDescriptor yX2_meanInMillionths.desc).map (fun d => d.parameters.length) = some 3 := by decide +kernel
/-! X2_bestDare -/
abbrev rm_X2_bestDare : Room := { frames := 1, cells := 0, slots := 0, locals := 24 }
def S_X2_bestDare_7 (r3 : Int32) (r4 : Int32) (v1 : Int32) (K : Int32 → Prop) (R7 : Int32 → Int32 → Int32 → Prop) (x2 : Int32) (x3 : Int32) (x4 : Int32) : Prop := ((3 < x4 → K x2) ∧ (¬ (3 < x4) → wp_X2_meanInMillionths r3 r4 v1 x4 (fun q2 => ((q2 ≤ x3 → R7 x2 x3 (x4 + 1)) ∧ (¬ (q2 ≤ x3) → R7 x4 q2 (x4 + 1))))))
set_option maxHeartbeats 4000000 in
set_option maxRecDepth 100000 in
theorem t_X2_bestDare_7 {y : nz_Y} {g : nz_G} (F : nz_F y g cX2_bestDare 6 wsX2_bestDare RX2 (some .int) rm_X2_bestDare) {wc0 : va_W} {sz : Nat} {K : Int32 → Prop} (o : Nat) (a9 : Nat) (a10 : Nat) (a11 : Nat) (a12 : Nat) (a13 : Nat) (a14 : Nat) (a15 : Nat) (a16 : Nat) (r0 : Int32) (r1 : Int32) (r2 : Int32) (r3 : Int32) (r4 : Int32) (r5 : Int32) (r6 : Int32) (r7 : Int32) (r8 : Int32) (f9 : Nat → Int32) (f10 : Nat → Int32) (f11 : Nat → Int32) (f12 : Nat → Int32) (f13 : Nat → Int32) (f14 : Nat → Int32) (f15 : Nat → Int32) (f16 : Nat → Int32) (v1 : Int32) (hQ : yz_A y = va_A wc0 sz ∧ yz_Q y = MQ (yz_b y) ((nz_Qi g wc0 (fun r (u : Unit) => K r) (fun u => [(o, .inr (5, [.int r0, .int r1, .int r2, .int r3, .int r4, .int r5, .int r6, .int r7, .int r8, .ref a9, .ref a10, .ref a11, .ref a12, .ref a13, .ref a14, .ref a15, .ref a16])), (a9, .inl (nz_cI g, 6, .inl f9)), (a10, .inl (nz_cI g, 6, .inl f10)), (a11, .inl (nz_cI g, 6, .inl f11)), (a12, .inl (nz_cI g, 5, .inl f12)), (a13, .inl (nz_cI g, 5, .inl f13)), (a14, .inl (nz_cI g, 5, .inl f14)), (a15, .inl (nz_cI g, 5, .inl f15)), (a16, .inl (nz_cI g, 48, .inl f16))])) sz) (yz_a y) (yz_s y) 0 0 (va_A wc0 sz)) : ∀ (n1 : Nat) (x2 : Int32) (x3 : Int32) (x4 : Int32), nz_it (fun _ _ _ => False) (S_X2_bestDare_7 r3 r4 v1 K) n1 x2 x3 x4 → nz_V y g 0 0 [(o, .inr (5, [.int r0, .int r1, .int r2, .int r3, .int r4, .int r5, .int r6, .int r7, .int r8, .ref a9, .ref a10, .ref a11, .ref a12, .ref a13, .ref a14, .ref a15, .ref a16])), (a9, .inl (nz_cI g, 6, .inl f9)), (a10, .inl (nz_cI g, 6, .inl f10)), (a11, .inl (nz_cI g, 6, .inl f11)), (a12, .inl (nz_cI g, 5, .inl f12)), (a13, .inl (nz_cI g, 5, .inl f13)), (a14, .inl (nz_cI g, 5, .inl f14)), (a15, .inl (nz_cI g, 5, .inl f15)), (a16, .inl (nz_cI g, 48, .inl f16))] 7 [(0, .ref o), (1, .int v1), (2, .int x2), (3, .int x3), (4, .int x4)] [] := by
  intro n1
  induction n1 with
  | zero =>
    intro x2 x3 x4 h
    exact h.elim
  | succ n1 hR7 =>
    intro x2 x3 x4 h
    have h : S_X2_bestDare_7 r3 r4 v1 K (nz_it (fun _ _ _ => False) (S_X2_bestDare_7 r3 r4 v1 K) n1) x2 x3 x4 := h
    unfold S_X2_bestDare_7 at h
    refine nz_iload F dX2_bestDare_7 4 rfl ?_
    refine nz_iconst (v := 3) F dX2_bestDare_9 (by decide) ?_
    refine nz_icmp_gt (tgt := 40) F dX2_bestDare_10 (by decide) (fun c1 => ?_) (fun c1 => ?_)
    · have h := h.1 c1
      refine nz_iload_n F dX2_bestDare_40 rfl 2 rfl ?_
      exact nz_iret F hQ () h rfl dX2_bestDare_41
    · have h := h.2 c1
      refine nz_aload_n F dX2_bestDare_13 rfl 0 rfl ?_
      refine nz_iload_n F dX2_bestDare_14 rfl 1 rfl ?_
      refine nz_iload F dX2_bestDare_15 4 rfl ?_
      refine k_X2_meanInMillionths o a9 a10 a11 a12 a13 a14 a15 a16 r0 r1 r2 r3 r4 r5 r6 r7 r8 f9 f10 f11 f12 f13 f14 f15 f16 v1 x4 (fun hM => nz_runS F gX2_bestDare_X2_meanInMillionths rfl hd_X2_meanInMillionths.2 rfl hM dX2_bestDare_17 [0, 1, 2, 3, 4, 5, 6, 7, 8] rfl rfl rfl (Nat.le_of_ble_eq_true rfl) rfl) h ([(o, .inr (5, [.int r0, .int r1, .int r2, .int r3, .int r4, .int r5, .int r6, .int r7, .int r8, .ref a9, .ref a10, .ref a11, .ref a12, .ref a13, .ref a14, .ref a15, .ref a16])), (a9, .inl (nz_cI g, 6, .inl f9)), (a10, .inl (nz_cI g, 6, .inl f10)), (a11, .inl (nz_cI g, 6, .inl f11)), (a12, .inl (nz_cI g, 5, .inl f12)), (a13, .inl (nz_cI g, 5, .inl f13)), (a14, .inl (nz_cI g, 5, .inl f14)), (a15, .inl (nz_cI g, 5, .inl f15)), (a16, .inl (nz_cI g, 48, .inl f16))]) (rfl) (fun q2 h => ?_)
      refine nz_istore (lv' := [(5, .int q2), (0, .ref o), (1, .int v1), (2, .int x2), (3, .int x3), (4, .int x4)]) F dX2_bestDare_20 (by decide) rfl ?_
      refine nz_iload F dX2_bestDare_22 0 rfl ?_
      refine nz_iload_n F dX2_bestDare_24 rfl 4 rfl ?_
      refine nz_icmp_le (tgt := 34) F dX2_bestDare_25 (by decide) (fun c3 => ?_) (fun c3 => ?_)
      · have h := h.1 c3
        refine nz_iinc (v := (x4 + 1)) (j := 5) (lv' := [(4, .int (x4 + 1)), (5, .int q2), (0, .ref o), (1, .int v1), (2, .int x2), (3, .int x3)]) F dX2_bestDare_34 rfl rfl (by decide) rfl ?_
        refine nz_goto (tgt := 7) F dX2_bestDare_37 (by decide) ?_
        refine nz_ls (lv' := [(0, .ref o), (1, .int v1), (2, .int x2), (3, .int x3), (4, .int (x4 + 1))]) [2, 3, 4, 5, 0] rfl ?_
        exact hR7 x2 x3 (x4 + 1) h
      · have h := h.2 c3
        refine nz_iload F dX2_bestDare_28 0 rfl ?_
        refine nz_istore_n (lv' := [(3, .int q2), (5, .int q2), (0, .ref o), (1, .int v1), (2, .int x2), (4, .int x4)]) F dX2_bestDare_30 rfl (by decide) rfl ?_
        refine nz_iload F dX2_bestDare_31 5 rfl ?_
        refine nz_istore_n (lv' := [(2, .int x4), (3, .int q2), (5, .int q2), (0, .ref o), (1, .int v1), (4, .int x4)]) F dX2_bestDare_33 rfl (by decide) rfl ?_
        refine nz_iinc (v := (x4 + 1)) (j := 5) (lv' := [(4, .int (x4 + 1)), (2, .int x4), (3, .int q2), (5, .int q2), (0, .ref o), (1, .int v1)]) F dX2_bestDare_34 rfl rfl (by decide) rfl ?_
        refine nz_goto (tgt := 7) F dX2_bestDare_37 (by decide) ?_
        refine nz_ls (lv' := [(0, .ref o), (1, .int v1), (2, .int x4), (3, .int q2), (4, .int (x4 + 1))]) [4, 5, 1, 2, 0] rfl ?_
        exact hR7 x4 q2 (x4 + 1) h
def wp_X2_bestDare (r3 : Int32) (r4 : Int32) (v1 : Int32) (K : Int32 → Prop) : Prop := (∃ n, nz_it (fun _ _ _ => False) (S_X2_bestDare_7 r3 r4 v1 K) n 0 0 1)
set_option maxHeartbeats 4000000 in
set_option maxRecDepth 100000 in
theorem c_X2_bestDare (l : Launch) (g : nz_G) (o : Nat) (a9 : Nat) (a10 : Nat) (a11 : Nat) (a12 : Nat) (a13 : Nat) (a14 : Nat) (a15 : Nat) (a16 : Nat) (r0 : Int32) (r1 : Int32) (r2 : Int32) (r3 : Int32) (r4 : Int32) (r5 : Int32) (r6 : Int32) (r7 : Int32) (r8 : Int32) (f9 : Nat → Int32) (f10 : Nat → Int32) (f11 : Nat → Int32) (f12 : Nat → Int32) (f13 : Nat → Int32) (f14 : Nat → Int32) (f15 : Nat → Int32) (f16 : Nat → Int32) (v1 : Int32) (K : Int32 → Prop) (h : wp_X2_bestDare r3 r4 v1 K) : nz_M l yX2_bestDare wsX2_bestDare rm_X2_bestDare g [.ref o, .int v1] [(o, .inr (5, [.int r0, .int r1, .int r2, .int r3, .int r4, .int r5, .int r6, .int r7, .int r8, .ref a9, .ref a10, .ref a11, .ref a12, .ref a13, .ref a14, .ref a15, .ref a16])), (a9, .inl (nz_cI g, 6, .inl f9)), (a10, .inl (nz_cI g, 6, .inl f10)), (a11, .inl (nz_cI g, 6, .inl f11)), (a12, .inl (nz_cI g, 5, .inl f12)), (a13, .inl (nz_cI g, 5, .inl f13)), (a14, .inl (nz_cI g, 5, .inl f14)), (a15, .inl (nz_cI g, 5, .inl f15)), (a16, .inl (nz_cI g, 48, .inl f16))] (nz_Qi g [(o, .inr (5, [.int r0, .int r1, .int r2, .int r3, .int r4, .int r5, .int r6, .int r7, .int r8, .ref a9, .ref a10, .ref a11, .ref a12, .ref a13, .ref a14, .ref a15, .ref a16])), (a9, .inl (nz_cI g, 6, .inl f9)), (a10, .inl (nz_cI g, 6, .inl f10)), (a11, .inl (nz_cI g, 6, .inl f11)), (a12, .inl (nz_cI g, 5, .inl f12)), (a13, .inl (nz_cI g, 5, .inl f13)), (a14, .inl (nz_cI g, 5, .inl f14)), (a15, .inl (nz_cI g, 5, .inl f15)), (a16, .inl (nz_cI g, 48, .inl f16))] (fun r (u : Unit) => K r) (fun u => [(o, .inr (5, [.int r0, .int r1, .int r2, .int r3, .int r4, .int r5, .int r6, .int r7, .int r8, .ref a9, .ref a10, .ref a11, .ref a12, .ref a13, .ref a14, .ref a15, .ref a16])), (a9, .inl (nz_cI g, 6, .inl f9)), (a10, .inl (nz_cI g, 6, .inl f10)), (a11, .inl (nz_cI g, 6, .inl f11)), (a12, .inl (nz_cI g, 5, .inl f12)), (a13, .inl (nz_cI g, 5, .inl f13)), (a14, .inl (nz_cI g, 5, .inl f14)), (a15, .inl (nz_cI g, 5, .inl f15)), (a16, .inl (nz_cI g, 48, .inl f16))])) := by
  refine nz_M.of (bytes := cX2_bestDare) (nL := 6) (ret := (some .int)) (own := RX2) (by decide) rfl rfl ⟨rfl, rfl⟩ rfl ?_
  intro y F hl hQ
  obtain ⟨sz, hQ⟩ := hQ
  refine nz_ent (lv' := [(0, .ref o), (1, .int v1)]) rfl ?_
  unfold wp_X2_bestDare at h
  refine nz_iconst (v := 0) F dX2_bestDare_0 (by decide) ?_
  refine nz_istore_n (lv' := [(2, .int 0), (0, .ref o), (1, .int v1)]) F dX2_bestDare_1 rfl (by decide) rfl ?_
  refine nz_iconst (v := 0) F dX2_bestDare_2 (by decide) ?_
  refine nz_istore_n (lv' := [(3, .int 0), (2, .int 0), (0, .ref o), (1, .int v1)]) F dX2_bestDare_3 rfl (by decide) rfl ?_
  refine nz_iconst (v := 1) F dX2_bestDare_4 (by decide) ?_
  refine nz_istore (lv' := [(4, .int 1), (3, .int 0), (2, .int 0), (0, .ref o), (1, .int v1)]) F dX2_bestDare_5 (by decide) rfl ?_
  refine nz_ls (lv' := [(0, .ref o), (1, .int v1), (2, .int 0), (3, .int 0), (4, .int 1)]) [3, 4, 2, 1, 0] rfl ?_
  obtain ⟨n1, h⟩ := h
  exact t_X2_bestDare_7 F o a9 a10 a11 a12 a13 a14 a15 a16 r0 r1 r2 r3 r4 r5 r6 r7 r8 f9 f10 f11 f12 f13 f14 f15 f16 v1 hQ n1 0 0 1 h
theorem k_X2_bestDare {y : nz_Y} {g : nz_G} {k n : Nat} {ws : va_W} {pc : Nat} {ls : List (Nat × Value)} {st rest : List Value} {av : Array Value} {isC : List Nat} {K : Int32 → Prop} (o : Nat) (a9 : Nat) (a10 : Nat) (a11 : Nat) (a12 : Nat) (a13 : Nat) (a14 : Nat) (a15 : Nat) (a16 : Nat) (r0 : Int32) (r1 : Int32) (r2 : Int32) (r3 : Int32) (r4 : Int32) (r5 : Int32) (r6 : Int32) (r7 : Int32) (r8 : Int32) (f9 : Nat → Int32) (f10 : Nat → Int32) (f11 : Nat → Int32) (f12 : Nat → Int32) (f13 : Nat → Int32) (f14 : Nat → Int32) (f15 : Nat → Int32) (f16 : Nat → Int32) (v1 : Int32) (run : nz_M (yz_l y) yX2_bestDare wsX2_bestDare rm_X2_bestDare g [.ref o, .int v1] [(o, .inr (5, [.int r0, .int r1, .int r2, .int r3, .int r4, .int r5, .int r6, .int r7, .int r8, .ref a9, .ref a10, .ref a11, .ref a12, .ref a13, .ref a14, .ref a15, .ref a16])), (a9, .inl (nz_cI g, 6, .inl f9)), (a10, .inl (nz_cI g, 6, .inl f10)), (a11, .inl (nz_cI g, 6, .inl f11)), (a12, .inl (nz_cI g, 5, .inl f12)), (a13, .inl (nz_cI g, 5, .inl f13)), (a14, .inl (nz_cI g, 5, .inl f14)), (a15, .inl (nz_cI g, 5, .inl f15)), (a16, .inl (nz_cI g, 48, .inl f16))] (nz_Qi g [(o, .inr (5, [.int r0, .int r1, .int r2, .int r3, .int r4, .int r5, .int r6, .int r7, .int r8, .ref a9, .ref a10, .ref a11, .ref a12, .ref a13, .ref a14, .ref a15, .ref a16])), (a9, .inl (nz_cI g, 6, .inl f9)), (a10, .inl (nz_cI g, 6, .inl f10)), (a11, .inl (nz_cI g, 6, .inl f11)), (a12, .inl (nz_cI g, 5, .inl f12)), (a13, .inl (nz_cI g, 5, .inl f13)), (a14, .inl (nz_cI g, 5, .inl f14)), (a15, .inl (nz_cI g, 5, .inl f15)), (a16, .inl (nz_cI g, 48, .inl f16))] (fun r (u : Unit) => K r) (fun u => [(o, .inr (5, [.int r0, .int r1, .int r2, .int r3, .int r4, .int r5, .int r6, .int r7, .int r8, .ref a9, .ref a10, .ref a11, .ref a12, .ref a13, .ref a14, .ref a15, .ref a16])), (a9, .inl (nz_cI g, 6, .inl f9)), (a10, .inl (nz_cI g, 6, .inl f10)), (a11, .inl (nz_cI g, 6, .inl f11)), (a12, .inl (nz_cI g, 5, .inl f12)), (a13, .inl (nz_cI g, 5, .inl f13)), (a14, .inl (nz_cI g, 5, .inl f14)), (a15, .inl (nz_cI g, 5, .inl f15)), (a16, .inl (nz_cI g, 48, .inl f16))])) → nz_C y g k n ws pc ls st rest [(o, .inr (5, [.int r0, .int r1, .int r2, .int r3, .int r4, .int r5, .int r6, .int r7, .int r8, .ref a9, .ref a10, .ref a11, .ref a12, .ref a13, .ref a14, .ref a15, .ref a16])), (a9, .inl (nz_cI g, 6, .inl f9)), (a10, .inl (nz_cI g, 6, .inl f10)), (a11, .inl (nz_cI g, 6, .inl f11)), (a12, .inl (nz_cI g, 5, .inl f12)), (a13, .inl (nz_cI g, 5, .inl f13)), (a14, .inl (nz_cI g, 5, .inl f14)), (a15, .inl (nz_cI g, 5, .inl f15)), (a16, .inl (nz_cI g, 48, .inl f16))] (nz_Qi g [(o, .inr (5, [.int r0, .int r1, .int r2, .int r3, .int r4, .int r5, .int r6, .int r7, .int r8, .ref a9, .ref a10, .ref a11, .ref a12, .ref a13, .ref a14, .ref a15, .ref a16])), (a9, .inl (nz_cI g, 6, .inl f9)), (a10, .inl (nz_cI g, 6, .inl f10)), (a11, .inl (nz_cI g, 6, .inl f11)), (a12, .inl (nz_cI g, 5, .inl f12)), (a13, .inl (nz_cI g, 5, .inl f13)), (a14, .inl (nz_cI g, 5, .inl f14)), (a15, .inl (nz_cI g, 5, .inl f15)), (a16, .inl (nz_cI g, 48, .inl f16))] (fun r (u : Unit) => K r) (fun u => [(o, .inr (5, [.int r0, .int r1, .int r2, .int r3, .int r4, .int r5, .int r6, .int r7, .int r8, .ref a9, .ref a10, .ref a11, .ref a12, .ref a13, .ref a14, .ref a15, .ref a16])), (a9, .inl (nz_cI g, 6, .inl f9)), (a10, .inl (nz_cI g, 6, .inl f10)), (a11, .inl (nz_cI g, 6, .inl f11)), (a12, .inl (nz_cI g, 5, .inl f12)), (a13, .inl (nz_cI g, 5, .inl f13)), (a14, .inl (nz_cI g, 5, .inl f14)), (a15, .inl (nz_cI g, 5, .inl f15)), (a16, .inl (nz_cI g, 48, .inl f16))])) av isC) (h : wp_X2_bestDare r3 r4 v1 K) (ws' : va_W) (hm : nz_mrg ws isC [(o, .inr (5, [.int r0, .int r1, .int r2, .int r3, .int r4, .int r5, .int r6, .int r7, .int r8, .ref a9, .ref a10, .ref a11, .ref a12, .ref a13, .ref a14, .ref a15, .ref a16])), (a9, .inl (nz_cI g, 6, .inl f9)), (a10, .inl (nz_cI g, 6, .inl f10)), (a11, .inl (nz_cI g, 6, .inl f11)), (a12, .inl (nz_cI g, 5, .inl f12)), (a13, .inl (nz_cI g, 5, .inl f13)), (a14, .inl (nz_cI g, 5, .inl f14)), (a15, .inl (nz_cI g, 5, .inl f15)), (a16, .inl (nz_cI g, 48, .inl f16))] = ws' ) (kk : ∀ (r : Int32), K r → nz_V y g k n ws' (pc + 3) ls (.int r :: rest)) : nz_V y g k n ws pc ls st :=
  nz_ci (ws' := fun _ => ws') (run (c_X2_bestDare (yz_l y) g o a9 a10 a11 a12 a13 a14 a15 a16 r0 r1 r2 r3 r4 r5 r6 r7 r8 f9 f10 f11 f12 f13 f14 f15 f16 v1 K h)) (fun _ => rfl) (fun _ => hm) (fun r u h => kk r h)
theorem dX2_fairFee_0 : decode cX2_fairFee 0 = .ok (.bipush 20, 2) := by decide +kernel
theorem dX2_fairFee_2 : decode cX2_fairFee 2 = .ok (.istore_n 1, 1) := by decide +kernel
theorem dX2_fairFee_3 : decode cX2_fairFee 3 = .ok (.iload_n 1, 1) := by decide +kernel
theorem dX2_fairFee_4 : decode cX2_fairFee 4 = .ok (.ifCond .le 19, 3) := by decide +kernel
theorem dX2_fairFee_7 : decode cX2_fairFee 7 = .ok (.aload_n 0, 1) := by decide +kernel
theorem dX2_fairFee_8 : decode cX2_fairFee 8 = .ok (.iload_n 1, 1) := by decide +kernel
theorem dX2_fairFee_9 : decode cX2_fairFee 9 = .ok (.invokestatic 79, 3) := by decide +kernel
theorem dX2_fairFee_12 : decode cX2_fairFee 12 = .ok (.ifCond .ne 5, 3) := by decide +kernel
theorem dX2_fairFee_15 : decode cX2_fairFee 15 = .ok (.iload_n 1, 1) := by decide +kernel
theorem dX2_fairFee_16 : decode cX2_fairFee 16 = .ok (.ireturn, 1) := by decide +kernel
theorem dX2_fairFee_17 : decode cX2_fairFee 17 = .ok (.iinc 1 (-1), 3) := by decide +kernel
theorem dX2_fairFee_20 : decode cX2_fairFee 20 = .ok (.goto (-17), 3) := by decide +kernel
theorem dX2_fairFee_23 : decode cX2_fairFee 23 = .ok (.iconst 0, 1) := by decide +kernel
theorem dX2_fairFee_24 : decode cX2_fairFee 24 = .ok (.ireturn, 1) := by decide +kernel
set_option maxRecDepth 20000 in
theorem ggX2_fairFee_X2_bestDare : GoodIn wsX2_fairFee wsX2_bestDare := goodIn_r _ [4, 5, 6, 3, 7, 8, 9, 10, 11, 12, 13, 14, 15, 16, 17, 18, 19, 20, 21, 22, 23, 24, 25] rfl (by decide +kernel)
set_option maxRecDepth 20000 in
theorem gX2_fairFee_X2_bestDare : GoodIn wsX2_fairFee (va_wsS RX2 79 yX2_bestDare wsX2_bestDare) := goodIn_app (goodIn_r _ [1, 2, 3] rfl (by decide +kernel)) ggX2_fairFee_X2_bestDare
theorem hd_X2_bestDare : yX2_bestDare.cls = RX2 ∧ yX2_bestDare.cls ≠ "java/lang/invoke/MethodHandle" ∧ yX2_bestDare.cls ≠ "java/lang/invoke/VarHandle" ∧ (parseMethodDescriptor yX2_bestDare.desc).map (fun d => d.parameters.length) = some 2 := by decide +kernel
/-! X2_fairFee -/
abbrev rm_X2_fairFee : Room := { frames := 2, cells := 0, slots := 0, locals := 49 }
def S_X2_fairFee_3 (r3 : Int32) (r4 : Int32) (K : Int32 → Prop) (R3 : Int32 → Prop) (x1 : Int32) : Prop := ((x1 ≤ 0 → K 0) ∧ (¬ (x1 ≤ 0) → wp_X2_bestDare r3 r4 x1 (fun q2 => ((¬ q2 = 0 → R3 (x1 + (-1 : Int32))) ∧ (q2 = 0 → K x1)))))
set_option maxHeartbeats 4000000 in
set_option maxRecDepth 100000 in
theorem t_X2_fairFee_3 {y : nz_Y} {g : nz_G} (F : nz_F y g cX2_fairFee 2 wsX2_fairFee RX2 (some .int) rm_X2_fairFee) {wc0 : va_W} {sz : Nat} {K : Int32 → Prop} (o : Nat) (a9 : Nat) (a10 : Nat) (a11 : Nat) (a12 : Nat) (a13 : Nat) (a14 : Nat) (a15 : Nat) (a16 : Nat) (r0 : Int32) (r1 : Int32) (r2 : Int32) (r3 : Int32) (r4 : Int32) (r5 : Int32) (r6 : Int32) (r7 : Int32) (r8 : Int32) (f9 : Nat → Int32) (f10 : Nat → Int32) (f11 : Nat → Int32) (f12 : Nat → Int32) (f13 : Nat → Int32) (f14 : Nat → Int32) (f15 : Nat → Int32) (f16 : Nat → Int32) (hQ : yz_A y = va_A wc0 sz ∧ yz_Q y = MQ (yz_b y) ((nz_Qi g wc0 (fun r (u : Unit) => K r) (fun u => [(o, .inr (5, [.int r0, .int r1, .int r2, .int r3, .int r4, .int r5, .int r6, .int r7, .int r8, .ref a9, .ref a10, .ref a11, .ref a12, .ref a13, .ref a14, .ref a15, .ref a16])), (a9, .inl (nz_cI g, 6, .inl f9)), (a10, .inl (nz_cI g, 6, .inl f10)), (a11, .inl (nz_cI g, 6, .inl f11)), (a12, .inl (nz_cI g, 5, .inl f12)), (a13, .inl (nz_cI g, 5, .inl f13)), (a14, .inl (nz_cI g, 5, .inl f14)), (a15, .inl (nz_cI g, 5, .inl f15)), (a16, .inl (nz_cI g, 48, .inl f16))])) sz) (yz_a y) (yz_s y) 0 0 (va_A wc0 sz)) : ∀ (n1 : Nat) (x1 : Int32), nz_it (fun _ => False) (S_X2_fairFee_3 r3 r4 K) n1 x1 → nz_V y g 0 0 [(o, .inr (5, [.int r0, .int r1, .int r2, .int r3, .int r4, .int r5, .int r6, .int r7, .int r8, .ref a9, .ref a10, .ref a11, .ref a12, .ref a13, .ref a14, .ref a15, .ref a16])), (a9, .inl (nz_cI g, 6, .inl f9)), (a10, .inl (nz_cI g, 6, .inl f10)), (a11, .inl (nz_cI g, 6, .inl f11)), (a12, .inl (nz_cI g, 5, .inl f12)), (a13, .inl (nz_cI g, 5, .inl f13)), (a14, .inl (nz_cI g, 5, .inl f14)), (a15, .inl (nz_cI g, 5, .inl f15)), (a16, .inl (nz_cI g, 48, .inl f16))] 3 [(0, .ref o), (1, .int x1)] [] := by
  intro n1
  induction n1 with
  | zero =>
    intro x1 h
    exact h.elim
  | succ n1 hR3 =>
    intro x1 h
    have h : S_X2_fairFee_3 r3 r4 K (nz_it (fun _ => False) (S_X2_fairFee_3 r3 r4 K) n1) x1 := h
    unfold S_X2_fairFee_3 at h
    refine nz_iload_n F dX2_fairFee_3 rfl 1 rfl ?_
    refine nz_if_le (tgt := 23) F dX2_fairFee_4 (by decide) (fun c1 => ?_) (fun c1 => ?_)
    · have h := h.1 c1
      refine nz_iconst (v := 0) F dX2_fairFee_23 (by decide) ?_
      exact nz_iret F hQ () h rfl dX2_fairFee_24
    · have h := h.2 c1
      refine nz_aload_n F dX2_fairFee_7 rfl 0 rfl ?_
      refine nz_iload_n F dX2_fairFee_8 rfl 1 rfl ?_
      refine k_X2_bestDare o a9 a10 a11 a12 a13 a14 a15 a16 r0 r1 r2 r3 r4 r5 r6 r7 r8 f9 f10 f11 f12 f13 f14 f15 f16 x1 (fun hM => nz_runS F gX2_fairFee_X2_bestDare rfl hd_X2_bestDare.2 rfl hM dX2_fairFee_9 [0, 1, 2, 3, 4, 5, 6, 7, 8] rfl rfl rfl (Nat.le_of_ble_eq_true rfl) rfl) h ([(o, .inr (5, [.int r0, .int r1, .int r2, .int r3, .int r4, .int r5, .int r6, .int r7, .int r8, .ref a9, .ref a10, .ref a11, .ref a12, .ref a13, .ref a14, .ref a15, .ref a16])), (a9, .inl (nz_cI g, 6, .inl f9)), (a10, .inl (nz_cI g, 6, .inl f10)), (a11, .inl (nz_cI g, 6, .inl f11)), (a12, .inl (nz_cI g, 5, .inl f12)), (a13, .inl (nz_cI g, 5, .inl f13)), (a14, .inl (nz_cI g, 5, .inl f14)), (a15, .inl (nz_cI g, 5, .inl f15)), (a16, .inl (nz_cI g, 48, .inl f16))]) (rfl) (fun q2 h => ?_)
      refine nz_if_ne (tgt := 17) F dX2_fairFee_12 (by decide) (fun c3 => ?_) (fun c3 => ?_)
      · have h := h.1 c3
        refine nz_iinc (v := (x1 + (-1 : Int32))) (j := 1) (lv' := [(1, .int (x1 + (-1 : Int32))), (0, .ref o)]) F dX2_fairFee_17 rfl rfl (by decide) rfl ?_
        refine nz_goto (tgt := 3) F dX2_fairFee_20 (by decide) ?_
        refine nz_ls (lv' := [(0, .ref o), (1, .int (x1 + (-1 : Int32)))]) [1, 0] rfl ?_
        exact hR3 (x1 + (-1 : Int32)) h
      · have h := h.2 c3
        refine nz_iload_n F dX2_fairFee_15 rfl 1 rfl ?_
        exact nz_iret F hQ () h rfl dX2_fairFee_16
def wp_X2_fairFee (r3 : Int32) (r4 : Int32) (K : Int32 → Prop) : Prop := (∃ n, nz_it (fun _ => False) (S_X2_fairFee_3 r3 r4 K) n 20)
set_option maxHeartbeats 4000000 in
set_option maxRecDepth 100000 in
theorem c_X2_fairFee (l : Launch) (g : nz_G) (o : Nat) (a9 : Nat) (a10 : Nat) (a11 : Nat) (a12 : Nat) (a13 : Nat) (a14 : Nat) (a15 : Nat) (a16 : Nat) (r0 : Int32) (r1 : Int32) (r2 : Int32) (r3 : Int32) (r4 : Int32) (r5 : Int32) (r6 : Int32) (r7 : Int32) (r8 : Int32) (f9 : Nat → Int32) (f10 : Nat → Int32) (f11 : Nat → Int32) (f12 : Nat → Int32) (f13 : Nat → Int32) (f14 : Nat → Int32) (f15 : Nat → Int32) (f16 : Nat → Int32) (K : Int32 → Prop) (h : wp_X2_fairFee r3 r4 K) : nz_M l yX2_fairFee wsX2_fairFee rm_X2_fairFee g [.ref o] [(o, .inr (5, [.int r0, .int r1, .int r2, .int r3, .int r4, .int r5, .int r6, .int r7, .int r8, .ref a9, .ref a10, .ref a11, .ref a12, .ref a13, .ref a14, .ref a15, .ref a16])), (a9, .inl (nz_cI g, 6, .inl f9)), (a10, .inl (nz_cI g, 6, .inl f10)), (a11, .inl (nz_cI g, 6, .inl f11)), (a12, .inl (nz_cI g, 5, .inl f12)), (a13, .inl (nz_cI g, 5, .inl f13)), (a14, .inl (nz_cI g, 5, .inl f14)), (a15, .inl (nz_cI g, 5, .inl f15)), (a16, .inl (nz_cI g, 48, .inl f16))] (nz_Qi g [(o, .inr (5, [.int r0, .int r1, .int r2, .int r3, .int r4, .int r5, .int r6, .int r7, .int r8, .ref a9, .ref a10, .ref a11, .ref a12, .ref a13, .ref a14, .ref a15, .ref a16])), (a9, .inl (nz_cI g, 6, .inl f9)), (a10, .inl (nz_cI g, 6, .inl f10)), (a11, .inl (nz_cI g, 6, .inl f11)), (a12, .inl (nz_cI g, 5, .inl f12)), (a13, .inl (nz_cI g, 5, .inl f13)), (a14, .inl (nz_cI g, 5, .inl f14)), (a15, .inl (nz_cI g, 5, .inl f15)), (a16, .inl (nz_cI g, 48, .inl f16))] (fun r (u : Unit) => K r) (fun u => [(o, .inr (5, [.int r0, .int r1, .int r2, .int r3, .int r4, .int r5, .int r6, .int r7, .int r8, .ref a9, .ref a10, .ref a11, .ref a12, .ref a13, .ref a14, .ref a15, .ref a16])), (a9, .inl (nz_cI g, 6, .inl f9)), (a10, .inl (nz_cI g, 6, .inl f10)), (a11, .inl (nz_cI g, 6, .inl f11)), (a12, .inl (nz_cI g, 5, .inl f12)), (a13, .inl (nz_cI g, 5, .inl f13)), (a14, .inl (nz_cI g, 5, .inl f14)), (a15, .inl (nz_cI g, 5, .inl f15)), (a16, .inl (nz_cI g, 48, .inl f16))])) := by
  refine nz_M.of (bytes := cX2_fairFee) (nL := 2) (ret := (some .int)) (own := RX2) (by decide) rfl rfl ⟨rfl, rfl⟩ rfl ?_
  intro y F hl hQ
  obtain ⟨sz, hQ⟩ := hQ
  refine nz_ent (lv' := [(0, .ref o)]) rfl ?_
  unfold wp_X2_fairFee at h
  refine nz_bipush (v := 20) F dX2_fairFee_0 (by decide) ?_
  refine nz_istore_n (lv' := [(1, .int 20), (0, .ref o)]) F dX2_fairFee_2 rfl (by decide) rfl ?_
  refine nz_ls (lv' := [(0, .ref o), (1, .int 20)]) [1, 0] rfl ?_
  obtain ⟨n1, h⟩ := h
  exact t_X2_fairFee_3 F o a9 a10 a11 a12 a13 a14 a15 a16 r0 r1 r2 r3 r4 r5 r6 r7 r8 f9 f10 f11 f12 f13 f14 f15 f16 hQ n1 20 h
theorem k_X2_fairFee {y : nz_Y} {g : nz_G} {k n : Nat} {ws : va_W} {pc : Nat} {ls : List (Nat × Value)} {st rest : List Value} {av : Array Value} {isC : List Nat} {K : Int32 → Prop} (o : Nat) (a9 : Nat) (a10 : Nat) (a11 : Nat) (a12 : Nat) (a13 : Nat) (a14 : Nat) (a15 : Nat) (a16 : Nat) (r0 : Int32) (r1 : Int32) (r2 : Int32) (r3 : Int32) (r4 : Int32) (r5 : Int32) (r6 : Int32) (r7 : Int32) (r8 : Int32) (f9 : Nat → Int32) (f10 : Nat → Int32) (f11 : Nat → Int32) (f12 : Nat → Int32) (f13 : Nat → Int32) (f14 : Nat → Int32) (f15 : Nat → Int32) (f16 : Nat → Int32) (run : nz_M (yz_l y) yX2_fairFee wsX2_fairFee rm_X2_fairFee g [.ref o] [(o, .inr (5, [.int r0, .int r1, .int r2, .int r3, .int r4, .int r5, .int r6, .int r7, .int r8, .ref a9, .ref a10, .ref a11, .ref a12, .ref a13, .ref a14, .ref a15, .ref a16])), (a9, .inl (nz_cI g, 6, .inl f9)), (a10, .inl (nz_cI g, 6, .inl f10)), (a11, .inl (nz_cI g, 6, .inl f11)), (a12, .inl (nz_cI g, 5, .inl f12)), (a13, .inl (nz_cI g, 5, .inl f13)), (a14, .inl (nz_cI g, 5, .inl f14)), (a15, .inl (nz_cI g, 5, .inl f15)), (a16, .inl (nz_cI g, 48, .inl f16))] (nz_Qi g [(o, .inr (5, [.int r0, .int r1, .int r2, .int r3, .int r4, .int r5, .int r6, .int r7, .int r8, .ref a9, .ref a10, .ref a11, .ref a12, .ref a13, .ref a14, .ref a15, .ref a16])), (a9, .inl (nz_cI g, 6, .inl f9)), (a10, .inl (nz_cI g, 6, .inl f10)), (a11, .inl (nz_cI g, 6, .inl f11)), (a12, .inl (nz_cI g, 5, .inl f12)), (a13, .inl (nz_cI g, 5, .inl f13)), (a14, .inl (nz_cI g, 5, .inl f14)), (a15, .inl (nz_cI g, 5, .inl f15)), (a16, .inl (nz_cI g, 48, .inl f16))] (fun r (u : Unit) => K r) (fun u => [(o, .inr (5, [.int r0, .int r1, .int r2, .int r3, .int r4, .int r5, .int r6, .int r7, .int r8, .ref a9, .ref a10, .ref a11, .ref a12, .ref a13, .ref a14, .ref a15, .ref a16])), (a9, .inl (nz_cI g, 6, .inl f9)), (a10, .inl (nz_cI g, 6, .inl f10)), (a11, .inl (nz_cI g, 6, .inl f11)), (a12, .inl (nz_cI g, 5, .inl f12)), (a13, .inl (nz_cI g, 5, .inl f13)), (a14, .inl (nz_cI g, 5, .inl f14)), (a15, .inl (nz_cI g, 5, .inl f15)), (a16, .inl (nz_cI g, 48, .inl f16))])) → nz_C y g k n ws pc ls st rest [(o, .inr (5, [.int r0, .int r1, .int r2, .int r3, .int r4, .int r5, .int r6, .int r7, .int r8, .ref a9, .ref a10, .ref a11, .ref a12, .ref a13, .ref a14, .ref a15, .ref a16])), (a9, .inl (nz_cI g, 6, .inl f9)), (a10, .inl (nz_cI g, 6, .inl f10)), (a11, .inl (nz_cI g, 6, .inl f11)), (a12, .inl (nz_cI g, 5, .inl f12)), (a13, .inl (nz_cI g, 5, .inl f13)), (a14, .inl (nz_cI g, 5, .inl f14)), (a15, .inl (nz_cI g, 5, .inl f15)), (a16, .inl (nz_cI g, 48, .inl f16))] (nz_Qi g [(o, .inr (5, [.int r0, .int r1, .int r2, .int r3, .int r4, .int r5, .int r6, .int r7, .int r8, .ref a9, .ref a10, .ref a11, .ref a12, .ref a13, .ref a14, .ref a15, .ref a16])), (a9, .inl (nz_cI g, 6, .inl f9)), (a10, .inl (nz_cI g, 6, .inl f10)), (a11, .inl (nz_cI g, 6, .inl f11)), (a12, .inl (nz_cI g, 5, .inl f12)), (a13, .inl (nz_cI g, 5, .inl f13)), (a14, .inl (nz_cI g, 5, .inl f14)), (a15, .inl (nz_cI g, 5, .inl f15)), (a16, .inl (nz_cI g, 48, .inl f16))] (fun r (u : Unit) => K r) (fun u => [(o, .inr (5, [.int r0, .int r1, .int r2, .int r3, .int r4, .int r5, .int r6, .int r7, .int r8, .ref a9, .ref a10, .ref a11, .ref a12, .ref a13, .ref a14, .ref a15, .ref a16])), (a9, .inl (nz_cI g, 6, .inl f9)), (a10, .inl (nz_cI g, 6, .inl f10)), (a11, .inl (nz_cI g, 6, .inl f11)), (a12, .inl (nz_cI g, 5, .inl f12)), (a13, .inl (nz_cI g, 5, .inl f13)), (a14, .inl (nz_cI g, 5, .inl f14)), (a15, .inl (nz_cI g, 5, .inl f15)), (a16, .inl (nz_cI g, 48, .inl f16))])) av isC) (h : wp_X2_fairFee r3 r4 K) (ws' : va_W) (hm : nz_mrg ws isC [(o, .inr (5, [.int r0, .int r1, .int r2, .int r3, .int r4, .int r5, .int r6, .int r7, .int r8, .ref a9, .ref a10, .ref a11, .ref a12, .ref a13, .ref a14, .ref a15, .ref a16])), (a9, .inl (nz_cI g, 6, .inl f9)), (a10, .inl (nz_cI g, 6, .inl f10)), (a11, .inl (nz_cI g, 6, .inl f11)), (a12, .inl (nz_cI g, 5, .inl f12)), (a13, .inl (nz_cI g, 5, .inl f13)), (a14, .inl (nz_cI g, 5, .inl f14)), (a15, .inl (nz_cI g, 5, .inl f15)), (a16, .inl (nz_cI g, 48, .inl f16))] = ws' ) (kk : ∀ (r : Int32), K r → nz_V y g k n ws' (pc + 3) ls (.int r :: rest)) : nz_V y g k n ws pc ls st :=
  nz_ci (ws' := fun _ => ws') (run (c_X2_fairFee (yz_l y) g o a9 a10 a11 a12 a13 a14 a15 a16 r0 r1 r2 r3 r4 r5 r6 r7 r8 f9 f10 f11 f12 f13 f14 f15 f16 K h)) (fun _ => rfl) (fun _ => hm) (fun r u h => kk r h)
theorem dX2_sharedDivisor_0 : decode cX2_sharedDivisor 0 = .ok (.iload_n 0, 1) := by decide +kernel
theorem dX2_sharedDivisor_1 : decode cX2_sharedDivisor 1 = .ok (.istore_n 2, 1) := by decide +kernel
theorem dX2_sharedDivisor_2 : decode cX2_sharedDivisor 2 = .ok (.iload_n 1, 1) := by decide +kernel
theorem dX2_sharedDivisor_3 : decode cX2_sharedDivisor 3 = .ok (.istore_n 3, 1) := by decide +kernel
theorem dX2_sharedDivisor_4 : decode cX2_sharedDivisor 4 = .ok (.iconst 0, 1) := by decide +kernel
theorem dX2_sharedDivisor_5 : decode cX2_sharedDivisor 5 = .ok (.istore 4, 2) := by decide +kernel
theorem dX2_sharedDivisor_7 : decode cX2_sharedDivisor 7 = .ok (.iload 4, 2) := by decide +kernel
theorem dX2_sharedDivisor_9 : decode cX2_sharedDivisor 9 = .ok (.bipush 64, 2) := by decide +kernel
theorem dX2_sharedDivisor_11 : decode cX2_sharedDivisor 11 = .ok (.if_icmp .ge 23, 3) := by decide +kernel
theorem dX2_sharedDivisor_14 : decode cX2_sharedDivisor 14 = .ok (.iload_n 3, 1) := by decide +kernel
theorem dX2_sharedDivisor_15 : decode cX2_sharedDivisor 15 = .ok (.ifCond .eq 19, 3) := by decide +kernel
theorem dX2_sharedDivisor_18 : decode cX2_sharedDivisor 18 = .ok (.iload_n 2, 1) := by decide +kernel
theorem dX2_sharedDivisor_19 : decode cX2_sharedDivisor 19 = .ok (.iload_n 3, 1) := by decide +kernel
theorem dX2_sharedDivisor_20 : decode cX2_sharedDivisor 20 = .ok (.irem, 1) := by decide +kernel
theorem dX2_sharedDivisor_21 : decode cX2_sharedDivisor 21 = .ok (.istore 5, 2) := by decide +kernel
theorem dX2_sharedDivisor_23 : decode cX2_sharedDivisor 23 = .ok (.iload_n 3, 1) := by decide +kernel
theorem dX2_sharedDivisor_24 : decode cX2_sharedDivisor 24 = .ok (.istore_n 2, 1) := by decide +kernel
theorem dX2_sharedDivisor_25 : decode cX2_sharedDivisor 25 = .ok (.iload 5, 2) := by decide +kernel
theorem dX2_sharedDivisor_27 : decode cX2_sharedDivisor 27 = .ok (.istore_n 3, 1) := by decide +kernel
theorem dX2_sharedDivisor_28 : decode cX2_sharedDivisor 28 = .ok (.iinc 4 1, 3) := by decide +kernel
theorem dX2_sharedDivisor_31 : decode cX2_sharedDivisor 31 = .ok (.goto (-24), 3) := by decide +kernel
theorem dX2_sharedDivisor_34 : decode cX2_sharedDivisor 34 = .ok (.iload_n 2, 1) := by decide +kernel
theorem dX2_sharedDivisor_35 : decode cX2_sharedDivisor 35 = .ok (.ireturn, 1) := by decide +kernel
/-! X2_sharedDivisor -/
abbrev rm_X2_sharedDivisor : Room := { frames := 0, cells := 0, slots := 0, locals := 0 }
def S_X2_sharedDivisor_7  (K : Int32 → Prop) (R7 : Int32 → Int32 → Int32 → Prop) (x2 : Int32) (x3 : Int32) (x4 : Int32) : Prop := ((64 ≤ x4 → K x2) ∧ (¬ (64 ≤ x4) → ((x3 = 0 → K x2) ∧ (¬ (x3 = 0) → (¬ x3 = 0 ∧ R7 x3 (x2 - x2 / x3 * x3) (x4 + 1))))))
set_option maxHeartbeats 4000000 in
set_option maxRecDepth 100000 in
theorem t_X2_sharedDivisor_7 {y : nz_Y} {g : nz_G} (F : nz_F y g cX2_sharedDivisor 6 wsX2_sharedDivisor RX2 (some .int) rm_X2_sharedDivisor) {wc0 : va_W} {sz : Nat} {K : Int32 → Prop} (v0 : Int32) (v1 : Int32) (hQ : yz_A y = va_A wc0 sz ∧ yz_Q y = MQ (yz_b y) ((nz_Qi g wc0 (fun r (u : Unit) => K r) (fun u => [])) sz) (yz_a y) (yz_s y) 0 0 (va_A wc0 sz)) : ∀ (n1 : Nat) (x2 : Int32) (x3 : Int32) (x4 : Int32), nz_it (fun _ _ _ => False) (S_X2_sharedDivisor_7 K) n1 x2 x3 x4 → nz_V y g 0 0 [] 7 [(2, .int x2), (3, .int x3), (4, .int x4)] [] := by
  intro n1
  induction n1 with
  | zero =>
    intro x2 x3 x4 h
    exact h.elim
  | succ n1 hR7 =>
    intro x2 x3 x4 h
    have h : S_X2_sharedDivisor_7 K (nz_it (fun _ _ _ => False) (S_X2_sharedDivisor_7 K) n1) x2 x3 x4 := h
    unfold S_X2_sharedDivisor_7 at h
    refine nz_iload F dX2_sharedDivisor_7 2 rfl ?_
    refine nz_bipush (v := 64) F dX2_sharedDivisor_9 (by decide) ?_
    refine nz_icmp_ge (tgt := 34) F dX2_sharedDivisor_11 (by decide) (fun c1 => ?_) (fun c1 => ?_)
    · have h := h.1 c1
      refine nz_iload_n F dX2_sharedDivisor_34 rfl 0 rfl ?_
      exact nz_iret F hQ () h rfl dX2_sharedDivisor_35
    · have h := h.2 c1
      refine nz_iload_n F dX2_sharedDivisor_14 rfl 1 rfl ?_
      refine nz_if_eq (tgt := 34) F dX2_sharedDivisor_15 (by decide) (fun c2 => ?_) (fun c2 => ?_)
      · have h := h.1 c2
        refine nz_iload_n F dX2_sharedDivisor_34 rfl 0 rfl ?_
        exact nz_iret F hQ () h rfl dX2_sharedDivisor_35
      · have h := h.2 c2
        refine nz_iload_n F dX2_sharedDivisor_18 rfl 0 rfl ?_
        refine nz_iload_n F dX2_sharedDivisor_19 rfl 1 rfl ?_
        obtain ⟨c3, h⟩ := h
        refine nz_irem F dX2_sharedDivisor_20 c3 ?_
        refine nz_istore (lv' := [(5, .int (x2 - x2 / x3 * x3)), (2, .int x2), (3, .int x3), (4, .int x4)]) F dX2_sharedDivisor_21 (by decide) rfl ?_
        refine nz_iload_n F dX2_sharedDivisor_23 rfl 2 rfl ?_
        refine nz_istore_n (lv' := [(2, .int x3), (5, .int (x2 - x2 / x3 * x3)), (3, .int x3), (4, .int x4)]) F dX2_sharedDivisor_24 rfl (by decide) rfl ?_
        refine nz_iload F dX2_sharedDivisor_25 1 rfl ?_
        refine nz_istore_n (lv' := [(3, .int (x2 - x2 / x3 * x3)), (2, .int x3), (5, .int (x2 - x2 / x3 * x3)), (4, .int x4)]) F dX2_sharedDivisor_27 rfl (by decide) rfl ?_
        refine nz_iinc (v := (x4 + 1)) (j := 3) (lv' := [(4, .int (x4 + 1)), (3, .int (x2 - x2 / x3 * x3)), (2, .int x3), (5, .int (x2 - x2 / x3 * x3))]) F dX2_sharedDivisor_28 rfl rfl (by decide) rfl ?_
        refine nz_goto (tgt := 7) F dX2_sharedDivisor_31 (by decide) ?_
        refine nz_ls (lv' := [(2, .int x3), (3, .int (x2 - x2 / x3 * x3)), (4, .int (x4 + 1))]) [2, 1, 0] rfl ?_
        exact hR7 x3 (x2 - x2 / x3 * x3) (x4 + 1) h
def wp_X2_sharedDivisor (v0 : Int32) (v1 : Int32) (K : Int32 → Prop) : Prop := (∃ n, nz_it (fun _ _ _ => False) (S_X2_sharedDivisor_7 K) n v0 v1 0)
set_option maxHeartbeats 4000000 in
set_option maxRecDepth 100000 in
theorem c_X2_sharedDivisor (l : Launch) (g : nz_G) (v0 : Int32) (v1 : Int32) (K : Int32 → Prop) (h : wp_X2_sharedDivisor v0 v1 K) : nz_M l yX2_sharedDivisor wsX2_sharedDivisor rm_X2_sharedDivisor g [.int v0, .int v1] [] (nz_Qi g [] (fun r (u : Unit) => K r) (fun u => [])) := by
  refine nz_M.of (bytes := cX2_sharedDivisor) (nL := 6) (ret := (some .int)) (own := RX2) (by decide) rfl rfl ⟨rfl, rfl⟩ rfl ?_
  intro y F hl hQ
  obtain ⟨sz, hQ⟩ := hQ
  refine nz_ent (lv' := [(0, .int v0), (1, .int v1)]) rfl ?_
  unfold wp_X2_sharedDivisor at h
  refine nz_iload_n F dX2_sharedDivisor_0 rfl 0 rfl ?_
  refine nz_istore_n (lv' := [(2, .int v0), (0, .int v0), (1, .int v1)]) F dX2_sharedDivisor_1 rfl (by decide) rfl ?_
  refine nz_iload_n F dX2_sharedDivisor_2 rfl 2 rfl ?_
  refine nz_istore_n (lv' := [(3, .int v1), (2, .int v0), (0, .int v0), (1, .int v1)]) F dX2_sharedDivisor_3 rfl (by decide) rfl ?_
  refine nz_iconst (v := 0) F dX2_sharedDivisor_4 (by decide) ?_
  refine nz_istore (lv' := [(4, .int 0), (3, .int v1), (2, .int v0), (0, .int v0), (1, .int v1)]) F dX2_sharedDivisor_5 (by decide) rfl ?_
  refine nz_ls (lv' := [(2, .int v0), (3, .int v1), (4, .int 0)]) [2, 1, 0] rfl ?_
  obtain ⟨n1, h⟩ := h
  exact t_X2_sharedDivisor_7 F v0 v1 hQ n1 v0 v1 0 h
theorem k_X2_sharedDivisor {y : nz_Y} {g : nz_G} {k n : Nat} {ws : va_W} {pc : Nat} {ls : List (Nat × Value)} {st rest : List Value} {av : Array Value} {isC : List Nat} {K : Int32 → Prop} (v0 : Int32) (v1 : Int32) (run : nz_M (yz_l y) yX2_sharedDivisor wsX2_sharedDivisor rm_X2_sharedDivisor g [.int v0, .int v1] [] (nz_Qi g [] (fun r (u : Unit) => K r) (fun u => [])) → nz_C y g k n ws pc ls st rest [] (nz_Qi g [] (fun r (u : Unit) => K r) (fun u => [])) av isC) (h : wp_X2_sharedDivisor v0 v1 K) (ws' : va_W) (hm : nz_mrg ws isC [] = ws' ) (kk : ∀ (r : Int32), K r → nz_V y g k n ws' (pc + 3) ls (.int r :: rest)) : nz_V y g k n ws pc ls st :=
  nz_ci (ws' := fun _ => ws') (run (c_X2_sharedDivisor (yz_l y) g v0 v1 K h)) (fun _ => rfl) (fun _ => hm) (fun r u h => kk r h)
theorem dX2_fits_0 : decode cX2_fits 0 = .ok (.aload_n 1, 1) := by decide +kernel
theorem dX2_fits_1 : decode cX2_fits 1 = .ok (.getfield 65, 3) := by decide +kernel
theorem dX2_fits_4 : decode cX2_fits 4 = .ok (.iconst 0, 1) := by decide +kernel
theorem dX2_fits_5 : decode cX2_fits 5 = .ok (.aload_n 0, 1) := by decide +kernel
theorem dX2_fits_6 : decode cX2_fits 6 = .ok (.getfield 11, 3) := by decide +kernel
theorem dX2_fits_9 : decode cX2_fits 9 = .ok (.iconst 0, 1) := by decide +kernel
theorem dX2_fits_10 : decode cX2_fits 10 = .ok (.bipush 6, 2) := by decide +kernel
theorem dX2_fits_12 : decode cX2_fits 12 = .ok (.invokestatic 23, 3) := by decide +kernel
theorem dX2_fits_15 : decode cX2_fits 15 = .ok (.iconst 0, 1) := by decide +kernel
theorem dX2_fits_16 : decode cX2_fits 16 = .ok (.istore 4, 2) := by decide +kernel
theorem dX2_fits_18 : decode cX2_fits 18 = .ok (.iload 4, 2) := by decide +kernel
theorem dX2_fits_20 : decode cX2_fits 20 = .ok (.iload_n 2, 1) := by decide +kernel
theorem dX2_fits_21 : decode cX2_fits 21 = .ok (.if_icmp .ge 20, 3) := by decide +kernel
theorem dX2_fits_24 : decode cX2_fits 24 = .ok (.aload_n 1, 1) := by decide +kernel
theorem dX2_fits_25 : decode cX2_fits 25 = .ok (.aload_n 0, 1) := by decide +kernel
theorem dX2_fits_26 : decode cX2_fits 26 = .ok (.getfield 11, 3) := by decide +kernel
theorem dX2_fits_29 : decode cX2_fits 29 = .ok (.iload 4, 2) := by decide +kernel
theorem dX2_fits_31 : decode cX2_fits 31 = .ok (.iload_n 3, 1) := by decide +kernel
theorem dX2_fits_32 : decode cX2_fits 32 = .ok (.invokevirtual 33, 3) := by decide +kernel
theorem dX2_fits_35 : decode cX2_fits 35 = .ok (.iinc 4 1, 3) := by decide +kernel
theorem dX2_fits_38 : decode cX2_fits 38 = .ok (.goto (-20), 3) := by decide +kernel
theorem dX2_fits_41 : decode cX2_fits 41 = .ok (.aload_n 1, 1) := by decide +kernel
theorem dX2_fits_42 : decode cX2_fits 42 = .ok (.aload_n 0, 1) := by decide +kernel
theorem dX2_fits_43 : decode cX2_fits 43 = .ok (.getfield 11, 3) := by decide +kernel
theorem dX2_fits_46 : decode cX2_fits 46 = .ok (.aload_n 1, 1) := by decide +kernel
theorem dX2_fits_47 : decode cX2_fits 47 = .ok (.getfield 20, 3) := by decide +kernel
theorem dX2_fits_50 : decode cX2_fits 50 = .ok (.invokevirtual 37, 3) := by decide +kernel
theorem dX2_fits_53 : decode cX2_fits 53 = .ok (.ireturn, 1) := by decide +kernel
set_option maxRecDepth 20000 in
theorem ggX2_fits_X5_pass : GoodIn wsX2_fits wsX5_pass := goodIn_r _ [9, 10, 11, 12, 13, 7, 14, 15, 16, 17, 18, 19, 20, 21, 22, 23, 24, 25, 26, 27, 28, 29, 30, 31, 32, 33, 34, 35, 36, 40, 41, 42, 43, 44, 45, 46, 47, 48, 49, 50, 51, 52, 53, 54, 55, 56] rfl (by decide +kernel)
set_option maxRecDepth 20000 in
theorem gX2_fits_X5_pass_n33 : GoodIn wsX2_fits (wsX5_pass) := ggX2_fits_X5_pass
set_option maxRecDepth 20000 in
theorem ggX2_fits_X5_standAlike : GoodIn wsX2_fits wsX5_standAlike := goodIn_r _ [39, 23, 40, 41, 42, 43, 44, 45, 46, 47, 48, 49, 50, 51, 52, 53, 54, 55, 56] rfl (by decide +kernel)
set_option maxRecDepth 20000 in
theorem gX2_fits_X5_standAlike_n37 : GoodIn wsX2_fits (wsX5_standAlike) := ggX2_fits_X5_standAlike
theorem hd_X5_pass : yX5_pass.cls = RX5 ∧ yX5_pass.cls ≠ "java/lang/invoke/MethodHandle" ∧ yX5_pass.cls ≠ "java/lang/invoke/VarHandle" ∧ (parseMethodDescriptor yX5_pass.desc).map (fun d => d.parameters.length) = some 3 := by decide +kernel
theorem hd_X5_standAlike : yX5_standAlike.cls = RX5 ∧ yX5_standAlike.cls ≠ "java/lang/invoke/MethodHandle" ∧ yX5_standAlike.cls ≠ "java/lang/invoke/VarHandle" ∧ (parseMethodDescriptor yX5_standAlike.desc).map (fun d => d.parameters.length) = some 2 := by decide +kernel
/-! X2_fits -/
abbrev rm_X2_fits : Room := { frames := 3, cells := 0, slots := 0, locals := 73 }
theorem iw_X2_fits_5 : ∀ w ∈ wsX50, w ∈ wsX2_fits := fun _ h => List.mem_cons_of_mem _ (List.mem_append_left _ (List.mem_append_right _ h))
theorem iw_X2_fits_2 : ∀ w ∈ wsX20, w ∈ wsX2_fits := fun _ h => List.mem_cons_of_mem _ (List.mem_append_right _ h)
theorem fn_X2_fits_65 : Cond.fieldLinkNest RX2 65 "NightStones$Road" "home" "[I" RX7 ∈ nz_nest := List.mem_of_getElem? (i := 37) rfl
theorem fl_X2_fits_11 : Cond.fieldLink RX2 11 "NightStones$Foreteller" "places" "[I" ∈ wsX2_fits := List.mem_of_getElem? (i := 1) rfl
theorem wd_X2_fits_cp0_23 : Cond.methodLink RX2 23 arraycopyName ∈ wsX2_fits := List.mem_of_getElem? (i := 2) rfl
theorem wd_X2_fits_cp1 : Cond.native arraycopyName ∈ wsX2_fits := List.mem_of_getElem? (i := 3) rfl
theorem wd_X2_fits_cp2 : Cond.static arraycopyName ∈ wsX2_fits := List.mem_of_getElem? (i := 4) rfl
theorem wd_X2_fits_cp3 : Cond.initialized "java/lang/System" ∈ wsX2_fits := List.mem_of_getElem? (i := 5) rfl
theorem fn_X2_fits_20 : Cond.fieldLinkNest RX2 20 "NightStones$Road" "at" "[I" RX7 ∈ nz_nest := List.mem_of_getElem? (i := 31) rfl
theorem nt_X2_fits_X5_standAlike_37 : Cond.methodLinkNest RX2 37 yX5_standAlike RX7 ∈ nz_nest := List.mem_of_getElem? (i := 88) rfl
theorem wd_X2_fits_in_RX5 : Cond.initialized RX5 ∈ wsX2_fits := List.mem_of_getElem? (i := 7) rfl
theorem wd_X2_fits_im_X5_standAlike : Cond.instanceMethod yX5_standAlike ∈ wsX2_fits := List.mem_of_getElem? (i := 37) rfl
theorem wd_X2_fits_se_X5_standAlike : Cond.selects RX5 yX5_standAlike yX5_standAlike ∈ wsX2_fits := List.mem_of_getElem? (i := 38) rfl
theorem nt_X2_fits_X5_pass_33 : Cond.methodLinkNest RX2 33 yX5_pass RX7 ∈ nz_nest := List.mem_of_getElem? (i := 87) rfl
theorem wd_X2_fits_im_X5_pass : Cond.instanceMethod yX5_pass ∈ wsX2_fits := List.mem_of_getElem? (i := 6) rfl
theorem wd_X2_fits_se_X5_pass : Cond.selects RX5 yX5_pass yX5_pass ∈ wsX2_fits := List.mem_of_getElem? (i := 8) rfl
def S_X2_fits_18 (r1 : Int32) (r6 : Int32) (r7 : Int32) (f10 : Nat → Int32) (f11 : Nat → Int32) (f12 : Nat → Int32) (f13 : Nat → Int32) (f14 : Nat → Int32) (f15 : Nat → Int32) (v2 : Int32) (v3 : Int32) (K : Int32 → (Nat → Int32) → Prop) (R18 : Int32 → (Nat → Int32) → Prop) (x4 : Int32) (ef0 : Nat → Int32) : Prop := ((v2 ≤ x4 → wp_X5_standAlike_pa r6 f10 ef0 (fun q2 => (fits .boolean (.int q2) = true ∧ K q2 ef0))) ∧ (¬ (v2 ≤ x4) → wp_X5_pass_p r1 r6 r7 f11 f12 f13 f14 f15 ef0 x4 v3 (fun m4 => R18 (x4 + 1) m4)))
set_option maxHeartbeats 4000000 in
set_option maxRecDepth 100000 in
theorem t_X2_fits_18 {y : nz_Y} {g : nz_G} (F : nz_F y g cX2_fits 5 wsX2_fits RX2 (some .boolean) rm_X2_fits) {wc0 : va_W} {sz : Nat} {K : Int32 → (Nat → Int32) → Prop} (eo : Nat) (ea0 : Nat) (ea1 : Nat) (o : Nat) (a9 : Nat) (a10 : Nat) (a11 : Nat) (a12 : Nat) (a13 : Nat) (a14 : Nat) (a15 : Nat) (a16 : Nat) (ef1 : Nat → Int32) (r0 : Int32) (r1 : Int32) (r2 : Int32) (r3 : Int32) (r4 : Int32) (r5 : Int32) (r6 : Int32) (r7 : Int32) (r8 : Int32) (f9 : Nat → Int32) (f10 : Nat → Int32) (f11 : Nat → Int32) (f12 : Nat → Int32) (f13 : Nat → Int32) (f14 : Nat → Int32) (f15 : Nat → Int32) (f16 : Nat → Int32) (v2 : Int32) (v3 : Int32) (hQ : yz_A y = va_A wc0 sz ∧ yz_Q y = MQ (yz_b y) ((nz_Qi g wc0 (fun r (u : (Nat → Int32)) => K r u) (fun u => [(eo, .inr (2, [.ref ea0, .ref ea1])), (ea0, .inl (nz_cI g, 6, .inl u)), (ea1, .inl (nz_cI g, 6, .inl ef1)), (o, .inr (5, [.int r0, .int r1, .int r2, .int r3, .int r4, .int r5, .int r6, .int r7, .int r8, .ref a9, .ref a10, .ref a11, .ref a12, .ref a13, .ref a14, .ref a15, .ref a16])), (a9, .inl (nz_cI g, 6, .inl f9)), (a10, .inl (nz_cI g, 6, .inl f10)), (a11, .inl (nz_cI g, 6, .inl f11)), (a12, .inl (nz_cI g, 5, .inl f12)), (a13, .inl (nz_cI g, 5, .inl f13)), (a14, .inl (nz_cI g, 5, .inl f14)), (a15, .inl (nz_cI g, 5, .inl f15)), (a16, .inl (nz_cI g, 48, .inl f16))])) sz) (yz_a y) (yz_s y) 0 0 (va_A wc0 sz)) : ∀ (n1 : Nat) (x4 : Int32) (ef0 : Nat → Int32), nz_it (fun _ _ => False) (S_X2_fits_18 r1 r6 r7 f10 f11 f12 f13 f14 f15 v2 v3 K) n1 x4 ef0 → nz_V y g 0 0 [(eo, .inr (2, [.ref ea0, .ref ea1])), (ea0, .inl (nz_cI g, 6, .inl ef0)), (ea1, .inl (nz_cI g, 6, .inl ef1)), (o, .inr (5, [.int r0, .int r1, .int r2, .int r3, .int r4, .int r5, .int r6, .int r7, .int r8, .ref a9, .ref a10, .ref a11, .ref a12, .ref a13, .ref a14, .ref a15, .ref a16])), (a9, .inl (nz_cI g, 6, .inl f9)), (a10, .inl (nz_cI g, 6, .inl f10)), (a11, .inl (nz_cI g, 6, .inl f11)), (a12, .inl (nz_cI g, 5, .inl f12)), (a13, .inl (nz_cI g, 5, .inl f13)), (a14, .inl (nz_cI g, 5, .inl f14)), (a15, .inl (nz_cI g, 5, .inl f15)), (a16, .inl (nz_cI g, 48, .inl f16))] 18 [(0, .ref eo), (1, .ref o), (2, .int v2), (3, .int v3), (4, .int x4)] [] := by
  intro n1
  induction n1 with
  | zero =>
    intro x4 ef0 h
    exact h.elim
  | succ n1 hR18 =>
    intro x4 ef0 h
    have h : S_X2_fits_18 r1 r6 r7 f10 f11 f12 f13 f14 f15 v2 v3 K (nz_it (fun _ _ => False) (S_X2_fits_18 r1 r6 r7 f10 f11 f12 f13 f14 f15 v2 v3 K) n1) x4 ef0 := h
    unfold S_X2_fits_18 at h
    refine nz_iload F dX2_fits_18 4 rfl ?_
    refine nz_iload_n F dX2_fits_20 rfl 2 rfl ?_
    refine nz_icmp_ge (tgt := 41) F dX2_fits_21 (by decide) (fun c1 => ?_) (fun c1 => ?_)
    · have h := h.1 c1
      refine nz_aload_n F dX2_fits_41 rfl 1 rfl ?_
      refine nz_aload_n F dX2_fits_42 rfl 0 rfl ?_
      refine nz_get F iw_X2_fits_2 0 rfl rfl 0 (by decide) rfl fl_X2_fits_11 rfl dX2_fits_43 ?_
      refine nz_aload_n F dX2_fits_46 rfl 1 rfl ?_
      refine nz_getN F iw_X2_fits_5 3 rfl rfl 10 (by decide) rfl fn_X2_fits_20 rfl dX2_fits_47 ?_
      refine k_X5_standAlike_pa o a9 a10 a11 a12 a13 a14 a15 a16 ea0 r0 r1 r2 r3 r4 r5 r6 r7 r8 f9 f10 f11 f12 f13 f14 f15 f16 ef0 (fun hM => nz_runVN F gX2_fits_X5_standAlike_n37 rfl nt_X2_fits_X5_standAlike_37 wd_X2_fits_in_RX5 wd_X2_fits_im_X5_standAlike wd_X2_fits_se_X5_standAlike hd_X5_standAlike rfl hM dX2_fits_50 [3, 4, 5, 6, 7, 8, 9, 10, 11, 1] rfl rfl 3 rfl rfl rfl (Nat.le_of_ble_eq_true rfl) rfl) h ([(eo, .inr (2, [.ref ea0, .ref ea1])), (ea0, .inl (nz_cI g, 6, .inl ef0)), (ea1, .inl (nz_cI g, 6, .inl ef1)), (o, .inr (5, [.int r0, .int r1, .int r2, .int r3, .int r4, .int r5, .int r6, .int r7, .int r8, .ref a9, .ref a10, .ref a11, .ref a12, .ref a13, .ref a14, .ref a15, .ref a16])), (a9, .inl (nz_cI g, 6, .inl f9)), (a10, .inl (nz_cI g, 6, .inl f10)), (a11, .inl (nz_cI g, 6, .inl f11)), (a12, .inl (nz_cI g, 5, .inl f12)), (a13, .inl (nz_cI g, 5, .inl f13)), (a14, .inl (nz_cI g, 5, .inl f14)), (a15, .inl (nz_cI g, 5, .inl f15)), (a16, .inl (nz_cI g, 48, .inl f16))]) (rfl) (fun q2 h => ?_)
      obtain ⟨b3, h⟩ := h
      exact nz_zret F hQ ef0 h rfl (nz_nar b3) dX2_fits_53
    · have h := h.2 c1
      refine nz_aload_n F dX2_fits_24 rfl 1 rfl ?_
      refine nz_aload_n F dX2_fits_25 rfl 0 rfl ?_
      refine nz_get F iw_X2_fits_2 0 rfl rfl 0 (by decide) rfl fl_X2_fits_11 rfl dX2_fits_26 ?_
      refine nz_iload F dX2_fits_29 4 rfl ?_
      refine nz_iload_n F dX2_fits_31 rfl 3 rfl ?_
      refine k_X5_pass_p o a9 a10 a11 a12 a13 a14 a15 a16 ea0 r0 r1 r2 r3 r4 r5 r6 r7 r8 f9 f10 f11 f12 f13 f14 f15 f16 ef0 x4 v3 (fun hM => nz_runVN F gX2_fits_X5_pass_n33 rfl nt_X2_fits_X5_pass_33 wd_X2_fits_in_RX5 wd_X2_fits_im_X5_pass wd_X2_fits_se_X5_pass hd_X5_pass rfl hM dX2_fits_32 [3, 4, 5, 6, 7, 8, 9, 10, 11, 1] rfl rfl 3 rfl rfl rfl (Nat.le_of_ble_eq_true rfl) rfl) h (fun m4 => [(eo, .inr (2, [.ref ea0, .ref ea1])), (ea0, .inl (nz_cI g, 6, .inl m4)), (ea1, .inl (nz_cI g, 6, .inl ef1)), (o, .inr (5, [.int r0, .int r1, .int r2, .int r3, .int r4, .int r5, .int r6, .int r7, .int r8, .ref a9, .ref a10, .ref a11, .ref a12, .ref a13, .ref a14, .ref a15, .ref a16])), (a9, .inl (nz_cI g, 6, .inl f9)), (a10, .inl (nz_cI g, 6, .inl f10)), (a11, .inl (nz_cI g, 6, .inl f11)), (a12, .inl (nz_cI g, 5, .inl f12)), (a13, .inl (nz_cI g, 5, .inl f13)), (a14, .inl (nz_cI g, 5, .inl f14)), (a15, .inl (nz_cI g, 5, .inl f15)), (a16, .inl (nz_cI g, 48, .inl f16))]) (fun _ => rfl) (fun m4 h => ?_)
      refine nz_iinc (v := (x4 + 1)) (j := 4) (lv' := [(4, .int (x4 + 1)), (0, .ref eo), (1, .ref o), (2, .int v2), (3, .int v3)]) F dX2_fits_35 rfl rfl (by decide) rfl ?_
      refine nz_goto (tgt := 18) F dX2_fits_38 (by decide) ?_
      refine nz_ls (lv' := [(0, .ref eo), (1, .ref o), (2, .int v2), (3, .int v3), (4, .int (x4 + 1))]) [1, 2, 3, 4, 0] rfl ?_
      exact hR18 (x4 + 1) m4 h
def wp_X2_fits (ef0 : Nat → Int32) (r1 : Int32) (r6 : Int32) (r7 : Int32) (f10 : Nat → Int32) (f11 : Nat → Int32) (f12 : Nat → Int32) (f13 : Nat → Int32) (f14 : Nat → Int32) (f15 : Nat → Int32) (v2 : Int32) (v3 : Int32) (K : Int32 → (Nat → Int32) → Prop) : Prop := (∃ n, nz_it (fun _ _ => False) (S_X2_fits_18 r1 r6 r7 f10 f11 f12 f13 f14 f15 v2 v3 K) n 0 (va_cpy f11 ef0 0 0 6))
set_option maxHeartbeats 4000000 in
set_option maxRecDepth 100000 in
theorem c_X2_fits (l : Launch) (g : nz_G) (eo : Nat) (ea0 : Nat) (ea1 : Nat) (o : Nat) (a9 : Nat) (a10 : Nat) (a11 : Nat) (a12 : Nat) (a13 : Nat) (a14 : Nat) (a15 : Nat) (a16 : Nat) (ef0 : Nat → Int32) (ef1 : Nat → Int32) (r0 : Int32) (r1 : Int32) (r2 : Int32) (r3 : Int32) (r4 : Int32) (r5 : Int32) (r6 : Int32) (r7 : Int32) (r8 : Int32) (f9 : Nat → Int32) (f10 : Nat → Int32) (f11 : Nat → Int32) (f12 : Nat → Int32) (f13 : Nat → Int32) (f14 : Nat → Int32) (f15 : Nat → Int32) (f16 : Nat → Int32) (v2 : Int32) (v3 : Int32) (K : Int32 → (Nat → Int32) → Prop) (h : wp_X2_fits ef0 r1 r6 r7 f10 f11 f12 f13 f14 f15 v2 v3 K) : nz_M l yX2_fits wsX2_fits rm_X2_fits g [.ref eo, .ref o, .int v2, .int v3] [(eo, .inr (2, [.ref ea0, .ref ea1])), (ea0, .inl (nz_cI g, 6, .inl ef0)), (ea1, .inl (nz_cI g, 6, .inl ef1)), (o, .inr (5, [.int r0, .int r1, .int r2, .int r3, .int r4, .int r5, .int r6, .int r7, .int r8, .ref a9, .ref a10, .ref a11, .ref a12, .ref a13, .ref a14, .ref a15, .ref a16])), (a9, .inl (nz_cI g, 6, .inl f9)), (a10, .inl (nz_cI g, 6, .inl f10)), (a11, .inl (nz_cI g, 6, .inl f11)), (a12, .inl (nz_cI g, 5, .inl f12)), (a13, .inl (nz_cI g, 5, .inl f13)), (a14, .inl (nz_cI g, 5, .inl f14)), (a15, .inl (nz_cI g, 5, .inl f15)), (a16, .inl (nz_cI g, 48, .inl f16))] (nz_Qi g [(eo, .inr (2, [.ref ea0, .ref ea1])), (ea0, .inl (nz_cI g, 6, .inl ef0)), (ea1, .inl (nz_cI g, 6, .inl ef1)), (o, .inr (5, [.int r0, .int r1, .int r2, .int r3, .int r4, .int r5, .int r6, .int r7, .int r8, .ref a9, .ref a10, .ref a11, .ref a12, .ref a13, .ref a14, .ref a15, .ref a16])), (a9, .inl (nz_cI g, 6, .inl f9)), (a10, .inl (nz_cI g, 6, .inl f10)), (a11, .inl (nz_cI g, 6, .inl f11)), (a12, .inl (nz_cI g, 5, .inl f12)), (a13, .inl (nz_cI g, 5, .inl f13)), (a14, .inl (nz_cI g, 5, .inl f14)), (a15, .inl (nz_cI g, 5, .inl f15)), (a16, .inl (nz_cI g, 48, .inl f16))] (fun r (u : (Nat → Int32)) => K r u) (fun u => [(eo, .inr (2, [.ref ea0, .ref ea1])), (ea0, .inl (nz_cI g, 6, .inl u)), (ea1, .inl (nz_cI g, 6, .inl ef1)), (o, .inr (5, [.int r0, .int r1, .int r2, .int r3, .int r4, .int r5, .int r6, .int r7, .int r8, .ref a9, .ref a10, .ref a11, .ref a12, .ref a13, .ref a14, .ref a15, .ref a16])), (a9, .inl (nz_cI g, 6, .inl f9)), (a10, .inl (nz_cI g, 6, .inl f10)), (a11, .inl (nz_cI g, 6, .inl f11)), (a12, .inl (nz_cI g, 5, .inl f12)), (a13, .inl (nz_cI g, 5, .inl f13)), (a14, .inl (nz_cI g, 5, .inl f14)), (a15, .inl (nz_cI g, 5, .inl f15)), (a16, .inl (nz_cI g, 48, .inl f16))])) := by
  refine nz_M.of (bytes := cX2_fits) (nL := 5) (ret := (some .boolean)) (own := RX2) (by decide) rfl rfl ⟨rfl, rfl⟩ rfl ?_
  intro y F hl hQ
  obtain ⟨sz, hQ⟩ := hQ
  refine nz_ent (lv' := [(0, .ref eo), (1, .ref o), (2, .int v2), (3, .int v3)]) rfl ?_
  unfold wp_X2_fits at h
  refine nz_aload_n F dX2_fits_0 rfl 1 rfl ?_
  refine nz_getN F iw_X2_fits_5 3 rfl rfl 11 (by decide) rfl fn_X2_fits_65 rfl dX2_fits_1 ?_
  refine nz_iconst (v := 0) F dX2_fits_4 (by decide) ?_
  refine nz_aload_n F dX2_fits_5 rfl 0 rfl ?_
  refine nz_get F iw_X2_fits_2 0 rfl rfl 0 (by decide) rfl fl_X2_fits_11 rfl dX2_fits_6 ?_
  refine nz_iconst (v := 0) F dX2_fits_9 (by decide) ?_
  refine nz_bipush (v := 6) F dX2_fits_10 (by decide) ?_
  refine nz_copy (ws' := [(eo, .inr (2, [.ref ea0, .ref ea1])), (ea0, .inl (nz_cI g, 6, .inl (va_cpy f11 ef0 0 0 6))), (ea1, .inl (nz_cI g, 6, .inl ef1)), (o, .inr (5, [.int r0, .int r1, .int r2, .int r3, .int r4, .int r5, .int r6, .int r7, .int r8, .ref a9, .ref a10, .ref a11, .ref a12, .ref a13, .ref a14, .ref a15, .ref a16])), (a9, .inl (nz_cI g, 6, .inl f9)), (a10, .inl (nz_cI g, 6, .inl f10)), (a11, .inl (nz_cI g, 6, .inl f11)), (a12, .inl (nz_cI g, 5, .inl f12)), (a13, .inl (nz_cI g, 5, .inl f13)), (a14, .inl (nz_cI g, 5, .inl f14)), (a15, .inl (nz_cI g, 5, .inl f15)), (a16, .inl (nz_cI g, 48, .inl f16))]) F wd_X2_fits_cp0_23 wd_X2_fits_cp1 wd_X2_fits_cp2 wd_X2_fits_cp3 6 1 rfl rfl (by decide) (by decide) (by decide) (by decide) (by decide) rfl (Nat.le_of_ble_eq_true rfl) dX2_fits_12 rfl ?_
  refine nz_iconst (v := 0) F dX2_fits_15 (by decide) ?_
  refine nz_istore (lv' := [(4, .int 0), (0, .ref eo), (1, .ref o), (2, .int v2), (3, .int v3)]) F dX2_fits_16 (by decide) rfl ?_
  refine nz_ls (lv' := [(0, .ref eo), (1, .ref o), (2, .int v2), (3, .int v3), (4, .int 0)]) [1, 2, 3, 4, 0] rfl ?_
  obtain ⟨n1, h⟩ := h
  exact t_X2_fits_18 F eo ea0 ea1 o a9 a10 a11 a12 a13 a14 a15 a16 ef1 r0 r1 r2 r3 r4 r5 r6 r7 r8 f9 f10 f11 f12 f13 f14 f15 f16 v2 v3 hQ n1 0 (va_cpy f11 ef0 0 0 6) h
theorem k_X2_fits {y : nz_Y} {g : nz_G} {k n : Nat} {ws : va_W} {pc : Nat} {ls : List (Nat × Value)} {st rest : List Value} {av : Array Value} {isC : List Nat} {K : Int32 → (Nat → Int32) → Prop} (eo : Nat) (ea0 : Nat) (ea1 : Nat) (o : Nat) (a9 : Nat) (a10 : Nat) (a11 : Nat) (a12 : Nat) (a13 : Nat) (a14 : Nat) (a15 : Nat) (a16 : Nat) (ef0 : Nat → Int32) (ef1 : Nat → Int32) (r0 : Int32) (r1 : Int32) (r2 : Int32) (r3 : Int32) (r4 : Int32) (r5 : Int32) (r6 : Int32) (r7 : Int32) (r8 : Int32) (f9 : Nat → Int32) (f10 : Nat → Int32) (f11 : Nat → Int32) (f12 : Nat → Int32) (f13 : Nat → Int32) (f14 : Nat → Int32) (f15 : Nat → Int32) (f16 : Nat → Int32) (v2 : Int32) (v3 : Int32) (run : nz_M (yz_l y) yX2_fits wsX2_fits rm_X2_fits g [.ref eo, .ref o, .int v2, .int v3] [(eo, .inr (2, [.ref ea0, .ref ea1])), (ea0, .inl (nz_cI g, 6, .inl ef0)), (ea1, .inl (nz_cI g, 6, .inl ef1)), (o, .inr (5, [.int r0, .int r1, .int r2, .int r3, .int r4, .int r5, .int r6, .int r7, .int r8, .ref a9, .ref a10, .ref a11, .ref a12, .ref a13, .ref a14, .ref a15, .ref a16])), (a9, .inl (nz_cI g, 6, .inl f9)), (a10, .inl (nz_cI g, 6, .inl f10)), (a11, .inl (nz_cI g, 6, .inl f11)), (a12, .inl (nz_cI g, 5, .inl f12)), (a13, .inl (nz_cI g, 5, .inl f13)), (a14, .inl (nz_cI g, 5, .inl f14)), (a15, .inl (nz_cI g, 5, .inl f15)), (a16, .inl (nz_cI g, 48, .inl f16))] (nz_Qi g [(eo, .inr (2, [.ref ea0, .ref ea1])), (ea0, .inl (nz_cI g, 6, .inl ef0)), (ea1, .inl (nz_cI g, 6, .inl ef1)), (o, .inr (5, [.int r0, .int r1, .int r2, .int r3, .int r4, .int r5, .int r6, .int r7, .int r8, .ref a9, .ref a10, .ref a11, .ref a12, .ref a13, .ref a14, .ref a15, .ref a16])), (a9, .inl (nz_cI g, 6, .inl f9)), (a10, .inl (nz_cI g, 6, .inl f10)), (a11, .inl (nz_cI g, 6, .inl f11)), (a12, .inl (nz_cI g, 5, .inl f12)), (a13, .inl (nz_cI g, 5, .inl f13)), (a14, .inl (nz_cI g, 5, .inl f14)), (a15, .inl (nz_cI g, 5, .inl f15)), (a16, .inl (nz_cI g, 48, .inl f16))] (fun r (u : (Nat → Int32)) => K r u) (fun u => [(eo, .inr (2, [.ref ea0, .ref ea1])), (ea0, .inl (nz_cI g, 6, .inl u)), (ea1, .inl (nz_cI g, 6, .inl ef1)), (o, .inr (5, [.int r0, .int r1, .int r2, .int r3, .int r4, .int r5, .int r6, .int r7, .int r8, .ref a9, .ref a10, .ref a11, .ref a12, .ref a13, .ref a14, .ref a15, .ref a16])), (a9, .inl (nz_cI g, 6, .inl f9)), (a10, .inl (nz_cI g, 6, .inl f10)), (a11, .inl (nz_cI g, 6, .inl f11)), (a12, .inl (nz_cI g, 5, .inl f12)), (a13, .inl (nz_cI g, 5, .inl f13)), (a14, .inl (nz_cI g, 5, .inl f14)), (a15, .inl (nz_cI g, 5, .inl f15)), (a16, .inl (nz_cI g, 48, .inl f16))])) → nz_C y g k n ws pc ls st rest [(eo, .inr (2, [.ref ea0, .ref ea1])), (ea0, .inl (nz_cI g, 6, .inl ef0)), (ea1, .inl (nz_cI g, 6, .inl ef1)), (o, .inr (5, [.int r0, .int r1, .int r2, .int r3, .int r4, .int r5, .int r6, .int r7, .int r8, .ref a9, .ref a10, .ref a11, .ref a12, .ref a13, .ref a14, .ref a15, .ref a16])), (a9, .inl (nz_cI g, 6, .inl f9)), (a10, .inl (nz_cI g, 6, .inl f10)), (a11, .inl (nz_cI g, 6, .inl f11)), (a12, .inl (nz_cI g, 5, .inl f12)), (a13, .inl (nz_cI g, 5, .inl f13)), (a14, .inl (nz_cI g, 5, .inl f14)), (a15, .inl (nz_cI g, 5, .inl f15)), (a16, .inl (nz_cI g, 48, .inl f16))] (nz_Qi g [(eo, .inr (2, [.ref ea0, .ref ea1])), (ea0, .inl (nz_cI g, 6, .inl ef0)), (ea1, .inl (nz_cI g, 6, .inl ef1)), (o, .inr (5, [.int r0, .int r1, .int r2, .int r3, .int r4, .int r5, .int r6, .int r7, .int r8, .ref a9, .ref a10, .ref a11, .ref a12, .ref a13, .ref a14, .ref a15, .ref a16])), (a9, .inl (nz_cI g, 6, .inl f9)), (a10, .inl (nz_cI g, 6, .inl f10)), (a11, .inl (nz_cI g, 6, .inl f11)), (a12, .inl (nz_cI g, 5, .inl f12)), (a13, .inl (nz_cI g, 5, .inl f13)), (a14, .inl (nz_cI g, 5, .inl f14)), (a15, .inl (nz_cI g, 5, .inl f15)), (a16, .inl (nz_cI g, 48, .inl f16))] (fun r (u : (Nat → Int32)) => K r u) (fun u => [(eo, .inr (2, [.ref ea0, .ref ea1])), (ea0, .inl (nz_cI g, 6, .inl u)), (ea1, .inl (nz_cI g, 6, .inl ef1)), (o, .inr (5, [.int r0, .int r1, .int r2, .int r3, .int r4, .int r5, .int r6, .int r7, .int r8, .ref a9, .ref a10, .ref a11, .ref a12, .ref a13, .ref a14, .ref a15, .ref a16])), (a9, .inl (nz_cI g, 6, .inl f9)), (a10, .inl (nz_cI g, 6, .inl f10)), (a11, .inl (nz_cI g, 6, .inl f11)), (a12, .inl (nz_cI g, 5, .inl f12)), (a13, .inl (nz_cI g, 5, .inl f13)), (a14, .inl (nz_cI g, 5, .inl f14)), (a15, .inl (nz_cI g, 5, .inl f15)), (a16, .inl (nz_cI g, 48, .inl f16))])) av isC) (h : wp_X2_fits ef0 r1 r6 r7 f10 f11 f12 f13 f14 f15 v2 v3 K) (ws' : (Nat → Int32) → va_W) (hm : ∀ (m0 : (Nat → Int32)), nz_mrg ws isC [(eo, .inr (2, [.ref ea0, .ref ea1])), (ea0, .inl (nz_cI g, 6, .inl m0)), (ea1, .inl (nz_cI g, 6, .inl ef1)), (o, .inr (5, [.int r0, .int r1, .int r2, .int r3, .int r4, .int r5, .int r6, .int r7, .int r8, .ref a9, .ref a10, .ref a11, .ref a12, .ref a13, .ref a14, .ref a15, .ref a16])), (a9, .inl (nz_cI g, 6, .inl f9)), (a10, .inl (nz_cI g, 6, .inl f10)), (a11, .inl (nz_cI g, 6, .inl f11)), (a12, .inl (nz_cI g, 5, .inl f12)), (a13, .inl (nz_cI g, 5, .inl f13)), (a14, .inl (nz_cI g, 5, .inl f14)), (a15, .inl (nz_cI g, 5, .inl f15)), (a16, .inl (nz_cI g, 48, .inl f16))] = ws' m0) (kk : ∀ (r : Int32) (m0 : (Nat → Int32)), K r m0 → nz_V y g k n (ws' m0) (pc + 3) ls (.int r :: rest)) : nz_V y g k n ws pc ls st :=
  nz_ci (ws' := fun u => ws' u) (run (c_X2_fits (yz_l y) g eo ea0 ea1 o a9 a10 a11 a12 a13 a14 a15 a16 ef0 ef1 r0 r1 r2 r3 r4 r5 r6 r7 r8 f9 f10 f11 f12 f13 f14 f15 f16 v2 v3 K h)) (fun _ => rfl) (fun u => hm u) (fun r u h => kk r u h)
theorem dX2_nightsToRest_0 : decode cX2_nightsToRest 0 = .ok (.iconst 0, 1) := by decide +kernel
theorem dX2_nightsToRest_1 : decode cX2_nightsToRest 1 = .ok (.istore_n 2, 1) := by decide +kernel
theorem dX2_nightsToRest_2 : decode cX2_nightsToRest 2 = .ok (.aload_n 1, 1) := by decide +kernel
theorem dX2_nightsToRest_3 : decode cX2_nightsToRest 3 = .ok (.getfield 20, 3) := by decide +kernel
theorem dX2_nightsToRest_6 : decode cX2_nightsToRest 6 = .ok (.iconst 0, 1) := by decide +kernel
theorem dX2_nightsToRest_7 : decode cX2_nightsToRest 7 = .ok (.aload_n 0, 1) := by decide +kernel
theorem dX2_nightsToRest_8 : decode cX2_nightsToRest 8 = .ok (.getfield 11, 3) := by decide +kernel
theorem dX2_nightsToRest_11 : decode cX2_nightsToRest 11 = .ok (.iconst 0, 1) := by decide +kernel
theorem dX2_nightsToRest_12 : decode cX2_nightsToRest 12 = .ok (.bipush 6, 2) := by decide +kernel
theorem dX2_nightsToRest_14 : decode cX2_nightsToRest 14 = .ok (.invokestatic 23, 3) := by decide +kernel
theorem dX2_nightsToRest_17 : decode cX2_nightsToRest 17 = .ok (.iconst 0, 1) := by decide +kernel
theorem dX2_nightsToRest_18 : decode cX2_nightsToRest 18 = .ok (.istore_n 3, 1) := by decide +kernel
theorem dX2_nightsToRest_19 : decode cX2_nightsToRest 19 = .ok (.iload_n 3, 1) := by decide +kernel
theorem dX2_nightsToRest_20 : decode cX2_nightsToRest 20 = .ok (.bipush 62, 2) := by decide +kernel
theorem dX2_nightsToRest_22 : decode cX2_nightsToRest 22 = .ok (.if_icmp .ge 72, 3) := by decide +kernel
theorem dX2_nightsToRest_25 : decode cX2_nightsToRest 25 = .ok (.aload_n 0, 1) := by decide +kernel
theorem dX2_nightsToRest_26 : decode cX2_nightsToRest 26 = .ok (.getfield 11, 3) := by decide +kernel
theorem dX2_nightsToRest_29 : decode cX2_nightsToRest 29 = .ok (.iconst 0, 1) := by decide +kernel
theorem dX2_nightsToRest_30 : decode cX2_nightsToRest 30 = .ok (.aload_n 0, 1) := by decide +kernel
theorem dX2_nightsToRest_31 : decode cX2_nightsToRest 31 = .ok (.getfield 17, 3) := by decide +kernel
theorem dX2_nightsToRest_34 : decode cX2_nightsToRest 34 = .ok (.iconst 0, 1) := by decide +kernel
theorem dX2_nightsToRest_35 : decode cX2_nightsToRest 35 = .ok (.bipush 6, 2) := by decide +kernel
theorem dX2_nightsToRest_37 : decode cX2_nightsToRest 37 = .ok (.invokestatic 23, 3) := by decide +kernel
theorem dX2_nightsToRest_40 : decode cX2_nightsToRest 40 = .ok (.aload_n 1, 1) := by decide +kernel
theorem dX2_nightsToRest_41 : decode cX2_nightsToRest 41 = .ok (.aload_n 0, 1) := by decide +kernel
theorem dX2_nightsToRest_42 : decode cX2_nightsToRest 42 = .ok (.getfield 11, 3) := by decide +kernel
theorem dX2_nightsToRest_45 : decode cX2_nightsToRest 45 = .ok (.aload_n 1, 1) := by decide +kernel
theorem dX2_nightsToRest_46 : decode cX2_nightsToRest 46 = .ok (.getfield 29, 3) := by decide +kernel
theorem dX2_nightsToRest_49 : decode cX2_nightsToRest 49 = .ok (.iload_n 3, 1) := by decide +kernel
theorem dX2_nightsToRest_50 : decode cX2_nightsToRest 50 = .ok (.iadd, 1) := by decide +kernel
theorem dX2_nightsToRest_51 : decode cX2_nightsToRest 51 = .ok (.bipush 31, 2) := by decide +kernel
theorem dX2_nightsToRest_53 : decode cX2_nightsToRest 53 = .ok (.invokevirtual 33, 3) := by decide +kernel
theorem dX2_nightsToRest_56 : decode cX2_nightsToRest 56 = .ok (.aload_n 1, 1) := by decide +kernel
theorem dX2_nightsToRest_57 : decode cX2_nightsToRest 57 = .ok (.aload_n 0, 1) := by decide +kernel
theorem dX2_nightsToRest_58 : decode cX2_nightsToRest 58 = .ok (.getfield 11, 3) := by decide +kernel
theorem dX2_nightsToRest_61 : decode cX2_nightsToRest 61 = .ok (.aload_n 0, 1) := by decide +kernel
theorem dX2_nightsToRest_62 : decode cX2_nightsToRest 62 = .ok (.getfield 17, 3) := by decide +kernel
theorem dX2_nightsToRest_65 : decode cX2_nightsToRest 65 = .ok (.invokevirtual 37, 3) := by decide +kernel
theorem dX2_nightsToRest_68 : decode cX2_nightsToRest 68 = .ok (.ifCond .eq 9, 3) := by decide +kernel
theorem dX2_nightsToRest_71 : decode cX2_nightsToRest 71 = .ok (.iload_n 2, 1) := by decide +kernel
theorem dX2_nightsToRest_72 : decode cX2_nightsToRest 72 = .ok (.iconst 1, 1) := by decide +kernel
theorem dX2_nightsToRest_73 : decode cX2_nightsToRest 73 = .ok (.iadd, 1) := by decide +kernel
theorem dX2_nightsToRest_74 : decode cX2_nightsToRest 74 = .ok (.goto 4, 3) := by decide +kernel
theorem dX2_nightsToRest_77 : decode cX2_nightsToRest 77 = .ok (.iconst 0, 1) := by decide +kernel
theorem dX2_nightsToRest_78 : decode cX2_nightsToRest 78 = .ok (.istore_n 2, 1) := by decide +kernel
theorem dX2_nightsToRest_79 : decode cX2_nightsToRest 79 = .ok (.iload_n 2, 1) := by decide +kernel
theorem dX2_nightsToRest_80 : decode cX2_nightsToRest 80 = .ok (.iconst 2, 1) := by decide +kernel
theorem dX2_nightsToRest_81 : decode cX2_nightsToRest 81 = .ok (.if_icmp .ne 7, 3) := by decide +kernel
theorem dX2_nightsToRest_84 : decode cX2_nightsToRest 84 = .ok (.iload_n 3, 1) := by decide +kernel
theorem dX2_nightsToRest_85 : decode cX2_nightsToRest 85 = .ok (.iconst 1, 1) := by decide +kernel
theorem dX2_nightsToRest_86 : decode cX2_nightsToRest 86 = .ok (.isub, 1) := by decide +kernel
theorem dX2_nightsToRest_87 : decode cX2_nightsToRest 87 = .ok (.ireturn, 1) := by decide +kernel
theorem dX2_nightsToRest_88 : decode cX2_nightsToRest 88 = .ok (.iinc 3 1, 3) := by decide +kernel
theorem dX2_nightsToRest_91 : decode cX2_nightsToRest 91 = .ok (.goto (-72), 3) := by decide +kernel
theorem dX2_nightsToRest_94 : decode cX2_nightsToRest 94 = .ok (.ldc 41, 2) := by decide +kernel
theorem dX2_nightsToRest_96 : decode cX2_nightsToRest 96 = .ok (.ireturn, 1) := by decide +kernel
set_option maxRecDepth 20000 in
theorem ggX2_nightsToRest_X5_pass : GoodIn wsX2_nightsToRest wsX5_pass := goodIn_r _ [11, 12, 13, 14, 15, 9, 16, 17, 18, 19, 20, 21, 22, 23, 24, 25, 26, 27, 28, 29, 30, 31, 32, 33, 34, 35, 36, 37, 38, 42, 43, 44, 45, 46, 47, 48, 49, 50, 51, 52, 53, 54, 55, 56, 57, 58] rfl (by decide +kernel)
set_option maxRecDepth 20000 in
theorem gX2_nightsToRest_X5_pass_n33 : GoodIn wsX2_nightsToRest (wsX5_pass) := ggX2_nightsToRest_X5_pass
set_option maxRecDepth 20000 in
theorem ggX2_nightsToRest_X5_standAlike : GoodIn wsX2_nightsToRest wsX5_standAlike := goodIn_r _ [41, 25, 42, 43, 44, 45, 46, 47, 48, 49, 50, 51, 52, 53, 54, 55, 56, 57, 58] rfl (by decide +kernel)
set_option maxRecDepth 20000 in
theorem gX2_nightsToRest_X5_standAlike_n37 : GoodIn wsX2_nightsToRest (wsX5_standAlike) := ggX2_nightsToRest_X5_standAlike
/-! X2_nightsToRest -/
abbrev rm_X2_nightsToRest : Room := { frames := 3, cells := 0, slots := 0, locals := 73 }
theorem iw_X2_nightsToRest_5 : ∀ w ∈ wsX50, w ∈ wsX2_nightsToRest := fun _ h => List.mem_cons_of_mem _ (List.mem_append_left _ (List.mem_append_right _ h))
theorem iw_X2_nightsToRest_2 : ∀ w ∈ wsX20, w ∈ wsX2_nightsToRest := fun _ h => List.mem_cons_of_mem _ (List.mem_append_right _ h)
theorem fn_X2_nightsToRest_20 : Cond.fieldLinkNest RX2 20 "NightStones$Road" "at" "[I" RX7 ∈ nz_nest := List.mem_of_getElem? (i := 31) rfl
theorem fl_X2_nightsToRest_11 : Cond.fieldLink RX2 11 "NightStones$Foreteller" "places" "[I" ∈ wsX2_nightsToRest := List.mem_of_getElem? (i := 1) rfl
theorem wd_X2_nightsToRest_cp0_23 : Cond.methodLink RX2 23 arraycopyName ∈ wsX2_nightsToRest := List.mem_of_getElem? (i := 2) rfl
theorem wd_X2_nightsToRest_cp1 : Cond.native arraycopyName ∈ wsX2_nightsToRest := List.mem_of_getElem? (i := 3) rfl
theorem wd_X2_nightsToRest_cp2 : Cond.static arraycopyName ∈ wsX2_nightsToRest := List.mem_of_getElem? (i := 4) rfl
theorem wd_X2_nightsToRest_cp3 : Cond.initialized "java/lang/System" ∈ wsX2_nightsToRest := List.mem_of_getElem? (i := 5) rfl
theorem wd_X2_nightsToRest_c41 : Cond.constant RX2 41 (-1000000) ∈ wsX2_nightsToRest := List.mem_of_getElem? (i := 7) rfl
theorem fl_X2_nightsToRest_17 : Cond.fieldLink RX2 17 "NightStones$Foreteller" "ahead" "[I" ∈ wsX2_nightsToRest := List.mem_of_getElem? (i := 6) rfl
theorem fn_X2_nightsToRest_29 : Cond.fieldLinkNest RX2 29 "NightStones$Road" "nights" "I" RX7 ∈ nz_nest := List.mem_of_getElem? (i := 13) rfl
theorem nt_X2_nightsToRest_X5_pass_33 : Cond.methodLinkNest RX2 33 yX5_pass RX7 ∈ nz_nest := List.mem_of_getElem? (i := 87) rfl
theorem wd_X2_nightsToRest_in_RX5 : Cond.initialized RX5 ∈ wsX2_nightsToRest := List.mem_of_getElem? (i := 9) rfl
theorem wd_X2_nightsToRest_im_X5_pass : Cond.instanceMethod yX5_pass ∈ wsX2_nightsToRest := List.mem_of_getElem? (i := 8) rfl
theorem wd_X2_nightsToRest_se_X5_pass : Cond.selects RX5 yX5_pass yX5_pass ∈ wsX2_nightsToRest := List.mem_of_getElem? (i := 10) rfl
theorem nt_X2_nightsToRest_X5_standAlike_37 : Cond.methodLinkNest RX2 37 yX5_standAlike RX7 ∈ nz_nest := List.mem_of_getElem? (i := 88) rfl
theorem wd_X2_nightsToRest_im_X5_standAlike : Cond.instanceMethod yX5_standAlike ∈ wsX2_nightsToRest := List.mem_of_getElem? (i := 39) rfl
theorem wd_X2_nightsToRest_se_X5_standAlike : Cond.selects RX5 yX5_standAlike yX5_standAlike ∈ wsX2_nightsToRest := List.mem_of_getElem? (i := 40) rfl
def S_X2_nightsToRest_19 (r1 : Int32) (r5 : Int32) (r6 : Int32) (r7 : Int32) (f11 : Nat → Int32) (f12 : Nat → Int32) (f13 : Nat → Int32) (f14 : Nat → Int32) (f15 : Nat → Int32) (K : Int32 → (Nat → Int32) → (Nat → Int32) → Prop) (R19 : Int32 → Int32 → (Nat → Int32) → (Nat → Int32) → Prop) (x2 : Int32) (x3 : Int32) (ef0 : Nat → Int32) (ef1 : Nat → Int32) : Prop := ((62 ≤ x3 → K (-1000000 : Int32) ef0 ef1) ∧ (¬ (62 ≤ x3) → wp_X5_pass_p r1 r6 r7 f11 f12 f13 f14 f15 ef0 (r5 + x3) 31 (fun m2 => wp_X5_standAlike_pq r6 m2 (va_cpy ef0 ef1 0 0 6) (fun q3 => ((q3 = 0 → R19 0 (x3 + 1) m2 (va_cpy ef0 ef1 0 0 6)) ∧ (¬ (q3 = 0) → ((¬ (x2 + 1) = 2 → R19 (x2 + 1) (x3 + 1) m2 (va_cpy ef0 ef1 0 0 6)) ∧ ((x2 + 1) = 2 → K (x3 - 1) m2 (va_cpy ef0 ef1 0 0 6)))))))))
set_option maxHeartbeats 4000000 in
set_option maxRecDepth 100000 in
theorem t_X2_nightsToRest_19 {y : nz_Y} {g : nz_G} (F : nz_F y g cX2_nightsToRest 4 wsX2_nightsToRest RX2 (some .int) rm_X2_nightsToRest) {wc0 : va_W} {sz : Nat} {K : Int32 → (Nat → Int32) → (Nat → Int32) → Prop} (eo : Nat) (ea0 : Nat) (ea1 : Nat) (o : Nat) (a9 : Nat) (a10 : Nat) (a11 : Nat) (a12 : Nat) (a13 : Nat) (a14 : Nat) (a15 : Nat) (a16 : Nat) (r0 : Int32) (r1 : Int32) (r2 : Int32) (r3 : Int32) (r4 : Int32) (r5 : Int32) (r6 : Int32) (r7 : Int32) (r8 : Int32) (f9 : Nat → Int32) (f10 : Nat → Int32) (f11 : Nat → Int32) (f12 : Nat → Int32) (f13 : Nat → Int32) (f14 : Nat → Int32) (f15 : Nat → Int32) (f16 : Nat → Int32) (hQ : yz_A y = va_A wc0 sz ∧ yz_Q y = MQ (yz_b y) ((nz_Qi g wc0 (fun r (u : (Nat → Int32) × (Nat → Int32)) => K r u.1 u.2) (fun u => [(eo, .inr (2, [.ref ea0, .ref ea1])), (ea0, .inl (nz_cI g, 6, .inl u.1)), (ea1, .inl (nz_cI g, 6, .inl u.2)), (o, .inr (5, [.int r0, .int r1, .int r2, .int r3, .int r4, .int r5, .int r6, .int r7, .int r8, .ref a9, .ref a10, .ref a11, .ref a12, .ref a13, .ref a14, .ref a15, .ref a16])), (a9, .inl (nz_cI g, 6, .inl f9)), (a10, .inl (nz_cI g, 6, .inl f10)), (a11, .inl (nz_cI g, 6, .inl f11)), (a12, .inl (nz_cI g, 5, .inl f12)), (a13, .inl (nz_cI g, 5, .inl f13)), (a14, .inl (nz_cI g, 5, .inl f14)), (a15, .inl (nz_cI g, 5, .inl f15)), (a16, .inl (nz_cI g, 48, .inl f16))])) sz) (yz_a y) (yz_s y) 0 0 (va_A wc0 sz)) : ∀ (n1 : Nat) (x2 : Int32) (x3 : Int32) (ef0 : Nat → Int32) (ef1 : Nat → Int32), nz_it (fun _ _ _ _ => False) (S_X2_nightsToRest_19 r1 r5 r6 r7 f11 f12 f13 f14 f15 K) n1 x2 x3 ef0 ef1 → nz_V y g 0 0 [(eo, .inr (2, [.ref ea0, .ref ea1])), (ea0, .inl (nz_cI g, 6, .inl ef0)), (ea1, .inl (nz_cI g, 6, .inl ef1)), (o, .inr (5, [.int r0, .int r1, .int r2, .int r3, .int r4, .int r5, .int r6, .int r7, .int r8, .ref a9, .ref a10, .ref a11, .ref a12, .ref a13, .ref a14, .ref a15, .ref a16])), (a9, .inl (nz_cI g, 6, .inl f9)), (a10, .inl (nz_cI g, 6, .inl f10)), (a11, .inl (nz_cI g, 6, .inl f11)), (a12, .inl (nz_cI g, 5, .inl f12)), (a13, .inl (nz_cI g, 5, .inl f13)), (a14, .inl (nz_cI g, 5, .inl f14)), (a15, .inl (nz_cI g, 5, .inl f15)), (a16, .inl (nz_cI g, 48, .inl f16))] 19 [(0, .ref eo), (1, .ref o), (2, .int x2), (3, .int x3)] [] := by
  intro n1
  induction n1 with
  | zero =>
    intro x2 x3 ef0 ef1 h
    exact h.elim
  | succ n1 hR19 =>
    intro x2 x3 ef0 ef1 h
    have h : S_X2_nightsToRest_19 r1 r5 r6 r7 f11 f12 f13 f14 f15 K (nz_it (fun _ _ _ _ => False) (S_X2_nightsToRest_19 r1 r5 r6 r7 f11 f12 f13 f14 f15 K) n1) x2 x3 ef0 ef1 := h
    unfold S_X2_nightsToRest_19 at h
    refine nz_iload_n F dX2_nightsToRest_19 rfl 3 rfl ?_
    refine nz_bipush (v := 62) F dX2_nightsToRest_20 (by decide) ?_
    refine nz_icmp_ge (tgt := 94) F dX2_nightsToRest_22 (by decide) (fun c1 => ?_) (fun c1 => ?_)
    · have h := h.1 c1
      refine nz_ldc (v := (-1000000 : Int32)) F wd_X2_nightsToRest_c41 dX2_nightsToRest_94 ?_
      exact nz_iret F hQ (ef0, ef1) h rfl dX2_nightsToRest_96
    · have h := h.2 c1
      refine nz_aload_n F dX2_nightsToRest_25 rfl 0 rfl ?_
      refine nz_get F iw_X2_nightsToRest_2 0 rfl rfl 0 (by decide) rfl fl_X2_nightsToRest_11 rfl dX2_nightsToRest_26 ?_
      refine nz_iconst (v := 0) F dX2_nightsToRest_29 (by decide) ?_
      refine nz_aload_n F dX2_nightsToRest_30 rfl 0 rfl ?_
      refine nz_get F iw_X2_nightsToRest_2 0 rfl rfl 1 (by decide) rfl fl_X2_nightsToRest_17 rfl dX2_nightsToRest_31 ?_
      refine nz_iconst (v := 0) F dX2_nightsToRest_34 (by decide) ?_
      refine nz_bipush (v := 6) F dX2_nightsToRest_35 (by decide) ?_
      refine nz_copy (ws' := [(eo, .inr (2, [.ref ea0, .ref ea1])), (ea0, .inl (nz_cI g, 6, .inl ef0)), (ea1, .inl (nz_cI g, 6, .inl (va_cpy ef0 ef1 0 0 6))), (o, .inr (5, [.int r0, .int r1, .int r2, .int r3, .int r4, .int r5, .int r6, .int r7, .int r8, .ref a9, .ref a10, .ref a11, .ref a12, .ref a13, .ref a14, .ref a15, .ref a16])), (a9, .inl (nz_cI g, 6, .inl f9)), (a10, .inl (nz_cI g, 6, .inl f10)), (a11, .inl (nz_cI g, 6, .inl f11)), (a12, .inl (nz_cI g, 5, .inl f12)), (a13, .inl (nz_cI g, 5, .inl f13)), (a14, .inl (nz_cI g, 5, .inl f14)), (a15, .inl (nz_cI g, 5, .inl f15)), (a16, .inl (nz_cI g, 48, .inl f16))]) F wd_X2_nightsToRest_cp0_23 wd_X2_nightsToRest_cp1 wd_X2_nightsToRest_cp2 wd_X2_nightsToRest_cp3 1 2 rfl rfl (by decide) (by decide) (by decide) (by decide) (by decide) rfl (Nat.le_of_ble_eq_true rfl) dX2_nightsToRest_37 rfl ?_
      refine nz_aload_n F dX2_nightsToRest_40 rfl 1 rfl ?_
      refine nz_aload_n F dX2_nightsToRest_41 rfl 0 rfl ?_
      refine nz_get F iw_X2_nightsToRest_2 0 rfl rfl 0 (by decide) rfl fl_X2_nightsToRest_11 rfl dX2_nightsToRest_42 ?_
      refine nz_aload_n F dX2_nightsToRest_45 rfl 1 rfl ?_
      refine nz_getN F iw_X2_nightsToRest_5 3 rfl rfl 5 (by decide) rfl fn_X2_nightsToRest_29 rfl dX2_nightsToRest_46 ?_
      refine nz_iload_n F dX2_nightsToRest_49 rfl 3 rfl ?_
      refine nz_iadd F dX2_nightsToRest_50 ?_
      refine nz_bipush (v := 31) F dX2_nightsToRest_51 (by decide) ?_
      refine k_X5_pass_p o a9 a10 a11 a12 a13 a14 a15 a16 ea0 r0 r1 r2 r3 r4 r5 r6 r7 r8 f9 f10 f11 f12 f13 f14 f15 f16 ef0 (r5 + x3) 31 (fun hM => nz_runVN F gX2_nightsToRest_X5_pass_n33 rfl nt_X2_nightsToRest_X5_pass_33 wd_X2_nightsToRest_in_RX5 wd_X2_nightsToRest_im_X5_pass wd_X2_nightsToRest_se_X5_pass hd_X5_pass rfl hM dX2_nightsToRest_53 [3, 4, 5, 6, 7, 8, 9, 10, 11, 1] rfl rfl 3 rfl rfl rfl (Nat.le_of_ble_eq_true rfl) rfl) h (fun m2 => [(eo, .inr (2, [.ref ea0, .ref ea1])), (ea0, .inl (nz_cI g, 6, .inl m2)), (ea1, .inl (nz_cI g, 6, .inl (va_cpy ef0 ef1 0 0 6))), (o, .inr (5, [.int r0, .int r1, .int r2, .int r3, .int r4, .int r5, .int r6, .int r7, .int r8, .ref a9, .ref a10, .ref a11, .ref a12, .ref a13, .ref a14, .ref a15, .ref a16])), (a9, .inl (nz_cI g, 6, .inl f9)), (a10, .inl (nz_cI g, 6, .inl f10)), (a11, .inl (nz_cI g, 6, .inl f11)), (a12, .inl (nz_cI g, 5, .inl f12)), (a13, .inl (nz_cI g, 5, .inl f13)), (a14, .inl (nz_cI g, 5, .inl f14)), (a15, .inl (nz_cI g, 5, .inl f15)), (a16, .inl (nz_cI g, 48, .inl f16))]) (fun _ => rfl) (fun m2 h => ?_)
      refine nz_aload_n F dX2_nightsToRest_56 rfl 1 rfl ?_
      refine nz_aload_n F dX2_nightsToRest_57 rfl 0 rfl ?_
      refine nz_get F iw_X2_nightsToRest_2 0 rfl rfl 0 (by decide) rfl fl_X2_nightsToRest_11 rfl dX2_nightsToRest_58 ?_
      refine nz_aload_n F dX2_nightsToRest_61 rfl 0 rfl ?_
      refine nz_get F iw_X2_nightsToRest_2 0 rfl rfl 1 (by decide) rfl fl_X2_nightsToRest_17 rfl dX2_nightsToRest_62 ?_
      refine k_X5_standAlike_pq o a9 a10 a11 a12 a13 a14 a15 a16 ea0 ea1 r0 r1 r2 r3 r4 r5 r6 r7 r8 f9 f10 f11 f12 f13 f14 f15 f16 m2 (va_cpy ef0 ef1 0 0 6) (fun hM => nz_runVN F gX2_nightsToRest_X5_standAlike_n37 rfl nt_X2_nightsToRest_X5_standAlike_37 wd_X2_nightsToRest_in_RX5 wd_X2_nightsToRest_im_X5_standAlike wd_X2_nightsToRest_se_X5_standAlike hd_X5_standAlike rfl hM dX2_nightsToRest_65 [3, 4, 5, 6, 7, 8, 9, 10, 11, 1, 2] rfl rfl 3 rfl rfl rfl (Nat.le_of_ble_eq_true rfl) rfl) h ([(eo, .inr (2, [.ref ea0, .ref ea1])), (ea0, .inl (nz_cI g, 6, .inl m2)), (ea1, .inl (nz_cI g, 6, .inl (va_cpy ef0 ef1 0 0 6))), (o, .inr (5, [.int r0, .int r1, .int r2, .int r3, .int r4, .int r5, .int r6, .int r7, .int r8, .ref a9, .ref a10, .ref a11, .ref a12, .ref a13, .ref a14, .ref a15, .ref a16])), (a9, .inl (nz_cI g, 6, .inl f9)), (a10, .inl (nz_cI g, 6, .inl f10)), (a11, .inl (nz_cI g, 6, .inl f11)), (a12, .inl (nz_cI g, 5, .inl f12)), (a13, .inl (nz_cI g, 5, .inl f13)), (a14, .inl (nz_cI g, 5, .inl f14)), (a15, .inl (nz_cI g, 5, .inl f15)), (a16, .inl (nz_cI g, 48, .inl f16))]) (rfl) (fun q3 h => ?_)
      refine nz_if_eq (tgt := 77) F dX2_nightsToRest_68 (by decide) (fun c4 => ?_) (fun c4 => ?_)
      · have h := h.1 c4
        refine nz_iconst (v := 0) F dX2_nightsToRest_77 (by decide) ?_
        refine nz_istore_n (lv' := [(2, .int 0), (0, .ref eo), (1, .ref o), (3, .int x3)]) F dX2_nightsToRest_78 rfl (by decide) rfl ?_
        refine nz_iload_n F dX2_nightsToRest_79 rfl 0 rfl ?_
        refine nz_iconst (v := 2) F dX2_nightsToRest_80 (by decide) ?_
        refine nz_icmp_ne (tgt := 88) F dX2_nightsToRest_81 (by decide) (fun _ => ?_) (fun c5 => absurd c5 (by decide))
        refine nz_iinc (v := (x3 + 1)) (j := 3) (lv' := [(3, .int (x3 + 1)), (2, .int 0), (0, .ref eo), (1, .ref o)]) F dX2_nightsToRest_88 rfl rfl (by decide) rfl ?_
        refine nz_goto (tgt := 19) F dX2_nightsToRest_91 (by decide) ?_
        refine nz_ls (lv' := [(0, .ref eo), (1, .ref o), (2, .int 0), (3, .int (x3 + 1))]) [2, 3, 1, 0] rfl ?_
        exact hR19 0 (x3 + 1) m2 (va_cpy ef0 ef1 0 0 6) h
      · have h := h.2 c4
        refine nz_iload_n F dX2_nightsToRest_71 rfl 2 rfl ?_
        refine nz_iconst (v := 1) F dX2_nightsToRest_72 (by decide) ?_
        refine nz_iadd F dX2_nightsToRest_73 ?_
        refine nz_goto (tgt := 78) F dX2_nightsToRest_74 (by decide) ?_
        refine nz_istore_n (lv' := [(2, .int (x2 + 1)), (0, .ref eo), (1, .ref o), (3, .int x3)]) F dX2_nightsToRest_78 rfl (by decide) rfl ?_
        refine nz_iload_n F dX2_nightsToRest_79 rfl 0 rfl ?_
        refine nz_iconst (v := 2) F dX2_nightsToRest_80 (by decide) ?_
        refine nz_icmp_ne (tgt := 88) F dX2_nightsToRest_81 (by decide) (fun c6 => ?_) (fun c6 => ?_)
        · have h := h.1 c6
          refine nz_iinc (v := (x3 + 1)) (j := 3) (lv' := [(3, .int (x3 + 1)), (2, .int (x2 + 1)), (0, .ref eo), (1, .ref o)]) F dX2_nightsToRest_88 rfl rfl (by decide) rfl ?_
          refine nz_goto (tgt := 19) F dX2_nightsToRest_91 (by decide) ?_
          refine nz_ls (lv' := [(0, .ref eo), (1, .ref o), (2, .int (x2 + 1)), (3, .int (x3 + 1))]) [2, 3, 1, 0] rfl ?_
          exact hR19 (x2 + 1) (x3 + 1) m2 (va_cpy ef0 ef1 0 0 6) h
        · have h := h.2 c6
          refine nz_iload_n F dX2_nightsToRest_84 rfl 3 rfl ?_
          refine nz_iconst (v := 1) F dX2_nightsToRest_85 (by decide) ?_
          refine nz_isub F dX2_nightsToRest_86 ?_
          exact nz_iret F hQ (m2, (va_cpy ef0 ef1 0 0 6)) h rfl dX2_nightsToRest_87
def wp_X2_nightsToRest (ef0 : Nat → Int32) (ef1 : Nat → Int32) (r1 : Int32) (r5 : Int32) (r6 : Int32) (r7 : Int32) (f10 : Nat → Int32) (f11 : Nat → Int32) (f12 : Nat → Int32) (f13 : Nat → Int32) (f14 : Nat → Int32) (f15 : Nat → Int32) (K : Int32 → (Nat → Int32) → (Nat → Int32) → Prop) : Prop := (∃ n, nz_it (fun _ _ _ _ => False) (S_X2_nightsToRest_19 r1 r5 r6 r7 f11 f12 f13 f14 f15 K) n 0 0 (va_cpy f10 ef0 0 0 6) ef1)
set_option maxHeartbeats 4000000 in
set_option maxRecDepth 100000 in
theorem c_X2_nightsToRest (l : Launch) (g : nz_G) (eo : Nat) (ea0 : Nat) (ea1 : Nat) (o : Nat) (a9 : Nat) (a10 : Nat) (a11 : Nat) (a12 : Nat) (a13 : Nat) (a14 : Nat) (a15 : Nat) (a16 : Nat) (ef0 : Nat → Int32) (ef1 : Nat → Int32) (r0 : Int32) (r1 : Int32) (r2 : Int32) (r3 : Int32) (r4 : Int32) (r5 : Int32) (r6 : Int32) (r7 : Int32) (r8 : Int32) (f9 : Nat → Int32) (f10 : Nat → Int32) (f11 : Nat → Int32) (f12 : Nat → Int32) (f13 : Nat → Int32) (f14 : Nat → Int32) (f15 : Nat → Int32) (f16 : Nat → Int32) (K : Int32 → (Nat → Int32) → (Nat → Int32) → Prop) (h : wp_X2_nightsToRest ef0 ef1 r1 r5 r6 r7 f10 f11 f12 f13 f14 f15 K) : nz_M l yX2_nightsToRest wsX2_nightsToRest rm_X2_nightsToRest g [.ref eo, .ref o] [(eo, .inr (2, [.ref ea0, .ref ea1])), (ea0, .inl (nz_cI g, 6, .inl ef0)), (ea1, .inl (nz_cI g, 6, .inl ef1)), (o, .inr (5, [.int r0, .int r1, .int r2, .int r3, .int r4, .int r5, .int r6, .int r7, .int r8, .ref a9, .ref a10, .ref a11, .ref a12, .ref a13, .ref a14, .ref a15, .ref a16])), (a9, .inl (nz_cI g, 6, .inl f9)), (a10, .inl (nz_cI g, 6, .inl f10)), (a11, .inl (nz_cI g, 6, .inl f11)), (a12, .inl (nz_cI g, 5, .inl f12)), (a13, .inl (nz_cI g, 5, .inl f13)), (a14, .inl (nz_cI g, 5, .inl f14)), (a15, .inl (nz_cI g, 5, .inl f15)), (a16, .inl (nz_cI g, 48, .inl f16))] (nz_Qi g [(eo, .inr (2, [.ref ea0, .ref ea1])), (ea0, .inl (nz_cI g, 6, .inl ef0)), (ea1, .inl (nz_cI g, 6, .inl ef1)), (o, .inr (5, [.int r0, .int r1, .int r2, .int r3, .int r4, .int r5, .int r6, .int r7, .int r8, .ref a9, .ref a10, .ref a11, .ref a12, .ref a13, .ref a14, .ref a15, .ref a16])), (a9, .inl (nz_cI g, 6, .inl f9)), (a10, .inl (nz_cI g, 6, .inl f10)), (a11, .inl (nz_cI g, 6, .inl f11)), (a12, .inl (nz_cI g, 5, .inl f12)), (a13, .inl (nz_cI g, 5, .inl f13)), (a14, .inl (nz_cI g, 5, .inl f14)), (a15, .inl (nz_cI g, 5, .inl f15)), (a16, .inl (nz_cI g, 48, .inl f16))] (fun r (u : (Nat → Int32) × (Nat → Int32)) => K r u.1 u.2) (fun u => [(eo, .inr (2, [.ref ea0, .ref ea1])), (ea0, .inl (nz_cI g, 6, .inl u.1)), (ea1, .inl (nz_cI g, 6, .inl u.2)), (o, .inr (5, [.int r0, .int r1, .int r2, .int r3, .int r4, .int r5, .int r6, .int r7, .int r8, .ref a9, .ref a10, .ref a11, .ref a12, .ref a13, .ref a14, .ref a15, .ref a16])), (a9, .inl (nz_cI g, 6, .inl f9)), (a10, .inl (nz_cI g, 6, .inl f10)), (a11, .inl (nz_cI g, 6, .inl f11)), (a12, .inl (nz_cI g, 5, .inl f12)), (a13, .inl (nz_cI g, 5, .inl f13)), (a14, .inl (nz_cI g, 5, .inl f14)), (a15, .inl (nz_cI g, 5, .inl f15)), (a16, .inl (nz_cI g, 48, .inl f16))])) := by
  refine nz_M.of (bytes := cX2_nightsToRest) (nL := 4) (ret := (some .int)) (own := RX2) (by decide) rfl rfl ⟨rfl, rfl⟩ rfl ?_
  intro y F hl hQ
  obtain ⟨sz, hQ⟩ := hQ
  refine nz_ent (lv' := [(0, .ref eo), (1, .ref o)]) rfl ?_
  unfold wp_X2_nightsToRest at h
  refine nz_iconst (v := 0) F dX2_nightsToRest_0 (by decide) ?_
  refine nz_istore_n (lv' := [(2, .int 0), (0, .ref eo), (1, .ref o)]) F dX2_nightsToRest_1 rfl (by decide) rfl ?_
  refine nz_aload_n F dX2_nightsToRest_2 rfl 2 rfl ?_
  refine nz_getN F iw_X2_nightsToRest_5 3 rfl rfl 10 (by decide) rfl fn_X2_nightsToRest_20 rfl dX2_nightsToRest_3 ?_
  refine nz_iconst (v := 0) F dX2_nightsToRest_6 (by decide) ?_
  refine nz_aload_n F dX2_nightsToRest_7 rfl 1 rfl ?_
  refine nz_get F iw_X2_nightsToRest_2 0 rfl rfl 0 (by decide) rfl fl_X2_nightsToRest_11 rfl dX2_nightsToRest_8 ?_
  refine nz_iconst (v := 0) F dX2_nightsToRest_11 (by decide) ?_
  refine nz_bipush (v := 6) F dX2_nightsToRest_12 (by decide) ?_
  refine nz_copy (ws' := [(eo, .inr (2, [.ref ea0, .ref ea1])), (ea0, .inl (nz_cI g, 6, .inl (va_cpy f10 ef0 0 0 6))), (ea1, .inl (nz_cI g, 6, .inl ef1)), (o, .inr (5, [.int r0, .int r1, .int r2, .int r3, .int r4, .int r5, .int r6, .int r7, .int r8, .ref a9, .ref a10, .ref a11, .ref a12, .ref a13, .ref a14, .ref a15, .ref a16])), (a9, .inl (nz_cI g, 6, .inl f9)), (a10, .inl (nz_cI g, 6, .inl f10)), (a11, .inl (nz_cI g, 6, .inl f11)), (a12, .inl (nz_cI g, 5, .inl f12)), (a13, .inl (nz_cI g, 5, .inl f13)), (a14, .inl (nz_cI g, 5, .inl f14)), (a15, .inl (nz_cI g, 5, .inl f15)), (a16, .inl (nz_cI g, 48, .inl f16))]) F wd_X2_nightsToRest_cp0_23 wd_X2_nightsToRest_cp1 wd_X2_nightsToRest_cp2 wd_X2_nightsToRest_cp3 5 1 rfl rfl (by decide) (by decide) (by decide) (by decide) (by decide) rfl (Nat.le_of_ble_eq_true rfl) dX2_nightsToRest_14 rfl ?_
  refine nz_iconst (v := 0) F dX2_nightsToRest_17 (by decide) ?_
  refine nz_istore_n (lv' := [(3, .int 0), (2, .int 0), (0, .ref eo), (1, .ref o)]) F dX2_nightsToRest_18 rfl (by decide) rfl ?_
  refine nz_ls (lv' := [(0, .ref eo), (1, .ref o), (2, .int 0), (3, .int 0)]) [2, 3, 1, 0] rfl ?_
  obtain ⟨n1, h⟩ := h
  exact t_X2_nightsToRest_19 F eo ea0 ea1 o a9 a10 a11 a12 a13 a14 a15 a16 r0 r1 r2 r3 r4 r5 r6 r7 r8 f9 f10 f11 f12 f13 f14 f15 f16 hQ n1 0 0 (va_cpy f10 ef0 0 0 6) ef1 h
theorem k_X2_nightsToRest {y : nz_Y} {g : nz_G} {k n : Nat} {ws : va_W} {pc : Nat} {ls : List (Nat × Value)} {st rest : List Value} {av : Array Value} {isC : List Nat} {K : Int32 → (Nat → Int32) → (Nat → Int32) → Prop} (eo : Nat) (ea0 : Nat) (ea1 : Nat) (o : Nat) (a9 : Nat) (a10 : Nat) (a11 : Nat) (a12 : Nat) (a13 : Nat) (a14 : Nat) (a15 : Nat) (a16 : Nat) (ef0 : Nat → Int32) (ef1 : Nat → Int32) (r0 : Int32) (r1 : Int32) (r2 : Int32) (r3 : Int32) (r4 : Int32) (r5 : Int32) (r6 : Int32) (r7 : Int32) (r8 : Int32) (f9 : Nat → Int32) (f10 : Nat → Int32) (f11 : Nat → Int32) (f12 : Nat → Int32) (f13 : Nat → Int32) (f14 : Nat → Int32) (f15 : Nat → Int32) (f16 : Nat → Int32) (run : nz_M (yz_l y) yX2_nightsToRest wsX2_nightsToRest rm_X2_nightsToRest g [.ref eo, .ref o] [(eo, .inr (2, [.ref ea0, .ref ea1])), (ea0, .inl (nz_cI g, 6, .inl ef0)), (ea1, .inl (nz_cI g, 6, .inl ef1)), (o, .inr (5, [.int r0, .int r1, .int r2, .int r3, .int r4, .int r5, .int r6, .int r7, .int r8, .ref a9, .ref a10, .ref a11, .ref a12, .ref a13, .ref a14, .ref a15, .ref a16])), (a9, .inl (nz_cI g, 6, .inl f9)), (a10, .inl (nz_cI g, 6, .inl f10)), (a11, .inl (nz_cI g, 6, .inl f11)), (a12, .inl (nz_cI g, 5, .inl f12)), (a13, .inl (nz_cI g, 5, .inl f13)), (a14, .inl (nz_cI g, 5, .inl f14)), (a15, .inl (nz_cI g, 5, .inl f15)), (a16, .inl (nz_cI g, 48, .inl f16))] (nz_Qi g [(eo, .inr (2, [.ref ea0, .ref ea1])), (ea0, .inl (nz_cI g, 6, .inl ef0)), (ea1, .inl (nz_cI g, 6, .inl ef1)), (o, .inr (5, [.int r0, .int r1, .int r2, .int r3, .int r4, .int r5, .int r6, .int r7, .int r8, .ref a9, .ref a10, .ref a11, .ref a12, .ref a13, .ref a14, .ref a15, .ref a16])), (a9, .inl (nz_cI g, 6, .inl f9)), (a10, .inl (nz_cI g, 6, .inl f10)), (a11, .inl (nz_cI g, 6, .inl f11)), (a12, .inl (nz_cI g, 5, .inl f12)), (a13, .inl (nz_cI g, 5, .inl f13)), (a14, .inl (nz_cI g, 5, .inl f14)), (a15, .inl (nz_cI g, 5, .inl f15)), (a16, .inl (nz_cI g, 48, .inl f16))] (fun r (u : (Nat → Int32) × (Nat → Int32)) => K r u.1 u.2) (fun u => [(eo, .inr (2, [.ref ea0, .ref ea1])), (ea0, .inl (nz_cI g, 6, .inl u.1)), (ea1, .inl (nz_cI g, 6, .inl u.2)), (o, .inr (5, [.int r0, .int r1, .int r2, .int r3, .int r4, .int r5, .int r6, .int r7, .int r8, .ref a9, .ref a10, .ref a11, .ref a12, .ref a13, .ref a14, .ref a15, .ref a16])), (a9, .inl (nz_cI g, 6, .inl f9)), (a10, .inl (nz_cI g, 6, .inl f10)), (a11, .inl (nz_cI g, 6, .inl f11)), (a12, .inl (nz_cI g, 5, .inl f12)), (a13, .inl (nz_cI g, 5, .inl f13)), (a14, .inl (nz_cI g, 5, .inl f14)), (a15, .inl (nz_cI g, 5, .inl f15)), (a16, .inl (nz_cI g, 48, .inl f16))])) → nz_C y g k n ws pc ls st rest [(eo, .inr (2, [.ref ea0, .ref ea1])), (ea0, .inl (nz_cI g, 6, .inl ef0)), (ea1, .inl (nz_cI g, 6, .inl ef1)), (o, .inr (5, [.int r0, .int r1, .int r2, .int r3, .int r4, .int r5, .int r6, .int r7, .int r8, .ref a9, .ref a10, .ref a11, .ref a12, .ref a13, .ref a14, .ref a15, .ref a16])), (a9, .inl (nz_cI g, 6, .inl f9)), (a10, .inl (nz_cI g, 6, .inl f10)), (a11, .inl (nz_cI g, 6, .inl f11)), (a12, .inl (nz_cI g, 5, .inl f12)), (a13, .inl (nz_cI g, 5, .inl f13)), (a14, .inl (nz_cI g, 5, .inl f14)), (a15, .inl (nz_cI g, 5, .inl f15)), (a16, .inl (nz_cI g, 48, .inl f16))] (nz_Qi g [(eo, .inr (2, [.ref ea0, .ref ea1])), (ea0, .inl (nz_cI g, 6, .inl ef0)), (ea1, .inl (nz_cI g, 6, .inl ef1)), (o, .inr (5, [.int r0, .int r1, .int r2, .int r3, .int r4, .int r5, .int r6, .int r7, .int r8, .ref a9, .ref a10, .ref a11, .ref a12, .ref a13, .ref a14, .ref a15, .ref a16])), (a9, .inl (nz_cI g, 6, .inl f9)), (a10, .inl (nz_cI g, 6, .inl f10)), (a11, .inl (nz_cI g, 6, .inl f11)), (a12, .inl (nz_cI g, 5, .inl f12)), (a13, .inl (nz_cI g, 5, .inl f13)), (a14, .inl (nz_cI g, 5, .inl f14)), (a15, .inl (nz_cI g, 5, .inl f15)), (a16, .inl (nz_cI g, 48, .inl f16))] (fun r (u : (Nat → Int32) × (Nat → Int32)) => K r u.1 u.2) (fun u => [(eo, .inr (2, [.ref ea0, .ref ea1])), (ea0, .inl (nz_cI g, 6, .inl u.1)), (ea1, .inl (nz_cI g, 6, .inl u.2)), (o, .inr (5, [.int r0, .int r1, .int r2, .int r3, .int r4, .int r5, .int r6, .int r7, .int r8, .ref a9, .ref a10, .ref a11, .ref a12, .ref a13, .ref a14, .ref a15, .ref a16])), (a9, .inl (nz_cI g, 6, .inl f9)), (a10, .inl (nz_cI g, 6, .inl f10)), (a11, .inl (nz_cI g, 6, .inl f11)), (a12, .inl (nz_cI g, 5, .inl f12)), (a13, .inl (nz_cI g, 5, .inl f13)), (a14, .inl (nz_cI g, 5, .inl f14)), (a15, .inl (nz_cI g, 5, .inl f15)), (a16, .inl (nz_cI g, 48, .inl f16))])) av isC) (h : wp_X2_nightsToRest ef0 ef1 r1 r5 r6 r7 f10 f11 f12 f13 f14 f15 K) (ws' : (Nat → Int32) → (Nat → Int32) → va_W) (hm : ∀ (m0 : (Nat → Int32)) (m1 : (Nat → Int32)), nz_mrg ws isC [(eo, .inr (2, [.ref ea0, .ref ea1])), (ea0, .inl (nz_cI g, 6, .inl m0)), (ea1, .inl (nz_cI g, 6, .inl m1)), (o, .inr (5, [.int r0, .int r1, .int r2, .int r3, .int r4, .int r5, .int r6, .int r7, .int r8, .ref a9, .ref a10, .ref a11, .ref a12, .ref a13, .ref a14, .ref a15, .ref a16])), (a9, .inl (nz_cI g, 6, .inl f9)), (a10, .inl (nz_cI g, 6, .inl f10)), (a11, .inl (nz_cI g, 6, .inl f11)), (a12, .inl (nz_cI g, 5, .inl f12)), (a13, .inl (nz_cI g, 5, .inl f13)), (a14, .inl (nz_cI g, 5, .inl f14)), (a15, .inl (nz_cI g, 5, .inl f15)), (a16, .inl (nz_cI g, 48, .inl f16))] = ws' m0 m1) (kk : ∀ (r : Int32) (m0 : (Nat → Int32)) (m1 : (Nat → Int32)), K r m0 m1 → nz_V y g k n (ws' m0 m1) (pc + 3) ls (.int r :: rest)) : nz_V y g k n ws pc ls st :=
  nz_ci (ws' := fun u => ws' u.1 u.2) (run (c_X2_nightsToRest (yz_l y) g eo ea0 ea1 o a9 a10 a11 a12 a13 a14 a15 a16 ef0 ef1 r0 r1 r2 r3 r4 r5 r6 r7 r8 f9 f10 f11 f12 f13 f14 f15 f16 K h)) (fun _ => rfl) (fun u => hm u.1 u.2) (fun r u h => kk r u.1 u.2 h)
theorem dX2_setsThatFit_0 : decode cX2_setsThatFit 0 = .ok (.iconst 0, 1) := by decide +kernel
theorem dX2_setsThatFit_1 : decode cX2_setsThatFit 1 = .ok (.istore_n 3, 1) := by decide +kernel
theorem dX2_setsThatFit_2 : decode cX2_setsThatFit 2 = .ok (.iconst 0, 1) := by decide +kernel
theorem dX2_setsThatFit_3 : decode cX2_setsThatFit 3 = .ok (.istore 4, 2) := by decide +kernel
theorem dX2_setsThatFit_5 : decode cX2_setsThatFit 5 = .ok (.iload 4, 2) := by decide +kernel
theorem dX2_setsThatFit_7 : decode cX2_setsThatFit 7 = .ok (.iconst 1, 1) := by decide +kernel
theorem dX2_setsThatFit_8 : decode cX2_setsThatFit 8 = .ok (.aload_n 1, 1) := by decide +kernel
theorem dX2_setsThatFit_9 : decode cX2_setsThatFit 9 = .ok (.getfield 58, 3) := by decide +kernel
theorem dX2_setsThatFit_12 : decode cX2_setsThatFit 12 = .ok (.ishl, 1) := by decide +kernel
theorem dX2_setsThatFit_13 : decode cX2_setsThatFit 13 = .ok (.if_icmp .ge 23, 3) := by decide +kernel
theorem dX2_setsThatFit_16 : decode cX2_setsThatFit 16 = .ok (.aload_n 0, 1) := by decide +kernel
theorem dX2_setsThatFit_17 : decode cX2_setsThatFit 17 = .ok (.aload_n 1, 1) := by decide +kernel
theorem dX2_setsThatFit_18 : decode cX2_setsThatFit 18 = .ok (.iload_n 2, 1) := by decide +kernel
theorem dX2_setsThatFit_19 : decode cX2_setsThatFit 19 = .ok (.iload 4, 2) := by decide +kernel
theorem dX2_setsThatFit_21 : decode cX2_setsThatFit 21 = .ok (.invokevirtual 61, 3) := by decide +kernel
theorem dX2_setsThatFit_24 : decode cX2_setsThatFit 24 = .ok (.ifCond .eq 6, 3) := by decide +kernel
theorem dX2_setsThatFit_27 : decode cX2_setsThatFit 27 = .ok (.iinc 3 1, 3) := by decide +kernel
theorem dX2_setsThatFit_30 : decode cX2_setsThatFit 30 = .ok (.iinc 4 1, 3) := by decide +kernel
theorem dX2_setsThatFit_33 : decode cX2_setsThatFit 33 = .ok (.goto (-28), 3) := by decide +kernel
theorem dX2_setsThatFit_36 : decode cX2_setsThatFit 36 = .ok (.iload_n 3, 1) := by decide +kernel
theorem dX2_setsThatFit_37 : decode cX2_setsThatFit 37 = .ok (.ireturn, 1) := by decide +kernel
set_option maxRecDepth 20000 in
theorem ggX2_setsThatFit_X2_fits : GoodIn wsX2_setsThatFit wsX2_fits := goodIn_r _ [5, 6, 7, 8, 9, 10, 11, 12, 13, 14, 15, 16, 17, 18, 19, 20, 21, 22, 23, 24, 25, 26, 27, 28, 29, 30, 31, 32, 33, 34, 35, 36, 37, 38, 39, 40, 41, 42, 43, 44, 45, 46, 47, 48, 49, 50, 51, 52, 53, 54, 55, 56, 57, 58, 59, 60, 61, 62, 63] rfl (by decide +kernel)
set_option maxRecDepth 20000 in
theorem gX2_setsThatFit_X2_fits : GoodIn wsX2_setsThatFit (wsV RX2 61 RX2 yX2_fits wsX2_fits) := goodIn_app (goodIn_r _ [1, 2, 3, 4] rfl (by decide +kernel)) ggX2_setsThatFit_X2_fits
theorem hd_X2_fits : yX2_fits.cls = RX2 ∧ yX2_fits.cls ≠ "java/lang/invoke/MethodHandle" ∧ yX2_fits.cls ≠ "java/lang/invoke/VarHandle" ∧ (parseMethodDescriptor yX2_fits.desc).map (fun d => d.parameters.length) = some 3 := by decide +kernel
/-! X2_setsThatFit -/
abbrev rm_X2_setsThatFit : Room := { frames := 4, cells := 0, slots := 0, locals := 97 }
theorem iw_X2_setsThatFit_5 : ∀ w ∈ wsX50, w ∈ wsX2_setsThatFit := fun _ h => List.mem_cons_of_mem _ (List.mem_append_left _ (List.mem_append_right _ h))
theorem fn_X2_setsThatFit_58 : Cond.fieldLinkNest RX2 58 "NightStones$Road" "movers" "I" RX7 ∈ nz_nest := List.mem_of_getElem? (i := 22) rfl
def S_X2_setsThatFit_5 (r1 : Int32) (r6 : Int32) (r7 : Int32) (f10 : Nat → Int32) (f11 : Nat → Int32) (f12 : Nat → Int32) (f13 : Nat → Int32) (f14 : Nat → Int32) (f15 : Nat → Int32) (v2 : Int32) (K : Int32 → (Nat → Int32) → Prop) (R5 : Int32 → Int32 → (Nat → Int32) → Prop) (x3 : Int32) (x4 : Int32) (ef0 : Nat → Int32) : Prop := (((1 <<< (r7 &&& 31)) ≤ x4 → K x3 ef0) ∧ (¬ ((1 <<< (r7 &&& 31)) ≤ x4) → wp_X2_fits ef0 r1 r6 r7 f10 f11 f12 f13 f14 f15 v2 x4 (fun q2 m3 => ((q2 = 0 → R5 x3 (x4 + 1) m3) ∧ (¬ (q2 = 0) → R5 (x3 + 1) (x4 + 1) m3)))))
set_option maxHeartbeats 4000000 in
set_option maxRecDepth 100000 in
theorem t_X2_setsThatFit_5 {y : nz_Y} {g : nz_G} (F : nz_F y g cX2_setsThatFit 5 wsX2_setsThatFit RX2 (some .int) rm_X2_setsThatFit) {wc0 : va_W} {sz : Nat} {K : Int32 → (Nat → Int32) → Prop} (eo : Nat) (ea0 : Nat) (ea1 : Nat) (o : Nat) (a9 : Nat) (a10 : Nat) (a11 : Nat) (a12 : Nat) (a13 : Nat) (a14 : Nat) (a15 : Nat) (a16 : Nat) (ef1 : Nat → Int32) (r0 : Int32) (r1 : Int32) (r2 : Int32) (r3 : Int32) (r4 : Int32) (r5 : Int32) (r6 : Int32) (r7 : Int32) (r8 : Int32) (f9 : Nat → Int32) (f10 : Nat → Int32) (f11 : Nat → Int32) (f12 : Nat → Int32) (f13 : Nat → Int32) (f14 : Nat → Int32) (f15 : Nat → Int32) (f16 : Nat → Int32) (v2 : Int32) (hQ : yz_A y = va_A wc0 sz ∧ yz_Q y = MQ (yz_b y) ((nz_Qi g wc0 (fun r (u : (Nat → Int32)) => K r u) (fun u => [(eo, .inr (2, [.ref ea0, .ref ea1])), (ea0, .inl (nz_cI g, 6, .inl u)), (ea1, .inl (nz_cI g, 6, .inl ef1)), (o, .inr (5, [.int r0, .int r1, .int r2, .int r3, .int r4, .int r5, .int r6, .int r7, .int r8, .ref a9, .ref a10, .ref a11, .ref a12, .ref a13, .ref a14, .ref a15, .ref a16])), (a9, .inl (nz_cI g, 6, .inl f9)), (a10, .inl (nz_cI g, 6, .inl f10)), (a11, .inl (nz_cI g, 6, .inl f11)), (a12, .inl (nz_cI g, 5, .inl f12)), (a13, .inl (nz_cI g, 5, .inl f13)), (a14, .inl (nz_cI g, 5, .inl f14)), (a15, .inl (nz_cI g, 5, .inl f15)), (a16, .inl (nz_cI g, 48, .inl f16))])) sz) (yz_a y) (yz_s y) 0 0 (va_A wc0 sz)) : ∀ (n1 : Nat) (x3 : Int32) (x4 : Int32) (ef0 : Nat → Int32), nz_it (fun _ _ _ => False) (S_X2_setsThatFit_5 r1 r6 r7 f10 f11 f12 f13 f14 f15 v2 K) n1 x3 x4 ef0 → nz_V y g 0 0 [(eo, .inr (2, [.ref ea0, .ref ea1])), (ea0, .inl (nz_cI g, 6, .inl ef0)), (ea1, .inl (nz_cI g, 6, .inl ef1)), (o, .inr (5, [.int r0, .int r1, .int r2, .int r3, .int r4, .int r5, .int r6, .int r7, .int r8, .ref a9, .ref a10, .ref a11, .ref a12, .ref a13, .ref a14, .ref a15, .ref a16])), (a9, .inl (nz_cI g, 6, .inl f9)), (a10, .inl (nz_cI g, 6, .inl f10)), (a11, .inl (nz_cI g, 6, .inl f11)), (a12, .inl (nz_cI g, 5, .inl f12)), (a13, .inl (nz_cI g, 5, .inl f13)), (a14, .inl (nz_cI g, 5, .inl f14)), (a15, .inl (nz_cI g, 5, .inl f15)), (a16, .inl (nz_cI g, 48, .inl f16))] 5 [(0, .ref eo), (1, .ref o), (2, .int v2), (3, .int x3), (4, .int x4)] [] := by
  intro n1
  induction n1 with
  | zero =>
    intro x3 x4 ef0 h
    exact h.elim
  | succ n1 hR5 =>
    intro x3 x4 ef0 h
    have h : S_X2_setsThatFit_5 r1 r6 r7 f10 f11 f12 f13 f14 f15 v2 K (nz_it (fun _ _ _ => False) (S_X2_setsThatFit_5 r1 r6 r7 f10 f11 f12 f13 f14 f15 v2 K) n1) x3 x4 ef0 := h
    unfold S_X2_setsThatFit_5 at h
    refine nz_iload F dX2_setsThatFit_5 4 rfl ?_
    refine nz_iconst (v := 1) F dX2_setsThatFit_7 (by decide) ?_
    refine nz_aload_n F dX2_setsThatFit_8 rfl 1 rfl ?_
    refine nz_getN F iw_X2_setsThatFit_5 3 rfl rfl 7 (by decide) rfl fn_X2_setsThatFit_58 rfl dX2_setsThatFit_9 ?_
    refine nz_ishl F dX2_setsThatFit_12 ?_
    refine nz_icmp_ge (tgt := 36) F dX2_setsThatFit_13 (by decide) (fun c1 => ?_) (fun c1 => ?_)
    · have h := h.1 c1
      refine nz_iload_n F dX2_setsThatFit_36 rfl 3 rfl ?_
      exact nz_iret F hQ ef0 h rfl dX2_setsThatFit_37
    · have h := h.2 c1
      refine nz_aload_n F dX2_setsThatFit_16 rfl 0 rfl ?_
      refine nz_aload_n F dX2_setsThatFit_17 rfl 1 rfl ?_
      refine nz_iload_n F dX2_setsThatFit_18 rfl 2 rfl ?_
      refine nz_iload F dX2_setsThatFit_19 4 rfl ?_
      refine k_X2_fits eo ea0 ea1 o a9 a10 a11 a12 a13 a14 a15 a16 ef0 ef1 r0 r1 r2 r3 r4 r5 r6 r7 r8 f9 f10 f11 f12 f13 f14 f15 f16 v2 x4 (fun hM => nz_runV F gX2_setsThatFit_X2_fits rfl hd_X2_fits rfl hM dX2_setsThatFit_21 [0, 1, 2, 3, 4, 5, 6, 7, 8, 9, 10, 11] rfl rfl 0 rfl rfl rfl (Nat.le_of_ble_eq_true rfl) rfl) h (fun m3 => [(eo, .inr (2, [.ref ea0, .ref ea1])), (ea0, .inl (nz_cI g, 6, .inl m3)), (ea1, .inl (nz_cI g, 6, .inl ef1)), (o, .inr (5, [.int r0, .int r1, .int r2, .int r3, .int r4, .int r5, .int r6, .int r7, .int r8, .ref a9, .ref a10, .ref a11, .ref a12, .ref a13, .ref a14, .ref a15, .ref a16])), (a9, .inl (nz_cI g, 6, .inl f9)), (a10, .inl (nz_cI g, 6, .inl f10)), (a11, .inl (nz_cI g, 6, .inl f11)), (a12, .inl (nz_cI g, 5, .inl f12)), (a13, .inl (nz_cI g, 5, .inl f13)), (a14, .inl (nz_cI g, 5, .inl f14)), (a15, .inl (nz_cI g, 5, .inl f15)), (a16, .inl (nz_cI g, 48, .inl f16))]) (fun _ => rfl) (fun q2 m3 h => ?_)
      refine nz_if_eq (tgt := 30) F dX2_setsThatFit_24 (by decide) (fun c4 => ?_) (fun c4 => ?_)
      · have h := h.1 c4
        refine nz_iinc (v := (x4 + 1)) (j := 4) (lv' := [(4, .int (x4 + 1)), (0, .ref eo), (1, .ref o), (2, .int v2), (3, .int x3)]) F dX2_setsThatFit_30 rfl rfl (by decide) rfl ?_
        refine nz_goto (tgt := 5) F dX2_setsThatFit_33 (by decide) ?_
        refine nz_ls (lv' := [(0, .ref eo), (1, .ref o), (2, .int v2), (3, .int x3), (4, .int (x4 + 1))]) [1, 2, 3, 4, 0] rfl ?_
        exact hR5 x3 (x4 + 1) m3 h
      · have h := h.2 c4
        refine nz_iinc (v := (x3 + 1)) (j := 3) (lv' := [(3, .int (x3 + 1)), (0, .ref eo), (1, .ref o), (2, .int v2), (4, .int x4)]) F dX2_setsThatFit_27 rfl rfl (by decide) rfl ?_
        refine nz_iinc (v := (x4 + 1)) (j := 4) (lv' := [(4, .int (x4 + 1)), (3, .int (x3 + 1)), (0, .ref eo), (1, .ref o), (2, .int v2)]) F dX2_setsThatFit_30 rfl rfl (by decide) rfl ?_
        refine nz_goto (tgt := 5) F dX2_setsThatFit_33 (by decide) ?_
        refine nz_ls (lv' := [(0, .ref eo), (1, .ref o), (2, .int v2), (3, .int (x3 + 1)), (4, .int (x4 + 1))]) [2, 3, 4, 1, 0] rfl ?_
        exact hR5 (x3 + 1) (x4 + 1) m3 h
def wp_X2_setsThatFit (ef0 : Nat → Int32) (r1 : Int32) (r6 : Int32) (r7 : Int32) (f10 : Nat → Int32) (f11 : Nat → Int32) (f12 : Nat → Int32) (f13 : Nat → Int32) (f14 : Nat → Int32) (f15 : Nat → Int32) (v2 : Int32) (K : Int32 → (Nat → Int32) → Prop) : Prop := (∃ n, nz_it (fun _ _ _ => False) (S_X2_setsThatFit_5 r1 r6 r7 f10 f11 f12 f13 f14 f15 v2 K) n 0 0 ef0)
set_option maxHeartbeats 4000000 in
set_option maxRecDepth 100000 in
theorem c_X2_setsThatFit (l : Launch) (g : nz_G) (eo : Nat) (ea0 : Nat) (ea1 : Nat) (o : Nat) (a9 : Nat) (a10 : Nat) (a11 : Nat) (a12 : Nat) (a13 : Nat) (a14 : Nat) (a15 : Nat) (a16 : Nat) (ef0 : Nat → Int32) (ef1 : Nat → Int32) (r0 : Int32) (r1 : Int32) (r2 : Int32) (r3 : Int32) (r4 : Int32) (r5 : Int32) (r6 : Int32) (r7 : Int32) (r8 : Int32) (f9 : Nat → Int32) (f10 : Nat → Int32) (f11 : Nat → Int32) (f12 : Nat → Int32) (f13 : Nat → Int32) (f14 : Nat → Int32) (f15 : Nat → Int32) (f16 : Nat → Int32) (v2 : Int32) (K : Int32 → (Nat → Int32) → Prop) (h : wp_X2_setsThatFit ef0 r1 r6 r7 f10 f11 f12 f13 f14 f15 v2 K) : nz_M l yX2_setsThatFit wsX2_setsThatFit rm_X2_setsThatFit g [.ref eo, .ref o, .int v2] [(eo, .inr (2, [.ref ea0, .ref ea1])), (ea0, .inl (nz_cI g, 6, .inl ef0)), (ea1, .inl (nz_cI g, 6, .inl ef1)), (o, .inr (5, [.int r0, .int r1, .int r2, .int r3, .int r4, .int r5, .int r6, .int r7, .int r8, .ref a9, .ref a10, .ref a11, .ref a12, .ref a13, .ref a14, .ref a15, .ref a16])), (a9, .inl (nz_cI g, 6, .inl f9)), (a10, .inl (nz_cI g, 6, .inl f10)), (a11, .inl (nz_cI g, 6, .inl f11)), (a12, .inl (nz_cI g, 5, .inl f12)), (a13, .inl (nz_cI g, 5, .inl f13)), (a14, .inl (nz_cI g, 5, .inl f14)), (a15, .inl (nz_cI g, 5, .inl f15)), (a16, .inl (nz_cI g, 48, .inl f16))] (nz_Qi g [(eo, .inr (2, [.ref ea0, .ref ea1])), (ea0, .inl (nz_cI g, 6, .inl ef0)), (ea1, .inl (nz_cI g, 6, .inl ef1)), (o, .inr (5, [.int r0, .int r1, .int r2, .int r3, .int r4, .int r5, .int r6, .int r7, .int r8, .ref a9, .ref a10, .ref a11, .ref a12, .ref a13, .ref a14, .ref a15, .ref a16])), (a9, .inl (nz_cI g, 6, .inl f9)), (a10, .inl (nz_cI g, 6, .inl f10)), (a11, .inl (nz_cI g, 6, .inl f11)), (a12, .inl (nz_cI g, 5, .inl f12)), (a13, .inl (nz_cI g, 5, .inl f13)), (a14, .inl (nz_cI g, 5, .inl f14)), (a15, .inl (nz_cI g, 5, .inl f15)), (a16, .inl (nz_cI g, 48, .inl f16))] (fun r (u : (Nat → Int32)) => K r u) (fun u => [(eo, .inr (2, [.ref ea0, .ref ea1])), (ea0, .inl (nz_cI g, 6, .inl u)), (ea1, .inl (nz_cI g, 6, .inl ef1)), (o, .inr (5, [.int r0, .int r1, .int r2, .int r3, .int r4, .int r5, .int r6, .int r7, .int r8, .ref a9, .ref a10, .ref a11, .ref a12, .ref a13, .ref a14, .ref a15, .ref a16])), (a9, .inl (nz_cI g, 6, .inl f9)), (a10, .inl (nz_cI g, 6, .inl f10)), (a11, .inl (nz_cI g, 6, .inl f11)), (a12, .inl (nz_cI g, 5, .inl f12)), (a13, .inl (nz_cI g, 5, .inl f13)), (a14, .inl (nz_cI g, 5, .inl f14)), (a15, .inl (nz_cI g, 5, .inl f15)), (a16, .inl (nz_cI g, 48, .inl f16))])) := by
  refine nz_M.of (bytes := cX2_setsThatFit) (nL := 5) (ret := (some .int)) (own := RX2) (by decide) rfl rfl ⟨rfl, rfl⟩ rfl ?_
  intro y F hl hQ
  obtain ⟨sz, hQ⟩ := hQ
  refine nz_ent (lv' := [(0, .ref eo), (1, .ref o), (2, .int v2)]) rfl ?_
  unfold wp_X2_setsThatFit at h
  refine nz_iconst (v := 0) F dX2_setsThatFit_0 (by decide) ?_
  refine nz_istore_n (lv' := [(3, .int 0), (0, .ref eo), (1, .ref o), (2, .int v2)]) F dX2_setsThatFit_1 rfl (by decide) rfl ?_
  refine nz_iconst (v := 0) F dX2_setsThatFit_2 (by decide) ?_
  refine nz_istore (lv' := [(4, .int 0), (3, .int 0), (0, .ref eo), (1, .ref o), (2, .int v2)]) F dX2_setsThatFit_3 (by decide) rfl ?_
  refine nz_ls (lv' := [(0, .ref eo), (1, .ref o), (2, .int v2), (3, .int 0), (4, .int 0)]) [2, 3, 4, 1, 0] rfl ?_
  obtain ⟨n1, h⟩ := h
  exact t_X2_setsThatFit_5 F eo ea0 ea1 o a9 a10 a11 a12 a13 a14 a15 a16 ef1 r0 r1 r2 r3 r4 r5 r6 r7 r8 f9 f10 f11 f12 f13 f14 f15 f16 v2 hQ n1 0 0 ef0 h
theorem k_X2_setsThatFit {y : nz_Y} {g : nz_G} {k n : Nat} {ws : va_W} {pc : Nat} {ls : List (Nat × Value)} {st rest : List Value} {av : Array Value} {isC : List Nat} {K : Int32 → (Nat → Int32) → Prop} (eo : Nat) (ea0 : Nat) (ea1 : Nat) (o : Nat) (a9 : Nat) (a10 : Nat) (a11 : Nat) (a12 : Nat) (a13 : Nat) (a14 : Nat) (a15 : Nat) (a16 : Nat) (ef0 : Nat → Int32) (ef1 : Nat → Int32) (r0 : Int32) (r1 : Int32) (r2 : Int32) (r3 : Int32) (r4 : Int32) (r5 : Int32) (r6 : Int32) (r7 : Int32) (r8 : Int32) (f9 : Nat → Int32) (f10 : Nat → Int32) (f11 : Nat → Int32) (f12 : Nat → Int32) (f13 : Nat → Int32) (f14 : Nat → Int32) (f15 : Nat → Int32) (f16 : Nat → Int32) (v2 : Int32) (run : nz_M (yz_l y) yX2_setsThatFit wsX2_setsThatFit rm_X2_setsThatFit g [.ref eo, .ref o, .int v2] [(eo, .inr (2, [.ref ea0, .ref ea1])), (ea0, .inl (nz_cI g, 6, .inl ef0)), (ea1, .inl (nz_cI g, 6, .inl ef1)), (o, .inr (5, [.int r0, .int r1, .int r2, .int r3, .int r4, .int r5, .int r6, .int r7, .int r8, .ref a9, .ref a10, .ref a11, .ref a12, .ref a13, .ref a14, .ref a15, .ref a16])), (a9, .inl (nz_cI g, 6, .inl f9)), (a10, .inl (nz_cI g, 6, .inl f10)), (a11, .inl (nz_cI g, 6, .inl f11)), (a12, .inl (nz_cI g, 5, .inl f12)), (a13, .inl (nz_cI g, 5, .inl f13)), (a14, .inl (nz_cI g, 5, .inl f14)), (a15, .inl (nz_cI g, 5, .inl f15)), (a16, .inl (nz_cI g, 48, .inl f16))] (nz_Qi g [(eo, .inr (2, [.ref ea0, .ref ea1])), (ea0, .inl (nz_cI g, 6, .inl ef0)), (ea1, .inl (nz_cI g, 6, .inl ef1)), (o, .inr (5, [.int r0, .int r1, .int r2, .int r3, .int r4, .int r5, .int r6, .int r7, .int r8, .ref a9, .ref a10, .ref a11, .ref a12, .ref a13, .ref a14, .ref a15, .ref a16])), (a9, .inl (nz_cI g, 6, .inl f9)), (a10, .inl (nz_cI g, 6, .inl f10)), (a11, .inl (nz_cI g, 6, .inl f11)), (a12, .inl (nz_cI g, 5, .inl f12)), (a13, .inl (nz_cI g, 5, .inl f13)), (a14, .inl (nz_cI g, 5, .inl f14)), (a15, .inl (nz_cI g, 5, .inl f15)), (a16, .inl (nz_cI g, 48, .inl f16))] (fun r (u : (Nat → Int32)) => K r u) (fun u => [(eo, .inr (2, [.ref ea0, .ref ea1])), (ea0, .inl (nz_cI g, 6, .inl u)), (ea1, .inl (nz_cI g, 6, .inl ef1)), (o, .inr (5, [.int r0, .int r1, .int r2, .int r3, .int r4, .int r5, .int r6, .int r7, .int r8, .ref a9, .ref a10, .ref a11, .ref a12, .ref a13, .ref a14, .ref a15, .ref a16])), (a9, .inl (nz_cI g, 6, .inl f9)), (a10, .inl (nz_cI g, 6, .inl f10)), (a11, .inl (nz_cI g, 6, .inl f11)), (a12, .inl (nz_cI g, 5, .inl f12)), (a13, .inl (nz_cI g, 5, .inl f13)), (a14, .inl (nz_cI g, 5, .inl f14)), (a15, .inl (nz_cI g, 5, .inl f15)), (a16, .inl (nz_cI g, 48, .inl f16))])) → nz_C y g k n ws pc ls st rest [(eo, .inr (2, [.ref ea0, .ref ea1])), (ea0, .inl (nz_cI g, 6, .inl ef0)), (ea1, .inl (nz_cI g, 6, .inl ef1)), (o, .inr (5, [.int r0, .int r1, .int r2, .int r3, .int r4, .int r5, .int r6, .int r7, .int r8, .ref a9, .ref a10, .ref a11, .ref a12, .ref a13, .ref a14, .ref a15, .ref a16])), (a9, .inl (nz_cI g, 6, .inl f9)), (a10, .inl (nz_cI g, 6, .inl f10)), (a11, .inl (nz_cI g, 6, .inl f11)), (a12, .inl (nz_cI g, 5, .inl f12)), (a13, .inl (nz_cI g, 5, .inl f13)), (a14, .inl (nz_cI g, 5, .inl f14)), (a15, .inl (nz_cI g, 5, .inl f15)), (a16, .inl (nz_cI g, 48, .inl f16))] (nz_Qi g [(eo, .inr (2, [.ref ea0, .ref ea1])), (ea0, .inl (nz_cI g, 6, .inl ef0)), (ea1, .inl (nz_cI g, 6, .inl ef1)), (o, .inr (5, [.int r0, .int r1, .int r2, .int r3, .int r4, .int r5, .int r6, .int r7, .int r8, .ref a9, .ref a10, .ref a11, .ref a12, .ref a13, .ref a14, .ref a15, .ref a16])), (a9, .inl (nz_cI g, 6, .inl f9)), (a10, .inl (nz_cI g, 6, .inl f10)), (a11, .inl (nz_cI g, 6, .inl f11)), (a12, .inl (nz_cI g, 5, .inl f12)), (a13, .inl (nz_cI g, 5, .inl f13)), (a14, .inl (nz_cI g, 5, .inl f14)), (a15, .inl (nz_cI g, 5, .inl f15)), (a16, .inl (nz_cI g, 48, .inl f16))] (fun r (u : (Nat → Int32)) => K r u) (fun u => [(eo, .inr (2, [.ref ea0, .ref ea1])), (ea0, .inl (nz_cI g, 6, .inl u)), (ea1, .inl (nz_cI g, 6, .inl ef1)), (o, .inr (5, [.int r0, .int r1, .int r2, .int r3, .int r4, .int r5, .int r6, .int r7, .int r8, .ref a9, .ref a10, .ref a11, .ref a12, .ref a13, .ref a14, .ref a15, .ref a16])), (a9, .inl (nz_cI g, 6, .inl f9)), (a10, .inl (nz_cI g, 6, .inl f10)), (a11, .inl (nz_cI g, 6, .inl f11)), (a12, .inl (nz_cI g, 5, .inl f12)), (a13, .inl (nz_cI g, 5, .inl f13)), (a14, .inl (nz_cI g, 5, .inl f14)), (a15, .inl (nz_cI g, 5, .inl f15)), (a16, .inl (nz_cI g, 48, .inl f16))])) av isC) (h : wp_X2_setsThatFit ef0 r1 r6 r7 f10 f11 f12 f13 f14 f15 v2 K) (ws' : (Nat → Int32) → va_W) (hm : ∀ (m0 : (Nat → Int32)), nz_mrg ws isC [(eo, .inr (2, [.ref ea0, .ref ea1])), (ea0, .inl (nz_cI g, 6, .inl m0)), (ea1, .inl (nz_cI g, 6, .inl ef1)), (o, .inr (5, [.int r0, .int r1, .int r2, .int r3, .int r4, .int r5, .int r6, .int r7, .int r8, .ref a9, .ref a10, .ref a11, .ref a12, .ref a13, .ref a14, .ref a15, .ref a16])), (a9, .inl (nz_cI g, 6, .inl f9)), (a10, .inl (nz_cI g, 6, .inl f10)), (a11, .inl (nz_cI g, 6, .inl f11)), (a12, .inl (nz_cI g, 5, .inl f12)), (a13, .inl (nz_cI g, 5, .inl f13)), (a14, .inl (nz_cI g, 5, .inl f14)), (a15, .inl (nz_cI g, 5, .inl f15)), (a16, .inl (nz_cI g, 48, .inl f16))] = ws' m0) (kk : ∀ (r : Int32) (m0 : (Nat → Int32)), K r m0 → nz_V y g k n (ws' m0) (pc + 3) ls (.int r :: rest)) : nz_V y g k n ws pc ls st :=
  nz_ci (ws' := fun u => ws' u) (run (c_X2_setsThatFit (yz_l y) g eo ea0 ea1 o a9 a10 a11 a12 a13 a14 a15 a16 ef0 ef1 r0 r1 r2 r3 r4 r5 r6 r7 r8 f9 f10 f11 f12 f13 f14 f15 f16 v2 K h)) (fun _ => rfl) (fun u => hm u) (fun r u h => kk r u h)
theorem dX2_leastSetThatFits_0 : decode cX2_leastSetThatFits 0 = .ok (.iconst 0, 1) := by decide +kernel
theorem dX2_leastSetThatFits_1 : decode cX2_leastSetThatFits 1 = .ok (.istore_n 3, 1) := by decide +kernel
theorem dX2_leastSetThatFits_2 : decode cX2_leastSetThatFits 2 = .ok (.iload_n 3, 1) := by decide +kernel
theorem dX2_leastSetThatFits_3 : decode cX2_leastSetThatFits 3 = .ok (.iconst 1, 1) := by decide +kernel
theorem dX2_leastSetThatFits_4 : decode cX2_leastSetThatFits 4 = .ok (.aload_n 1, 1) := by decide +kernel
theorem dX2_leastSetThatFits_5 : decode cX2_leastSetThatFits 5 = .ok (.getfield 58, 3) := by decide +kernel
theorem dX2_leastSetThatFits_8 : decode cX2_leastSetThatFits 8 = .ok (.ishl, 1) := by decide +kernel
theorem dX2_leastSetThatFits_9 : decode cX2_leastSetThatFits 9 = .ok (.if_icmp .ge 21, 3) := by decide +kernel
theorem dX2_leastSetThatFits_12 : decode cX2_leastSetThatFits 12 = .ok (.aload_n 0, 1) := by decide +kernel
theorem dX2_leastSetThatFits_13 : decode cX2_leastSetThatFits 13 = .ok (.aload_n 1, 1) := by decide +kernel
theorem dX2_leastSetThatFits_14 : decode cX2_leastSetThatFits 14 = .ok (.iload_n 2, 1) := by decide +kernel
theorem dX2_leastSetThatFits_15 : decode cX2_leastSetThatFits 15 = .ok (.iload_n 3, 1) := by decide +kernel
theorem dX2_leastSetThatFits_16 : decode cX2_leastSetThatFits 16 = .ok (.invokevirtual 61, 3) := by decide +kernel
theorem dX2_leastSetThatFits_19 : decode cX2_leastSetThatFits 19 = .ok (.ifCond .eq 5, 3) := by decide +kernel
theorem dX2_leastSetThatFits_22 : decode cX2_leastSetThatFits 22 = .ok (.iload_n 3, 1) := by decide +kernel
theorem dX2_leastSetThatFits_23 : decode cX2_leastSetThatFits 23 = .ok (.ireturn, 1) := by decide +kernel
theorem dX2_leastSetThatFits_24 : decode cX2_leastSetThatFits 24 = .ok (.iinc 3 1, 3) := by decide +kernel
theorem dX2_leastSetThatFits_27 : decode cX2_leastSetThatFits 27 = .ok (.goto (-25), 3) := by decide +kernel
theorem dX2_leastSetThatFits_30 : decode cX2_leastSetThatFits 30 = .ok (.ldc 41, 2) := by decide +kernel
theorem dX2_leastSetThatFits_32 : decode cX2_leastSetThatFits 32 = .ok (.ireturn, 1) := by decide +kernel
set_option maxRecDepth 20000 in
theorem ggX2_leastSetThatFits_X2_fits : GoodIn wsX2_leastSetThatFits wsX2_fits := goodIn_r _ [6, 7, 8, 9, 10, 11, 12, 13, 14, 15, 16, 17, 18, 19, 20, 21, 22, 23, 24, 25, 26, 27, 28, 29, 30, 31, 32, 33, 34, 35, 36, 37, 38, 39, 40, 41, 42, 43, 44, 45, 46, 47, 48, 49, 50, 51, 52, 53, 54, 55, 56, 57, 58, 59, 60, 61, 62, 63, 64] rfl (by decide +kernel)
set_option maxRecDepth 20000 in
theorem gX2_leastSetThatFits_X2_fits : GoodIn wsX2_leastSetThatFits (wsV RX2 61 RX2 yX2_fits wsX2_fits) := goodIn_app (goodIn_r _ [2, 3, 4, 5] rfl (by decide +kernel)) ggX2_leastSetThatFits_X2_fits
/-! X2_leastSetThatFits -/
abbrev rm_X2_leastSetThatFits : Room := { frames := 4, cells := 0, slots := 0, locals := 97 }
theorem iw_X2_leastSetThatFits_5 : ∀ w ∈ wsX50, w ∈ wsX2_leastSetThatFits := fun _ h => List.mem_cons_of_mem _ (List.mem_append_left _ (List.mem_append_right _ h))
theorem fn_X2_leastSetThatFits_58 : Cond.fieldLinkNest RX2 58 "NightStones$Road" "movers" "I" RX7 ∈ nz_nest := List.mem_of_getElem? (i := 22) rfl
theorem wd_X2_leastSetThatFits_c41 : Cond.constant RX2 41 (-1000000) ∈ wsX2_leastSetThatFits := List.mem_of_getElem? (i := 1) rfl
def S_X2_leastSetThatFits_2 (r1 : Int32) (r6 : Int32) (r7 : Int32) (f10 : Nat → Int32) (f11 : Nat → Int32) (f12 : Nat → Int32) (f13 : Nat → Int32) (f14 : Nat → Int32) (f15 : Nat → Int32) (v2 : Int32) (K : Int32 → (Nat → Int32) → Prop) (R2 : Int32 → (Nat → Int32) → Prop) (x3 : Int32) (ef0 : Nat → Int32) : Prop := (((1 <<< (r7 &&& 31)) ≤ x3 → K (-1000000 : Int32) ef0) ∧ (¬ ((1 <<< (r7 &&& 31)) ≤ x3) → wp_X2_fits ef0 r1 r6 r7 f10 f11 f12 f13 f14 f15 v2 x3 (fun q2 m3 => ((q2 = 0 → R2 (x3 + 1) m3) ∧ (¬ (q2 = 0) → K x3 m3)))))
set_option maxHeartbeats 4000000 in
set_option maxRecDepth 100000 in
theorem t_X2_leastSetThatFits_2 {y : nz_Y} {g : nz_G} (F : nz_F y g cX2_leastSetThatFits 4 wsX2_leastSetThatFits RX2 (some .int) rm_X2_leastSetThatFits) {wc0 : va_W} {sz : Nat} {K : Int32 → (Nat → Int32) → Prop} (eo : Nat) (ea0 : Nat) (ea1 : Nat) (o : Nat) (a9 : Nat) (a10 : Nat) (a11 : Nat) (a12 : Nat) (a13 : Nat) (a14 : Nat) (a15 : Nat) (a16 : Nat) (ef1 : Nat → Int32) (r0 : Int32) (r1 : Int32) (r2 : Int32) (r3 : Int32) (r4 : Int32) (r5 : Int32) (r6 : Int32) (r7 : Int32) (r8 : Int32) (f9 : Nat → Int32) (f10 : Nat → Int32) (f11 : Nat → Int32) (f12 : Nat → Int32) (f13 : Nat → Int32) (f14 : Nat → Int32) (f15 : Nat → Int32) (f16 : Nat → Int32) (v2 : Int32) (hQ : yz_A y = va_A wc0 sz ∧ yz_Q y = MQ (yz_b y) ((nz_Qi g wc0 (fun r (u : (Nat → Int32)) => K r u) (fun u => [(eo, .inr (2, [.ref ea0, .ref ea1])), (ea0, .inl (nz_cI g, 6, .inl u)), (ea1, .inl (nz_cI g, 6, .inl ef1)), (o, .inr (5, [.int r0, .int r1, .int r2, .int r3, .int r4, .int r5, .int r6, .int r7, .int r8, .ref a9, .ref a10, .ref a11, .ref a12, .ref a13, .ref a14, .ref a15, .ref a16])), (a9, .inl (nz_cI g, 6, .inl f9)), (a10, .inl (nz_cI g, 6, .inl f10)), (a11, .inl (nz_cI g, 6, .inl f11)), (a12, .inl (nz_cI g, 5, .inl f12)), (a13, .inl (nz_cI g, 5, .inl f13)), (a14, .inl (nz_cI g, 5, .inl f14)), (a15, .inl (nz_cI g, 5, .inl f15)), (a16, .inl (nz_cI g, 48, .inl f16))])) sz) (yz_a y) (yz_s y) 0 0 (va_A wc0 sz)) : ∀ (n1 : Nat) (x3 : Int32) (ef0 : Nat → Int32), nz_it (fun _ _ => False) (S_X2_leastSetThatFits_2 r1 r6 r7 f10 f11 f12 f13 f14 f15 v2 K) n1 x3 ef0 → nz_V y g 0 0 [(eo, .inr (2, [.ref ea0, .ref ea1])), (ea0, .inl (nz_cI g, 6, .inl ef0)), (ea1, .inl (nz_cI g, 6, .inl ef1)), (o, .inr (5, [.int r0, .int r1, .int r2, .int r3, .int r4, .int r5, .int r6, .int r7, .int r8, .ref a9, .ref a10, .ref a11, .ref a12, .ref a13, .ref a14, .ref a15, .ref a16])), (a9, .inl (nz_cI g, 6, .inl f9)), (a10, .inl (nz_cI g, 6, .inl f10)), (a11, .inl (nz_cI g, 6, .inl f11)), (a12, .inl (nz_cI g, 5, .inl f12)), (a13, .inl (nz_cI g, 5, .inl f13)), (a14, .inl (nz_cI g, 5, .inl f14)), (a15, .inl (nz_cI g, 5, .inl f15)), (a16, .inl (nz_cI g, 48, .inl f16))] 2 [(0, .ref eo), (1, .ref o), (2, .int v2), (3, .int x3)] [] := by
  intro n1
  induction n1 with
  | zero =>
    intro x3 ef0 h
    exact h.elim
  | succ n1 hR2 =>
    intro x3 ef0 h
    have h : S_X2_leastSetThatFits_2 r1 r6 r7 f10 f11 f12 f13 f14 f15 v2 K (nz_it (fun _ _ => False) (S_X2_leastSetThatFits_2 r1 r6 r7 f10 f11 f12 f13 f14 f15 v2 K) n1) x3 ef0 := h
    unfold S_X2_leastSetThatFits_2 at h
    refine nz_iload_n F dX2_leastSetThatFits_2 rfl 3 rfl ?_
    refine nz_iconst (v := 1) F dX2_leastSetThatFits_3 (by decide) ?_
    refine nz_aload_n F dX2_leastSetThatFits_4 rfl 1 rfl ?_
    refine nz_getN F iw_X2_leastSetThatFits_5 3 rfl rfl 7 (by decide) rfl fn_X2_leastSetThatFits_58 rfl dX2_leastSetThatFits_5 ?_
    refine nz_ishl F dX2_leastSetThatFits_8 ?_
    refine nz_icmp_ge (tgt := 30) F dX2_leastSetThatFits_9 (by decide) (fun c1 => ?_) (fun c1 => ?_)
    · have h := h.1 c1
      refine nz_ldc (v := (-1000000 : Int32)) F wd_X2_leastSetThatFits_c41 dX2_leastSetThatFits_30 ?_
      exact nz_iret F hQ ef0 h rfl dX2_leastSetThatFits_32
    · have h := h.2 c1
      refine nz_aload_n F dX2_leastSetThatFits_12 rfl 0 rfl ?_
      refine nz_aload_n F dX2_leastSetThatFits_13 rfl 1 rfl ?_
      refine nz_iload_n F dX2_leastSetThatFits_14 rfl 2 rfl ?_
      refine nz_iload_n F dX2_leastSetThatFits_15 rfl 3 rfl ?_
      refine k_X2_fits eo ea0 ea1 o a9 a10 a11 a12 a13 a14 a15 a16 ef0 ef1 r0 r1 r2 r3 r4 r5 r6 r7 r8 f9 f10 f11 f12 f13 f14 f15 f16 v2 x3 (fun hM => nz_runV F gX2_leastSetThatFits_X2_fits rfl hd_X2_fits rfl hM dX2_leastSetThatFits_16 [0, 1, 2, 3, 4, 5, 6, 7, 8, 9, 10, 11] rfl rfl 0 rfl rfl rfl (Nat.le_of_ble_eq_true rfl) rfl) h (fun m3 => [(eo, .inr (2, [.ref ea0, .ref ea1])), (ea0, .inl (nz_cI g, 6, .inl m3)), (ea1, .inl (nz_cI g, 6, .inl ef1)), (o, .inr (5, [.int r0, .int r1, .int r2, .int r3, .int r4, .int r5, .int r6, .int r7, .int r8, .ref a9, .ref a10, .ref a11, .ref a12, .ref a13, .ref a14, .ref a15, .ref a16])), (a9, .inl (nz_cI g, 6, .inl f9)), (a10, .inl (nz_cI g, 6, .inl f10)), (a11, .inl (nz_cI g, 6, .inl f11)), (a12, .inl (nz_cI g, 5, .inl f12)), (a13, .inl (nz_cI g, 5, .inl f13)), (a14, .inl (nz_cI g, 5, .inl f14)), (a15, .inl (nz_cI g, 5, .inl f15)), (a16, .inl (nz_cI g, 48, .inl f16))]) (fun _ => rfl) (fun q2 m3 h => ?_)
      refine nz_if_eq (tgt := 24) F dX2_leastSetThatFits_19 (by decide) (fun c4 => ?_) (fun c4 => ?_)
      · have h := h.1 c4
        refine nz_iinc (v := (x3 + 1)) (j := 3) (lv' := [(3, .int (x3 + 1)), (0, .ref eo), (1, .ref o), (2, .int v2)]) F dX2_leastSetThatFits_24 rfl rfl (by decide) rfl ?_
        refine nz_goto (tgt := 2) F dX2_leastSetThatFits_27 (by decide) ?_
        refine nz_ls (lv' := [(0, .ref eo), (1, .ref o), (2, .int v2), (3, .int (x3 + 1))]) [1, 2, 3, 0] rfl ?_
        exact hR2 (x3 + 1) m3 h
      · have h := h.2 c4
        refine nz_iload_n F dX2_leastSetThatFits_22 rfl 3 rfl ?_
        exact nz_iret F hQ m3 h rfl dX2_leastSetThatFits_23
def wp_X2_leastSetThatFits (ef0 : Nat → Int32) (r1 : Int32) (r6 : Int32) (r7 : Int32) (f10 : Nat → Int32) (f11 : Nat → Int32) (f12 : Nat → Int32) (f13 : Nat → Int32) (f14 : Nat → Int32) (f15 : Nat → Int32) (v2 : Int32) (K : Int32 → (Nat → Int32) → Prop) : Prop := (∃ n, nz_it (fun _ _ => False) (S_X2_leastSetThatFits_2 r1 r6 r7 f10 f11 f12 f13 f14 f15 v2 K) n 0 ef0)
set_option maxHeartbeats 4000000 in
set_option maxRecDepth 100000 in
theorem c_X2_leastSetThatFits (l : Launch) (g : nz_G) (eo : Nat) (ea0 : Nat) (ea1 : Nat) (o : Nat) (a9 : Nat) (a10 : Nat) (a11 : Nat) (a12 : Nat) (a13 : Nat) (a14 : Nat) (a15 : Nat) (a16 : Nat) (ef0 : Nat → Int32) (ef1 : Nat → Int32) (r0 : Int32) (r1 : Int32) (r2 : Int32) (r3 : Int32) (r4 : Int32) (r5 : Int32) (r6 : Int32) (r7 : Int32) (r8 : Int32) (f9 : Nat → Int32) (f10 : Nat → Int32) (f11 : Nat → Int32) (f12 : Nat → Int32) (f13 : Nat → Int32) (f14 : Nat → Int32) (f15 : Nat → Int32) (f16 : Nat → Int32) (v2 : Int32) (K : Int32 → (Nat → Int32) → Prop) (h : wp_X2_leastSetThatFits ef0 r1 r6 r7 f10 f11 f12 f13 f14 f15 v2 K) : nz_M l yX2_leastSetThatFits wsX2_leastSetThatFits rm_X2_leastSetThatFits g [.ref eo, .ref o, .int v2] [(eo, .inr (2, [.ref ea0, .ref ea1])), (ea0, .inl (nz_cI g, 6, .inl ef0)), (ea1, .inl (nz_cI g, 6, .inl ef1)), (o, .inr (5, [.int r0, .int r1, .int r2, .int r3, .int r4, .int r5, .int r6, .int r7, .int r8, .ref a9, .ref a10, .ref a11, .ref a12, .ref a13, .ref a14, .ref a15, .ref a16])), (a9, .inl (nz_cI g, 6, .inl f9)), (a10, .inl (nz_cI g, 6, .inl f10)), (a11, .inl (nz_cI g, 6, .inl f11)), (a12, .inl (nz_cI g, 5, .inl f12)), (a13, .inl (nz_cI g, 5, .inl f13)), (a14, .inl (nz_cI g, 5, .inl f14)), (a15, .inl (nz_cI g, 5, .inl f15)), (a16, .inl (nz_cI g, 48, .inl f16))] (nz_Qi g [(eo, .inr (2, [.ref ea0, .ref ea1])), (ea0, .inl (nz_cI g, 6, .inl ef0)), (ea1, .inl (nz_cI g, 6, .inl ef1)), (o, .inr (5, [.int r0, .int r1, .int r2, .int r3, .int r4, .int r5, .int r6, .int r7, .int r8, .ref a9, .ref a10, .ref a11, .ref a12, .ref a13, .ref a14, .ref a15, .ref a16])), (a9, .inl (nz_cI g, 6, .inl f9)), (a10, .inl (nz_cI g, 6, .inl f10)), (a11, .inl (nz_cI g, 6, .inl f11)), (a12, .inl (nz_cI g, 5, .inl f12)), (a13, .inl (nz_cI g, 5, .inl f13)), (a14, .inl (nz_cI g, 5, .inl f14)), (a15, .inl (nz_cI g, 5, .inl f15)), (a16, .inl (nz_cI g, 48, .inl f16))] (fun r (u : (Nat → Int32)) => K r u) (fun u => [(eo, .inr (2, [.ref ea0, .ref ea1])), (ea0, .inl (nz_cI g, 6, .inl u)), (ea1, .inl (nz_cI g, 6, .inl ef1)), (o, .inr (5, [.int r0, .int r1, .int r2, .int r3, .int r4, .int r5, .int r6, .int r7, .int r8, .ref a9, .ref a10, .ref a11, .ref a12, .ref a13, .ref a14, .ref a15, .ref a16])), (a9, .inl (nz_cI g, 6, .inl f9)), (a10, .inl (nz_cI g, 6, .inl f10)), (a11, .inl (nz_cI g, 6, .inl f11)), (a12, .inl (nz_cI g, 5, .inl f12)), (a13, .inl (nz_cI g, 5, .inl f13)), (a14, .inl (nz_cI g, 5, .inl f14)), (a15, .inl (nz_cI g, 5, .inl f15)), (a16, .inl (nz_cI g, 48, .inl f16))])) := by
  refine nz_M.of (bytes := cX2_leastSetThatFits) (nL := 4) (ret := (some .int)) (own := RX2) (by decide) rfl rfl ⟨rfl, rfl⟩ rfl ?_
  intro y F hl hQ
  obtain ⟨sz, hQ⟩ := hQ
  refine nz_ent (lv' := [(0, .ref eo), (1, .ref o), (2, .int v2)]) rfl ?_
  unfold wp_X2_leastSetThatFits at h
  refine nz_iconst (v := 0) F dX2_leastSetThatFits_0 (by decide) ?_
  refine nz_istore_n (lv' := [(3, .int 0), (0, .ref eo), (1, .ref o), (2, .int v2)]) F dX2_leastSetThatFits_1 rfl (by decide) rfl ?_
  refine nz_ls (lv' := [(0, .ref eo), (1, .ref o), (2, .int v2), (3, .int 0)]) [1, 2, 3, 0] rfl ?_
  obtain ⟨n1, h⟩ := h
  exact t_X2_leastSetThatFits_2 F eo ea0 ea1 o a9 a10 a11 a12 a13 a14 a15 a16 ef1 r0 r1 r2 r3 r4 r5 r6 r7 r8 f9 f10 f11 f12 f13 f14 f15 f16 v2 hQ n1 0 ef0 h
theorem k_X2_leastSetThatFits {y : nz_Y} {g : nz_G} {k n : Nat} {ws : va_W} {pc : Nat} {ls : List (Nat × Value)} {st rest : List Value} {av : Array Value} {isC : List Nat} {K : Int32 → (Nat → Int32) → Prop} (eo : Nat) (ea0 : Nat) (ea1 : Nat) (o : Nat) (a9 : Nat) (a10 : Nat) (a11 : Nat) (a12 : Nat) (a13 : Nat) (a14 : Nat) (a15 : Nat) (a16 : Nat) (ef0 : Nat → Int32) (ef1 : Nat → Int32) (r0 : Int32) (r1 : Int32) (r2 : Int32) (r3 : Int32) (r4 : Int32) (r5 : Int32) (r6 : Int32) (r7 : Int32) (r8 : Int32) (f9 : Nat → Int32) (f10 : Nat → Int32) (f11 : Nat → Int32) (f12 : Nat → Int32) (f13 : Nat → Int32) (f14 : Nat → Int32) (f15 : Nat → Int32) (f16 : Nat → Int32) (v2 : Int32) (run : nz_M (yz_l y) yX2_leastSetThatFits wsX2_leastSetThatFits rm_X2_leastSetThatFits g [.ref eo, .ref o, .int v2] [(eo, .inr (2, [.ref ea0, .ref ea1])), (ea0, .inl (nz_cI g, 6, .inl ef0)), (ea1, .inl (nz_cI g, 6, .inl ef1)), (o, .inr (5, [.int r0, .int r1, .int r2, .int r3, .int r4, .int r5, .int r6, .int r7, .int r8, .ref a9, .ref a10, .ref a11, .ref a12, .ref a13, .ref a14, .ref a15, .ref a16])), (a9, .inl (nz_cI g, 6, .inl f9)), (a10, .inl (nz_cI g, 6, .inl f10)), (a11, .inl (nz_cI g, 6, .inl f11)), (a12, .inl (nz_cI g, 5, .inl f12)), (a13, .inl (nz_cI g, 5, .inl f13)), (a14, .inl (nz_cI g, 5, .inl f14)), (a15, .inl (nz_cI g, 5, .inl f15)), (a16, .inl (nz_cI g, 48, .inl f16))] (nz_Qi g [(eo, .inr (2, [.ref ea0, .ref ea1])), (ea0, .inl (nz_cI g, 6, .inl ef0)), (ea1, .inl (nz_cI g, 6, .inl ef1)), (o, .inr (5, [.int r0, .int r1, .int r2, .int r3, .int r4, .int r5, .int r6, .int r7, .int r8, .ref a9, .ref a10, .ref a11, .ref a12, .ref a13, .ref a14, .ref a15, .ref a16])), (a9, .inl (nz_cI g, 6, .inl f9)), (a10, .inl (nz_cI g, 6, .inl f10)), (a11, .inl (nz_cI g, 6, .inl f11)), (a12, .inl (nz_cI g, 5, .inl f12)), (a13, .inl (nz_cI g, 5, .inl f13)), (a14, .inl (nz_cI g, 5, .inl f14)), (a15, .inl (nz_cI g, 5, .inl f15)), (a16, .inl (nz_cI g, 48, .inl f16))] (fun r (u : (Nat → Int32)) => K r u) (fun u => [(eo, .inr (2, [.ref ea0, .ref ea1])), (ea0, .inl (nz_cI g, 6, .inl u)), (ea1, .inl (nz_cI g, 6, .inl ef1)), (o, .inr (5, [.int r0, .int r1, .int r2, .int r3, .int r4, .int r5, .int r6, .int r7, .int r8, .ref a9, .ref a10, .ref a11, .ref a12, .ref a13, .ref a14, .ref a15, .ref a16])), (a9, .inl (nz_cI g, 6, .inl f9)), (a10, .inl (nz_cI g, 6, .inl f10)), (a11, .inl (nz_cI g, 6, .inl f11)), (a12, .inl (nz_cI g, 5, .inl f12)), (a13, .inl (nz_cI g, 5, .inl f13)), (a14, .inl (nz_cI g, 5, .inl f14)), (a15, .inl (nz_cI g, 5, .inl f15)), (a16, .inl (nz_cI g, 48, .inl f16))])) → nz_C y g k n ws pc ls st rest [(eo, .inr (2, [.ref ea0, .ref ea1])), (ea0, .inl (nz_cI g, 6, .inl ef0)), (ea1, .inl (nz_cI g, 6, .inl ef1)), (o, .inr (5, [.int r0, .int r1, .int r2, .int r3, .int r4, .int r5, .int r6, .int r7, .int r8, .ref a9, .ref a10, .ref a11, .ref a12, .ref a13, .ref a14, .ref a15, .ref a16])), (a9, .inl (nz_cI g, 6, .inl f9)), (a10, .inl (nz_cI g, 6, .inl f10)), (a11, .inl (nz_cI g, 6, .inl f11)), (a12, .inl (nz_cI g, 5, .inl f12)), (a13, .inl (nz_cI g, 5, .inl f13)), (a14, .inl (nz_cI g, 5, .inl f14)), (a15, .inl (nz_cI g, 5, .inl f15)), (a16, .inl (nz_cI g, 48, .inl f16))] (nz_Qi g [(eo, .inr (2, [.ref ea0, .ref ea1])), (ea0, .inl (nz_cI g, 6, .inl ef0)), (ea1, .inl (nz_cI g, 6, .inl ef1)), (o, .inr (5, [.int r0, .int r1, .int r2, .int r3, .int r4, .int r5, .int r6, .int r7, .int r8, .ref a9, .ref a10, .ref a11, .ref a12, .ref a13, .ref a14, .ref a15, .ref a16])), (a9, .inl (nz_cI g, 6, .inl f9)), (a10, .inl (nz_cI g, 6, .inl f10)), (a11, .inl (nz_cI g, 6, .inl f11)), (a12, .inl (nz_cI g, 5, .inl f12)), (a13, .inl (nz_cI g, 5, .inl f13)), (a14, .inl (nz_cI g, 5, .inl f14)), (a15, .inl (nz_cI g, 5, .inl f15)), (a16, .inl (nz_cI g, 48, .inl f16))] (fun r (u : (Nat → Int32)) => K r u) (fun u => [(eo, .inr (2, [.ref ea0, .ref ea1])), (ea0, .inl (nz_cI g, 6, .inl u)), (ea1, .inl (nz_cI g, 6, .inl ef1)), (o, .inr (5, [.int r0, .int r1, .int r2, .int r3, .int r4, .int r5, .int r6, .int r7, .int r8, .ref a9, .ref a10, .ref a11, .ref a12, .ref a13, .ref a14, .ref a15, .ref a16])), (a9, .inl (nz_cI g, 6, .inl f9)), (a10, .inl (nz_cI g, 6, .inl f10)), (a11, .inl (nz_cI g, 6, .inl f11)), (a12, .inl (nz_cI g, 5, .inl f12)), (a13, .inl (nz_cI g, 5, .inl f13)), (a14, .inl (nz_cI g, 5, .inl f14)), (a15, .inl (nz_cI g, 5, .inl f15)), (a16, .inl (nz_cI g, 48, .inl f16))])) av isC) (h : wp_X2_leastSetThatFits ef0 r1 r6 r7 f10 f11 f12 f13 f14 f15 v2 K) (ws' : (Nat → Int32) → va_W) (hm : ∀ (m0 : (Nat → Int32)), nz_mrg ws isC [(eo, .inr (2, [.ref ea0, .ref ea1])), (ea0, .inl (nz_cI g, 6, .inl m0)), (ea1, .inl (nz_cI g, 6, .inl ef1)), (o, .inr (5, [.int r0, .int r1, .int r2, .int r3, .int r4, .int r5, .int r6, .int r7, .int r8, .ref a9, .ref a10, .ref a11, .ref a12, .ref a13, .ref a14, .ref a15, .ref a16])), (a9, .inl (nz_cI g, 6, .inl f9)), (a10, .inl (nz_cI g, 6, .inl f10)), (a11, .inl (nz_cI g, 6, .inl f11)), (a12, .inl (nz_cI g, 5, .inl f12)), (a13, .inl (nz_cI g, 5, .inl f13)), (a14, .inl (nz_cI g, 5, .inl f14)), (a15, .inl (nz_cI g, 5, .inl f15)), (a16, .inl (nz_cI g, 48, .inl f16))] = ws' m0) (kk : ∀ (r : Int32) (m0 : (Nat → Int32)), K r m0 → nz_V y g k n (ws' m0) (pc + 3) ls (.int r :: rest)) : nz_V y g k n ws pc ls st :=
  nz_ci (ws' := fun u => ws' u) (run (c_X2_leastSetThatFits (yz_l y) g eo ea0 ea1 o a9 a10 a11 a12 a13 a14 a15 a16 ef0 ef1 r0 r1 r2 r3 r4 r5 r6 r7 r8 f9 f10 f11 f12 f13 f14 f15 f16 v2 K h)) (fun _ => rfl) (fun u => hm u) (fun r u h => kk r u h)
