theorem dX4_hasRoomFor_0 : decode cX4_hasRoomFor 0 = .ok (.aload_n 0, 1) := by decide +kernel
theorem dX4_hasRoomFor_1 : decode cX4_hasRoomFor 1 = .ok (.getfield 22, 3) := by decide +kernel
theorem dX4_hasRoomFor_4 : decode cX4_hasRoomFor 4 = .ok (.iload_n 1, 1) := by decide +kernel
theorem dX4_hasRoomFor_5 : decode cX4_hasRoomFor 5 = .ok (.iadd, 1) := by decide +kernel
theorem dX4_hasRoomFor_6 : decode cX4_hasRoomFor 6 = .ok (.sipush 400, 3) := by decide +kernel
theorem dX4_hasRoomFor_9 : decode cX4_hasRoomFor 9 = .ok (.if_icmp .gt 7, 3) := by decide +kernel
theorem dX4_hasRoomFor_12 : decode cX4_hasRoomFor 12 = .ok (.iconst 1, 1) := by decide +kernel
theorem dX4_hasRoomFor_13 : decode cX4_hasRoomFor 13 = .ok (.goto 4, 3) := by decide +kernel
theorem dX4_hasRoomFor_16 : decode cX4_hasRoomFor 16 = .ok (.iconst 0, 1) := by decide +kernel
theorem dX4_hasRoomFor_17 : decode cX4_hasRoomFor 17 = .ok (.ireturn, 1) := by decide +kernel
/-! X4_hasRoomFor -/
abbrev rm_X4_hasRoomFor : Room := { frames := 0, cells := 0, slots := 0, locals := 0 }
theorem iw_X4_hasRoomFor_4 : ∀ w ∈ wsX40, w ∈ wsX4_hasRoomFor := fun _ h => List.mem_cons_of_mem _ (List.mem_append_right _ h)
theorem fl_X4_hasRoomFor_22 : Cond.fieldLink RX4 22 "NightStones$Reader" "bytes" "I" ∈ wsX4_hasRoomFor := List.mem_of_getElem? (i := 1) rfl
def wp_X4_hasRoomFor (er2 : Int32) (v1 : Int32) (K : Int32 → Prop) : Prop := ((400 < (er2 + v1) → K 0) ∧ (¬ (400 < (er2 + v1)) → K 1))
set_option maxHeartbeats 4000000 in
set_option maxRecDepth 100000 in
theorem c_X4_hasRoomFor (l : Launch) (g : nz_G) (eo : Nat) (ea0 : Nat) (ed : Nat) (er2 : Int32) (er3 : Int32) (er4 : Int32) (er5 : Int32) (er6 : Int32) (er7 : Int32) (ef0 : Nat → Int32) (v1 : Int32) (K : Int32 → Prop) (h : wp_X4_hasRoomFor er2 v1 K) : nz_M l yX4_hasRoomFor wsX4_hasRoomFor rm_X4_hasRoomFor g [.ref eo, .int v1] [(eo, .inr (4, [.ref ea0, .ref ed, .int er2, .int er3, .int er4, .int er5, .int er6, .int er7])), (ea0, .inl (nz_cI g, 400, .inl ef0))] (nz_Qi g [(eo, .inr (4, [.ref ea0, .ref ed, .int er2, .int er3, .int er4, .int er5, .int er6, .int er7])), (ea0, .inl (nz_cI g, 400, .inl ef0))] (fun r (u : Unit) => K r) (fun u => [(eo, .inr (4, [.ref ea0, .ref ed, .int er2, .int er3, .int er4, .int er5, .int er6, .int er7])), (ea0, .inl (nz_cI g, 400, .inl ef0))])) := by
  refine nz_M.of (bytes := cX4_hasRoomFor) (nL := 2) (ret := (some .boolean)) (own := RX4) (by decide) rfl rfl ⟨rfl, rfl⟩ rfl ?_
  intro y F hl hQ
  obtain ⟨sz, hQ⟩ := hQ
  refine nz_ent (lv' := [(0, .ref eo), (1, .int v1)]) rfl ?_
  unfold wp_X4_hasRoomFor at h
  refine nz_aload_n F dX4_hasRoomFor_0 rfl 0 rfl ?_
  refine nz_get F iw_X4_hasRoomFor_4 0 rfl rfl 2 (by decide) rfl fl_X4_hasRoomFor_22 rfl dX4_hasRoomFor_1 ?_
  refine nz_iload_n F dX4_hasRoomFor_4 rfl 1 rfl ?_
  refine nz_iadd F dX4_hasRoomFor_5 ?_
  refine nz_sipush (v := 400) F dX4_hasRoomFor_6 (by decide) ?_
  refine nz_icmp_gt (tgt := 16) F dX4_hasRoomFor_9 (by decide) (fun c1 => ?_) (fun c1 => ?_)
  · have h := h.1 c1
    refine nz_iconst (v := 0) F dX4_hasRoomFor_16 (by decide) ?_
    exact nz_zret F hQ () h rfl (by decide) dX4_hasRoomFor_17
  · have h := h.2 c1
    refine nz_iconst (v := 1) F dX4_hasRoomFor_12 (by decide) ?_
    refine nz_goto (tgt := 17) F dX4_hasRoomFor_13 (by decide) ?_
    exact nz_zret F hQ () h rfl (by decide) dX4_hasRoomFor_17
theorem k_X4_hasRoomFor {y : nz_Y} {g : nz_G} {k n : Nat} {ws : va_W} {pc : Nat} {ls : List (Nat × Value)} {st rest : List Value} {av : Array Value} {isC : List Nat} {K : Int32 → Prop} (eo : Nat) (ea0 : Nat) (ed : Nat) (er2 : Int32) (er3 : Int32) (er4 : Int32) (er5 : Int32) (er6 : Int32) (er7 : Int32) (ef0 : Nat → Int32) (v1 : Int32) (run : nz_M (yz_l y) yX4_hasRoomFor wsX4_hasRoomFor rm_X4_hasRoomFor g [.ref eo, .int v1] [(eo, .inr (4, [.ref ea0, .ref ed, .int er2, .int er3, .int er4, .int er5, .int er6, .int er7])), (ea0, .inl (nz_cI g, 400, .inl ef0))] (nz_Qi g [(eo, .inr (4, [.ref ea0, .ref ed, .int er2, .int er3, .int er4, .int er5, .int er6, .int er7])), (ea0, .inl (nz_cI g, 400, .inl ef0))] (fun r (u : Unit) => K r) (fun u => [(eo, .inr (4, [.ref ea0, .ref ed, .int er2, .int er3, .int er4, .int er5, .int er6, .int er7])), (ea0, .inl (nz_cI g, 400, .inl ef0))])) → nz_C y g k n ws pc ls st rest [(eo, .inr (4, [.ref ea0, .ref ed, .int er2, .int er3, .int er4, .int er5, .int er6, .int er7])), (ea0, .inl (nz_cI g, 400, .inl ef0))] (nz_Qi g [(eo, .inr (4, [.ref ea0, .ref ed, .int er2, .int er3, .int er4, .int er5, .int er6, .int er7])), (ea0, .inl (nz_cI g, 400, .inl ef0))] (fun r (u : Unit) => K r) (fun u => [(eo, .inr (4, [.ref ea0, .ref ed, .int er2, .int er3, .int er4, .int er5, .int er6, .int er7])), (ea0, .inl (nz_cI g, 400, .inl ef0))])) av isC) (h : wp_X4_hasRoomFor er2 v1 K) (ws' : va_W) (hm : nz_mrg ws isC [(eo, .inr (4, [.ref ea0, .ref ed, .int er2, .int er3, .int er4, .int er5, .int er6, .int er7])), (ea0, .inl (nz_cI g, 400, .inl ef0))] = ws' ) (kk : ∀ (r : Int32), K r → nz_V y g k n ws' (pc + 3) ls (.int r :: rest)) : nz_V y g k n ws pc ls st :=
  nz_ci (ws' := fun _ => ws') (run (c_X4_hasRoomFor (yz_l y) g eo ea0 ed er2 er3 er4 er5 er6 er7 ef0 v1 K h)) (fun _ => rfl) (fun _ => hm) (fun r u h => kk r h)
theorem dX4_append_0 : decode cX4_append 0 = .ok (.iload_n 3, 1) := by decide +kernel
theorem dX4_append_1 : decode cX4_append 1 = .ok (.iconst 1, 1) := by decide +kernel
theorem dX4_append_2 : decode cX4_append 2 = .ok (.isub, 1) := by decide +kernel
theorem dX4_append_3 : decode cX4_append 3 = .ok (.istore 4, 2) := by decide +kernel
theorem dX4_append_5 : decode cX4_append 5 = .ok (.iload 4, 2) := by decide +kernel
theorem dX4_append_7 : decode cX4_append 7 = .ok (.ifCond .lt 40, 3) := by decide +kernel
theorem dX4_append_10 : decode cX4_append 10 = .ok (.aload_n 0, 1) := by decide +kernel
theorem dX4_append_11 : decode cX4_append 11 = .ok (.getfield 11, 3) := by decide +kernel
theorem dX4_append_14 : decode cX4_append 14 = .ok (.aload_n 0, 1) := by decide +kernel
theorem dX4_append_15 : decode cX4_append 15 = .ok (.getfield 22, 3) := by decide +kernel
theorem dX4_append_18 : decode cX4_append 18 = .ok (.lload_n 1, 1) := by decide +kernel
theorem dX4_append_19 : decode cX4_append 19 = .ok (.bipush 8, 2) := by decide +kernel
theorem dX4_append_21 : decode cX4_append 21 = .ok (.iload 4, 2) := by decide +kernel
theorem dX4_append_23 : decode cX4_append 23 = .ok (.imul, 1) := by decide +kernel
theorem dX4_append_24 : decode cX4_append 24 = .ok (.lshr, 1) := by decide +kernel
theorem dX4_append_25 : decode cX4_append 25 = .ok (.l2i, 1) := by decide +kernel
theorem dX4_append_26 : decode cX4_append 26 = .ok (.sipush 255, 3) := by decide +kernel
theorem dX4_append_29 : decode cX4_append 29 = .ok (.iand, 1) := by decide +kernel
theorem dX4_append_30 : decode cX4_append 30 = .ok (.iastore, 1) := by decide +kernel
theorem dX4_append_31 : decode cX4_append 31 = .ok (.aload_n 0, 1) := by decide +kernel
theorem dX4_append_32 : decode cX4_append 32 = .ok (.dup, 1) := by decide +kernel
theorem dX4_append_33 : decode cX4_append 33 = .ok (.getfield 22, 3) := by decide +kernel
theorem dX4_append_36 : decode cX4_append 36 = .ok (.iconst 1, 1) := by decide +kernel
theorem dX4_append_37 : decode cX4_append 37 = .ok (.iadd, 1) := by decide +kernel
theorem dX4_append_38 : decode cX4_append 38 = .ok (.putfield 22, 3) := by decide +kernel
theorem dX4_append_41 : decode cX4_append 41 = .ok (.iinc 4 (-1), 3) := by decide +kernel
theorem dX4_append_44 : decode cX4_append 44 = .ok (.goto (-39), 3) := by decide +kernel
theorem dX4_append_47 : decode cX4_append 47 = .ok (.aload_n 0, 1) := by decide +kernel
theorem dX4_append_48 : decode cX4_append 48 = .ok (.getfield 22, 3) := by decide +kernel
theorem dX4_append_51 : decode cX4_append 51 = .ok (.ireturn, 1) := by decide +kernel
/-! X4_append -/
abbrev rm_X4_append : Room := { frames := 0, cells := 0, slots := 0, locals := 0 }
theorem iw_X4_append_4 : ∀ w ∈ wsX40, w ∈ wsX4_append := fun _ h => List.mem_cons_of_mem _ (List.mem_append_right _ h)
theorem fl_X4_append_22 : Cond.fieldLink RX4 22 "NightStones$Reader" "bytes" "I" ∈ wsX4_append := List.mem_of_getElem? (i := 2) rfl
theorem fl_X4_append_11 : Cond.fieldLink RX4 11 "NightStones$Reader" "tape" "[I" ∈ wsX4_append := List.mem_of_getElem? (i := 1) rfl
def S_X4_append_5 (v1 : Int64) (K : Int32 → Int32 → (Nat → Int32) → Prop) (R5 : Int32 → Int32 → (Nat → Int32) → Prop) (x4 : Int32) (er2 : Int32) (ef0 : Nat → Int32) : Prop := ((x4 < 0 → K er2 er2 ef0) ∧ (¬ (x4 < 0) → (vp_in er2 400 ∧ R5 (x4 + (-1 : Int32)) (er2 + 1) (upd ef0 er2.toNatClampNeg ((((v1 >>> (((8 * x4) : Int32).toInt64 &&& 63)) : Int64).toInt32) &&& 255)))))
set_option maxHeartbeats 4000000 in
set_option maxRecDepth 100000 in
theorem t_X4_append_5 {y : nz_Y} {g : nz_G} (F : nz_F y g cX4_append 5 wsX4_append RX4 (some .int) rm_X4_append) {wc0 : va_W} {sz : Nat} {K : Int32 → Int32 → (Nat → Int32) → Prop} (eo : Nat) (ea0 : Nat) (ed : Nat) (er3 : Int32) (er4 : Int32) (er5 : Int32) (er6 : Int32) (er7 : Int32) (v1 : Int64) (v3 : Int32) (hQ : yz_A y = va_A wc0 sz ∧ yz_Q y = MQ (yz_b y) ((nz_Qi g wc0 (fun r (u : Int32 × (Nat → Int32)) => K r u.1 u.2) (fun u => [(eo, .inr (4, [.ref ea0, .ref ed, .int u.1, .int er3, .int er4, .int er5, .int er6, .int er7])), (ea0, .inl (nz_cI g, 400, .inl u.2))])) sz) (yz_a y) (yz_s y) 0 0 (va_A wc0 sz)) : ∀ (n1 : Nat) (x4 : Int32) (er2 : Int32) (ef0 : Nat → Int32), nz_it (fun _ _ _ => False) (S_X4_append_5 v1 K) n1 x4 er2 ef0 → nz_V y g 0 0 [(eo, .inr (4, [.ref ea0, .ref ed, .int er2, .int er3, .int er4, .int er5, .int er6, .int er7])), (ea0, .inl (nz_cI g, 400, .inl ef0))] 5 [(0, .ref eo), (1, .long v1), (4, .int x4)] [] := by
  intro n1
  induction n1 with
  | zero =>
    intro x4 er2 ef0 h
    exact h.elim
  | succ n1 hR5 =>
    intro x4 er2 ef0 h
    have h : S_X4_append_5 v1 K (nz_it (fun _ _ _ => False) (S_X4_append_5 v1 K) n1) x4 er2 ef0 := h
    unfold S_X4_append_5 at h
    refine nz_iload F dX4_append_5 2 rfl ?_
    refine nz_if_lt (tgt := 47) F dX4_append_7 (by decide) (fun c1 => ?_) (fun c1 => ?_)
    · have h := h.1 c1
      refine nz_aload_n F dX4_append_47 rfl 0 rfl ?_
      refine nz_get F iw_X4_append_4 0 rfl rfl 2 (by decide) rfl fl_X4_append_22 rfl dX4_append_48 ?_
      exact nz_iret F hQ (er2, ef0) h rfl dX4_append_51
    · have h := h.2 c1
      refine nz_aload_n F dX4_append_10 rfl 0 rfl ?_
      refine nz_get F iw_X4_append_4 0 rfl rfl 0 (by decide) rfl fl_X4_append_11 rfl dX4_append_11 ?_
      refine nz_aload_n F dX4_append_14 rfl 0 rfl ?_
      refine nz_get F iw_X4_append_4 0 rfl rfl 2 (by decide) rfl fl_X4_append_22 rfl dX4_append_15 ?_
      refine nz_lload_n F dX4_append_18 rfl 1 rfl ?_
      refine nz_bipush (v := 8) F dX4_append_19 (by decide) ?_
      refine nz_iload F dX4_append_21 2 rfl ?_
      refine nz_imul F dX4_append_23 ?_
      refine nz_lshr (v := (v1 >>> (((8 * x4) : Int32).toInt64 &&& 63))) F dX4_append_24 rfl ?_
      refine nz_l2i (v := (((v1 >>> (((8 * x4) : Int32).toInt64 &&& 63)) : Int64).toInt32)) F dX4_append_25 rfl ?_
      refine nz_sipush (v := 255) F dX4_append_26 (by decide) ?_
      refine nz_iand F dX4_append_29 ?_
      obtain ⟨i2, h⟩ := h
      refine nz_iast (ws' := [(eo, .inr (4, [.ref ea0, .ref ed, .int er2, .int er3, .int er4, .int er5, .int er6, .int er7])), (ea0, .inl (nz_cI g, 400, .inl (upd ef0 er2.toNatClampNeg ((((v1 >>> (((8 * x4) : Int32).toInt64 &&& 63)) : Int64).toInt32) &&& 255))))]) F 1 rfl i2 dX4_append_30 rfl ?_
      refine nz_aload_n F dX4_append_31 rfl 0 rfl ?_
      refine nz_dup F dX4_append_32 rfl ?_
      refine nz_get F iw_X4_append_4 0 rfl rfl 2 (by decide) rfl fl_X4_append_22 rfl dX4_append_33 ?_
      refine nz_iconst (v := 1) F dX4_append_36 (by decide) ?_
      refine nz_iadd F dX4_append_37 ?_
      refine nz_put (ws' := [(eo, .inr (4, [.ref ea0, .ref ed, .int (er2 + 1), .int er3, .int er4, .int er5, .int er6, .int er7])), (ea0, .inl (nz_cI g, 400, .inl (upd ef0 er2.toNatClampNeg ((((v1 >>> (((8 * x4) : Int32).toInt64 &&& 63)) : Int64).toInt32) &&& 255))))]) F iw_X4_append_4 tyX4 tyX4_ok nmX4 0 rfl rfl 2 (by decide) rfl fl_X4_append_22 rfl rfl (Nat.le_of_ble_eq_true rfl) dX4_append_38 rfl ?_
      refine nz_iinc (v := (x4 + (-1 : Int32))) (j := 2) (lv' := [(4, .int (x4 + (-1 : Int32))), (0, .ref eo), (1, .long v1)]) F dX4_append_41 rfl rfl (by decide) rfl ?_
      refine nz_goto (tgt := 5) F dX4_append_44 (by decide) ?_
      refine nz_ls (lv' := [(0, .ref eo), (1, .long v1), (4, .int (x4 + (-1 : Int32)))]) [1, 2, 0] rfl ?_
      exact hR5 (x4 + (-1 : Int32)) (er2 + 1) (upd ef0 er2.toNatClampNeg ((((v1 >>> (((8 * x4) : Int32).toInt64 &&& 63)) : Int64).toInt32) &&& 255)) h
def wp_X4_append (er2 : Int32) (ef0 : Nat → Int32) (v1 : Int64) (v3 : Int32) (K : Int32 → Int32 → (Nat → Int32) → Prop) : Prop := (∃ n, nz_it (fun _ _ _ => False) (S_X4_append_5 v1 K) n (v3 - 1) er2 ef0)
set_option maxHeartbeats 4000000 in
set_option maxRecDepth 100000 in
theorem c_X4_append (l : Launch) (g : nz_G) (eo : Nat) (ea0 : Nat) (ed : Nat) (er2 : Int32) (er3 : Int32) (er4 : Int32) (er5 : Int32) (er6 : Int32) (er7 : Int32) (ef0 : Nat → Int32) (v1 : Int64) (v3 : Int32) (K : Int32 → Int32 → (Nat → Int32) → Prop) (h : wp_X4_append er2 ef0 v1 v3 K) : nz_M l yX4_append wsX4_append rm_X4_append g [.ref eo, .long v1, .int v3] [(eo, .inr (4, [.ref ea0, .ref ed, .int er2, .int er3, .int er4, .int er5, .int er6, .int er7])), (ea0, .inl (nz_cI g, 400, .inl ef0))] (nz_Qi g [(eo, .inr (4, [.ref ea0, .ref ed, .int er2, .int er3, .int er4, .int er5, .int er6, .int er7])), (ea0, .inl (nz_cI g, 400, .inl ef0))] (fun r (u : Int32 × (Nat → Int32)) => K r u.1 u.2) (fun u => [(eo, .inr (4, [.ref ea0, .ref ed, .int u.1, .int er3, .int er4, .int er5, .int er6, .int er7])), (ea0, .inl (nz_cI g, 400, .inl u.2))])) := by
  refine nz_M.of (bytes := cX4_append) (nL := 5) (ret := (some .int)) (own := RX4) (by decide) rfl rfl ⟨rfl, rfl⟩ rfl ?_
  intro y F hl hQ
  obtain ⟨sz, hQ⟩ := hQ
  refine nz_ent (lv' := [(0, .ref eo), (1, .long v1), (3, .int v3)]) rfl ?_
  unfold wp_X4_append at h
  refine nz_iload_n F dX4_append_0 rfl 2 rfl ?_
  refine nz_iconst (v := 1) F dX4_append_1 (by decide) ?_
  refine nz_isub F dX4_append_2 ?_
  refine nz_istore (lv' := [(4, .int (v3 - 1)), (0, .ref eo), (1, .long v1), (3, .int v3)]) F dX4_append_3 (by decide) rfl ?_
  refine nz_ls (lv' := [(0, .ref eo), (1, .long v1), (4, .int (v3 - 1))]) [1, 2, 0] rfl ?_
  obtain ⟨n1, h⟩ := h
  exact t_X4_append_5 F eo ea0 ed er3 er4 er5 er6 er7 v1 v3 hQ n1 (v3 - 1) er2 ef0 h
theorem k_X4_append {y : nz_Y} {g : nz_G} {k n : Nat} {ws : va_W} {pc : Nat} {ls : List (Nat × Value)} {st rest : List Value} {av : Array Value} {isC : List Nat} {K : Int32 → Int32 → (Nat → Int32) → Prop} (eo : Nat) (ea0 : Nat) (ed : Nat) (er2 : Int32) (er3 : Int32) (er4 : Int32) (er5 : Int32) (er6 : Int32) (er7 : Int32) (ef0 : Nat → Int32) (v1 : Int64) (v3 : Int32) (run : nz_M (yz_l y) yX4_append wsX4_append rm_X4_append g [.ref eo, .long v1, .int v3] [(eo, .inr (4, [.ref ea0, .ref ed, .int er2, .int er3, .int er4, .int er5, .int er6, .int er7])), (ea0, .inl (nz_cI g, 400, .inl ef0))] (nz_Qi g [(eo, .inr (4, [.ref ea0, .ref ed, .int er2, .int er3, .int er4, .int er5, .int er6, .int er7])), (ea0, .inl (nz_cI g, 400, .inl ef0))] (fun r (u : Int32 × (Nat → Int32)) => K r u.1 u.2) (fun u => [(eo, .inr (4, [.ref ea0, .ref ed, .int u.1, .int er3, .int er4, .int er5, .int er6, .int er7])), (ea0, .inl (nz_cI g, 400, .inl u.2))])) → nz_C y g k n ws pc ls st rest [(eo, .inr (4, [.ref ea0, .ref ed, .int er2, .int er3, .int er4, .int er5, .int er6, .int er7])), (ea0, .inl (nz_cI g, 400, .inl ef0))] (nz_Qi g [(eo, .inr (4, [.ref ea0, .ref ed, .int er2, .int er3, .int er4, .int er5, .int er6, .int er7])), (ea0, .inl (nz_cI g, 400, .inl ef0))] (fun r (u : Int32 × (Nat → Int32)) => K r u.1 u.2) (fun u => [(eo, .inr (4, [.ref ea0, .ref ed, .int u.1, .int er3, .int er4, .int er5, .int er6, .int er7])), (ea0, .inl (nz_cI g, 400, .inl u.2))])) av isC) (h : wp_X4_append er2 ef0 v1 v3 K) (ws' : Int32 → (Nat → Int32) → va_W) (hm : ∀ (m0 : Int32) (m1 : (Nat → Int32)), nz_mrg ws isC [(eo, .inr (4, [.ref ea0, .ref ed, .int m0, .int er3, .int er4, .int er5, .int er6, .int er7])), (ea0, .inl (nz_cI g, 400, .inl m1))] = ws' m0 m1) (kk : ∀ (r : Int32) (m0 : Int32) (m1 : (Nat → Int32)), K r m0 m1 → nz_V y g k n (ws' m0 m1) (pc + 3) ls (.int r :: rest)) : nz_V y g k n ws pc ls st :=
  nz_ci (ws' := fun u => ws' u.1 u.2) (run (c_X4_append (yz_l y) g eo ea0 ed er2 er3 er4 er5 er6 er7 ef0 v1 v3 K h)) (fun _ => rfl) (fun u => hm u.1 u.2) (fun r u h => kk r u.1 u.2 h)
theorem dX4_place_0 : decode cX4_place 0 = .ok (.aload_n 0, 1) := by decide +kernel
theorem dX4_place_1 : decode cX4_place 1 = .ok (.getfield 73, 3) := by decide +kernel
theorem dX4_place_4 : decode cX4_place 4 = .ok (.ireturn, 1) := by decide +kernel
/-! X4_place -/
abbrev rm_X4_place : Room := { frames := 0, cells := 0, slots := 0, locals := 0 }
theorem iw_X4_place_4 : ∀ w ∈ wsX40, w ∈ wsX4_place := fun _ h => List.mem_cons_of_mem _ (List.mem_append_right _ h)
theorem fl_X4_place_73 : Cond.fieldLink RX4 73 "NightStones$Reader" "from" "I" ∈ wsX4_place := List.mem_of_getElem? (i := 1) rfl
def wp_X4_place (er3 : Int32) (K : Int32 → Prop) : Prop := K er3
set_option maxHeartbeats 4000000 in
set_option maxRecDepth 100000 in
theorem c_X4_place (l : Launch) (g : nz_G) (eo : Nat) (ea0 : Nat) (ed : Nat) (er2 : Int32) (er3 : Int32) (er4 : Int32) (er5 : Int32) (er6 : Int32) (er7 : Int32) (ef0 : Nat → Int32) (K : Int32 → Prop) (h : wp_X4_place er3 K) : nz_M l yX4_place wsX4_place rm_X4_place g [.ref eo] [(eo, .inr (4, [.ref ea0, .ref ed, .int er2, .int er3, .int er4, .int er5, .int er6, .int er7])), (ea0, .inl (nz_cI g, 400, .inl ef0))] (nz_Qi g [(eo, .inr (4, [.ref ea0, .ref ed, .int er2, .int er3, .int er4, .int er5, .int er6, .int er7])), (ea0, .inl (nz_cI g, 400, .inl ef0))] (fun r (u : Unit) => K r) (fun u => [(eo, .inr (4, [.ref ea0, .ref ed, .int er2, .int er3, .int er4, .int er5, .int er6, .int er7])), (ea0, .inl (nz_cI g, 400, .inl ef0))])) := by
  refine nz_M.of (bytes := cX4_place) (nL := 1) (ret := (some .int)) (own := RX4) (by decide) rfl rfl ⟨rfl, rfl⟩ rfl ?_
  intro y F hl hQ
  obtain ⟨sz, hQ⟩ := hQ
  refine nz_ent (lv' := [(0, .ref eo)]) rfl ?_
  unfold wp_X4_place at h
  refine nz_aload_n F dX4_place_0 rfl 0 rfl ?_
  refine nz_get F iw_X4_place_4 0 rfl rfl 3 (by decide) rfl fl_X4_place_73 rfl dX4_place_1 ?_
  exact nz_iret F hQ () h rfl dX4_place_4
theorem k_X4_place {y : nz_Y} {g : nz_G} {k n : Nat} {ws : va_W} {pc : Nat} {ls : List (Nat × Value)} {st rest : List Value} {av : Array Value} {isC : List Nat} {K : Int32 → Prop} (eo : Nat) (ea0 : Nat) (ed : Nat) (er2 : Int32) (er3 : Int32) (er4 : Int32) (er5 : Int32) (er6 : Int32) (er7 : Int32) (ef0 : Nat → Int32) (run : nz_M (yz_l y) yX4_place wsX4_place rm_X4_place g [.ref eo] [(eo, .inr (4, [.ref ea0, .ref ed, .int er2, .int er3, .int er4, .int er5, .int er6, .int er7])), (ea0, .inl (nz_cI g, 400, .inl ef0))] (nz_Qi g [(eo, .inr (4, [.ref ea0, .ref ed, .int er2, .int er3, .int er4, .int er5, .int er6, .int er7])), (ea0, .inl (nz_cI g, 400, .inl ef0))] (fun r (u : Unit) => K r) (fun u => [(eo, .inr (4, [.ref ea0, .ref ed, .int er2, .int er3, .int er4, .int er5, .int er6, .int er7])), (ea0, .inl (nz_cI g, 400, .inl ef0))])) → nz_C y g k n ws pc ls st rest [(eo, .inr (4, [.ref ea0, .ref ed, .int er2, .int er3, .int er4, .int er5, .int er6, .int er7])), (ea0, .inl (nz_cI g, 400, .inl ef0))] (nz_Qi g [(eo, .inr (4, [.ref ea0, .ref ed, .int er2, .int er3, .int er4, .int er5, .int er6, .int er7])), (ea0, .inl (nz_cI g, 400, .inl ef0))] (fun r (u : Unit) => K r) (fun u => [(eo, .inr (4, [.ref ea0, .ref ed, .int er2, .int er3, .int er4, .int er5, .int er6, .int er7])), (ea0, .inl (nz_cI g, 400, .inl ef0))])) av isC) (h : wp_X4_place er3 K) (ws' : va_W) (hm : nz_mrg ws isC [(eo, .inr (4, [.ref ea0, .ref ed, .int er2, .int er3, .int er4, .int er5, .int er6, .int er7])), (ea0, .inl (nz_cI g, 400, .inl ef0))] = ws' ) (kk : ∀ (r : Int32), K r → nz_V y g k n ws' (pc + 3) ls (.int r :: rest)) : nz_V y g k n ws pc ls st :=
  nz_ci (ws' := fun _ => ws') (run (c_X4_place (yz_l y) g eo ea0 ed er2 er3 er4 er5 er6 er7 ef0 K h)) (fun _ => rfl) (fun _ => hm) (fun r u h => kk r h)
theorem dX4_roadRead_0 : decode cX4_roadRead 0 = .ok (.aload_n 0, 1) := by decide +kernel
theorem dX4_roadRead_1 : decode cX4_roadRead 1 = .ok (.getfield 18, 3) := by decide +kernel
theorem dX4_roadRead_4 : decode cX4_roadRead 4 = .ok (.areturn, 1) := by decide +kernel
/-! X4_roadRead -/
abbrev rm_X4_roadRead : Room := { frames := 0, cells := 0, slots := 0, locals := 0 }
theorem iw_X4_roadRead_4 : ∀ w ∈ wsX40, w ∈ wsX4_roadRead := fun _ h => List.mem_cons_of_mem _ (List.mem_append_right _ h)
theorem fl_X4_roadRead_18 : Cond.fieldLink RX4 18 "NightStones$Reader" "draft" "LNightStones$Road;" ∈ wsX4_roadRead := List.mem_of_getElem? (i := 1) rfl
def wp_X4_roadRead (K : Prop) : Prop := K
set_option maxHeartbeats 4000000 in
set_option maxRecDepth 100000 in
theorem c_X4_roadRead (l : Launch) (g : nz_G) (eo : Nat) (ea0 : Nat) (ed : Nat) (er2 : Int32) (er3 : Int32) (er4 : Int32) (er5 : Int32) (er6 : Int32) (er7 : Int32) (ef0 : Nat → Int32) (K : Prop) (h : wp_X4_roadRead K) : nz_M l yX4_roadRead wsX4_roadRead rm_X4_roadRead g [.ref eo] [(eo, .inr (4, [.ref ea0, .ref ed, .int er2, .int er3, .int er4, .int er5, .int er6, .int er7])), (ea0, .inl (nz_cI g, 400, .inl ef0))] (nz_Qr g [(eo, .inr (4, [.ref ea0, .ref ed, .int er2, .int er3, .int er4, .int er5, .int er6, .int er7])), (ea0, .inl (nz_cI g, 400, .inl ef0))] ed (fun (u : Unit) => K) (fun u => [(eo, .inr (4, [.ref ea0, .ref ed, .int er2, .int er3, .int er4, .int er5, .int er6, .int er7])), (ea0, .inl (nz_cI g, 400, .inl ef0))])) := by
  refine nz_M.of (bytes := cX4_roadRead) (nL := 1) (ret := (some (.object "NightStones$Road"))) (own := RX4) (by decide) rfl rfl ⟨rfl, rfl⟩ rfl ?_
  intro y F hl hQ
  obtain ⟨sz, hQ⟩ := hQ
  refine nz_ent (lv' := [(0, .ref eo)]) rfl ?_
  unfold wp_X4_roadRead at h
  refine nz_aload_n F dX4_roadRead_0 rfl 0 rfl ?_
  refine nz_get F iw_X4_roadRead_4 0 rfl rfl 1 (by decide) rfl fl_X4_roadRead_18 rfl dX4_roadRead_1 ?_
  exact nz_aret F hQ () h rfl dX4_roadRead_4
theorem k_X4_roadRead {y : nz_Y} {g : nz_G} {k n : Nat} {ws : va_W} {pc : Nat} {ls : List (Nat × Value)} {st rest : List Value} {av : Array Value} {isC : List Nat} {K : Prop} (eo : Nat) (ea0 : Nat) (ed : Nat) (er2 : Int32) (er3 : Int32) (er4 : Int32) (er5 : Int32) (er6 : Int32) (er7 : Int32) (ef0 : Nat → Int32) (run : nz_M (yz_l y) yX4_roadRead wsX4_roadRead rm_X4_roadRead g [.ref eo] [(eo, .inr (4, [.ref ea0, .ref ed, .int er2, .int er3, .int er4, .int er5, .int er6, .int er7])), (ea0, .inl (nz_cI g, 400, .inl ef0))] (nz_Qr g [(eo, .inr (4, [.ref ea0, .ref ed, .int er2, .int er3, .int er4, .int er5, .int er6, .int er7])), (ea0, .inl (nz_cI g, 400, .inl ef0))] ed (fun (u : Unit) => K) (fun u => [(eo, .inr (4, [.ref ea0, .ref ed, .int er2, .int er3, .int er4, .int er5, .int er6, .int er7])), (ea0, .inl (nz_cI g, 400, .inl ef0))])) → nz_C y g k n ws pc ls st rest [(eo, .inr (4, [.ref ea0, .ref ed, .int er2, .int er3, .int er4, .int er5, .int er6, .int er7])), (ea0, .inl (nz_cI g, 400, .inl ef0))] (nz_Qr g [(eo, .inr (4, [.ref ea0, .ref ed, .int er2, .int er3, .int er4, .int er5, .int er6, .int er7])), (ea0, .inl (nz_cI g, 400, .inl ef0))] ed (fun (u : Unit) => K) (fun u => [(eo, .inr (4, [.ref ea0, .ref ed, .int er2, .int er3, .int er4, .int er5, .int er6, .int er7])), (ea0, .inl (nz_cI g, 400, .inl ef0))])) av isC) (h : wp_X4_roadRead K) (ws' : va_W) (hm : nz_mrg ws isC [(eo, .inr (4, [.ref ea0, .ref ed, .int er2, .int er3, .int er4, .int er5, .int er6, .int er7])), (ea0, .inl (nz_cI g, 400, .inl ef0))] = ws' ) (kk : K → nz_V y g k n ws' (pc + 3) ls (.ref ed :: rest)) : nz_V y g k n ws pc ls st :=
  nz_cr (ws' := fun _ => ws') (run (c_X4_roadRead (yz_l y) g eo ea0 ed er2 er3 er4 er5 er6 er7 ef0 K h)) (fun _ => rfl) (fun _ => hm) (fun u h => kk h)
theorem dX4_isLetter_0 : decode cX4_isLetter 0 = .ok (.aload_n 0, 1) := by decide +kernel
theorem dX4_isLetter_1 : decode cX4_isLetter 1 = .ok (.getfield 11, 3) := by decide +kernel
theorem dX4_isLetter_4 : decode cX4_isLetter 4 = .ok (.iload_n 1, 1) := by decide +kernel
theorem dX4_isLetter_5 : decode cX4_isLetter 5 = .ok (.iaload, 1) := by decide +kernel
theorem dX4_isLetter_6 : decode cX4_isLetter 6 = .ok (.bipush 97, 2) := by decide +kernel
theorem dX4_isLetter_8 : decode cX4_isLetter 8 = .ok (.if_icmp .lt 18, 3) := by decide +kernel
theorem dX4_isLetter_11 : decode cX4_isLetter 11 = .ok (.aload_n 0, 1) := by decide +kernel
theorem dX4_isLetter_12 : decode cX4_isLetter 12 = .ok (.getfield 11, 3) := by decide +kernel
theorem dX4_isLetter_15 : decode cX4_isLetter 15 = .ok (.iload_n 1, 1) := by decide +kernel
theorem dX4_isLetter_16 : decode cX4_isLetter 16 = .ok (.iaload, 1) := by decide +kernel
theorem dX4_isLetter_17 : decode cX4_isLetter 17 = .ok (.bipush 122, 2) := by decide +kernel
theorem dX4_isLetter_19 : decode cX4_isLetter 19 = .ok (.if_icmp .gt 7, 3) := by decide +kernel
theorem dX4_isLetter_22 : decode cX4_isLetter 22 = .ok (.iconst 1, 1) := by decide +kernel
theorem dX4_isLetter_23 : decode cX4_isLetter 23 = .ok (.goto 4, 3) := by decide +kernel
theorem dX4_isLetter_26 : decode cX4_isLetter 26 = .ok (.iconst 0, 1) := by decide +kernel
theorem dX4_isLetter_27 : decode cX4_isLetter 27 = .ok (.ireturn, 1) := by decide +kernel
/-! X4_isLetter -/
abbrev rm_X4_isLetter : Room := { frames := 0, cells := 0, slots := 0, locals := 0 }
theorem iw_X4_isLetter_4 : ∀ w ∈ wsX40, w ∈ wsX4_isLetter := fun _ h => List.mem_cons_of_mem _ (List.mem_append_right _ h)
theorem fl_X4_isLetter_11 : Cond.fieldLink RX4 11 "NightStones$Reader" "tape" "[I" ∈ wsX4_isLetter := List.mem_of_getElem? (i := 1) rfl
def wp_X4_isLetter (ef0 : Nat → Int32) (v1 : Int32) (K : Int32 → Prop) : Prop := (vp_in v1 400 ∧ (((ef0 v1.toNatClampNeg) < 97 → K 0) ∧ (¬ ((ef0 v1.toNatClampNeg) < 97) → (vp_in v1 400 ∧ ((122 < (ef0 v1.toNatClampNeg) → K 0) ∧ (¬ (122 < (ef0 v1.toNatClampNeg)) → K 1))))))
set_option maxHeartbeats 4000000 in
set_option maxRecDepth 100000 in
theorem c_X4_isLetter (l : Launch) (g : nz_G) (eo : Nat) (ea0 : Nat) (ed : Nat) (er2 : Int32) (er3 : Int32) (er4 : Int32) (er5 : Int32) (er6 : Int32) (er7 : Int32) (ef0 : Nat → Int32) (v1 : Int32) (K : Int32 → Prop) (h : wp_X4_isLetter ef0 v1 K) : nz_M l yX4_isLetter wsX4_isLetter rm_X4_isLetter g [.ref eo, .int v1] [(eo, .inr (4, [.ref ea0, .ref ed, .int er2, .int er3, .int er4, .int er5, .int er6, .int er7])), (ea0, .inl (nz_cI g, 400, .inl ef0))] (nz_Qi g [(eo, .inr (4, [.ref ea0, .ref ed, .int er2, .int er3, .int er4, .int er5, .int er6, .int er7])), (ea0, .inl (nz_cI g, 400, .inl ef0))] (fun r (u : Unit) => K r) (fun u => [(eo, .inr (4, [.ref ea0, .ref ed, .int er2, .int er3, .int er4, .int er5, .int er6, .int er7])), (ea0, .inl (nz_cI g, 400, .inl ef0))])) := by
  refine nz_M.of (bytes := cX4_isLetter) (nL := 2) (ret := (some .boolean)) (own := RX4) (by decide) rfl rfl ⟨rfl, rfl⟩ rfl ?_
  intro y F hl hQ
  obtain ⟨sz, hQ⟩ := hQ
  refine nz_ent (lv' := [(0, .ref eo), (1, .int v1)]) rfl ?_
  unfold wp_X4_isLetter at h
  refine nz_aload_n F dX4_isLetter_0 rfl 0 rfl ?_
  refine nz_get F iw_X4_isLetter_4 0 rfl rfl 0 (by decide) rfl fl_X4_isLetter_11 rfl dX4_isLetter_1 ?_
  refine nz_iload_n F dX4_isLetter_4 rfl 1 rfl ?_
  obtain ⟨i1, h⟩ := h
  refine nz_iald F 1 rfl i1 dX4_isLetter_5 ?_
  refine nz_bipush (v := 97) F dX4_isLetter_6 (by decide) ?_
  refine nz_icmp_lt (tgt := 26) F dX4_isLetter_8 (by decide) (fun c2 => ?_) (fun c2 => ?_)
  · have h := h.1 c2
    refine nz_iconst (v := 0) F dX4_isLetter_26 (by decide) ?_
    exact nz_zret F hQ () h rfl (by decide) dX4_isLetter_27
  · have h := h.2 c2
    refine nz_aload_n F dX4_isLetter_11 rfl 0 rfl ?_
    refine nz_get F iw_X4_isLetter_4 0 rfl rfl 0 (by decide) rfl fl_X4_isLetter_11 rfl dX4_isLetter_12 ?_
    refine nz_iload_n F dX4_isLetter_15 rfl 1 rfl ?_
    obtain ⟨i3, h⟩ := h
    refine nz_iald F 1 rfl i3 dX4_isLetter_16 ?_
    refine nz_bipush (v := 122) F dX4_isLetter_17 (by decide) ?_
    refine nz_icmp_gt (tgt := 26) F dX4_isLetter_19 (by decide) (fun c4 => ?_) (fun c4 => ?_)
    · have h := h.1 c4
      refine nz_iconst (v := 0) F dX4_isLetter_26 (by decide) ?_
      exact nz_zret F hQ () h rfl (by decide) dX4_isLetter_27
    · have h := h.2 c4
      refine nz_iconst (v := 1) F dX4_isLetter_22 (by decide) ?_
      refine nz_goto (tgt := 27) F dX4_isLetter_23 (by decide) ?_
      exact nz_zret F hQ () h rfl (by decide) dX4_isLetter_27
theorem k_X4_isLetter {y : nz_Y} {g : nz_G} {k n : Nat} {ws : va_W} {pc : Nat} {ls : List (Nat × Value)} {st rest : List Value} {av : Array Value} {isC : List Nat} {K : Int32 → Prop} (eo : Nat) (ea0 : Nat) (ed : Nat) (er2 : Int32) (er3 : Int32) (er4 : Int32) (er5 : Int32) (er6 : Int32) (er7 : Int32) (ef0 : Nat → Int32) (v1 : Int32) (run : nz_M (yz_l y) yX4_isLetter wsX4_isLetter rm_X4_isLetter g [.ref eo, .int v1] [(eo, .inr (4, [.ref ea0, .ref ed, .int er2, .int er3, .int er4, .int er5, .int er6, .int er7])), (ea0, .inl (nz_cI g, 400, .inl ef0))] (nz_Qi g [(eo, .inr (4, [.ref ea0, .ref ed, .int er2, .int er3, .int er4, .int er5, .int er6, .int er7])), (ea0, .inl (nz_cI g, 400, .inl ef0))] (fun r (u : Unit) => K r) (fun u => [(eo, .inr (4, [.ref ea0, .ref ed, .int er2, .int er3, .int er4, .int er5, .int er6, .int er7])), (ea0, .inl (nz_cI g, 400, .inl ef0))])) → nz_C y g k n ws pc ls st rest [(eo, .inr (4, [.ref ea0, .ref ed, .int er2, .int er3, .int er4, .int er5, .int er6, .int er7])), (ea0, .inl (nz_cI g, 400, .inl ef0))] (nz_Qi g [(eo, .inr (4, [.ref ea0, .ref ed, .int er2, .int er3, .int er4, .int er5, .int er6, .int er7])), (ea0, .inl (nz_cI g, 400, .inl ef0))] (fun r (u : Unit) => K r) (fun u => [(eo, .inr (4, [.ref ea0, .ref ed, .int er2, .int er3, .int er4, .int er5, .int er6, .int er7])), (ea0, .inl (nz_cI g, 400, .inl ef0))])) av isC) (h : wp_X4_isLetter ef0 v1 K) (ws' : va_W) (hm : nz_mrg ws isC [(eo, .inr (4, [.ref ea0, .ref ed, .int er2, .int er3, .int er4, .int er5, .int er6, .int er7])), (ea0, .inl (nz_cI g, 400, .inl ef0))] = ws' ) (kk : ∀ (r : Int32), K r → nz_V y g k n ws' (pc + 3) ls (.int r :: rest)) : nz_V y g k n ws pc ls st :=
  nz_ci (ws' := fun _ => ws') (run (c_X4_isLetter (yz_l y) g eo ea0 ed er2 er3 er4 er5 er6 er7 ef0 v1 K h)) (fun _ => rfl) (fun _ => hm) (fun r u h => kk r h)
theorem dX4_isFigure_0 : decode cX4_isFigure 0 = .ok (.aload_n 0, 1) := by decide +kernel
theorem dX4_isFigure_1 : decode cX4_isFigure 1 = .ok (.getfield 11, 3) := by decide +kernel
theorem dX4_isFigure_4 : decode cX4_isFigure 4 = .ok (.iload_n 1, 1) := by decide +kernel
theorem dX4_isFigure_5 : decode cX4_isFigure 5 = .ok (.iaload, 1) := by decide +kernel
theorem dX4_isFigure_6 : decode cX4_isFigure 6 = .ok (.bipush 48, 2) := by decide +kernel
theorem dX4_isFigure_8 : decode cX4_isFigure 8 = .ok (.if_icmp .lt 18, 3) := by decide +kernel
theorem dX4_isFigure_11 : decode cX4_isFigure 11 = .ok (.aload_n 0, 1) := by decide +kernel
theorem dX4_isFigure_12 : decode cX4_isFigure 12 = .ok (.getfield 11, 3) := by decide +kernel
theorem dX4_isFigure_15 : decode cX4_isFigure 15 = .ok (.iload_n 1, 1) := by decide +kernel
theorem dX4_isFigure_16 : decode cX4_isFigure 16 = .ok (.iaload, 1) := by decide +kernel
theorem dX4_isFigure_17 : decode cX4_isFigure 17 = .ok (.bipush 57, 2) := by decide +kernel
theorem dX4_isFigure_19 : decode cX4_isFigure 19 = .ok (.if_icmp .gt 7, 3) := by decide +kernel
theorem dX4_isFigure_22 : decode cX4_isFigure 22 = .ok (.iconst 1, 1) := by decide +kernel
theorem dX4_isFigure_23 : decode cX4_isFigure 23 = .ok (.goto 4, 3) := by decide +kernel
theorem dX4_isFigure_26 : decode cX4_isFigure 26 = .ok (.iconst 0, 1) := by decide +kernel
theorem dX4_isFigure_27 : decode cX4_isFigure 27 = .ok (.ireturn, 1) := by decide +kernel
/-! X4_isFigure -/
abbrev rm_X4_isFigure : Room := { frames := 0, cells := 0, slots := 0, locals := 0 }
theorem iw_X4_isFigure_4 : ∀ w ∈ wsX40, w ∈ wsX4_isFigure := fun _ h => List.mem_cons_of_mem _ (List.mem_append_right _ h)
theorem fl_X4_isFigure_11 : Cond.fieldLink RX4 11 "NightStones$Reader" "tape" "[I" ∈ wsX4_isFigure := List.mem_of_getElem? (i := 1) rfl
def wp_X4_isFigure (ef0 : Nat → Int32) (v1 : Int32) (K : Int32 → Prop) : Prop := (vp_in v1 400 ∧ (((ef0 v1.toNatClampNeg) < 48 → K 0) ∧ (¬ ((ef0 v1.toNatClampNeg) < 48) → (vp_in v1 400 ∧ ((57 < (ef0 v1.toNatClampNeg) → K 0) ∧ (¬ (57 < (ef0 v1.toNatClampNeg)) → K 1))))))
set_option maxHeartbeats 4000000 in
set_option maxRecDepth 100000 in
theorem c_X4_isFigure (l : Launch) (g : nz_G) (eo : Nat) (ea0 : Nat) (ed : Nat) (er2 : Int32) (er3 : Int32) (er4 : Int32) (er5 : Int32) (er6 : Int32) (er7 : Int32) (ef0 : Nat → Int32) (v1 : Int32) (K : Int32 → Prop) (h : wp_X4_isFigure ef0 v1 K) : nz_M l yX4_isFigure wsX4_isFigure rm_X4_isFigure g [.ref eo, .int v1] [(eo, .inr (4, [.ref ea0, .ref ed, .int er2, .int er3, .int er4, .int er5, .int er6, .int er7])), (ea0, .inl (nz_cI g, 400, .inl ef0))] (nz_Qi g [(eo, .inr (4, [.ref ea0, .ref ed, .int er2, .int er3, .int er4, .int er5, .int er6, .int er7])), (ea0, .inl (nz_cI g, 400, .inl ef0))] (fun r (u : Unit) => K r) (fun u => [(eo, .inr (4, [.ref ea0, .ref ed, .int er2, .int er3, .int er4, .int er5, .int er6, .int er7])), (ea0, .inl (nz_cI g, 400, .inl ef0))])) := by
  refine nz_M.of (bytes := cX4_isFigure) (nL := 2) (ret := (some .boolean)) (own := RX4) (by decide) rfl rfl ⟨rfl, rfl⟩ rfl ?_
  intro y F hl hQ
  obtain ⟨sz, hQ⟩ := hQ
  refine nz_ent (lv' := [(0, .ref eo), (1, .int v1)]) rfl ?_
  unfold wp_X4_isFigure at h
  refine nz_aload_n F dX4_isFigure_0 rfl 0 rfl ?_
  refine nz_get F iw_X4_isFigure_4 0 rfl rfl 0 (by decide) rfl fl_X4_isFigure_11 rfl dX4_isFigure_1 ?_
  refine nz_iload_n F dX4_isFigure_4 rfl 1 rfl ?_
  obtain ⟨i1, h⟩ := h
  refine nz_iald F 1 rfl i1 dX4_isFigure_5 ?_
  refine nz_bipush (v := 48) F dX4_isFigure_6 (by decide) ?_
  refine nz_icmp_lt (tgt := 26) F dX4_isFigure_8 (by decide) (fun c2 => ?_) (fun c2 => ?_)
  · have h := h.1 c2
    refine nz_iconst (v := 0) F dX4_isFigure_26 (by decide) ?_
    exact nz_zret F hQ () h rfl (by decide) dX4_isFigure_27
  · have h := h.2 c2
    refine nz_aload_n F dX4_isFigure_11 rfl 0 rfl ?_
    refine nz_get F iw_X4_isFigure_4 0 rfl rfl 0 (by decide) rfl fl_X4_isFigure_11 rfl dX4_isFigure_12 ?_
    refine nz_iload_n F dX4_isFigure_15 rfl 1 rfl ?_
    obtain ⟨i3, h⟩ := h
    refine nz_iald F 1 rfl i3 dX4_isFigure_16 ?_
    refine nz_bipush (v := 57) F dX4_isFigure_17 (by decide) ?_
    refine nz_icmp_gt (tgt := 26) F dX4_isFigure_19 (by decide) (fun c4 => ?_) (fun c4 => ?_)
    · have h := h.1 c4
      refine nz_iconst (v := 0) F dX4_isFigure_26 (by decide) ?_
      exact nz_zret F hQ () h rfl (by decide) dX4_isFigure_27
    · have h := h.2 c4
      refine nz_iconst (v := 1) F dX4_isFigure_22 (by decide) ?_
      refine nz_goto (tgt := 27) F dX4_isFigure_23 (by decide) ?_
      exact nz_zret F hQ () h rfl (by decide) dX4_isFigure_27
theorem k_X4_isFigure {y : nz_Y} {g : nz_G} {k n : Nat} {ws : va_W} {pc : Nat} {ls : List (Nat × Value)} {st rest : List Value} {av : Array Value} {isC : List Nat} {K : Int32 → Prop} (eo : Nat) (ea0 : Nat) (ed : Nat) (er2 : Int32) (er3 : Int32) (er4 : Int32) (er5 : Int32) (er6 : Int32) (er7 : Int32) (ef0 : Nat → Int32) (v1 : Int32) (run : nz_M (yz_l y) yX4_isFigure wsX4_isFigure rm_X4_isFigure g [.ref eo, .int v1] [(eo, .inr (4, [.ref ea0, .ref ed, .int er2, .int er3, .int er4, .int er5, .int er6, .int er7])), (ea0, .inl (nz_cI g, 400, .inl ef0))] (nz_Qi g [(eo, .inr (4, [.ref ea0, .ref ed, .int er2, .int er3, .int er4, .int er5, .int er6, .int er7])), (ea0, .inl (nz_cI g, 400, .inl ef0))] (fun r (u : Unit) => K r) (fun u => [(eo, .inr (4, [.ref ea0, .ref ed, .int er2, .int er3, .int er4, .int er5, .int er6, .int er7])), (ea0, .inl (nz_cI g, 400, .inl ef0))])) → nz_C y g k n ws pc ls st rest [(eo, .inr (4, [.ref ea0, .ref ed, .int er2, .int er3, .int er4, .int er5, .int er6, .int er7])), (ea0, .inl (nz_cI g, 400, .inl ef0))] (nz_Qi g [(eo, .inr (4, [.ref ea0, .ref ed, .int er2, .int er3, .int er4, .int er5, .int er6, .int er7])), (ea0, .inl (nz_cI g, 400, .inl ef0))] (fun r (u : Unit) => K r) (fun u => [(eo, .inr (4, [.ref ea0, .ref ed, .int er2, .int er3, .int er4, .int er5, .int er6, .int er7])), (ea0, .inl (nz_cI g, 400, .inl ef0))])) av isC) (h : wp_X4_isFigure ef0 v1 K) (ws' : va_W) (hm : nz_mrg ws isC [(eo, .inr (4, [.ref ea0, .ref ed, .int er2, .int er3, .int er4, .int er5, .int er6, .int er7])), (ea0, .inl (nz_cI g, 400, .inl ef0))] = ws' ) (kk : ∀ (r : Int32), K r → nz_V y g k n ws' (pc + 3) ls (.int r :: rest)) : nz_V y g k n ws pc ls st :=
  nz_ci (ws' := fun _ => ws') (run (c_X4_isFigure (yz_l y) g eo ea0 ed er2 er3 er4 er5 er6 er7 ef0 v1 K h)) (fun _ => rfl) (fun _ => hm) (fun r u h => kk r h)
theorem dX4_takeName_0 : decode cX4_takeName 0 = .ok (.aload_n 0, 1) := by decide +kernel
theorem dX4_takeName_1 : decode cX4_takeName 1 = .ok (.getfield 29, 3) := by decide +kernel
theorem dX4_takeName_4 : decode cX4_takeName 4 = .ok (.aload_n 0, 1) := by decide +kernel
theorem dX4_takeName_5 : decode cX4_takeName 5 = .ok (.getfield 22, 3) := by decide +kernel
theorem dX4_takeName_8 : decode cX4_takeName 8 = .ok (.if_icmp .ge 27, 3) := by decide +kernel
theorem dX4_takeName_11 : decode cX4_takeName 11 = .ok (.aload_n 0, 1) := by decide +kernel
theorem dX4_takeName_12 : decode cX4_takeName 12 = .ok (.aload_n 0, 1) := by decide +kernel
theorem dX4_takeName_13 : decode cX4_takeName 13 = .ok (.getfield 29, 3) := by decide +kernel
theorem dX4_takeName_16 : decode cX4_takeName 16 = .ok (.invokevirtual 158, 3) := by decide +kernel
theorem dX4_takeName_19 : decode cX4_takeName 19 = .ok (.ifCond .eq 16, 3) := by decide +kernel
theorem dX4_takeName_22 : decode cX4_takeName 22 = .ok (.aload_n 0, 1) := by decide +kernel
theorem dX4_takeName_23 : decode cX4_takeName 23 = .ok (.dup, 1) := by decide +kernel
theorem dX4_takeName_24 : decode cX4_takeName 24 = .ok (.getfield 29, 3) := by decide +kernel
theorem dX4_takeName_27 : decode cX4_takeName 27 = .ok (.iconst 1, 1) := by decide +kernel
theorem dX4_takeName_28 : decode cX4_takeName 28 = .ok (.iadd, 1) := by decide +kernel
theorem dX4_takeName_29 : decode cX4_takeName 29 = .ok (.putfield 29, 3) := by decide +kernel
theorem dX4_takeName_32 : decode cX4_takeName 32 = .ok (.goto (-32), 3) := by decide +kernel
theorem dX4_takeName_35 : decode cX4_takeName 35 = .ok (.aload_n 0, 1) := by decide +kernel
theorem dX4_takeName_36 : decode cX4_takeName 36 = .ok (.iconst 1, 1) := by decide +kernel
theorem dX4_takeName_37 : decode cX4_takeName 37 = .ok (.putfield 44, 3) := by decide +kernel
theorem dX4_takeName_40 : decode cX4_takeName 40 = .ok (.return_, 1) := by decide +kernel
set_option maxRecDepth 20000 in
theorem ggX4_takeName_X4_isLetter : GoodIn wsX4_takeName wsX4_isLetter := goodIn_r _ [8, 9, 10, 11, 12, 13, 14, 15, 16, 17] rfl (by decide +kernel)
set_option maxRecDepth 20000 in
theorem gX4_takeName_X4_isLetter : GoodIn wsX4_takeName (wsV RX4 158 RX4 yX4_isLetter wsX4_isLetter) := goodIn_app (goodIn_r _ [4, 5, 6, 7] rfl (by decide +kernel)) ggX4_takeName_X4_isLetter
theorem hd_X4_isLetter : yX4_isLetter.cls = RX4 ∧ yX4_isLetter.cls ≠ "java/lang/invoke/MethodHandle" ∧ yX4_isLetter.cls ≠ "java/lang/invoke/VarHandle" ∧ (parseMethodDescriptor yX4_isLetter.desc).map (fun d => d.parameters.length) = some 1 := by decide +kernel
/-! X4_takeName -/
abbrev rm_X4_takeName : Room := { frames := 1, cells := 0, slots := 0, locals := 21 }
theorem iw_X4_takeName_4 : ∀ w ∈ wsX40, w ∈ wsX4_takeName := fun _ h => List.mem_cons_of_mem _ (List.mem_append_right _ h)
theorem fl_X4_takeName_29 : Cond.fieldLink RX4 29 "NightStones$Reader" "to" "I" ∈ wsX4_takeName := List.mem_of_getElem? (i := 1) rfl
theorem fl_X4_takeName_22 : Cond.fieldLink RX4 22 "NightStones$Reader" "bytes" "I" ∈ wsX4_takeName := List.mem_of_getElem? (i := 2) rfl
theorem fl_X4_takeName_44 : Cond.fieldLink RX4 44 "NightStones$Reader" "token" "I" ∈ wsX4_takeName := List.mem_of_getElem? (i := 3) rfl
def S_X4_takeName_0 (er2 : Int32) (ef0 : Nat → Int32) (K : Int32 → Int32 → Prop) (R0 : Int32 → Prop) (er4 : Int32) : Prop := ((er2 ≤ er4 → K er4 1) ∧ (¬ (er2 ≤ er4) → wp_X4_isLetter ef0 er4 (fun q2 => ((q2 = 0 → K er4 1) ∧ (¬ (q2 = 0) → R0 (er4 + 1))))))
set_option maxHeartbeats 4000000 in
set_option maxRecDepth 100000 in
theorem t_X4_takeName_0 {y : nz_Y} {g : nz_G} (F : nz_F y g cX4_takeName 1 wsX4_takeName RX4 none rm_X4_takeName) {wc0 : va_W} {sz : Nat} {K : Int32 → Int32 → Prop} (eo : Nat) (ea0 : Nat) (ed : Nat) (er2 : Int32) (er3 : Int32) (er6 : Int32) (er7 : Int32) (ef0 : Nat → Int32) (er5 : Int32) (hQ : yz_A y = va_A wc0 sz ∧ yz_Q y = MQ (yz_b y) ((nz_Qv g wc0 (fun (u : Int32 × Int32) => K u.1 u.2) (fun u => [(eo, .inr (4, [.ref ea0, .ref ed, .int er2, .int er3, .int u.1, .int u.2, .int er6, .int er7])), (ea0, .inl (nz_cI g, 400, .inl ef0))])) sz) (yz_a y) (yz_s y) 0 0 (va_A wc0 sz)) : ∀ (n1 : Nat) (er4 : Int32), nz_it (fun _ => False) (S_X4_takeName_0 er2 ef0 K) n1 er4 → nz_V y g 0 0 [(eo, .inr (4, [.ref ea0, .ref ed, .int er2, .int er3, .int er4, .int er5, .int er6, .int er7])), (ea0, .inl (nz_cI g, 400, .inl ef0))] 0 [(0, .ref eo)] [] := by
  intro n1
  induction n1 with
  | zero =>
    intro er4 h
    exact h.elim
  | succ n1 hR0 =>
    intro er4 h
    have h : S_X4_takeName_0 er2 ef0 K (nz_it (fun _ => False) (S_X4_takeName_0 er2 ef0 K) n1) er4 := h
    unfold S_X4_takeName_0 at h
    refine nz_aload_n F dX4_takeName_0 rfl 0 rfl ?_
    refine nz_get F iw_X4_takeName_4 0 rfl rfl 4 (by decide) rfl fl_X4_takeName_29 rfl dX4_takeName_1 ?_
    refine nz_aload_n F dX4_takeName_4 rfl 0 rfl ?_
    refine nz_get F iw_X4_takeName_4 0 rfl rfl 2 (by decide) rfl fl_X4_takeName_22 rfl dX4_takeName_5 ?_
    refine nz_icmp_ge (tgt := 35) F dX4_takeName_8 (by decide) (fun c1 => ?_) (fun c1 => ?_)
    · have h := h.1 c1
      refine nz_aload_n F dX4_takeName_35 rfl 0 rfl ?_
      refine nz_iconst (v := 1) F dX4_takeName_36 (by decide) ?_
      refine nz_put (ws' := [(eo, .inr (4, [.ref ea0, .ref ed, .int er2, .int er3, .int er4, .int 1, .int er6, .int er7])), (ea0, .inl (nz_cI g, 400, .inl ef0))]) F iw_X4_takeName_4 tyX4 tyX4_ok nmX4 0 rfl rfl 5 (by decide) rfl fl_X4_takeName_44 rfl rfl (Nat.le_of_ble_eq_true rfl) dX4_takeName_37 rfl ?_
      exact nz_vret F hQ (er4, 1) h rfl dX4_takeName_40
    · have h := h.2 c1
      refine nz_aload_n F dX4_takeName_11 rfl 0 rfl ?_
      refine nz_aload_n F dX4_takeName_12 rfl 0 rfl ?_
      refine nz_get F iw_X4_takeName_4 0 rfl rfl 4 (by decide) rfl fl_X4_takeName_29 rfl dX4_takeName_13 ?_
      refine k_X4_isLetter eo ea0 ed er2 er3 er4 er5 er6 er7 ef0 er4 (fun hM => nz_runV F gX4_takeName_X4_isLetter rfl hd_X4_isLetter rfl hM dX4_takeName_16 [0, 1] rfl rfl 0 rfl rfl rfl (Nat.le_of_ble_eq_true rfl) rfl) h ([(eo, .inr (4, [.ref ea0, .ref ed, .int er2, .int er3, .int er4, .int er5, .int er6, .int er7])), (ea0, .inl (nz_cI g, 400, .inl ef0))]) (rfl) (fun q2 h => ?_)
      refine nz_if_eq (tgt := 35) F dX4_takeName_19 (by decide) (fun c3 => ?_) (fun c3 => ?_)
      · have h := h.1 c3
        refine nz_aload_n F dX4_takeName_35 rfl 0 rfl ?_
        refine nz_iconst (v := 1) F dX4_takeName_36 (by decide) ?_
        refine nz_put (ws' := [(eo, .inr (4, [.ref ea0, .ref ed, .int er2, .int er3, .int er4, .int 1, .int er6, .int er7])), (ea0, .inl (nz_cI g, 400, .inl ef0))]) F iw_X4_takeName_4 tyX4 tyX4_ok nmX4 0 rfl rfl 5 (by decide) rfl fl_X4_takeName_44 rfl rfl (Nat.le_of_ble_eq_true rfl) dX4_takeName_37 rfl ?_
        exact nz_vret F hQ (er4, 1) h rfl dX4_takeName_40
      · have h := h.2 c3
        refine nz_aload_n F dX4_takeName_22 rfl 0 rfl ?_
        refine nz_dup F dX4_takeName_23 rfl ?_
        refine nz_get F iw_X4_takeName_4 0 rfl rfl 4 (by decide) rfl fl_X4_takeName_29 rfl dX4_takeName_24 ?_
        refine nz_iconst (v := 1) F dX4_takeName_27 (by decide) ?_
        refine nz_iadd F dX4_takeName_28 ?_
        refine nz_put (ws' := [(eo, .inr (4, [.ref ea0, .ref ed, .int er2, .int er3, .int (er4 + 1), .int er5, .int er6, .int er7])), (ea0, .inl (nz_cI g, 400, .inl ef0))]) F iw_X4_takeName_4 tyX4 tyX4_ok nmX4 0 rfl rfl 4 (by decide) rfl fl_X4_takeName_29 rfl rfl (Nat.le_of_ble_eq_true rfl) dX4_takeName_29 rfl ?_
        refine nz_goto (tgt := 0) F dX4_takeName_32 (by decide) ?_
        exact hR0 (er4 + 1) h
def wp_X4_takeName (er2 : Int32) (er4 : Int32) (ef0 : Nat → Int32) (K : Int32 → Int32 → Prop) : Prop := (∃ n, nz_it (fun _ => False) (S_X4_takeName_0 er2 ef0 K) n er4)
set_option maxHeartbeats 4000000 in
set_option maxRecDepth 100000 in
theorem c_X4_takeName (l : Launch) (g : nz_G) (eo : Nat) (ea0 : Nat) (ed : Nat) (er2 : Int32) (er3 : Int32) (er4 : Int32) (er5 : Int32) (er6 : Int32) (er7 : Int32) (ef0 : Nat → Int32) (K : Int32 → Int32 → Prop) (h : wp_X4_takeName er2 er4 ef0 K) : nz_M l yX4_takeName wsX4_takeName rm_X4_takeName g [.ref eo] [(eo, .inr (4, [.ref ea0, .ref ed, .int er2, .int er3, .int er4, .int er5, .int er6, .int er7])), (ea0, .inl (nz_cI g, 400, .inl ef0))] (nz_Qv g [(eo, .inr (4, [.ref ea0, .ref ed, .int er2, .int er3, .int er4, .int er5, .int er6, .int er7])), (ea0, .inl (nz_cI g, 400, .inl ef0))] (fun (u : Int32 × Int32) => K u.1 u.2) (fun u => [(eo, .inr (4, [.ref ea0, .ref ed, .int er2, .int er3, .int u.1, .int u.2, .int er6, .int er7])), (ea0, .inl (nz_cI g, 400, .inl ef0))])) := by
  refine nz_M.of (bytes := cX4_takeName) (nL := 1) (ret := none) (own := RX4) (by decide) rfl rfl ⟨rfl, rfl⟩ rfl ?_
  intro y F hl hQ
  obtain ⟨sz, hQ⟩ := hQ
  refine nz_ent (lv' := [(0, .ref eo)]) rfl ?_
  unfold wp_X4_takeName at h
  obtain ⟨n1, h⟩ := h
  exact t_X4_takeName_0 F eo ea0 ed er2 er3 er6 er7 ef0 er5 hQ n1 er4 h
theorem k_X4_takeName {y : nz_Y} {g : nz_G} {k n : Nat} {ws : va_W} {pc : Nat} {ls : List (Nat × Value)} {st rest : List Value} {av : Array Value} {isC : List Nat} {K : Int32 → Int32 → Prop} (eo : Nat) (ea0 : Nat) (ed : Nat) (er2 : Int32) (er3 : Int32) (er4 : Int32) (er5 : Int32) (er6 : Int32) (er7 : Int32) (ef0 : Nat → Int32) (run : nz_M (yz_l y) yX4_takeName wsX4_takeName rm_X4_takeName g [.ref eo] [(eo, .inr (4, [.ref ea0, .ref ed, .int er2, .int er3, .int er4, .int er5, .int er6, .int er7])), (ea0, .inl (nz_cI g, 400, .inl ef0))] (nz_Qv g [(eo, .inr (4, [.ref ea0, .ref ed, .int er2, .int er3, .int er4, .int er5, .int er6, .int er7])), (ea0, .inl (nz_cI g, 400, .inl ef0))] (fun (u : Int32 × Int32) => K u.1 u.2) (fun u => [(eo, .inr (4, [.ref ea0, .ref ed, .int er2, .int er3, .int u.1, .int u.2, .int er6, .int er7])), (ea0, .inl (nz_cI g, 400, .inl ef0))])) → nz_C y g k n ws pc ls st rest [(eo, .inr (4, [.ref ea0, .ref ed, .int er2, .int er3, .int er4, .int er5, .int er6, .int er7])), (ea0, .inl (nz_cI g, 400, .inl ef0))] (nz_Qv g [(eo, .inr (4, [.ref ea0, .ref ed, .int er2, .int er3, .int er4, .int er5, .int er6, .int er7])), (ea0, .inl (nz_cI g, 400, .inl ef0))] (fun (u : Int32 × Int32) => K u.1 u.2) (fun u => [(eo, .inr (4, [.ref ea0, .ref ed, .int er2, .int er3, .int u.1, .int u.2, .int er6, .int er7])), (ea0, .inl (nz_cI g, 400, .inl ef0))])) av isC) (h : wp_X4_takeName er2 er4 ef0 K) (ws' : Int32 → Int32 → va_W) (hm : ∀ (m0 : Int32) (m1 : Int32), nz_mrg ws isC [(eo, .inr (4, [.ref ea0, .ref ed, .int er2, .int er3, .int m0, .int m1, .int er6, .int er7])), (ea0, .inl (nz_cI g, 400, .inl ef0))] = ws' m0 m1) (kk : ∀ (m0 : Int32) (m1 : Int32), K m0 m1 → nz_V y g k n (ws' m0 m1) (pc + 3) ls (rest)) : nz_V y g k n ws pc ls st :=
  nz_cv (ws' := fun u => ws' u.1 u.2) (run (c_X4_takeName (yz_l y) g eo ea0 ed er2 er3 er4 er5 er6 er7 ef0 K h)) (fun _ => rfl) (fun u => hm u.1 u.2) (fun u h => kk u.1 u.2 h)
theorem dX4_takeNumber_0 : decode cX4_takeNumber 0 = .ok (.aload_n 0, 1) := by decide +kernel
theorem dX4_takeNumber_1 : decode cX4_takeNumber 1 = .ok (.getfield 29, 3) := by decide +kernel
theorem dX4_takeNumber_4 : decode cX4_takeNumber 4 = .ok (.aload_n 0, 1) := by decide +kernel
theorem dX4_takeNumber_5 : decode cX4_takeNumber 5 = .ok (.getfield 22, 3) := by decide +kernel
theorem dX4_takeNumber_8 : decode cX4_takeNumber 8 = .ok (.if_icmp .ge 64, 3) := by decide +kernel
theorem dX4_takeNumber_11 : decode cX4_takeNumber 11 = .ok (.aload_n 0, 1) := by decide +kernel
theorem dX4_takeNumber_12 : decode cX4_takeNumber 12 = .ok (.aload_n 0, 1) := by decide +kernel
theorem dX4_takeNumber_13 : decode cX4_takeNumber 13 = .ok (.getfield 29, 3) := by decide +kernel
theorem dX4_takeNumber_16 : decode cX4_takeNumber 16 = .ok (.invokevirtual 165, 3) := by decide +kernel
theorem dX4_takeNumber_19 : decode cX4_takeNumber 19 = .ok (.ifCond .eq 53, 3) := by decide +kernel
theorem dX4_takeNumber_22 : decode cX4_takeNumber 22 = .ok (.aload_n 0, 1) := by decide +kernel
theorem dX4_takeNumber_23 : decode cX4_takeNumber 23 = .ok (.getfield 29, 3) := by decide +kernel
theorem dX4_takeNumber_26 : decode cX4_takeNumber 26 = .ok (.aload_n 0, 1) := by decide +kernel
theorem dX4_takeNumber_27 : decode cX4_takeNumber 27 = .ok (.getfield 73, 3) := by decide +kernel
theorem dX4_takeNumber_30 : decode cX4_takeNumber 30 = .ok (.isub, 1) := by decide +kernel
theorem dX4_takeNumber_31 : decode cX4_takeNumber 31 = .ok (.iconst 3, 1) := by decide +kernel
theorem dX4_takeNumber_32 : decode cX4_takeNumber 32 = .ok (.if_icmp .ge 27, 3) := by decide +kernel
theorem dX4_takeNumber_35 : decode cX4_takeNumber 35 = .ok (.aload_n 0, 1) := by decide +kernel
theorem dX4_takeNumber_36 : decode cX4_takeNumber 36 = .ok (.bipush 10, 2) := by decide +kernel
theorem dX4_takeNumber_38 : decode cX4_takeNumber 38 = .ok (.aload_n 0, 1) := by decide +kernel
theorem dX4_takeNumber_39 : decode cX4_takeNumber 39 = .ok (.getfield 147, 3) := by decide +kernel
theorem dX4_takeNumber_42 : decode cX4_takeNumber 42 = .ok (.imul, 1) := by decide +kernel
theorem dX4_takeNumber_43 : decode cX4_takeNumber 43 = .ok (.aload_n 0, 1) := by decide +kernel
theorem dX4_takeNumber_44 : decode cX4_takeNumber 44 = .ok (.getfield 11, 3) := by decide +kernel
theorem dX4_takeNumber_47 : decode cX4_takeNumber 47 = .ok (.aload_n 0, 1) := by decide +kernel
theorem dX4_takeNumber_48 : decode cX4_takeNumber 48 = .ok (.getfield 29, 3) := by decide +kernel
theorem dX4_takeNumber_51 : decode cX4_takeNumber 51 = .ok (.iaload, 1) := by decide +kernel
theorem dX4_takeNumber_52 : decode cX4_takeNumber 52 = .ok (.iadd, 1) := by decide +kernel
theorem dX4_takeNumber_53 : decode cX4_takeNumber 53 = .ok (.bipush 48, 2) := by decide +kernel
theorem dX4_takeNumber_55 : decode cX4_takeNumber 55 = .ok (.isub, 1) := by decide +kernel
theorem dX4_takeNumber_56 : decode cX4_takeNumber 56 = .ok (.putfield 147, 3) := by decide +kernel
theorem dX4_takeNumber_59 : decode cX4_takeNumber 59 = .ok (.aload_n 0, 1) := by decide +kernel
theorem dX4_takeNumber_60 : decode cX4_takeNumber 60 = .ok (.dup, 1) := by decide +kernel
theorem dX4_takeNumber_61 : decode cX4_takeNumber 61 = .ok (.getfield 29, 3) := by decide +kernel
theorem dX4_takeNumber_64 : decode cX4_takeNumber 64 = .ok (.iconst 1, 1) := by decide +kernel
theorem dX4_takeNumber_65 : decode cX4_takeNumber 65 = .ok (.iadd, 1) := by decide +kernel
theorem dX4_takeNumber_66 : decode cX4_takeNumber 66 = .ok (.putfield 29, 3) := by decide +kernel
theorem dX4_takeNumber_69 : decode cX4_takeNumber 69 = .ok (.goto (-69), 3) := by decide +kernel
theorem dX4_takeNumber_72 : decode cX4_takeNumber 72 = .ok (.aload_n 0, 1) := by decide +kernel
theorem dX4_takeNumber_73 : decode cX4_takeNumber 73 = .ok (.aload_n 0, 1) := by decide +kernel
theorem dX4_takeNumber_74 : decode cX4_takeNumber 74 = .ok (.getfield 29, 3) := by decide +kernel
theorem dX4_takeNumber_77 : decode cX4_takeNumber 77 = .ok (.aload_n 0, 1) := by decide +kernel
theorem dX4_takeNumber_78 : decode cX4_takeNumber 78 = .ok (.getfield 73, 3) := by decide +kernel
theorem dX4_takeNumber_81 : decode cX4_takeNumber 81 = .ok (.isub, 1) := by decide +kernel
theorem dX4_takeNumber_82 : decode cX4_takeNumber 82 = .ok (.iconst 3, 1) := by decide +kernel
theorem dX4_takeNumber_83 : decode cX4_takeNumber 83 = .ok (.if_icmp .gt 7, 3) := by decide +kernel
theorem dX4_takeNumber_86 : decode cX4_takeNumber 86 = .ok (.iconst 2, 1) := by decide +kernel
theorem dX4_takeNumber_87 : decode cX4_takeNumber 87 = .ok (.goto 4, 3) := by decide +kernel
theorem dX4_takeNumber_90 : decode cX4_takeNumber 90 = .ok (.iconst 4, 1) := by decide +kernel
theorem dX4_takeNumber_91 : decode cX4_takeNumber 91 = .ok (.putfield 44, 3) := by decide +kernel
theorem dX4_takeNumber_94 : decode cX4_takeNumber 94 = .ok (.return_, 1) := by decide +kernel
set_option maxRecDepth 20000 in
theorem ggX4_takeNumber_X4_isFigure : GoodIn wsX4_takeNumber wsX4_isFigure := goodIn_r _ [11, 5, 12, 13, 14, 15, 16, 17, 18, 19] rfl (by decide +kernel)
set_option maxRecDepth 20000 in
theorem gX4_takeNumber_X4_isFigure : GoodIn wsX4_takeNumber (wsV RX4 165 RX4 yX4_isFigure wsX4_isFigure) := goodIn_app (goodIn_r _ [7, 8, 9, 10] rfl (by decide +kernel)) ggX4_takeNumber_X4_isFigure
theorem hd_X4_isFigure : yX4_isFigure.cls = RX4 ∧ yX4_isFigure.cls ≠ "java/lang/invoke/MethodHandle" ∧ yX4_isFigure.cls ≠ "java/lang/invoke/VarHandle" ∧ (parseMethodDescriptor yX4_isFigure.desc).map (fun d => d.parameters.length) = some 1 := by decide +kernel
/-! X4_takeNumber -/
abbrev rm_X4_takeNumber : Room := { frames := 1, cells := 0, slots := 0, locals := 21 }
theorem iw_X4_takeNumber_4 : ∀ w ∈ wsX40, w ∈ wsX4_takeNumber := fun _ h => List.mem_cons_of_mem _ (List.mem_append_right _ h)
theorem fl_X4_takeNumber_29 : Cond.fieldLink RX4 29 "NightStones$Reader" "to" "I" ∈ wsX4_takeNumber := List.mem_of_getElem? (i := 1) rfl
theorem fl_X4_takeNumber_22 : Cond.fieldLink RX4 22 "NightStones$Reader" "bytes" "I" ∈ wsX4_takeNumber := List.mem_of_getElem? (i := 2) rfl
theorem fl_X4_takeNumber_73 : Cond.fieldLink RX4 73 "NightStones$Reader" "from" "I" ∈ wsX4_takeNumber := List.mem_of_getElem? (i := 3) rfl
theorem fl_X4_takeNumber_44 : Cond.fieldLink RX4 44 "NightStones$Reader" "token" "I" ∈ wsX4_takeNumber := List.mem_of_getElem? (i := 6) rfl
theorem fl_X4_takeNumber_147 : Cond.fieldLink RX4 147 "NightStones$Reader" "value" "I" ∈ wsX4_takeNumber := List.mem_of_getElem? (i := 4) rfl
theorem fl_X4_takeNumber_11 : Cond.fieldLink RX4 11 "NightStones$Reader" "tape" "[I" ∈ wsX4_takeNumber := List.mem_of_getElem? (i := 5) rfl
def S_X4_takeNumber_72 (er3 : Int32) (er4 : Int32) (er6 : Int32) (K : Int32 → Int32 → Int32 → Prop) : Prop := ((3 < (er4 - er3) → K er4 4 er6) ∧ (¬ (3 < (er4 - er3)) → K er4 2 er6))
set_option maxHeartbeats 4000000 in
set_option maxRecDepth 100000 in
theorem t_X4_takeNumber_72 {y : nz_Y} {g : nz_G} (F : nz_F y g cX4_takeNumber 1 wsX4_takeNumber RX4 none rm_X4_takeNumber) {wc0 : va_W} {sz : Nat} {K : Int32 → Int32 → Int32 → Prop} (eo : Nat) (ea0 : Nat) (ed : Nat) (er2 : Int32) (er3 : Int32) (er7 : Int32) (ef0 : Nat → Int32) (er4 : Int32) (er5 : Int32) (er6 : Int32) (hQ : yz_A y = va_A wc0 sz ∧ yz_Q y = MQ (yz_b y) ((nz_Qv g wc0 (fun (u : Int32 × Int32 × Int32) => K u.1 u.2.1 u.2.2) (fun u => [(eo, .inr (4, [.ref ea0, .ref ed, .int er2, .int er3, .int u.1, .int u.2.1, .int u.2.2, .int er7])), (ea0, .inl (nz_cI g, 400, .inl ef0))])) sz) (yz_a y) (yz_s y) 0 0 (va_A wc0 sz)) : S_X4_takeNumber_72 er3 er4 er6 K → nz_V y g 0 0 [(eo, .inr (4, [.ref ea0, .ref ed, .int er2, .int er3, .int er4, .int er5, .int er6, .int er7])), (ea0, .inl (nz_cI g, 400, .inl ef0))] 72 [(0, .ref eo)] [] := by
  intro h
  unfold S_X4_takeNumber_72 at h
  refine nz_aload_n F dX4_takeNumber_72 rfl 0 rfl ?_
  refine nz_aload_n F dX4_takeNumber_73 rfl 0 rfl ?_
  refine nz_get F iw_X4_takeNumber_4 0 rfl rfl 4 (by decide) rfl fl_X4_takeNumber_29 rfl dX4_takeNumber_74 ?_
  refine nz_aload_n F dX4_takeNumber_77 rfl 0 rfl ?_
  refine nz_get F iw_X4_takeNumber_4 0 rfl rfl 3 (by decide) rfl fl_X4_takeNumber_73 rfl dX4_takeNumber_78 ?_
  refine nz_isub F dX4_takeNumber_81 ?_
  refine nz_iconst (v := 3) F dX4_takeNumber_82 (by decide) ?_
  refine nz_icmp_gt (tgt := 90) F dX4_takeNumber_83 (by decide) (fun c2 => ?_) (fun c2 => ?_)
  · have h := h.1 c2
    refine nz_iconst (v := 4) F dX4_takeNumber_90 (by decide) ?_
    refine nz_put (ws' := [(eo, .inr (4, [.ref ea0, .ref ed, .int er2, .int er3, .int er4, .int 4, .int er6, .int er7])), (ea0, .inl (nz_cI g, 400, .inl ef0))]) F iw_X4_takeNumber_4 tyX4 tyX4_ok nmX4 0 rfl rfl 5 (by decide) rfl fl_X4_takeNumber_44 rfl rfl (Nat.le_of_ble_eq_true rfl) dX4_takeNumber_91 rfl ?_
    exact nz_vret F hQ (er4, 4, er6) h rfl dX4_takeNumber_94
  · have h := h.2 c2
    refine nz_iconst (v := 2) F dX4_takeNumber_86 (by decide) ?_
    refine nz_goto (tgt := 91) F dX4_takeNumber_87 (by decide) ?_
    refine nz_put (ws' := [(eo, .inr (4, [.ref ea0, .ref ed, .int er2, .int er3, .int er4, .int 2, .int er6, .int er7])), (ea0, .inl (nz_cI g, 400, .inl ef0))]) F iw_X4_takeNumber_4 tyX4 tyX4_ok nmX4 0 rfl rfl 5 (by decide) rfl fl_X4_takeNumber_44 rfl rfl (Nat.le_of_ble_eq_true rfl) dX4_takeNumber_91 rfl ?_
    exact nz_vret F hQ (er4, 2, er6) h rfl dX4_takeNumber_94
def S_X4_takeNumber_0 (er2 : Int32) (er3 : Int32) (ef0 : Nat → Int32) (K : Int32 → Int32 → Int32 → Prop) (R0 : Int32 → Int32 → Prop) (er4 : Int32) (er6 : Int32) : Prop := ((er2 ≤ er4 → S_X4_takeNumber_72 er3 er4 er6 K) ∧ (¬ (er2 ≤ er4) → wp_X4_isFigure ef0 er4 (fun q3 => ((q3 = 0 → S_X4_takeNumber_72 er3 er4 er6 K) ∧ (¬ (q3 = 0) → ((3 ≤ (er4 - er3) → R0 (er4 + 1) er6) ∧ (¬ (3 ≤ (er4 - er3)) → (vp_in er4 400 ∧ R0 (er4 + 1) (((10 * er6) + (ef0 er4.toNatClampNeg)) - 48)))))))))
set_option maxHeartbeats 4000000 in
set_option maxRecDepth 100000 in
theorem t_X4_takeNumber_0 {y : nz_Y} {g : nz_G} (F : nz_F y g cX4_takeNumber 1 wsX4_takeNumber RX4 none rm_X4_takeNumber) {wc0 : va_W} {sz : Nat} {K : Int32 → Int32 → Int32 → Prop} (eo : Nat) (ea0 : Nat) (ed : Nat) (er2 : Int32) (er3 : Int32) (er7 : Int32) (ef0 : Nat → Int32) (er5 : Int32) (hQ : yz_A y = va_A wc0 sz ∧ yz_Q y = MQ (yz_b y) ((nz_Qv g wc0 (fun (u : Int32 × Int32 × Int32) => K u.1 u.2.1 u.2.2) (fun u => [(eo, .inr (4, [.ref ea0, .ref ed, .int er2, .int er3, .int u.1, .int u.2.1, .int u.2.2, .int er7])), (ea0, .inl (nz_cI g, 400, .inl ef0))])) sz) (yz_a y) (yz_s y) 0 0 (va_A wc0 sz)) : ∀ (n1 : Nat) (er4 : Int32) (er6 : Int32), nz_it (fun _ _ => False) (S_X4_takeNumber_0 er2 er3 ef0 K) n1 er4 er6 → nz_V y g 0 0 [(eo, .inr (4, [.ref ea0, .ref ed, .int er2, .int er3, .int er4, .int er5, .int er6, .int er7])), (ea0, .inl (nz_cI g, 400, .inl ef0))] 0 [(0, .ref eo)] [] := by
  intro n1
  induction n1 with
  | zero =>
    intro er4 er6 h
    exact h.elim
  | succ n1 hR0 =>
    intro er4 er6 h
    have h : S_X4_takeNumber_0 er2 er3 ef0 K (nz_it (fun _ _ => False) (S_X4_takeNumber_0 er2 er3 ef0 K) n1) er4 er6 := h
    unfold S_X4_takeNumber_0 at h
    refine nz_aload_n F dX4_takeNumber_0 rfl 0 rfl ?_
    refine nz_get F iw_X4_takeNumber_4 0 rfl rfl 4 (by decide) rfl fl_X4_takeNumber_29 rfl dX4_takeNumber_1 ?_
    refine nz_aload_n F dX4_takeNumber_4 rfl 0 rfl ?_
    refine nz_get F iw_X4_takeNumber_4 0 rfl rfl 2 (by decide) rfl fl_X4_takeNumber_22 rfl dX4_takeNumber_5 ?_
    refine nz_icmp_ge (tgt := 72) F dX4_takeNumber_8 (by decide) (fun c1 => ?_) (fun c1 => ?_)
    · have h := h.1 c1
      exact t_X4_takeNumber_72 F eo ea0 ed er2 er3 er7 ef0 er4 er5 er6 hQ h
    · have h := h.2 c1
      refine nz_aload_n F dX4_takeNumber_11 rfl 0 rfl ?_
      refine nz_aload_n F dX4_takeNumber_12 rfl 0 rfl ?_
      refine nz_get F iw_X4_takeNumber_4 0 rfl rfl 4 (by decide) rfl fl_X4_takeNumber_29 rfl dX4_takeNumber_13 ?_
      refine k_X4_isFigure eo ea0 ed er2 er3 er4 er5 er6 er7 ef0 er4 (fun hM => nz_runV F gX4_takeNumber_X4_isFigure rfl hd_X4_isFigure rfl hM dX4_takeNumber_16 [0, 1] rfl rfl 0 rfl rfl rfl (Nat.le_of_ble_eq_true rfl) rfl) h ([(eo, .inr (4, [.ref ea0, .ref ed, .int er2, .int er3, .int er4, .int er5, .int er6, .int er7])), (ea0, .inl (nz_cI g, 400, .inl ef0))]) (rfl) (fun q3 h => ?_)
      refine nz_if_eq (tgt := 72) F dX4_takeNumber_19 (by decide) (fun c4 => ?_) (fun c4 => ?_)
      · have h := h.1 c4
        exact t_X4_takeNumber_72 F eo ea0 ed er2 er3 er7 ef0 er4 er5 er6 hQ h
      · have h := h.2 c4
        refine nz_aload_n F dX4_takeNumber_22 rfl 0 rfl ?_
        refine nz_get F iw_X4_takeNumber_4 0 rfl rfl 4 (by decide) rfl fl_X4_takeNumber_29 rfl dX4_takeNumber_23 ?_
        refine nz_aload_n F dX4_takeNumber_26 rfl 0 rfl ?_
        refine nz_get F iw_X4_takeNumber_4 0 rfl rfl 3 (by decide) rfl fl_X4_takeNumber_73 rfl dX4_takeNumber_27 ?_
        refine nz_isub F dX4_takeNumber_30 ?_
        refine nz_iconst (v := 3) F dX4_takeNumber_31 (by decide) ?_
        refine nz_icmp_ge (tgt := 59) F dX4_takeNumber_32 (by decide) (fun c5 => ?_) (fun c5 => ?_)
        · have h := h.1 c5
          refine nz_aload_n F dX4_takeNumber_59 rfl 0 rfl ?_
          refine nz_dup F dX4_takeNumber_60 rfl ?_
          refine nz_get F iw_X4_takeNumber_4 0 rfl rfl 4 (by decide) rfl fl_X4_takeNumber_29 rfl dX4_takeNumber_61 ?_
          refine nz_iconst (v := 1) F dX4_takeNumber_64 (by decide) ?_
          refine nz_iadd F dX4_takeNumber_65 ?_
          refine nz_put (ws' := [(eo, .inr (4, [.ref ea0, .ref ed, .int er2, .int er3, .int (er4 + 1), .int er5, .int er6, .int er7])), (ea0, .inl (nz_cI g, 400, .inl ef0))]) F iw_X4_takeNumber_4 tyX4 tyX4_ok nmX4 0 rfl rfl 4 (by decide) rfl fl_X4_takeNumber_29 rfl rfl (Nat.le_of_ble_eq_true rfl) dX4_takeNumber_66 rfl ?_
          refine nz_goto (tgt := 0) F dX4_takeNumber_69 (by decide) ?_
          exact hR0 (er4 + 1) er6 h
        · have h := h.2 c5
          refine nz_aload_n F dX4_takeNumber_35 rfl 0 rfl ?_
          refine nz_bipush (v := 10) F dX4_takeNumber_36 (by decide) ?_
          refine nz_aload_n F dX4_takeNumber_38 rfl 0 rfl ?_
          refine nz_get F iw_X4_takeNumber_4 0 rfl rfl 6 (by decide) rfl fl_X4_takeNumber_147 rfl dX4_takeNumber_39 ?_
          refine nz_imul F dX4_takeNumber_42 ?_
          refine nz_aload_n F dX4_takeNumber_43 rfl 0 rfl ?_
          refine nz_get F iw_X4_takeNumber_4 0 rfl rfl 0 (by decide) rfl fl_X4_takeNumber_11 rfl dX4_takeNumber_44 ?_
          refine nz_aload_n F dX4_takeNumber_47 rfl 0 rfl ?_
          refine nz_get F iw_X4_takeNumber_4 0 rfl rfl 4 (by decide) rfl fl_X4_takeNumber_29 rfl dX4_takeNumber_48 ?_
          obtain ⟨i6, h⟩ := h
          refine nz_iald F 1 rfl i6 dX4_takeNumber_51 ?_
          refine nz_iadd F dX4_takeNumber_52 ?_
          refine nz_bipush (v := 48) F dX4_takeNumber_53 (by decide) ?_
          refine nz_isub F dX4_takeNumber_55 ?_
          refine nz_put (ws' := [(eo, .inr (4, [.ref ea0, .ref ed, .int er2, .int er3, .int er4, .int er5, .int (((10 * er6) + (ef0 er4.toNatClampNeg)) - 48), .int er7])), (ea0, .inl (nz_cI g, 400, .inl ef0))]) F iw_X4_takeNumber_4 tyX4 tyX4_ok nmX4 0 rfl rfl 6 (by decide) rfl fl_X4_takeNumber_147 rfl rfl (Nat.le_of_ble_eq_true rfl) dX4_takeNumber_56 rfl ?_
          refine nz_aload_n F dX4_takeNumber_59 rfl 0 rfl ?_
          refine nz_dup F dX4_takeNumber_60 rfl ?_
          refine nz_get F iw_X4_takeNumber_4 0 rfl rfl 4 (by decide) rfl fl_X4_takeNumber_29 rfl dX4_takeNumber_61 ?_
          refine nz_iconst (v := 1) F dX4_takeNumber_64 (by decide) ?_
          refine nz_iadd F dX4_takeNumber_65 ?_
          refine nz_put (ws' := [(eo, .inr (4, [.ref ea0, .ref ed, .int er2, .int er3, .int (er4 + 1), .int er5, .int (((10 * er6) + (ef0 er4.toNatClampNeg)) - 48), .int er7])), (ea0, .inl (nz_cI g, 400, .inl ef0))]) F iw_X4_takeNumber_4 tyX4 tyX4_ok nmX4 0 rfl rfl 4 (by decide) rfl fl_X4_takeNumber_29 rfl rfl (Nat.le_of_ble_eq_true rfl) dX4_takeNumber_66 rfl ?_
          refine nz_goto (tgt := 0) F dX4_takeNumber_69 (by decide) ?_
          exact hR0 (er4 + 1) (((10 * er6) + (ef0 er4.toNatClampNeg)) - 48) h
def wp_X4_takeNumber (er2 : Int32) (er3 : Int32) (er4 : Int32) (er6 : Int32) (ef0 : Nat → Int32) (K : Int32 → Int32 → Int32 → Prop) : Prop := (∃ n, nz_it (fun _ _ => False) (S_X4_takeNumber_0 er2 er3 ef0 K) n er4 er6)
set_option maxHeartbeats 4000000 in
set_option maxRecDepth 100000 in
theorem c_X4_takeNumber (l : Launch) (g : nz_G) (eo : Nat) (ea0 : Nat) (ed : Nat) (er2 : Int32) (er3 : Int32) (er4 : Int32) (er5 : Int32) (er6 : Int32) (er7 : Int32) (ef0 : Nat → Int32) (K : Int32 → Int32 → Int32 → Prop) (h : wp_X4_takeNumber er2 er3 er4 er6 ef0 K) : nz_M l yX4_takeNumber wsX4_takeNumber rm_X4_takeNumber g [.ref eo] [(eo, .inr (4, [.ref ea0, .ref ed, .int er2, .int er3, .int er4, .int er5, .int er6, .int er7])), (ea0, .inl (nz_cI g, 400, .inl ef0))] (nz_Qv g [(eo, .inr (4, [.ref ea0, .ref ed, .int er2, .int er3, .int er4, .int er5, .int er6, .int er7])), (ea0, .inl (nz_cI g, 400, .inl ef0))] (fun (u : Int32 × Int32 × Int32) => K u.1 u.2.1 u.2.2) (fun u => [(eo, .inr (4, [.ref ea0, .ref ed, .int er2, .int er3, .int u.1, .int u.2.1, .int u.2.2, .int er7])), (ea0, .inl (nz_cI g, 400, .inl ef0))])) := by
  refine nz_M.of (bytes := cX4_takeNumber) (nL := 1) (ret := none) (own := RX4) (by decide) rfl rfl ⟨rfl, rfl⟩ rfl ?_
  intro y F hl hQ
  obtain ⟨sz, hQ⟩ := hQ
  refine nz_ent (lv' := [(0, .ref eo)]) rfl ?_
  unfold wp_X4_takeNumber at h
  obtain ⟨n1, h⟩ := h
  exact t_X4_takeNumber_0 F eo ea0 ed er2 er3 er7 ef0 er5 hQ n1 er4 er6 h
theorem k_X4_takeNumber {y : nz_Y} {g : nz_G} {k n : Nat} {ws : va_W} {pc : Nat} {ls : List (Nat × Value)} {st rest : List Value} {av : Array Value} {isC : List Nat} {K : Int32 → Int32 → Int32 → Prop} (eo : Nat) (ea0 : Nat) (ed : Nat) (er2 : Int32) (er3 : Int32) (er4 : Int32) (er5 : Int32) (er6 : Int32) (er7 : Int32) (ef0 : Nat → Int32) (run : nz_M (yz_l y) yX4_takeNumber wsX4_takeNumber rm_X4_takeNumber g [.ref eo] [(eo, .inr (4, [.ref ea0, .ref ed, .int er2, .int er3, .int er4, .int er5, .int er6, .int er7])), (ea0, .inl (nz_cI g, 400, .inl ef0))] (nz_Qv g [(eo, .inr (4, [.ref ea0, .ref ed, .int er2, .int er3, .int er4, .int er5, .int er6, .int er7])), (ea0, .inl (nz_cI g, 400, .inl ef0))] (fun (u : Int32 × Int32 × Int32) => K u.1 u.2.1 u.2.2) (fun u => [(eo, .inr (4, [.ref ea0, .ref ed, .int er2, .int er3, .int u.1, .int u.2.1, .int u.2.2, .int er7])), (ea0, .inl (nz_cI g, 400, .inl ef0))])) → nz_C y g k n ws pc ls st rest [(eo, .inr (4, [.ref ea0, .ref ed, .int er2, .int er3, .int er4, .int er5, .int er6, .int er7])), (ea0, .inl (nz_cI g, 400, .inl ef0))] (nz_Qv g [(eo, .inr (4, [.ref ea0, .ref ed, .int er2, .int er3, .int er4, .int er5, .int er6, .int er7])), (ea0, .inl (nz_cI g, 400, .inl ef0))] (fun (u : Int32 × Int32 × Int32) => K u.1 u.2.1 u.2.2) (fun u => [(eo, .inr (4, [.ref ea0, .ref ed, .int er2, .int er3, .int u.1, .int u.2.1, .int u.2.2, .int er7])), (ea0, .inl (nz_cI g, 400, .inl ef0))])) av isC) (h : wp_X4_takeNumber er2 er3 er4 er6 ef0 K) (ws' : Int32 → Int32 → Int32 → va_W) (hm : ∀ (m0 : Int32) (m1 : Int32) (m2 : Int32), nz_mrg ws isC [(eo, .inr (4, [.ref ea0, .ref ed, .int er2, .int er3, .int m0, .int m1, .int m2, .int er7])), (ea0, .inl (nz_cI g, 400, .inl ef0))] = ws' m0 m1 m2) (kk : ∀ (m0 : Int32) (m1 : Int32) (m2 : Int32), K m0 m1 m2 → nz_V y g k n (ws' m0 m1 m2) (pc + 3) ls (rest)) : nz_V y g k n ws pc ls st :=
  nz_cv (ws' := fun u => ws' u.1 u.2.1 u.2.2) (run (c_X4_takeNumber (yz_l y) g eo ea0 ed er2 er3 er4 er5 er6 er7 ef0 K h)) (fun _ => rfl) (fun u => hm u.1 u.2.1 u.2.2) (fun u h => kk u.1 u.2.1 u.2.2 h)
theorem dX4_next_0 : decode cX4_next 0 = .ok (.aload_n 0, 1) := by decide +kernel
theorem dX4_next_1 : decode cX4_next 1 = .ok (.getfield 26, 3) := by decide +kernel
theorem dX4_next_4 : decode cX4_next 4 = .ok (.ifCond .eq 4, 3) := by decide +kernel
theorem dX4_next_7 : decode cX4_next 7 = .ok (.return_, 1) := by decide +kernel
theorem dX4_next_8 : decode cX4_next 8 = .ok (.aload_n 0, 1) := by decide +kernel
theorem dX4_next_9 : decode cX4_next 9 = .ok (.aload_n 0, 1) := by decide +kernel
theorem dX4_next_10 : decode cX4_next 10 = .ok (.getfield 29, 3) := by decide +kernel
theorem dX4_next_13 : decode cX4_next 13 = .ok (.putfield 73, 3) := by decide +kernel
theorem dX4_next_16 : decode cX4_next 16 = .ok (.aload_n 0, 1) := by decide +kernel
theorem dX4_next_17 : decode cX4_next 17 = .ok (.getfield 73, 3) := by decide +kernel
theorem dX4_next_20 : decode cX4_next 20 = .ok (.aload_n 0, 1) := by decide +kernel
theorem dX4_next_21 : decode cX4_next 21 = .ok (.getfield 22, 3) := by decide +kernel
theorem dX4_next_24 : decode cX4_next 24 = .ok (.if_icmp .ge 44, 3) := by decide +kernel
theorem dX4_next_27 : decode cX4_next 27 = .ok (.aload_n 0, 1) := by decide +kernel
theorem dX4_next_28 : decode cX4_next 28 = .ok (.getfield 11, 3) := by decide +kernel
theorem dX4_next_31 : decode cX4_next 31 = .ok (.aload_n 0, 1) := by decide +kernel
theorem dX4_next_32 : decode cX4_next 32 = .ok (.getfield 73, 3) := by decide +kernel
theorem dX4_next_35 : decode cX4_next 35 = .ok (.iaload, 1) := by decide +kernel
theorem dX4_next_36 : decode cX4_next 36 = .ok (.bipush 32, 2) := by decide +kernel
theorem dX4_next_38 : decode cX4_next 38 = .ok (.if_icmp .eq 17, 3) := by decide +kernel
theorem dX4_next_41 : decode cX4_next 41 = .ok (.aload_n 0, 1) := by decide +kernel
theorem dX4_next_42 : decode cX4_next 42 = .ok (.getfield 11, 3) := by decide +kernel
theorem dX4_next_45 : decode cX4_next 45 = .ok (.aload_n 0, 1) := by decide +kernel
theorem dX4_next_46 : decode cX4_next 46 = .ok (.getfield 73, 3) := by decide +kernel
theorem dX4_next_49 : decode cX4_next 49 = .ok (.iaload, 1) := by decide +kernel
theorem dX4_next_50 : decode cX4_next 50 = .ok (.bipush 10, 2) := by decide +kernel
theorem dX4_next_52 : decode cX4_next 52 = .ok (.if_icmp .ne 16, 3) := by decide +kernel
theorem dX4_next_55 : decode cX4_next 55 = .ok (.aload_n 0, 1) := by decide +kernel
theorem dX4_next_56 : decode cX4_next 56 = .ok (.dup, 1) := by decide +kernel
theorem dX4_next_57 : decode cX4_next 57 = .ok (.getfield 73, 3) := by decide +kernel
theorem dX4_next_60 : decode cX4_next 60 = .ok (.iconst 1, 1) := by decide +kernel
theorem dX4_next_61 : decode cX4_next 61 = .ok (.iadd, 1) := by decide +kernel
theorem dX4_next_62 : decode cX4_next 62 = .ok (.putfield 73, 3) := by decide +kernel
theorem dX4_next_65 : decode cX4_next 65 = .ok (.goto (-49), 3) := by decide +kernel
theorem dX4_next_68 : decode cX4_next 68 = .ok (.aload_n 0, 1) := by decide +kernel
theorem dX4_next_69 : decode cX4_next 69 = .ok (.aload_n 0, 1) := by decide +kernel
theorem dX4_next_70 : decode cX4_next 70 = .ok (.getfield 73, 3) := by decide +kernel
theorem dX4_next_73 : decode cX4_next 73 = .ok (.putfield 29, 3) := by decide +kernel
theorem dX4_next_76 : decode cX4_next 76 = .ok (.aload_n 0, 1) := by decide +kernel
theorem dX4_next_77 : decode cX4_next 77 = .ok (.iconst 0, 1) := by decide +kernel
theorem dX4_next_78 : decode cX4_next 78 = .ok (.putfield 147, 3) := by decide +kernel
theorem dX4_next_81 : decode cX4_next 81 = .ok (.aload_n 0, 1) := by decide +kernel
theorem dX4_next_82 : decode cX4_next 82 = .ok (.getfield 73, 3) := by decide +kernel
theorem dX4_next_85 : decode cX4_next 85 = .ok (.aload_n 0, 1) := by decide +kernel
theorem dX4_next_86 : decode cX4_next 86 = .ok (.getfield 22, 3) := by decide +kernel
theorem dX4_next_89 : decode cX4_next 89 = .ok (.if_icmp .lt 11, 3) := by decide +kernel
theorem dX4_next_92 : decode cX4_next 92 = .ok (.aload_n 0, 1) := by decide +kernel
theorem dX4_next_93 : decode cX4_next 93 = .ok (.iconst 0, 1) := by decide +kernel
theorem dX4_next_94 : decode cX4_next 94 = .ok (.putfield 44, 3) := by decide +kernel
theorem dX4_next_97 : decode cX4_next 97 = .ok (.goto 72, 3) := by decide +kernel
theorem dX4_next_100 : decode cX4_next 100 = .ok (.aload_n 0, 1) := by decide +kernel
theorem dX4_next_101 : decode cX4_next 101 = .ok (.aload_n 0, 1) := by decide +kernel
theorem dX4_next_102 : decode cX4_next 102 = .ok (.getfield 73, 3) := by decide +kernel
theorem dX4_next_105 : decode cX4_next 105 = .ok (.invokevirtual 158, 3) := by decide +kernel
theorem dX4_next_108 : decode cX4_next 108 = .ok (.ifCond .eq 10, 3) := by decide +kernel
theorem dX4_next_111 : decode cX4_next 111 = .ok (.aload_n 0, 1) := by decide +kernel
theorem dX4_next_112 : decode cX4_next 112 = .ok (.invokevirtual 162, 3) := by decide +kernel
theorem dX4_next_115 : decode cX4_next 115 = .ok (.goto 54, 3) := by decide +kernel
theorem dX4_next_118 : decode cX4_next 118 = .ok (.aload_n 0, 1) := by decide +kernel
theorem dX4_next_119 : decode cX4_next 119 = .ok (.aload_n 0, 1) := by decide +kernel
theorem dX4_next_120 : decode cX4_next 120 = .ok (.getfield 73, 3) := by decide +kernel
theorem dX4_next_123 : decode cX4_next 123 = .ok (.invokevirtual 165, 3) := by decide +kernel
theorem dX4_next_126 : decode cX4_next 126 = .ok (.ifCond .eq 10, 3) := by decide +kernel
theorem dX4_next_129 : decode cX4_next 129 = .ok (.aload_n 0, 1) := by decide +kernel
theorem dX4_next_130 : decode cX4_next 130 = .ok (.invokevirtual 168, 3) := by decide +kernel
theorem dX4_next_133 : decode cX4_next 133 = .ok (.goto 36, 3) := by decide +kernel
theorem dX4_next_136 : decode cX4_next 136 = .ok (.aload_n 0, 1) := by decide +kernel
theorem dX4_next_137 : decode cX4_next 137 = .ok (.aload_n 0, 1) := by decide +kernel
theorem dX4_next_138 : decode cX4_next 138 = .ok (.getfield 11, 3) := by decide +kernel
theorem dX4_next_141 : decode cX4_next 141 = .ok (.aload_n 0, 1) := by decide +kernel
theorem dX4_next_142 : decode cX4_next 142 = .ok (.getfield 73, 3) := by decide +kernel
theorem dX4_next_145 : decode cX4_next 145 = .ok (.iaload, 1) := by decide +kernel
theorem dX4_next_146 : decode cX4_next 146 = .ok (.bipush 59, 2) := by decide +kernel
theorem dX4_next_148 : decode cX4_next 148 = .ok (.if_icmp .ne 7, 3) := by decide +kernel
theorem dX4_next_151 : decode cX4_next 151 = .ok (.iconst 3, 1) := by decide +kernel
theorem dX4_next_152 : decode cX4_next 152 = .ok (.goto 4, 3) := by decide +kernel
theorem dX4_next_155 : decode cX4_next 155 = .ok (.iconst 4, 1) := by decide +kernel
theorem dX4_next_156 : decode cX4_next 156 = .ok (.putfield 44, 3) := by decide +kernel
theorem dX4_next_159 : decode cX4_next 159 = .ok (.aload_n 0, 1) := by decide +kernel
theorem dX4_next_160 : decode cX4_next 160 = .ok (.aload_n 0, 1) := by decide +kernel
theorem dX4_next_161 : decode cX4_next 161 = .ok (.getfield 73, 3) := by decide +kernel
theorem dX4_next_164 : decode cX4_next 164 = .ok (.iconst 1, 1) := by decide +kernel
theorem dX4_next_165 : decode cX4_next 165 = .ok (.iadd, 1) := by decide +kernel
theorem dX4_next_166 : decode cX4_next 166 = .ok (.putfield 29, 3) := by decide +kernel
theorem dX4_next_169 : decode cX4_next 169 = .ok (.return_, 1) := by decide +kernel
set_option maxRecDepth 20000 in
theorem ggX4_next_X4_isFigure : GoodIn wsX4_next wsX4_isFigure := goodIn_r _ [20, 5, 25, 26, 27, 28, 29, 30, 31, 32] rfl (by decide +kernel)
set_option maxRecDepth 20000 in
theorem gX4_next_X4_isFigure : GoodIn wsX4_next (wsV RX4 165 RX4 yX4_isFigure wsX4_isFigure) := goodIn_app (goodIn_r _ [17, 18, 19, 11] rfl (by decide +kernel)) ggX4_next_X4_isFigure
set_option maxRecDepth 20000 in
theorem ggX4_next_X4_isLetter : GoodIn wsX4_next wsX4_isLetter := goodIn_r _ [12, 5, 25, 26, 27, 28, 29, 30, 31, 32] rfl (by decide +kernel)
set_option maxRecDepth 20000 in
theorem gX4_next_X4_isLetter : GoodIn wsX4_next (wsV RX4 158 RX4 yX4_isLetter wsX4_isLetter) := goodIn_app (goodIn_r _ [8, 9, 10, 11] rfl (by decide +kernel)) ggX4_next_X4_isLetter
set_option maxRecDepth 20000 in
theorem ggX4_next_X4_takeName : GoodIn wsX4_next wsX4_takeName := goodIn_r _ [16, 2, 4, 7, 8, 9, 10, 11, 12, 5, 25, 26, 27, 28, 29, 30, 31, 32] rfl (by decide +kernel)
set_option maxRecDepth 20000 in
theorem gX4_next_X4_takeName : GoodIn wsX4_next (wsV RX4 162 RX4 yX4_takeName wsX4_takeName) := goodIn_app (goodIn_r _ [13, 14, 15, 11] rfl (by decide +kernel)) ggX4_next_X4_takeName
set_option maxRecDepth 20000 in
theorem ggX4_next_X4_takeNumber : GoodIn wsX4_next wsX4_takeNumber := goodIn_r _ [24, 2, 4, 3, 6, 5, 7, 17, 18, 19, 11, 20, 25, 26, 27, 28, 29, 30, 31, 32] rfl (by decide +kernel)
set_option maxRecDepth 20000 in
theorem gX4_next_X4_takeNumber : GoodIn wsX4_next (wsV RX4 168 RX4 yX4_takeNumber wsX4_takeNumber) := goodIn_app (goodIn_r _ [21, 22, 23, 11] rfl (by decide +kernel)) ggX4_next_X4_takeNumber
theorem hd_X4_takeName : yX4_takeName.cls = RX4 ∧ yX4_takeName.cls ≠ "java/lang/invoke/MethodHandle" ∧ yX4_takeName.cls ≠ "java/lang/invoke/VarHandle" ∧ (parseMethodDescriptor yX4_takeName.desc).map (fun d => d.parameters.length) = some 0 := by decide +kernel
theorem hd_X4_takeNumber : yX4_takeNumber.cls = RX4 ∧ yX4_takeNumber.cls ≠ "java/lang/invoke/MethodHandle" ∧ yX4_takeNumber.cls ≠ "java/lang/invoke/VarHandle" ∧ (parseMethodDescriptor yX4_takeNumber.desc).map (fun d => d.parameters.length) = some 0 := by decide +kernel
/-! X4_next -/
abbrev rm_X4_next : Room := { frames := 2, cells := 0, slots := 0, locals := 41 }
theorem iw_X4_next_4 : ∀ w ∈ wsX40, w ∈ wsX4_next := fun _ h => List.mem_cons_of_mem _ (List.mem_append_right _ h)
theorem fl_X4_next_26 : Cond.fieldLink RX4 26 "NightStones$Reader" "fault" "I" ∈ wsX4_next := List.mem_of_getElem? (i := 1) rfl
theorem fl_X4_next_29 : Cond.fieldLink RX4 29 "NightStones$Reader" "to" "I" ∈ wsX4_next := List.mem_of_getElem? (i := 2) rfl
theorem fl_X4_next_73 : Cond.fieldLink RX4 73 "NightStones$Reader" "from" "I" ∈ wsX4_next := List.mem_of_getElem? (i := 3) rfl
theorem fl_X4_next_22 : Cond.fieldLink RX4 22 "NightStones$Reader" "bytes" "I" ∈ wsX4_next := List.mem_of_getElem? (i := 4) rfl
theorem fl_X4_next_147 : Cond.fieldLink RX4 147 "NightStones$Reader" "value" "I" ∈ wsX4_next := List.mem_of_getElem? (i := 6) rfl
theorem fl_X4_next_11 : Cond.fieldLink RX4 11 "NightStones$Reader" "tape" "[I" ∈ wsX4_next := List.mem_of_getElem? (i := 5) rfl
theorem fl_X4_next_44 : Cond.fieldLink RX4 44 "NightStones$Reader" "token" "I" ∈ wsX4_next := List.mem_of_getElem? (i := 7) rfl
def S_X4_next_68 (er2 : Int32) (ef0 : Nat → Int32) (er3 : Int32) (K : Int32 → Int32 → Int32 → Int32 → Prop) : Prop := ((er3 < er2 → wp_X4_isLetter ef0 er3 (fun q4 => ((q4 = 0 → wp_X4_isFigure ef0 er3 (fun q6 => ((q6 = 0 → (vp_in er3 400 ∧ ((¬ (ef0 er3.toNatClampNeg) = 59 → K er3 (er3 + 1) 4 0) ∧ ((ef0 er3.toNatClampNeg) = 59 → K er3 (er3 + 1) 3 0)))) ∧ (¬ (q6 = 0) → wp_X4_takeNumber er2 er3 er3 0 ef0 (fun m10 m11 m12 => K er3 m10 m11 m12))))) ∧ (¬ (q4 = 0) → wp_X4_takeName er2 er3 ef0 (fun m13 m14 => K er3 m13 m14 0))))) ∧ (¬ (er3 < er2) → K er3 er3 0 0))
set_option maxHeartbeats 4000000 in
set_option maxRecDepth 100000 in
theorem t_X4_next_68 {y : nz_Y} {g : nz_G} (F : nz_F y g cX4_next 1 wsX4_next RX4 none rm_X4_next) {wc0 : va_W} {sz : Nat} {K : Int32 → Int32 → Int32 → Int32 → Prop} (eo : Nat) (ea0 : Nat) (ed : Nat) (er2 : Int32) (er7 : Int32) (ef0 : Nat → Int32) (er3 : Int32) (er4 : Int32) (er5 : Int32) (er6 : Int32) (hQ : yz_A y = va_A wc0 sz ∧ yz_Q y = MQ (yz_b y) ((nz_Qv g wc0 (fun (u : Int32 × Int32 × Int32 × Int32) => K u.1 u.2.1 u.2.2.1 u.2.2.2) (fun u => [(eo, .inr (4, [.ref ea0, .ref ed, .int er2, .int u.1, .int u.2.1, .int u.2.2.1, .int u.2.2.2, .int er7])), (ea0, .inl (nz_cI g, 400, .inl ef0))])) sz) (yz_a y) (yz_s y) 0 0 (va_A wc0 sz)) : S_X4_next_68 er2 ef0 er3 K → nz_V y g 0 0 [(eo, .inr (4, [.ref ea0, .ref ed, .int er2, .int er3, .int er4, .int er5, .int er6, .int er7])), (ea0, .inl (nz_cI g, 400, .inl ef0))] 68 [(0, .ref eo)] [] := by
  intro h
  unfold S_X4_next_68 at h
  refine nz_aload_n F dX4_next_68 rfl 0 rfl ?_
  refine nz_aload_n F dX4_next_69 rfl 0 rfl ?_
  refine nz_get F iw_X4_next_4 0 rfl rfl 3 (by decide) rfl fl_X4_next_73 rfl dX4_next_70 ?_
  refine nz_put (ws' := [(eo, .inr (4, [.ref ea0, .ref ed, .int er2, .int er3, .int er3, .int er5, .int er6, .int er7])), (ea0, .inl (nz_cI g, 400, .inl ef0))]) F iw_X4_next_4 tyX4 tyX4_ok nmX4 0 rfl rfl 4 (by decide) rfl fl_X4_next_29 rfl rfl (Nat.le_of_ble_eq_true rfl) dX4_next_73 rfl ?_
  refine nz_aload_n F dX4_next_76 rfl 0 rfl ?_
  refine nz_iconst (v := 0) F dX4_next_77 (by decide) ?_
  refine nz_put (ws' := [(eo, .inr (4, [.ref ea0, .ref ed, .int er2, .int er3, .int er3, .int er5, .int 0, .int er7])), (ea0, .inl (nz_cI g, 400, .inl ef0))]) F iw_X4_next_4 tyX4 tyX4_ok nmX4 0 rfl rfl 6 (by decide) rfl fl_X4_next_147 rfl rfl (Nat.le_of_ble_eq_true rfl) dX4_next_78 rfl ?_
  refine nz_aload_n F dX4_next_81 rfl 0 rfl ?_
  refine nz_get F iw_X4_next_4 0 rfl rfl 3 (by decide) rfl fl_X4_next_73 rfl dX4_next_82 ?_
  refine nz_aload_n F dX4_next_85 rfl 0 rfl ?_
  refine nz_get F iw_X4_next_4 0 rfl rfl 2 (by decide) rfl fl_X4_next_22 rfl dX4_next_86 ?_
  refine nz_icmp_lt (tgt := 100) F dX4_next_89 (by decide) (fun c3 => ?_) (fun c3 => ?_)
  · have h := h.1 c3
    refine nz_aload_n F dX4_next_100 rfl 0 rfl ?_
    refine nz_aload_n F dX4_next_101 rfl 0 rfl ?_
    refine nz_get F iw_X4_next_4 0 rfl rfl 3 (by decide) rfl fl_X4_next_73 rfl dX4_next_102 ?_
    refine k_X4_isLetter eo ea0 ed er2 er3 er3 er5 0 er7 ef0 er3 (fun hM => nz_runV F gX4_next_X4_isLetter rfl hd_X4_isLetter rfl hM dX4_next_105 [0, 1] rfl rfl 0 rfl rfl rfl (Nat.le_of_ble_eq_true rfl) rfl) h ([(eo, .inr (4, [.ref ea0, .ref ed, .int er2, .int er3, .int er3, .int er5, .int 0, .int er7])), (ea0, .inl (nz_cI g, 400, .inl ef0))]) (rfl) (fun q4 h => ?_)
    refine nz_if_eq (tgt := 118) F dX4_next_108 (by decide) (fun c5 => ?_) (fun c5 => ?_)
    · have h := h.1 c5
      refine nz_aload_n F dX4_next_118 rfl 0 rfl ?_
      refine nz_aload_n F dX4_next_119 rfl 0 rfl ?_
      refine nz_get F iw_X4_next_4 0 rfl rfl 3 (by decide) rfl fl_X4_next_73 rfl dX4_next_120 ?_
      refine k_X4_isFigure eo ea0 ed er2 er3 er3 er5 0 er7 ef0 er3 (fun hM => nz_runV F gX4_next_X4_isFigure rfl hd_X4_isFigure rfl hM dX4_next_123 [0, 1] rfl rfl 0 rfl rfl rfl (Nat.le_of_ble_eq_true rfl) rfl) h ([(eo, .inr (4, [.ref ea0, .ref ed, .int er2, .int er3, .int er3, .int er5, .int 0, .int er7])), (ea0, .inl (nz_cI g, 400, .inl ef0))]) (rfl) (fun q6 h => ?_)
      refine nz_if_eq (tgt := 136) F dX4_next_126 (by decide) (fun c7 => ?_) (fun c7 => ?_)
      · have h := h.1 c7
        refine nz_aload_n F dX4_next_136 rfl 0 rfl ?_
        refine nz_aload_n F dX4_next_137 rfl 0 rfl ?_
        refine nz_get F iw_X4_next_4 0 rfl rfl 0 (by decide) rfl fl_X4_next_11 rfl dX4_next_138 ?_
        refine nz_aload_n F dX4_next_141 rfl 0 rfl ?_
        refine nz_get F iw_X4_next_4 0 rfl rfl 3 (by decide) rfl fl_X4_next_73 rfl dX4_next_142 ?_
        obtain ⟨i8, h⟩ := h
        refine nz_iald F 1 rfl i8 dX4_next_145 ?_
        refine nz_bipush (v := 59) F dX4_next_146 (by decide) ?_
        refine nz_icmp_ne (tgt := 155) F dX4_next_148 (by decide) (fun c9 => ?_) (fun c9 => ?_)
        · have h := h.1 c9
          refine nz_iconst (v := 4) F dX4_next_155 (by decide) ?_
          refine nz_put (ws' := [(eo, .inr (4, [.ref ea0, .ref ed, .int er2, .int er3, .int er3, .int 4, .int 0, .int er7])), (ea0, .inl (nz_cI g, 400, .inl ef0))]) F iw_X4_next_4 tyX4 tyX4_ok nmX4 0 rfl rfl 5 (by decide) rfl fl_X4_next_44 rfl rfl (Nat.le_of_ble_eq_true rfl) dX4_next_156 rfl ?_
          refine nz_aload_n F dX4_next_159 rfl 0 rfl ?_
          refine nz_aload_n F dX4_next_160 rfl 0 rfl ?_
          refine nz_get F iw_X4_next_4 0 rfl rfl 3 (by decide) rfl fl_X4_next_73 rfl dX4_next_161 ?_
          refine nz_iconst (v := 1) F dX4_next_164 (by decide) ?_
          refine nz_iadd F dX4_next_165 ?_
          refine nz_put (ws' := [(eo, .inr (4, [.ref ea0, .ref ed, .int er2, .int er3, .int (er3 + 1), .int 4, .int 0, .int er7])), (ea0, .inl (nz_cI g, 400, .inl ef0))]) F iw_X4_next_4 tyX4 tyX4_ok nmX4 0 rfl rfl 4 (by decide) rfl fl_X4_next_29 rfl rfl (Nat.le_of_ble_eq_true rfl) dX4_next_166 rfl ?_
          exact nz_vret F hQ (er3, (er3 + 1), 4, 0) h rfl dX4_next_169
        · have h := h.2 c9
          refine nz_iconst (v := 3) F dX4_next_151 (by decide) ?_
          refine nz_goto (tgt := 156) F dX4_next_152 (by decide) ?_
          refine nz_put (ws' := [(eo, .inr (4, [.ref ea0, .ref ed, .int er2, .int er3, .int er3, .int 3, .int 0, .int er7])), (ea0, .inl (nz_cI g, 400, .inl ef0))]) F iw_X4_next_4 tyX4 tyX4_ok nmX4 0 rfl rfl 5 (by decide) rfl fl_X4_next_44 rfl rfl (Nat.le_of_ble_eq_true rfl) dX4_next_156 rfl ?_
          refine nz_aload_n F dX4_next_159 rfl 0 rfl ?_
          refine nz_aload_n F dX4_next_160 rfl 0 rfl ?_
          refine nz_get F iw_X4_next_4 0 rfl rfl 3 (by decide) rfl fl_X4_next_73 rfl dX4_next_161 ?_
          refine nz_iconst (v := 1) F dX4_next_164 (by decide) ?_
          refine nz_iadd F dX4_next_165 ?_
          refine nz_put (ws' := [(eo, .inr (4, [.ref ea0, .ref ed, .int er2, .int er3, .int (er3 + 1), .int 3, .int 0, .int er7])), (ea0, .inl (nz_cI g, 400, .inl ef0))]) F iw_X4_next_4 tyX4 tyX4_ok nmX4 0 rfl rfl 4 (by decide) rfl fl_X4_next_29 rfl rfl (Nat.le_of_ble_eq_true rfl) dX4_next_166 rfl ?_
          exact nz_vret F hQ (er3, (er3 + 1), 3, 0) h rfl dX4_next_169
      · have h := h.2 c7
        refine nz_aload_n F dX4_next_129 rfl 0 rfl ?_
        refine k_X4_takeNumber eo ea0 ed er2 er3 er3 er5 0 er7 ef0 (fun hM => nz_runV F gX4_next_X4_takeNumber rfl hd_X4_takeNumber rfl hM dX4_next_130 [0, 1] rfl rfl 0 rfl rfl rfl (Nat.le_of_ble_eq_true rfl) rfl) h (fun m10 m11 m12 => [(eo, .inr (4, [.ref ea0, .ref ed, .int er2, .int er3, .int m10, .int m11, .int m12, .int er7])), (ea0, .inl (nz_cI g, 400, .inl ef0))]) (fun _ _ _ => rfl) (fun m10 m11 m12 h => ?_)
        refine nz_goto (tgt := 169) F dX4_next_133 (by decide) ?_
        exact nz_vret F hQ (er3, m10, m11, m12) h rfl dX4_next_169
    · have h := h.2 c5
      refine nz_aload_n F dX4_next_111 rfl 0 rfl ?_
      refine k_X4_takeName eo ea0 ed er2 er3 er3 er5 0 er7 ef0 (fun hM => nz_runV F gX4_next_X4_takeName rfl hd_X4_takeName rfl hM dX4_next_112 [0, 1] rfl rfl 0 rfl rfl rfl (Nat.le_of_ble_eq_true rfl) rfl) h (fun m13 m14 => [(eo, .inr (4, [.ref ea0, .ref ed, .int er2, .int er3, .int m13, .int m14, .int 0, .int er7])), (ea0, .inl (nz_cI g, 400, .inl ef0))]) (fun _ _ => rfl) (fun m13 m14 h => ?_)
      refine nz_goto (tgt := 169) F dX4_next_115 (by decide) ?_
      exact nz_vret F hQ (er3, m13, m14, 0) h rfl dX4_next_169
  · have h := h.2 c3
    refine nz_aload_n F dX4_next_92 rfl 0 rfl ?_
    refine nz_iconst (v := 0) F dX4_next_93 (by decide) ?_
    refine nz_put (ws' := [(eo, .inr (4, [.ref ea0, .ref ed, .int er2, .int er3, .int er3, .int 0, .int 0, .int er7])), (ea0, .inl (nz_cI g, 400, .inl ef0))]) F iw_X4_next_4 tyX4 tyX4_ok nmX4 0 rfl rfl 5 (by decide) rfl fl_X4_next_44 rfl rfl (Nat.le_of_ble_eq_true rfl) dX4_next_94 rfl ?_
    refine nz_goto (tgt := 169) F dX4_next_97 (by decide) ?_
    exact nz_vret F hQ (er3, er3, 0, 0) h rfl dX4_next_169
def S_X4_next_16 (er2 : Int32) (ef0 : Nat → Int32) (K : Int32 → Int32 → Int32 → Int32 → Prop) (R16 : Int32 → Prop) (er3 : Int32) : Prop := ((er2 ≤ er3 → S_X4_next_68 er2 ef0 er3 K) ∧ (¬ (er2 ≤ er3) → (vp_in er3 400 ∧ (((ef0 er3.toNatClampNeg) = 32 → R16 (er3 + 1)) ∧ (¬ ((ef0 er3.toNatClampNeg) = 32) → (vp_in er3 400 ∧ ((¬ (ef0 er3.toNatClampNeg) = 10 → S_X4_next_68 er2 ef0 er3 K) ∧ ((ef0 er3.toNatClampNeg) = 10 → R16 (er3 + 1)))))))))
set_option maxHeartbeats 4000000 in
set_option maxRecDepth 100000 in
theorem t_X4_next_16 {y : nz_Y} {g : nz_G} (F : nz_F y g cX4_next 1 wsX4_next RX4 none rm_X4_next) {wc0 : va_W} {sz : Nat} {K : Int32 → Int32 → Int32 → Int32 → Prop} (eo : Nat) (ea0 : Nat) (ed : Nat) (er2 : Int32) (er7 : Int32) (ef0 : Nat → Int32) (er4 : Int32) (er5 : Int32) (er6 : Int32) (hQ : yz_A y = va_A wc0 sz ∧ yz_Q y = MQ (yz_b y) ((nz_Qv g wc0 (fun (u : Int32 × Int32 × Int32 × Int32) => K u.1 u.2.1 u.2.2.1 u.2.2.2) (fun u => [(eo, .inr (4, [.ref ea0, .ref ed, .int er2, .int u.1, .int u.2.1, .int u.2.2.1, .int u.2.2.2, .int er7])), (ea0, .inl (nz_cI g, 400, .inl ef0))])) sz) (yz_a y) (yz_s y) 0 0 (va_A wc0 sz)) : ∀ (n1 : Nat) (er3 : Int32), nz_it (fun _ => False) (S_X4_next_16 er2 ef0 K) n1 er3 → nz_V y g 0 0 [(eo, .inr (4, [.ref ea0, .ref ed, .int er2, .int er3, .int er4, .int er5, .int er6, .int er7])), (ea0, .inl (nz_cI g, 400, .inl ef0))] 16 [(0, .ref eo)] [] := by
  intro n1
  induction n1 with
  | zero =>
    intro er3 h
    exact h.elim
  | succ n1 hR16 =>
    intro er3 h
    have h : S_X4_next_16 er2 ef0 K (nz_it (fun _ => False) (S_X4_next_16 er2 ef0 K) n1) er3 := h
    unfold S_X4_next_16 at h
    refine nz_aload_n F dX4_next_16 rfl 0 rfl ?_
    refine nz_get F iw_X4_next_4 0 rfl rfl 3 (by decide) rfl fl_X4_next_73 rfl dX4_next_17 ?_
    refine nz_aload_n F dX4_next_20 rfl 0 rfl ?_
    refine nz_get F iw_X4_next_4 0 rfl rfl 2 (by decide) rfl fl_X4_next_22 rfl dX4_next_21 ?_
    refine nz_icmp_ge (tgt := 68) F dX4_next_24 (by decide) (fun c2 => ?_) (fun c2 => ?_)
    · have h := h.1 c2
      exact t_X4_next_68 F eo ea0 ed er2 er7 ef0 er3 er4 er5 er6 hQ h
    · have h := h.2 c2
      refine nz_aload_n F dX4_next_27 rfl 0 rfl ?_
      refine nz_get F iw_X4_next_4 0 rfl rfl 0 (by decide) rfl fl_X4_next_11 rfl dX4_next_28 ?_
      refine nz_aload_n F dX4_next_31 rfl 0 rfl ?_
      refine nz_get F iw_X4_next_4 0 rfl rfl 3 (by decide) rfl fl_X4_next_73 rfl dX4_next_32 ?_
      obtain ⟨i15, h⟩ := h
      refine nz_iald F 1 rfl i15 dX4_next_35 ?_
      refine nz_bipush (v := 32) F dX4_next_36 (by decide) ?_
      refine nz_icmp_eq (tgt := 55) F dX4_next_38 (by decide) (fun c16 => ?_) (fun c16 => ?_)
      · have h := h.1 c16
        refine nz_aload_n F dX4_next_55 rfl 0 rfl ?_
        refine nz_dup F dX4_next_56 rfl ?_
        refine nz_get F iw_X4_next_4 0 rfl rfl 3 (by decide) rfl fl_X4_next_73 rfl dX4_next_57 ?_
        refine nz_iconst (v := 1) F dX4_next_60 (by decide) ?_
        refine nz_iadd F dX4_next_61 ?_
        refine nz_put (ws' := [(eo, .inr (4, [.ref ea0, .ref ed, .int er2, .int (er3 + 1), .int er4, .int er5, .int er6, .int er7])), (ea0, .inl (nz_cI g, 400, .inl ef0))]) F iw_X4_next_4 tyX4 tyX4_ok nmX4 0 rfl rfl 3 (by decide) rfl fl_X4_next_73 rfl rfl (Nat.le_of_ble_eq_true rfl) dX4_next_62 rfl ?_
        refine nz_goto (tgt := 16) F dX4_next_65 (by decide) ?_
        exact hR16 (er3 + 1) h
      · have h := h.2 c16
        refine nz_aload_n F dX4_next_41 rfl 0 rfl ?_
        refine nz_get F iw_X4_next_4 0 rfl rfl 0 (by decide) rfl fl_X4_next_11 rfl dX4_next_42 ?_
        refine nz_aload_n F dX4_next_45 rfl 0 rfl ?_
        refine nz_get F iw_X4_next_4 0 rfl rfl 3 (by decide) rfl fl_X4_next_73 rfl dX4_next_46 ?_
        obtain ⟨i17, h⟩ := h
        refine nz_iald F 1 rfl i17 dX4_next_49 ?_
        refine nz_bipush (v := 10) F dX4_next_50 (by decide) ?_
        refine nz_icmp_ne (tgt := 68) F dX4_next_52 (by decide) (fun c18 => ?_) (fun c18 => ?_)
        · have h := h.1 c18
          exact t_X4_next_68 F eo ea0 ed er2 er7 ef0 er3 er4 er5 er6 hQ h
        · have h := h.2 c18
          refine nz_aload_n F dX4_next_55 rfl 0 rfl ?_
          refine nz_dup F dX4_next_56 rfl ?_
          refine nz_get F iw_X4_next_4 0 rfl rfl 3 (by decide) rfl fl_X4_next_73 rfl dX4_next_57 ?_
          refine nz_iconst (v := 1) F dX4_next_60 (by decide) ?_
          refine nz_iadd F dX4_next_61 ?_
          refine nz_put (ws' := [(eo, .inr (4, [.ref ea0, .ref ed, .int er2, .int (er3 + 1), .int er4, .int er5, .int er6, .int er7])), (ea0, .inl (nz_cI g, 400, .inl ef0))]) F iw_X4_next_4 tyX4 tyX4_ok nmX4 0 rfl rfl 3 (by decide) rfl fl_X4_next_73 rfl rfl (Nat.le_of_ble_eq_true rfl) dX4_next_62 rfl ?_
          refine nz_goto (tgt := 16) F dX4_next_65 (by decide) ?_
          exact hR16 (er3 + 1) h
def wp_X4_next (er2 : Int32) (er3 : Int32) (er4 : Int32) (er5 : Int32) (er6 : Int32) (er7 : Int32) (ef0 : Nat → Int32) (K : Int32 → Int32 → Int32 → Int32 → Prop) : Prop := ((er7 = 0 → (∃ n, nz_it (fun _ => False) (S_X4_next_16 er2 ef0 K) n er4)) ∧ (¬ (er7 = 0) → K er3 er4 er5 er6))
set_option maxHeartbeats 4000000 in
set_option maxRecDepth 100000 in
theorem c_X4_next (l : Launch) (g : nz_G) (eo : Nat) (ea0 : Nat) (ed : Nat) (er2 : Int32) (er3 : Int32) (er4 : Int32) (er5 : Int32) (er6 : Int32) (er7 : Int32) (ef0 : Nat → Int32) (K : Int32 → Int32 → Int32 → Int32 → Prop) (h : wp_X4_next er2 er3 er4 er5 er6 er7 ef0 K) : nz_M l yX4_next wsX4_next rm_X4_next g [.ref eo] [(eo, .inr (4, [.ref ea0, .ref ed, .int er2, .int er3, .int er4, .int er5, .int er6, .int er7])), (ea0, .inl (nz_cI g, 400, .inl ef0))] (nz_Qv g [(eo, .inr (4, [.ref ea0, .ref ed, .int er2, .int er3, .int er4, .int er5, .int er6, .int er7])), (ea0, .inl (nz_cI g, 400, .inl ef0))] (fun (u : Int32 × Int32 × Int32 × Int32) => K u.1 u.2.1 u.2.2.1 u.2.2.2) (fun u => [(eo, .inr (4, [.ref ea0, .ref ed, .int er2, .int u.1, .int u.2.1, .int u.2.2.1, .int u.2.2.2, .int er7])), (ea0, .inl (nz_cI g, 400, .inl ef0))])) := by
  refine nz_M.of (bytes := cX4_next) (nL := 1) (ret := none) (own := RX4) (by decide) rfl rfl ⟨rfl, rfl⟩ rfl ?_
  intro y F hl hQ
  obtain ⟨sz, hQ⟩ := hQ
  refine nz_ent (lv' := [(0, .ref eo)]) rfl ?_
  unfold wp_X4_next at h
  refine nz_aload_n F dX4_next_0 rfl 0 rfl ?_
  refine nz_get F iw_X4_next_4 0 rfl rfl 7 (by decide) rfl fl_X4_next_26 rfl dX4_next_1 ?_
  refine nz_if_eq (tgt := 8) F dX4_next_4 (by decide) (fun c1 => ?_) (fun c1 => ?_)
  · have h := h.1 c1
    refine nz_aload_n F dX4_next_8 rfl 0 rfl ?_
    refine nz_aload_n F dX4_next_9 rfl 0 rfl ?_
    refine nz_get F iw_X4_next_4 0 rfl rfl 4 (by decide) rfl fl_X4_next_29 rfl dX4_next_10 ?_
    refine nz_put (ws' := [(eo, .inr (4, [.ref ea0, .ref ed, .int er2, .int er4, .int er4, .int er5, .int er6, .int er7])), (ea0, .inl (nz_cI g, 400, .inl ef0))]) F iw_X4_next_4 tyX4 tyX4_ok nmX4 0 rfl rfl 3 (by decide) rfl fl_X4_next_73 rfl rfl (Nat.le_of_ble_eq_true rfl) dX4_next_13 rfl ?_
    obtain ⟨n1, h⟩ := h
    exact t_X4_next_16 F eo ea0 ed er2 er7 ef0 er4 er5 er6 hQ n1 er4 h
  · have h := h.2 c1
    exact nz_vret F hQ (er3, er4, er5, er6) h rfl dX4_next_7
theorem k_X4_next {y : nz_Y} {g : nz_G} {k n : Nat} {ws : va_W} {pc : Nat} {ls : List (Nat × Value)} {st rest : List Value} {av : Array Value} {isC : List Nat} {K : Int32 → Int32 → Int32 → Int32 → Prop} (eo : Nat) (ea0 : Nat) (ed : Nat) (er2 : Int32) (er3 : Int32) (er4 : Int32) (er5 : Int32) (er6 : Int32) (er7 : Int32) (ef0 : Nat → Int32) (run : nz_M (yz_l y) yX4_next wsX4_next rm_X4_next g [.ref eo] [(eo, .inr (4, [.ref ea0, .ref ed, .int er2, .int er3, .int er4, .int er5, .int er6, .int er7])), (ea0, .inl (nz_cI g, 400, .inl ef0))] (nz_Qv g [(eo, .inr (4, [.ref ea0, .ref ed, .int er2, .int er3, .int er4, .int er5, .int er6, .int er7])), (ea0, .inl (nz_cI g, 400, .inl ef0))] (fun (u : Int32 × Int32 × Int32 × Int32) => K u.1 u.2.1 u.2.2.1 u.2.2.2) (fun u => [(eo, .inr (4, [.ref ea0, .ref ed, .int er2, .int u.1, .int u.2.1, .int u.2.2.1, .int u.2.2.2, .int er7])), (ea0, .inl (nz_cI g, 400, .inl ef0))])) → nz_C y g k n ws pc ls st rest [(eo, .inr (4, [.ref ea0, .ref ed, .int er2, .int er3, .int er4, .int er5, .int er6, .int er7])), (ea0, .inl (nz_cI g, 400, .inl ef0))] (nz_Qv g [(eo, .inr (4, [.ref ea0, .ref ed, .int er2, .int er3, .int er4, .int er5, .int er6, .int er7])), (ea0, .inl (nz_cI g, 400, .inl ef0))] (fun (u : Int32 × Int32 × Int32 × Int32) => K u.1 u.2.1 u.2.2.1 u.2.2.2) (fun u => [(eo, .inr (4, [.ref ea0, .ref ed, .int er2, .int u.1, .int u.2.1, .int u.2.2.1, .int u.2.2.2, .int er7])), (ea0, .inl (nz_cI g, 400, .inl ef0))])) av isC) (h : wp_X4_next er2 er3 er4 er5 er6 er7 ef0 K) (ws' : Int32 → Int32 → Int32 → Int32 → va_W) (hm : ∀ (m0 : Int32) (m1 : Int32) (m2 : Int32) (m3 : Int32), nz_mrg ws isC [(eo, .inr (4, [.ref ea0, .ref ed, .int er2, .int m0, .int m1, .int m2, .int m3, .int er7])), (ea0, .inl (nz_cI g, 400, .inl ef0))] = ws' m0 m1 m2 m3) (kk : ∀ (m0 : Int32) (m1 : Int32) (m2 : Int32) (m3 : Int32), K m0 m1 m2 m3 → nz_V y g k n (ws' m0 m1 m2 m3) (pc + 3) ls (rest)) : nz_V y g k n ws pc ls st :=
  nz_cv (ws' := fun u => ws' u.1 u.2.1 u.2.2.1 u.2.2.2) (run (c_X4_next (yz_l y) g eo ea0 ed er2 er3 er4 er5 er6 er7 ef0 K h)) (fun _ => rfl) (fun u => hm u.1 u.2.1 u.2.2.1 u.2.2.2) (fun u h => kk u.1 u.2.1 u.2.2.1 u.2.2.2 h)
