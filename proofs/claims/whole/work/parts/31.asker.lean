theorem dX1_isOne_0 : decode cX1_isOne 0 = .ok (.iload_n 0, 1) := by decide +kernel
theorem dX1_isOne_1 : decode cX1_isOne 1 = .ok (.iconst 0, 1) := by decide +kernel
theorem dX1_isOne_2 : decode cX1_isOne 2 = .ok (.getstatic 15, 3) := by decide +kernel
theorem dX1_isOne_5 : decode cX1_isOne 5 = .ok (.arraylength, 1) := by decide +kernel
theorem dX1_isOne_6 : decode cX1_isOne 6 = .ok (.iconst 1, 1) := by decide +kernel
theorem dX1_isOne_7 : decode cX1_isOne 7 = .ok (.isub, 1) := by decide +kernel
theorem dX1_isOne_8 : decode cX1_isOne 8 = .ok (.invokestatic 18, 3) := by decide +kernel
theorem dX1_isOne_11 : decode cX1_isOne 11 = .ok (.ifCond .eq 33, 3) := by decide +kernel
theorem dX1_isOne_14 : decode cX1_isOne 14 = .ok (.iload_n 1, 1) := by decide +kernel
theorem dX1_isOne_15 : decode cX1_isOne 15 = .ok (.iconst 0, 1) := by decide +kernel
theorem dX1_isOne_16 : decode cX1_isOne 16 = .ok (.getstatic 15, 3) := by decide +kernel
theorem dX1_isOne_19 : decode cX1_isOne 19 = .ok (.arraylength, 1) := by decide +kernel
theorem dX1_isOne_20 : decode cX1_isOne 20 = .ok (.iconst 1, 1) := by decide +kernel
theorem dX1_isOne_21 : decode cX1_isOne 21 = .ok (.isub, 1) := by decide +kernel
theorem dX1_isOne_22 : decode cX1_isOne 22 = .ok (.invokestatic 18, 3) := by decide +kernel
theorem dX1_isOne_25 : decode cX1_isOne 25 = .ok (.ifCond .eq 19, 3) := by decide +kernel
theorem dX1_isOne_28 : decode cX1_isOne 28 = .ok (.getstatic 15, 3) := by decide +kernel
theorem dX1_isOne_31 : decode cX1_isOne 31 = .ok (.iload_n 0, 1) := by decide +kernel
theorem dX1_isOne_32 : decode cX1_isOne 32 = .ok (.iaload, 1) := by decide +kernel
theorem dX1_isOne_33 : decode cX1_isOne 33 = .ok (.iload_n 1, 1) := by decide +kernel
theorem dX1_isOne_34 : decode cX1_isOne 34 = .ok (.ishr, 1) := by decide +kernel
theorem dX1_isOne_35 : decode cX1_isOne 35 = .ok (.iconst 1, 1) := by decide +kernel
theorem dX1_isOne_36 : decode cX1_isOne 36 = .ok (.iand, 1) := by decide +kernel
theorem dX1_isOne_37 : decode cX1_isOne 37 = .ok (.ifCond .eq 7, 3) := by decide +kernel
theorem dX1_isOne_40 : decode cX1_isOne 40 = .ok (.iconst 1, 1) := by decide +kernel
theorem dX1_isOne_41 : decode cX1_isOne 41 = .ok (.goto 4, 3) := by decide +kernel
theorem dX1_isOne_44 : decode cX1_isOne 44 = .ok (.iconst 0, 1) := by decide +kernel
theorem dX1_isOne_45 : decode cX1_isOne 45 = .ok (.ireturn, 1) := by decide +kernel
set_option maxRecDepth 20000 in
theorem ggX1_isOne_X7_isAmong : GoodIn wsX1_isOne wsX7_isAmong := goodIn_r _ [4] rfl (by decide +kernel)
set_option maxRecDepth 20000 in
theorem gX1_isOne_X7_isAmong_n18 : GoodIn wsX1_isOne (wsX7_isAmong) := ggX1_isOne_X7_isAmong
/-! X1_isOne -/
abbrev rm_X1_isOne : Room := { frames := 1, cells := 0, slots := 0, locals := 22 }
theorem wd_X1_isOne_st15 : Cond.fieldLink RX1 15 "NightStones$Asker" "ARE" "[I" ∈ wsX1_isOne := List.mem_of_getElem? (i := 1) rfl
theorem nt_X1_isOne_X7_isAmong_18 : Cond.methodLinkNest RX1 18 yX7_isAmong RX7 ∈ nz_nest := List.mem_of_getElem? (i := 98) rfl
theorem wd_X1_isOne_in_RX7 : Cond.initialized RX7 ∈ wsX1_isOne := List.mem_of_getElem? (i := 3) rfl
theorem wd_X1_isOne_im_X7_isAmong : Cond.static yX7_isAmong ∈ wsX1_isOne := List.mem_of_getElem? (i := 2) rfl
def wp_X1_isOne (v0 : Int32) (v1 : Int32) (K : Int32 → Prop) : Prop := wp_X7_isAmong v0 0 (6 - 1) (fun q1 => ((q1 = 0 → K 0) ∧ (¬ (q1 = 0) → wp_X7_isAmong v1 0 (6 - 1) (fun q3 => ((q3 = 0 → K 0) ∧ (¬ (q3 = 0) → (vp_in v0 6 ∧ (((((nz_are.getD v0.toNatClampNeg 0) >>> (v1 &&& 31)) &&& 1) = 0 → K 0) ∧ (¬ ((((nz_are.getD v0.toNatClampNeg 0) >>> (v1 &&& 31)) &&& 1) = 0) → K 1)))))))))
set_option maxHeartbeats 4000000 in
set_option maxRecDepth 100000 in
theorem c_X1_isOne (l : Launch) (g : nz_G) (v0 : Int32) (v1 : Int32) (K : Int32 → Prop) (h : wp_X1_isOne v0 v1 K) : nz_M l yX1_isOne wsX1_isOne rm_X1_isOne g [.int v0, .int v1] [] (nz_Qi g [] (fun r (u : Unit) => K r) (fun u => [])) := by
  refine nz_M.of (bytes := cX1_isOne) (nL := 2) (ret := (some .boolean)) (own := RX1) (by decide) rfl rfl ⟨rfl, rfl⟩ rfl ?_
  intro y F hl hQ
  obtain ⟨sz, hQ⟩ := hQ
  refine nz_ent (lv' := [(0, .int v0), (1, .int v1)]) rfl ?_
  unfold wp_X1_isOne at h
  refine nz_iload_n F dX1_isOne_0 rfl 0 rfl ?_
  refine nz_iconst (v := 0) F dX1_isOne_1 (by decide) ?_
  refine nz_gets F F.2.2.2.2.2.2.2.2.2.2.1.2.2.1 wd_X1_isOne_st15 dX1_isOne_2 ?_
  refine nz_tlen (v := 6) F F.2.2.2.2.2.2.2.2.2.2.1.2.2.2.1 rfl dX1_isOne_5 ?_
  refine nz_iconst (v := 1) F dX1_isOne_6 (by decide) ?_
  refine nz_isub F dX1_isOne_7 ?_
  refine k_X7_isAmong v0 0 (6 - 1) (fun hM => nz_runSN F gX1_isOne_X7_isAmong_n18 rfl nt_X1_isOne_X7_isAmong_18 wd_X1_isOne_in_RX7 wd_X1_isOne_im_X7_isAmong hd_X7_isAmong.2 rfl hM dX1_isOne_8 [] rfl rfl rfl (Nat.le_of_ble_eq_true rfl) rfl) h ([]) (rfl) (fun q1 h => ?_)
  refine nz_if_eq (tgt := 44) F dX1_isOne_11 (by decide) (fun c2 => ?_) (fun c2 => ?_)
  · have h := h.1 c2
    refine nz_iconst (v := 0) F dX1_isOne_44 (by decide) ?_
    exact nz_zret F hQ () h rfl (by decide) dX1_isOne_45
  · have h := h.2 c2
    refine nz_iload_n F dX1_isOne_14 rfl 1 rfl ?_
    refine nz_iconst (v := 0) F dX1_isOne_15 (by decide) ?_
    refine nz_gets F F.2.2.2.2.2.2.2.2.2.2.1.2.2.1 wd_X1_isOne_st15 dX1_isOne_16 ?_
    refine nz_tlen (v := 6) F F.2.2.2.2.2.2.2.2.2.2.1.2.2.2.1 rfl dX1_isOne_19 ?_
    refine nz_iconst (v := 1) F dX1_isOne_20 (by decide) ?_
    refine nz_isub F dX1_isOne_21 ?_
    refine k_X7_isAmong v1 0 (6 - 1) (fun hM => nz_runSN F gX1_isOne_X7_isAmong_n18 rfl nt_X1_isOne_X7_isAmong_18 wd_X1_isOne_in_RX7 wd_X1_isOne_im_X7_isAmong hd_X7_isAmong.2 rfl hM dX1_isOne_22 [] rfl rfl rfl (Nat.le_of_ble_eq_true rfl) rfl) h ([]) (rfl) (fun q3 h => ?_)
    refine nz_if_eq (tgt := 44) F dX1_isOne_25 (by decide) (fun c4 => ?_) (fun c4 => ?_)
    · have h := h.1 c4
      refine nz_iconst (v := 0) F dX1_isOne_44 (by decide) ?_
      exact nz_zret F hQ () h rfl (by decide) dX1_isOne_45
    · have h := h.2 c4
      refine nz_gets F F.2.2.2.2.2.2.2.2.2.2.1.2.2.1 wd_X1_isOne_st15 dX1_isOne_28 ?_
      refine nz_iload_n F dX1_isOne_31 rfl 0 rfl ?_
      obtain ⟨i5, h⟩ := h
      refine nz_ti F F.2.2.2.2.2.2.2.2.2.2.1.2.2.2.1 i5 rfl dX1_isOne_32 ?_
      refine nz_iload_n F dX1_isOne_33 rfl 1 rfl ?_
      refine nz_ishr F dX1_isOne_34 ?_
      refine nz_iconst (v := 1) F dX1_isOne_35 (by decide) ?_
      refine nz_iand F dX1_isOne_36 ?_
      refine nz_if_eq (tgt := 44) F dX1_isOne_37 (by decide) (fun c6 => ?_) (fun c6 => ?_)
      · have h := h.1 c6
        refine nz_iconst (v := 0) F dX1_isOne_44 (by decide) ?_
        exact nz_zret F hQ () h rfl (by decide) dX1_isOne_45
      · have h := h.2 c6
        refine nz_iconst (v := 1) F dX1_isOne_40 (by decide) ?_
        refine nz_goto (tgt := 45) F dX1_isOne_41 (by decide) ?_
        exact nz_zret F hQ () h rfl (by decide) dX1_isOne_45
theorem k_X1_isOne {y : nz_Y} {g : nz_G} {k n : Nat} {ws : va_W} {pc : Nat} {ls : List (Nat × Value)} {st rest : List Value} {av : Array Value} {isC : List Nat} {K : Int32 → Prop} (v0 : Int32) (v1 : Int32) (run : nz_M (yz_l y) yX1_isOne wsX1_isOne rm_X1_isOne g [.int v0, .int v1] [] (nz_Qi g [] (fun r (u : Unit) => K r) (fun u => [])) → nz_C y g k n ws pc ls st rest [] (nz_Qi g [] (fun r (u : Unit) => K r) (fun u => [])) av isC) (h : wp_X1_isOne v0 v1 K) (ws' : va_W) (hm : nz_mrg ws isC [] = ws' ) (kk : ∀ (r : Int32), K r → nz_V y g k n ws' (pc + 3) ls (.int r :: rest)) : nz_V y g k n ws pc ls st :=
  nz_ci (ws' := fun _ => ws') (run (c_X1_isOne (yz_l y) g v0 v1 K h)) (fun _ => rfl) (fun _ => hm) (fun r u h => kk r h)
theorem dX1_clear_0 : decode cX1_clear 0 = .ok (.aload_n 0, 1) := by decide +kernel
theorem dX1_clear_1 : decode cX1_clear 1 = .ok (.iconst 0, 1) := by decide +kernel
theorem dX1_clear_2 : decode cX1_clear 2 = .ok (.putfield 22, 3) := by decide +kernel
theorem dX1_clear_5 : decode cX1_clear 5 = .ok (.return_, 1) := by decide +kernel
/-! X1_clear -/
abbrev rm_X1_clear : Room := { frames := 0, cells := 0, slots := 0, locals := 0 }
theorem iw_X1_clear_1 : ∀ w ∈ wsX10, w ∈ wsX1_clear := fun _ h => List.mem_cons_of_mem _ (List.mem_append_right _ h)
theorem fl_X1_clear_22 : Cond.fieldLink RX1 22 "NightStones$Asker" "many" "I" ∈ wsX1_clear := List.mem_of_getElem? (i := 1) rfl
def wp_X1_clear (K : Int32 → Prop) : Prop := K 0
set_option maxHeartbeats 4000000 in
set_option maxRecDepth 100000 in
theorem c_X1_clear (l : Launch) (g : nz_G) (ko : Nat) (ka0 : Nat) (kr1 : Int32) (kf0 : Nat → Int32) (K : Int32 → Prop) (h : wp_X1_clear K) : nz_M l yX1_clear wsX1_clear rm_X1_clear g [.ref ko] [(ko, .inr (1, [.ref ka0, .int kr1])), (ka0, .inl (nz_cI g, 16, .inl kf0))] (nz_Qv g [(ko, .inr (1, [.ref ka0, .int kr1])), (ka0, .inl (nz_cI g, 16, .inl kf0))] (fun (u : Int32) => K u) (fun u => [(ko, .inr (1, [.ref ka0, .int u])), (ka0, .inl (nz_cI g, 16, .inl kf0))])) := by
  refine nz_M.of (bytes := cX1_clear) (nL := 1) (ret := none) (own := RX1) (by decide) rfl rfl ⟨rfl, rfl⟩ rfl ?_
  intro y F hl hQ
  obtain ⟨sz, hQ⟩ := hQ
  refine nz_ent (lv' := [(0, .ref ko)]) rfl ?_
  unfold wp_X1_clear at h
  refine nz_aload_n F dX1_clear_0 rfl 0 rfl ?_
  refine nz_iconst (v := 0) F dX1_clear_1 (by decide) ?_
  refine nz_put (ws' := [(ko, .inr (1, [.ref ka0, .int 0])), (ka0, .inl (nz_cI g, 16, .inl kf0))]) F iw_X1_clear_1 tyX1 tyX1_ok nmX1 0 rfl rfl 1 (by decide) rfl fl_X1_clear_22 rfl rfl (Nat.le_of_ble_eq_true rfl) dX1_clear_2 rfl ?_
  exact nz_vret F hQ 0 h rfl dX1_clear_5
theorem k_X1_clear {y : nz_Y} {g : nz_G} {k n : Nat} {ws : va_W} {pc : Nat} {ls : List (Nat × Value)} {st rest : List Value} {av : Array Value} {isC : List Nat} {K : Int32 → Prop} (ko : Nat) (ka0 : Nat) (kr1 : Int32) (kf0 : Nat → Int32) (run : nz_M (yz_l y) yX1_clear wsX1_clear rm_X1_clear g [.ref ko] [(ko, .inr (1, [.ref ka0, .int kr1])), (ka0, .inl (nz_cI g, 16, .inl kf0))] (nz_Qv g [(ko, .inr (1, [.ref ka0, .int kr1])), (ka0, .inl (nz_cI g, 16, .inl kf0))] (fun (u : Int32) => K u) (fun u => [(ko, .inr (1, [.ref ka0, .int u])), (ka0, .inl (nz_cI g, 16, .inl kf0))])) → nz_C y g k n ws pc ls st rest [(ko, .inr (1, [.ref ka0, .int kr1])), (ka0, .inl (nz_cI g, 16, .inl kf0))] (nz_Qv g [(ko, .inr (1, [.ref ka0, .int kr1])), (ka0, .inl (nz_cI g, 16, .inl kf0))] (fun (u : Int32) => K u) (fun u => [(ko, .inr (1, [.ref ka0, .int u])), (ka0, .inl (nz_cI g, 16, .inl kf0))])) av isC) (h : wp_X1_clear K) (ws' : Int32 → va_W) (hm : ∀ (m0 : Int32), nz_mrg ws isC [(ko, .inr (1, [.ref ka0, .int m0])), (ka0, .inl (nz_cI g, 16, .inl kf0))] = ws' m0) (kk : ∀ (m0 : Int32), K m0 → nz_V y g k n (ws' m0) (pc + 3) ls (rest)) : nz_V y g k n ws pc ls st :=
  nz_cv (ws' := fun u => ws' u) (run (c_X1_clear (yz_l y) g ko ka0 kr1 kf0 K h)) (fun _ => rfl) (fun u => hm u) (fun u h => kk u h)
theorem dX1_begun_0 : decode cX1_begun 0 = .ok (.iload_n 1, 1) := by decide +kernel
theorem dX1_begun_1 : decode cX1_begun 1 = .ok (.iconst 0, 1) := by decide +kernel
theorem dX1_begun_2 : decode cX1_begun 2 = .ok (.aload_n 0, 1) := by decide +kernel
theorem dX1_begun_3 : decode cX1_begun 3 = .ok (.getfield 22, 3) := by decide +kernel
theorem dX1_begun_6 : decode cX1_begun 6 = .ok (.iconst 1, 1) := by decide +kernel
theorem dX1_begun_7 : decode cX1_begun 7 = .ok (.isub, 1) := by decide +kernel
theorem dX1_begun_8 : decode cX1_begun 8 = .ok (.invokestatic 18, 3) := by decide +kernel
theorem dX1_begun_11 : decode cX1_begun 11 = .ok (.ifCond .eq 12, 3) := by decide +kernel
theorem dX1_begun_14 : decode cX1_begun 14 = .ok (.aload_n 0, 1) := by decide +kernel
theorem dX1_begun_15 : decode cX1_begun 15 = .ok (.getfield 11, 3) := by decide +kernel
theorem dX1_begun_18 : decode cX1_begun 18 = .ok (.iload_n 1, 1) := by decide +kernel
theorem dX1_begun_19 : decode cX1_begun 19 = .ok (.iaload, 1) := by decide +kernel
theorem dX1_begun_20 : decode cX1_begun 20 = .ok (.goto 5, 3) := by decide +kernel
theorem dX1_begun_23 : decode cX1_begun 23 = .ok (.ldc 26, 2) := by decide +kernel
theorem dX1_begun_25 : decode cX1_begun 25 = .ok (.ireturn, 1) := by decide +kernel
set_option maxRecDepth 20000 in
theorem ggX1_begun_X7_isAmong : GoodIn wsX1_begun wsX7_isAmong := goodIn_r _ [6] rfl (by decide +kernel)
set_option maxRecDepth 20000 in
theorem gX1_begun_X7_isAmong_n18 : GoodIn wsX1_begun (wsX7_isAmong) := ggX1_begun_X7_isAmong
/-! X1_begun -/
abbrev rm_X1_begun : Room := { frames := 1, cells := 0, slots := 0, locals := 22 }
theorem iw_X1_begun_1 : ∀ w ∈ wsX10, w ∈ wsX1_begun := fun _ h => List.mem_cons_of_mem _ (List.mem_append_right _ h)
theorem fl_X1_begun_22 : Cond.fieldLink RX1 22 "NightStones$Asker" "many" "I" ∈ wsX1_begun := List.mem_of_getElem? (i := 1) rfl
theorem nt_X1_begun_X7_isAmong_18 : Cond.methodLinkNest RX1 18 yX7_isAmong RX7 ∈ nz_nest := List.mem_of_getElem? (i := 98) rfl
theorem wd_X1_begun_in_RX7 : Cond.initialized RX7 ∈ wsX1_begun := List.mem_of_getElem? (i := 5) rfl
theorem wd_X1_begun_im_X7_isAmong : Cond.static yX7_isAmong ∈ wsX1_begun := List.mem_of_getElem? (i := 4) rfl
theorem wd_X1_begun_c26 : Cond.constant RX1 26 (-1000000) ∈ wsX1_begun := List.mem_of_getElem? (i := 3) rfl
theorem fl_X1_begun_11 : Cond.fieldLink RX1 11 "NightStones$Asker" "begun" "[I" ∈ wsX1_begun := List.mem_of_getElem? (i := 2) rfl
def wp_X1_begun (kr1 : Int32) (kf0 : Nat → Int32) (v1 : Int32) (K : Int32 → Prop) : Prop := wp_X7_isAmong v1 0 (kr1 - 1) (fun q1 => ((q1 = 0 → K (-1000000 : Int32)) ∧ (¬ (q1 = 0) → (vp_in v1 16 ∧ K (kf0 v1.toNatClampNeg)))))
set_option maxHeartbeats 4000000 in
set_option maxRecDepth 100000 in
theorem c_X1_begun (l : Launch) (g : nz_G) (ko : Nat) (ka0 : Nat) (kr1 : Int32) (kf0 : Nat → Int32) (v1 : Int32) (K : Int32 → Prop) (h : wp_X1_begun kr1 kf0 v1 K) : nz_M l yX1_begun wsX1_begun rm_X1_begun g [.ref ko, .int v1] [(ko, .inr (1, [.ref ka0, .int kr1])), (ka0, .inl (nz_cI g, 16, .inl kf0))] (nz_Qi g [(ko, .inr (1, [.ref ka0, .int kr1])), (ka0, .inl (nz_cI g, 16, .inl kf0))] (fun r (u : Unit) => K r) (fun u => [(ko, .inr (1, [.ref ka0, .int kr1])), (ka0, .inl (nz_cI g, 16, .inl kf0))])) := by
  refine nz_M.of (bytes := cX1_begun) (nL := 2) (ret := (some .int)) (own := RX1) (by decide) rfl rfl ⟨rfl, rfl⟩ rfl ?_
  intro y F hl hQ
  obtain ⟨sz, hQ⟩ := hQ
  refine nz_ent (lv' := [(0, .ref ko), (1, .int v1)]) rfl ?_
  unfold wp_X1_begun at h
  refine nz_iload_n F dX1_begun_0 rfl 1 rfl ?_
  refine nz_iconst (v := 0) F dX1_begun_1 (by decide) ?_
  refine nz_aload_n F dX1_begun_2 rfl 0 rfl ?_
  refine nz_get F iw_X1_begun_1 0 rfl rfl 1 (by decide) rfl fl_X1_begun_22 rfl dX1_begun_3 ?_
  refine nz_iconst (v := 1) F dX1_begun_6 (by decide) ?_
  refine nz_isub F dX1_begun_7 ?_
  refine k_X7_isAmong v1 0 (kr1 - 1) (fun hM => nz_runSN F gX1_begun_X7_isAmong_n18 rfl nt_X1_begun_X7_isAmong_18 wd_X1_begun_in_RX7 wd_X1_begun_im_X7_isAmong hd_X7_isAmong.2 rfl hM dX1_begun_8 [] rfl rfl rfl (Nat.le_of_ble_eq_true rfl) rfl) h ([(ko, .inr (1, [.ref ka0, .int kr1])), (ka0, .inl (nz_cI g, 16, .inl kf0))]) (rfl) (fun q1 h => ?_)
  refine nz_if_eq (tgt := 23) F dX1_begun_11 (by decide) (fun c2 => ?_) (fun c2 => ?_)
  · have h := h.1 c2
    refine nz_ldc (v := (-1000000 : Int32)) F wd_X1_begun_c26 dX1_begun_23 ?_
    exact nz_iret F hQ () h rfl dX1_begun_25
  · have h := h.2 c2
    refine nz_aload_n F dX1_begun_14 rfl 0 rfl ?_
    refine nz_get F iw_X1_begun_1 0 rfl rfl 0 (by decide) rfl fl_X1_begun_11 rfl dX1_begun_15 ?_
    refine nz_iload_n F dX1_begun_18 rfl 1 rfl ?_
    obtain ⟨i3, h⟩ := h
    refine nz_iald F 1 rfl i3 dX1_begun_19 ?_
    refine nz_goto (tgt := 25) F dX1_begun_20 (by decide) ?_
    exact nz_iret F hQ () h rfl dX1_begun_25
theorem k_X1_begun {y : nz_Y} {g : nz_G} {k n : Nat} {ws : va_W} {pc : Nat} {ls : List (Nat × Value)} {st rest : List Value} {av : Array Value} {isC : List Nat} {K : Int32 → Prop} (ko : Nat) (ka0 : Nat) (kr1 : Int32) (kf0 : Nat → Int32) (v1 : Int32) (run : nz_M (yz_l y) yX1_begun wsX1_begun rm_X1_begun g [.ref ko, .int v1] [(ko, .inr (1, [.ref ka0, .int kr1])), (ka0, .inl (nz_cI g, 16, .inl kf0))] (nz_Qi g [(ko, .inr (1, [.ref ka0, .int kr1])), (ka0, .inl (nz_cI g, 16, .inl kf0))] (fun r (u : Unit) => K r) (fun u => [(ko, .inr (1, [.ref ka0, .int kr1])), (ka0, .inl (nz_cI g, 16, .inl kf0))])) → nz_C y g k n ws pc ls st rest [(ko, .inr (1, [.ref ka0, .int kr1])), (ka0, .inl (nz_cI g, 16, .inl kf0))] (nz_Qi g [(ko, .inr (1, [.ref ka0, .int kr1])), (ka0, .inl (nz_cI g, 16, .inl kf0))] (fun r (u : Unit) => K r) (fun u => [(ko, .inr (1, [.ref ka0, .int kr1])), (ka0, .inl (nz_cI g, 16, .inl kf0))])) av isC) (h : wp_X1_begun kr1 kf0 v1 K) (ws' : va_W) (hm : nz_mrg ws isC [(ko, .inr (1, [.ref ka0, .int kr1])), (ka0, .inl (nz_cI g, 16, .inl kf0))] = ws' ) (kk : ∀ (r : Int32), K r → nz_V y g k n ws' (pc + 3) ls (.int r :: rest)) : nz_V y g k n ws pc ls st :=
  nz_ci (ws' := fun _ => ws') (run (c_X1_begun (yz_l y) g ko ka0 kr1 kf0 v1 K h)) (fun _ => rfl) (fun _ => hm) (fun r u h => kk r h)
theorem dX1_begin_0 : decode cX1_begin 0 = .ok (.aload_n 0, 1) := by decide +kernel
theorem dX1_begin_1 : decode cX1_begin 1 = .ok (.getfield 22, 3) := by decide +kernel
theorem dX1_begin_4 : decode cX1_begin 4 = .ok (.bipush 16, 2) := by decide +kernel
theorem dX1_begin_6 : decode cX1_begin 6 = .ok (.if_icmp .ge 23, 3) := by decide +kernel
theorem dX1_begin_9 : decode cX1_begin 9 = .ok (.aload_n 0, 1) := by decide +kernel
theorem dX1_begin_10 : decode cX1_begin 10 = .ok (.getfield 11, 3) := by decide +kernel
theorem dX1_begin_13 : decode cX1_begin 13 = .ok (.aload_n 0, 1) := by decide +kernel
theorem dX1_begin_14 : decode cX1_begin 14 = .ok (.getfield 22, 3) := by decide +kernel
theorem dX1_begin_17 : decode cX1_begin 17 = .ok (.iload_n 1, 1) := by decide +kernel
theorem dX1_begin_18 : decode cX1_begin 18 = .ok (.iastore, 1) := by decide +kernel
theorem dX1_begin_19 : decode cX1_begin 19 = .ok (.aload_n 0, 1) := by decide +kernel
theorem dX1_begin_20 : decode cX1_begin 20 = .ok (.dup, 1) := by decide +kernel
theorem dX1_begin_21 : decode cX1_begin 21 = .ok (.getfield 22, 3) := by decide +kernel
theorem dX1_begin_24 : decode cX1_begin 24 = .ok (.iconst 1, 1) := by decide +kernel
theorem dX1_begin_25 : decode cX1_begin 25 = .ok (.iadd, 1) := by decide +kernel
theorem dX1_begin_26 : decode cX1_begin 26 = .ok (.putfield 22, 3) := by decide +kernel
theorem dX1_begin_29 : decode cX1_begin 29 = .ok (.return_, 1) := by decide +kernel
/-! X1_begin -/
abbrev rm_X1_begin : Room := { frames := 0, cells := 0, slots := 0, locals := 0 }
theorem iw_X1_begin_1 : ∀ w ∈ wsX10, w ∈ wsX1_begin := fun _ h => List.mem_cons_of_mem _ (List.mem_append_right _ h)
theorem fl_X1_begin_22 : Cond.fieldLink RX1 22 "NightStones$Asker" "many" "I" ∈ wsX1_begin := List.mem_of_getElem? (i := 1) rfl
theorem fl_X1_begin_11 : Cond.fieldLink RX1 11 "NightStones$Asker" "begun" "[I" ∈ wsX1_begin := List.mem_of_getElem? (i := 2) rfl
def wp_X1_begin (kr1 : Int32) (kf0 : Nat → Int32) (v1 : Int32) (K : Int32 → (Nat → Int32) → Prop) : Prop := ((16 ≤ kr1 → K kr1 kf0) ∧ (¬ (16 ≤ kr1) → (vp_in kr1 16 ∧ K (kr1 + 1) (upd kf0 kr1.toNatClampNeg v1))))
set_option maxHeartbeats 4000000 in
set_option maxRecDepth 100000 in
theorem c_X1_begin (l : Launch) (g : nz_G) (ko : Nat) (ka0 : Nat) (kr1 : Int32) (kf0 : Nat → Int32) (v1 : Int32) (K : Int32 → (Nat → Int32) → Prop) (h : wp_X1_begin kr1 kf0 v1 K) : nz_M l yX1_begin wsX1_begin rm_X1_begin g [.ref ko, .int v1] [(ko, .inr (1, [.ref ka0, .int kr1])), (ka0, .inl (nz_cI g, 16, .inl kf0))] (nz_Qv g [(ko, .inr (1, [.ref ka0, .int kr1])), (ka0, .inl (nz_cI g, 16, .inl kf0))] (fun (u : Int32 × (Nat → Int32)) => K u.1 u.2) (fun u => [(ko, .inr (1, [.ref ka0, .int u.1])), (ka0, .inl (nz_cI g, 16, .inl u.2))])) := by
  refine nz_M.of (bytes := cX1_begin) (nL := 2) (ret := none) (own := RX1) (by decide) rfl rfl ⟨rfl, rfl⟩ rfl ?_
  intro y F hl hQ
  obtain ⟨sz, hQ⟩ := hQ
  refine nz_ent (lv' := [(0, .ref ko), (1, .int v1)]) rfl ?_
  unfold wp_X1_begin at h
  refine nz_aload_n F dX1_begin_0 rfl 0 rfl ?_
  refine nz_get F iw_X1_begin_1 0 rfl rfl 1 (by decide) rfl fl_X1_begin_22 rfl dX1_begin_1 ?_
  refine nz_bipush (v := 16) F dX1_begin_4 (by decide) ?_
  refine nz_icmp_ge (tgt := 29) F dX1_begin_6 (by decide) (fun c1 => ?_) (fun c1 => ?_)
  · have h := h.1 c1
    exact nz_vret F hQ (kr1, kf0) h rfl dX1_begin_29
  · have h := h.2 c1
    refine nz_aload_n F dX1_begin_9 rfl 0 rfl ?_
    refine nz_get F iw_X1_begin_1 0 rfl rfl 0 (by decide) rfl fl_X1_begin_11 rfl dX1_begin_10 ?_
    refine nz_aload_n F dX1_begin_13 rfl 0 rfl ?_
    refine nz_get F iw_X1_begin_1 0 rfl rfl 1 (by decide) rfl fl_X1_begin_22 rfl dX1_begin_14 ?_
    refine nz_iload_n F dX1_begin_17 rfl 1 rfl ?_
    obtain ⟨i2, h⟩ := h
    refine nz_iast (ws' := [(ko, .inr (1, [.ref ka0, .int kr1])), (ka0, .inl (nz_cI g, 16, .inl (upd kf0 kr1.toNatClampNeg v1)))]) F 1 rfl i2 dX1_begin_18 rfl ?_
    refine nz_aload_n F dX1_begin_19 rfl 0 rfl ?_
    refine nz_dup F dX1_begin_20 rfl ?_
    refine nz_get F iw_X1_begin_1 0 rfl rfl 1 (by decide) rfl fl_X1_begin_22 rfl dX1_begin_21 ?_
    refine nz_iconst (v := 1) F dX1_begin_24 (by decide) ?_
    refine nz_iadd F dX1_begin_25 ?_
    refine nz_put (ws' := [(ko, .inr (1, [.ref ka0, .int (kr1 + 1)])), (ka0, .inl (nz_cI g, 16, .inl (upd kf0 kr1.toNatClampNeg v1)))]) F iw_X1_begin_1 tyX1 tyX1_ok nmX1 0 rfl rfl 1 (by decide) rfl fl_X1_begin_22 rfl rfl (Nat.le_of_ble_eq_true rfl) dX1_begin_26 rfl ?_
    exact nz_vret F hQ ((kr1 + 1), (upd kf0 kr1.toNatClampNeg v1)) h rfl dX1_begin_29
theorem k_X1_begin {y : nz_Y} {g : nz_G} {k n : Nat} {ws : va_W} {pc : Nat} {ls : List (Nat × Value)} {st rest : List Value} {av : Array Value} {isC : List Nat} {K : Int32 → (Nat → Int32) → Prop} (ko : Nat) (ka0 : Nat) (kr1 : Int32) (kf0 : Nat → Int32) (v1 : Int32) (run : nz_M (yz_l y) yX1_begin wsX1_begin rm_X1_begin g [.ref ko, .int v1] [(ko, .inr (1, [.ref ka0, .int kr1])), (ka0, .inl (nz_cI g, 16, .inl kf0))] (nz_Qv g [(ko, .inr (1, [.ref ka0, .int kr1])), (ka0, .inl (nz_cI g, 16, .inl kf0))] (fun (u : Int32 × (Nat → Int32)) => K u.1 u.2) (fun u => [(ko, .inr (1, [.ref ka0, .int u.1])), (ka0, .inl (nz_cI g, 16, .inl u.2))])) → nz_C y g k n ws pc ls st rest [(ko, .inr (1, [.ref ka0, .int kr1])), (ka0, .inl (nz_cI g, 16, .inl kf0))] (nz_Qv g [(ko, .inr (1, [.ref ka0, .int kr1])), (ka0, .inl (nz_cI g, 16, .inl kf0))] (fun (u : Int32 × (Nat → Int32)) => K u.1 u.2) (fun u => [(ko, .inr (1, [.ref ka0, .int u.1])), (ka0, .inl (nz_cI g, 16, .inl u.2))])) av isC) (h : wp_X1_begin kr1 kf0 v1 K) (ws' : Int32 → (Nat → Int32) → va_W) (hm : ∀ (m0 : Int32) (m1 : (Nat → Int32)), nz_mrg ws isC [(ko, .inr (1, [.ref ka0, .int m0])), (ka0, .inl (nz_cI g, 16, .inl m1))] = ws' m0 m1) (kk : ∀ (m0 : Int32) (m1 : (Nat → Int32)), K m0 m1 → nz_V y g k n (ws' m0 m1) (pc + 3) ls (rest)) : nz_V y g k n ws pc ls st :=
  nz_cv (ws' := fun u => ws' u.1 u.2) (run (c_X1_begin (yz_l y) g ko ka0 kr1 kf0 v1 K h)) (fun _ => rfl) (fun u => hm u.1 u.2) (fun u h => kk u.1 u.2 h)
theorem dX1_sizeOfThief_0 : decode cX1_sizeOfThief 0 = .ok (.iconst 1, 1) := by decide +kernel
theorem dX1_sizeOfThief_1 : decode cX1_sizeOfThief 1 = .ok (.istore_n 3, 1) := by decide +kernel
theorem dX1_sizeOfThief_2 : decode cX1_sizeOfThief 2 = .ok (.aload_n 1, 1) := by decide +kernel
theorem dX1_sizeOfThief_3 : decode cX1_sizeOfThief 3 = .ok (.getfield 27, 3) := by decide +kernel
theorem dX1_sizeOfThief_6 : decode cX1_sizeOfThief 6 = .ok (.iload_n 2, 1) := by decide +kernel
theorem dX1_sizeOfThief_7 : decode cX1_sizeOfThief 7 = .ok (.iaload, 1) := by decide +kernel
theorem dX1_sizeOfThief_8 : decode cX1_sizeOfThief 8 = .ok (.iconst 5, 1) := by decide +kernel
theorem dX1_sizeOfThief_9 : decode cX1_sizeOfThief 9 = .ok (.if_icmp .ne 11, 3) := by decide +kernel
theorem dX1_sizeOfThief_12 : decode cX1_sizeOfThief 12 = .ok (.aload_n 0, 1) := by decide +kernel
theorem dX1_sizeOfThief_13 : decode cX1_sizeOfThief 13 = .ok (.bipush 14, 2) := by decide +kernel
theorem dX1_sizeOfThief_15 : decode cX1_sizeOfThief 15 = .ok (.invokevirtual 49, 3) := by decide +kernel
theorem dX1_sizeOfThief_18 : decode cX1_sizeOfThief 18 = .ok (.iconst 2, 1) := by decide +kernel
theorem dX1_sizeOfThief_19 : decode cX1_sizeOfThief 19 = .ok (.istore_n 3, 1) := by decide +kernel
theorem dX1_sizeOfThief_20 : decode cX1_sizeOfThief 20 = .ok (.aload_n 0, 1) := by decide +kernel
theorem dX1_sizeOfThief_21 : decode cX1_sizeOfThief 21 = .ok (.bipush 13, 2) := by decide +kernel
theorem dX1_sizeOfThief_23 : decode cX1_sizeOfThief 23 = .ok (.invokevirtual 49, 3) := by decide +kernel
theorem dX1_sizeOfThief_26 : decode cX1_sizeOfThief 26 = .ok (.aload_n 0, 1) := by decide +kernel
theorem dX1_sizeOfThief_27 : decode cX1_sizeOfThief 27 = .ok (.bipush 10, 2) := by decide +kernel
theorem dX1_sizeOfThief_29 : decode cX1_sizeOfThief 29 = .ok (.invokevirtual 49, 3) := by decide +kernel
theorem dX1_sizeOfThief_32 : decode cX1_sizeOfThief 32 = .ok (.iload_n 3, 1) := by decide +kernel
theorem dX1_sizeOfThief_33 : decode cX1_sizeOfThief 33 = .ok (.aload_n 1, 1) := by decide +kernel
theorem dX1_sizeOfThief_34 : decode cX1_sizeOfThief 34 = .ok (.getfield 56, 3) := by decide +kernel
theorem dX1_sizeOfThief_37 : decode cX1_sizeOfThief 37 = .ok (.iload_n 2, 1) := by decide +kernel
theorem dX1_sizeOfThief_38 : decode cX1_sizeOfThief 38 = .ok (.iaload, 1) := by decide +kernel
theorem dX1_sizeOfThief_39 : decode cX1_sizeOfThief 39 = .ok (.bipush 100, 2) := by decide +kernel
theorem dX1_sizeOfThief_41 : decode cX1_sizeOfThief 41 = .ok (.isub, 1) := by decide +kernel
theorem dX1_sizeOfThief_42 : decode cX1_sizeOfThief 42 = .ok (.imul, 1) := by decide +kernel
theorem dX1_sizeOfThief_43 : decode cX1_sizeOfThief 43 = .ok (.ireturn, 1) := by decide +kernel
set_option maxRecDepth 20000 in
theorem ggX1_sizeOfThief_X1_begin : GoodIn wsX1_sizeOfThief wsX1_begin := goodIn_r _ [5, 6, 7, 25, 26] rfl (by decide +kernel)
set_option maxRecDepth 20000 in
theorem gX1_sizeOfThief_X1_begin : GoodIn wsX1_sizeOfThief (wsV RX1 49 RX1 yX1_begin wsX1_begin) := goodIn_app (goodIn_r _ [1, 2, 3, 4] rfl (by decide +kernel)) ggX1_sizeOfThief_X1_begin
theorem hd_X1_begin : yX1_begin.cls = RX1 ∧ yX1_begin.cls ≠ "java/lang/invoke/MethodHandle" ∧ yX1_begin.cls ≠ "java/lang/invoke/VarHandle" ∧ (parseMethodDescriptor yX1_begin.desc).map (fun d => d.parameters.length) = some 1 := by decide +kernel
/-! X1_sizeOfThief -/
abbrev rm_X1_sizeOfThief : Room := { frames := 1, cells := 0, slots := 0, locals := 21 }
theorem iw_X1_sizeOfThief_5 : ∀ w ∈ wsX50, w ∈ wsX1_sizeOfThief := fun _ h => List.mem_cons_of_mem _ (List.mem_append_left _ (List.mem_append_right _ h))
theorem fn_X1_sizeOfThief_27 : Cond.fieldLinkNest RX1 27 "NightStones$Road" "kinds" "[I" RX7 ∈ nz_nest := List.mem_of_getElem? (i := 39) rfl
theorem fn_X1_sizeOfThief_56 : Cond.fieldLinkNest RX1 56 "NightStones$Road" "reach" "[I" RX7 ∈ nz_nest := List.mem_of_getElem? (i := 45) rfl
def S_X1_sizeOfThief_20 (f15 : Nat → Int32) (v2 : Int32) (x3 : Int32) (kr1 : Int32) (kf0 : Nat → Int32) (K : Int32 → Int32 → (Nat → Int32) → Prop) : Prop := wp_X1_begin kr1 kf0 13 (fun m3 m4 => wp_X1_begin m3 m4 10 (fun m5 m6 => (vp_in v2 5 ∧ K (x3 * ((f15 v2.toNatClampNeg) - 100)) m5 m6)))
set_option maxHeartbeats 4000000 in
set_option maxRecDepth 100000 in
theorem t_X1_sizeOfThief_20 {y : nz_Y} {g : nz_G} (F : nz_F y g cX1_sizeOfThief 4 wsX1_sizeOfThief RX1 (some .int) rm_X1_sizeOfThief) {wc0 : va_W} {sz : Nat} {K : Int32 → Int32 → (Nat → Int32) → Prop} (ko : Nat) (ka0 : Nat) (o : Nat) (a9 : Nat) (a10 : Nat) (a11 : Nat) (a12 : Nat) (a13 : Nat) (a14 : Nat) (a15 : Nat) (a16 : Nat) (r0 : Int32) (r1 : Int32) (r2 : Int32) (r3 : Int32) (r4 : Int32) (r5 : Int32) (r6 : Int32) (r7 : Int32) (r8 : Int32) (f9 : Nat → Int32) (f10 : Nat → Int32) (f11 : Nat → Int32) (f12 : Nat → Int32) (f13 : Nat → Int32) (f14 : Nat → Int32) (f15 : Nat → Int32) (f16 : Nat → Int32) (v2 : Int32) (x3 : Int32) (kr1 : Int32) (kf0 : Nat → Int32) (hQ : yz_A y = va_A wc0 sz ∧ yz_Q y = MQ (yz_b y) ((nz_Qi g wc0 (fun r (u : Int32 × (Nat → Int32)) => K r u.1 u.2) (fun u => [(ko, .inr (1, [.ref ka0, .int u.1])), (ka0, .inl (nz_cI g, 16, .inl u.2)), (o, .inr (5, [.int r0, .int r1, .int r2, .int r3, .int r4, .int r5, .int r6, .int r7, .int r8, .ref a9, .ref a10, .ref a11, .ref a12, .ref a13, .ref a14, .ref a15, .ref a16])), (a9, .inl (nz_cI g, 6, .inl f9)), (a10, .inl (nz_cI g, 6, .inl f10)), (a11, .inl (nz_cI g, 6, .inl f11)), (a12, .inl (nz_cI g, 5, .inl f12)), (a13, .inl (nz_cI g, 5, .inl f13)), (a14, .inl (nz_cI g, 5, .inl f14)), (a15, .inl (nz_cI g, 5, .inl f15)), (a16, .inl (nz_cI g, 48, .inl f16))])) sz) (yz_a y) (yz_s y) 0 0 (va_A wc0 sz)) : S_X1_sizeOfThief_20 f15 v2 x3 kr1 kf0 K → nz_V y g 0 0 [(ko, .inr (1, [.ref ka0, .int kr1])), (ka0, .inl (nz_cI g, 16, .inl kf0)), (o, .inr (5, [.int r0, .int r1, .int r2, .int r3, .int r4, .int r5, .int r6, .int r7, .int r8, .ref a9, .ref a10, .ref a11, .ref a12, .ref a13, .ref a14, .ref a15, .ref a16])), (a9, .inl (nz_cI g, 6, .inl f9)), (a10, .inl (nz_cI g, 6, .inl f10)), (a11, .inl (nz_cI g, 6, .inl f11)), (a12, .inl (nz_cI g, 5, .inl f12)), (a13, .inl (nz_cI g, 5, .inl f13)), (a14, .inl (nz_cI g, 5, .inl f14)), (a15, .inl (nz_cI g, 5, .inl f15)), (a16, .inl (nz_cI g, 48, .inl f16))] 20 [(0, .ref ko), (1, .ref o), (2, .int v2), (3, .int x3)] [] := by
  intro h
  unfold S_X1_sizeOfThief_20 at h
  refine nz_aload_n F dX1_sizeOfThief_20 rfl 0 rfl ?_
  refine nz_bipush (v := 13) F dX1_sizeOfThief_21 (by decide) ?_
  refine k_X1_begin ko ka0 kr1 kf0 13 (fun hM => nz_runV F gX1_sizeOfThief_X1_begin rfl hd_X1_begin rfl hM dX1_sizeOfThief_23 [0, 1] rfl rfl 0 rfl rfl rfl (Nat.le_of_ble_eq_true rfl) rfl) h (fun m3 m4 => [(ko, .inr (1, [.ref ka0, .int m3])), (ka0, .inl (nz_cI g, 16, .inl m4)), (o, .inr (5, [.int r0, .int r1, .int r2, .int r3, .int r4, .int r5, .int r6, .int r7, .int r8, .ref a9, .ref a10, .ref a11, .ref a12, .ref a13, .ref a14, .ref a15, .ref a16])), (a9, .inl (nz_cI g, 6, .inl f9)), (a10, .inl (nz_cI g, 6, .inl f10)), (a11, .inl (nz_cI g, 6, .inl f11)), (a12, .inl (nz_cI g, 5, .inl f12)), (a13, .inl (nz_cI g, 5, .inl f13)), (a14, .inl (nz_cI g, 5, .inl f14)), (a15, .inl (nz_cI g, 5, .inl f15)), (a16, .inl (nz_cI g, 48, .inl f16))]) (fun _ _ => rfl) (fun m3 m4 h => ?_)
  refine nz_aload_n F dX1_sizeOfThief_26 rfl 0 rfl ?_
  refine nz_bipush (v := 10) F dX1_sizeOfThief_27 (by decide) ?_
  refine k_X1_begin ko ka0 m3 m4 10 (fun hM => nz_runV F gX1_sizeOfThief_X1_begin rfl hd_X1_begin rfl hM dX1_sizeOfThief_29 [0, 1] rfl rfl 0 rfl rfl rfl (Nat.le_of_ble_eq_true rfl) rfl) h (fun m5 m6 => [(ko, .inr (1, [.ref ka0, .int m5])), (ka0, .inl (nz_cI g, 16, .inl m6)), (o, .inr (5, [.int r0, .int r1, .int r2, .int r3, .int r4, .int r5, .int r6, .int r7, .int r8, .ref a9, .ref a10, .ref a11, .ref a12, .ref a13, .ref a14, .ref a15, .ref a16])), (a9, .inl (nz_cI g, 6, .inl f9)), (a10, .inl (nz_cI g, 6, .inl f10)), (a11, .inl (nz_cI g, 6, .inl f11)), (a12, .inl (nz_cI g, 5, .inl f12)), (a13, .inl (nz_cI g, 5, .inl f13)), (a14, .inl (nz_cI g, 5, .inl f14)), (a15, .inl (nz_cI g, 5, .inl f15)), (a16, .inl (nz_cI g, 48, .inl f16))]) (fun _ _ => rfl) (fun m5 m6 h => ?_)
  refine nz_iload_n F dX1_sizeOfThief_32 rfl 3 rfl ?_
  refine nz_aload_n F dX1_sizeOfThief_33 rfl 1 rfl ?_
  refine nz_getN F iw_X1_sizeOfThief_5 2 rfl rfl 15 (by decide) rfl fn_X1_sizeOfThief_56 rfl dX1_sizeOfThief_34 ?_
  refine nz_iload_n F dX1_sizeOfThief_37 rfl 2 rfl ?_
  obtain ⟨i7, h⟩ := h
  refine nz_iald F 9 rfl i7 dX1_sizeOfThief_38 ?_
  refine nz_bipush (v := 100) F dX1_sizeOfThief_39 (by decide) ?_
  refine nz_isub F dX1_sizeOfThief_41 ?_
  refine nz_imul F dX1_sizeOfThief_42 ?_
  exact nz_iret F hQ (m5, m6) h rfl dX1_sizeOfThief_43
def wp_X1_sizeOfThief (kr1 : Int32) (kf0 : Nat → Int32) (f12 : Nat → Int32) (f15 : Nat → Int32) (v2 : Int32) (K : Int32 → Int32 → (Nat → Int32) → Prop) : Prop := (vp_in v2 5 ∧ ((¬ (f12 v2.toNatClampNeg) = 5 → S_X1_sizeOfThief_20 f15 v2 1 kr1 kf0 K) ∧ ((f12 v2.toNatClampNeg) = 5 → wp_X1_begin kr1 kf0 14 (fun m8 m9 => S_X1_sizeOfThief_20 f15 v2 2 m8 m9 K))))
set_option maxHeartbeats 4000000 in
set_option maxRecDepth 100000 in
theorem c_X1_sizeOfThief (l : Launch) (g : nz_G) (ko : Nat) (ka0 : Nat) (o : Nat) (a9 : Nat) (a10 : Nat) (a11 : Nat) (a12 : Nat) (a13 : Nat) (a14 : Nat) (a15 : Nat) (a16 : Nat) (kr1 : Int32) (kf0 : Nat → Int32) (r0 : Int32) (r1 : Int32) (r2 : Int32) (r3 : Int32) (r4 : Int32) (r5 : Int32) (r6 : Int32) (r7 : Int32) (r8 : Int32) (f9 : Nat → Int32) (f10 : Nat → Int32) (f11 : Nat → Int32) (f12 : Nat → Int32) (f13 : Nat → Int32) (f14 : Nat → Int32) (f15 : Nat → Int32) (f16 : Nat → Int32) (v2 : Int32) (K : Int32 → Int32 → (Nat → Int32) → Prop) (h : wp_X1_sizeOfThief kr1 kf0 f12 f15 v2 K) : nz_M l yX1_sizeOfThief wsX1_sizeOfThief rm_X1_sizeOfThief g [.ref ko, .ref o, .int v2] [(ko, .inr (1, [.ref ka0, .int kr1])), (ka0, .inl (nz_cI g, 16, .inl kf0)), (o, .inr (5, [.int r0, .int r1, .int r2, .int r3, .int r4, .int r5, .int r6, .int r7, .int r8, .ref a9, .ref a10, .ref a11, .ref a12, .ref a13, .ref a14, .ref a15, .ref a16])), (a9, .inl (nz_cI g, 6, .inl f9)), (a10, .inl (nz_cI g, 6, .inl f10)), (a11, .inl (nz_cI g, 6, .inl f11)), (a12, .inl (nz_cI g, 5, .inl f12)), (a13, .inl (nz_cI g, 5, .inl f13)), (a14, .inl (nz_cI g, 5, .inl f14)), (a15, .inl (nz_cI g, 5, .inl f15)), (a16, .inl (nz_cI g, 48, .inl f16))] (nz_Qi g [(ko, .inr (1, [.ref ka0, .int kr1])), (ka0, .inl (nz_cI g, 16, .inl kf0)), (o, .inr (5, [.int r0, .int r1, .int r2, .int r3, .int r4, .int r5, .int r6, .int r7, .int r8, .ref a9, .ref a10, .ref a11, .ref a12, .ref a13, .ref a14, .ref a15, .ref a16])), (a9, .inl (nz_cI g, 6, .inl f9)), (a10, .inl (nz_cI g, 6, .inl f10)), (a11, .inl (nz_cI g, 6, .inl f11)), (a12, .inl (nz_cI g, 5, .inl f12)), (a13, .inl (nz_cI g, 5, .inl f13)), (a14, .inl (nz_cI g, 5, .inl f14)), (a15, .inl (nz_cI g, 5, .inl f15)), (a16, .inl (nz_cI g, 48, .inl f16))] (fun r (u : Int32 × (Nat → Int32)) => K r u.1 u.2) (fun u => [(ko, .inr (1, [.ref ka0, .int u.1])), (ka0, .inl (nz_cI g, 16, .inl u.2)), (o, .inr (5, [.int r0, .int r1, .int r2, .int r3, .int r4, .int r5, .int r6, .int r7, .int r8, .ref a9, .ref a10, .ref a11, .ref a12, .ref a13, .ref a14, .ref a15, .ref a16])), (a9, .inl (nz_cI g, 6, .inl f9)), (a10, .inl (nz_cI g, 6, .inl f10)), (a11, .inl (nz_cI g, 6, .inl f11)), (a12, .inl (nz_cI g, 5, .inl f12)), (a13, .inl (nz_cI g, 5, .inl f13)), (a14, .inl (nz_cI g, 5, .inl f14)), (a15, .inl (nz_cI g, 5, .inl f15)), (a16, .inl (nz_cI g, 48, .inl f16))])) := by
  refine nz_M.of (bytes := cX1_sizeOfThief) (nL := 4) (ret := (some .int)) (own := RX1) (by decide) rfl rfl ⟨rfl, rfl⟩ rfl ?_
  intro y F hl hQ
  obtain ⟨sz, hQ⟩ := hQ
  refine nz_ent (lv' := [(0, .ref ko), (1, .ref o), (2, .int v2)]) rfl ?_
  unfold wp_X1_sizeOfThief at h
  refine nz_iconst (v := 1) F dX1_sizeOfThief_0 (by decide) ?_
  refine nz_istore_n (lv' := [(3, .int 1), (0, .ref ko), (1, .ref o), (2, .int v2)]) F dX1_sizeOfThief_1 rfl (by decide) rfl ?_
  refine nz_aload_n F dX1_sizeOfThief_2 rfl 2 rfl ?_
  refine nz_getN F iw_X1_sizeOfThief_5 2 rfl rfl 12 (by decide) rfl fn_X1_sizeOfThief_27 rfl dX1_sizeOfThief_3 ?_
  refine nz_iload_n F dX1_sizeOfThief_6 rfl 3 rfl ?_
  obtain ⟨i1, h⟩ := h
  refine nz_iald F 6 rfl i1 dX1_sizeOfThief_7 ?_
  refine nz_iconst (v := 5) F dX1_sizeOfThief_8 (by decide) ?_
  refine nz_icmp_ne (tgt := 20) F dX1_sizeOfThief_9 (by decide) (fun c2 => ?_) (fun c2 => ?_)
  · have h := h.1 c2
    refine nz_ls (lv' := [(0, .ref ko), (1, .ref o), (2, .int v2), (3, .int 1)]) [1, 2, 3, 0] rfl ?_
    exact t_X1_sizeOfThief_20 F ko ka0 o a9 a10 a11 a12 a13 a14 a15 a16 r0 r1 r2 r3 r4 r5 r6 r7 r8 f9 f10 f11 f12 f13 f14 f15 f16 v2 1 kr1 kf0 hQ h
  · have h := h.2 c2
    refine nz_aload_n F dX1_sizeOfThief_12 rfl 1 rfl ?_
    refine nz_bipush (v := 14) F dX1_sizeOfThief_13 (by decide) ?_
    refine k_X1_begin ko ka0 kr1 kf0 14 (fun hM => nz_runV F gX1_sizeOfThief_X1_begin rfl hd_X1_begin rfl hM dX1_sizeOfThief_15 [0, 1] rfl rfl 0 rfl rfl rfl (Nat.le_of_ble_eq_true rfl) rfl) h (fun m8 m9 => [(ko, .inr (1, [.ref ka0, .int m8])), (ka0, .inl (nz_cI g, 16, .inl m9)), (o, .inr (5, [.int r0, .int r1, .int r2, .int r3, .int r4, .int r5, .int r6, .int r7, .int r8, .ref a9, .ref a10, .ref a11, .ref a12, .ref a13, .ref a14, .ref a15, .ref a16])), (a9, .inl (nz_cI g, 6, .inl f9)), (a10, .inl (nz_cI g, 6, .inl f10)), (a11, .inl (nz_cI g, 6, .inl f11)), (a12, .inl (nz_cI g, 5, .inl f12)), (a13, .inl (nz_cI g, 5, .inl f13)), (a14, .inl (nz_cI g, 5, .inl f14)), (a15, .inl (nz_cI g, 5, .inl f15)), (a16, .inl (nz_cI g, 48, .inl f16))]) (fun _ _ => rfl) (fun m8 m9 h => ?_)
    refine nz_iconst (v := 2) F dX1_sizeOfThief_18 (by decide) ?_
    refine nz_istore_n (lv' := [(3, .int 2), (0, .ref ko), (1, .ref o), (2, .int v2)]) F dX1_sizeOfThief_19 rfl (by decide) rfl ?_
    refine nz_ls (lv' := [(0, .ref ko), (1, .ref o), (2, .int v2), (3, .int 2)]) [1, 2, 3, 0] rfl ?_
    exact t_X1_sizeOfThief_20 F ko ka0 o a9 a10 a11 a12 a13 a14 a15 a16 r0 r1 r2 r3 r4 r5 r6 r7 r8 f9 f10 f11 f12 f13 f14 f15 f16 v2 2 m8 m9 hQ h
theorem k_X1_sizeOfThief {y : nz_Y} {g : nz_G} {k n : Nat} {ws : va_W} {pc : Nat} {ls : List (Nat × Value)} {st rest : List Value} {av : Array Value} {isC : List Nat} {K : Int32 → Int32 → (Nat → Int32) → Prop} (ko : Nat) (ka0 : Nat) (o : Nat) (a9 : Nat) (a10 : Nat) (a11 : Nat) (a12 : Nat) (a13 : Nat) (a14 : Nat) (a15 : Nat) (a16 : Nat) (kr1 : Int32) (kf0 : Nat → Int32) (r0 : Int32) (r1 : Int32) (r2 : Int32) (r3 : Int32) (r4 : Int32) (r5 : Int32) (r6 : Int32) (r7 : Int32) (r8 : Int32) (f9 : Nat → Int32) (f10 : Nat → Int32) (f11 : Nat → Int32) (f12 : Nat → Int32) (f13 : Nat → Int32) (f14 : Nat → Int32) (f15 : Nat → Int32) (f16 : Nat → Int32) (v2 : Int32) (run : nz_M (yz_l y) yX1_sizeOfThief wsX1_sizeOfThief rm_X1_sizeOfThief g [.ref ko, .ref o, .int v2] [(ko, .inr (1, [.ref ka0, .int kr1])), (ka0, .inl (nz_cI g, 16, .inl kf0)), (o, .inr (5, [.int r0, .int r1, .int r2, .int r3, .int r4, .int r5, .int r6, .int r7, .int r8, .ref a9, .ref a10, .ref a11, .ref a12, .ref a13, .ref a14, .ref a15, .ref a16])), (a9, .inl (nz_cI g, 6, .inl f9)), (a10, .inl (nz_cI g, 6, .inl f10)), (a11, .inl (nz_cI g, 6, .inl f11)), (a12, .inl (nz_cI g, 5, .inl f12)), (a13, .inl (nz_cI g, 5, .inl f13)), (a14, .inl (nz_cI g, 5, .inl f14)), (a15, .inl (nz_cI g, 5, .inl f15)), (a16, .inl (nz_cI g, 48, .inl f16))] (nz_Qi g [(ko, .inr (1, [.ref ka0, .int kr1])), (ka0, .inl (nz_cI g, 16, .inl kf0)), (o, .inr (5, [.int r0, .int r1, .int r2, .int r3, .int r4, .int r5, .int r6, .int r7, .int r8, .ref a9, .ref a10, .ref a11, .ref a12, .ref a13, .ref a14, .ref a15, .ref a16])), (a9, .inl (nz_cI g, 6, .inl f9)), (a10, .inl (nz_cI g, 6, .inl f10)), (a11, .inl (nz_cI g, 6, .inl f11)), (a12, .inl (nz_cI g, 5, .inl f12)), (a13, .inl (nz_cI g, 5, .inl f13)), (a14, .inl (nz_cI g, 5, .inl f14)), (a15, .inl (nz_cI g, 5, .inl f15)), (a16, .inl (nz_cI g, 48, .inl f16))] (fun r (u : Int32 × (Nat → Int32)) => K r u.1 u.2) (fun u => [(ko, .inr (1, [.ref ka0, .int u.1])), (ka0, .inl (nz_cI g, 16, .inl u.2)), (o, .inr (5, [.int r0, .int r1, .int r2, .int r3, .int r4, .int r5, .int r6, .int r7, .int r8, .ref a9, .ref a10, .ref a11, .ref a12, .ref a13, .ref a14, .ref a15, .ref a16])), (a9, .inl (nz_cI g, 6, .inl f9)), (a10, .inl (nz_cI g, 6, .inl f10)), (a11, .inl (nz_cI g, 6, .inl f11)), (a12, .inl (nz_cI g, 5, .inl f12)), (a13, .inl (nz_cI g, 5, .inl f13)), (a14, .inl (nz_cI g, 5, .inl f14)), (a15, .inl (nz_cI g, 5, .inl f15)), (a16, .inl (nz_cI g, 48, .inl f16))])) → nz_C y g k n ws pc ls st rest [(ko, .inr (1, [.ref ka0, .int kr1])), (ka0, .inl (nz_cI g, 16, .inl kf0)), (o, .inr (5, [.int r0, .int r1, .int r2, .int r3, .int r4, .int r5, .int r6, .int r7, .int r8, .ref a9, .ref a10, .ref a11, .ref a12, .ref a13, .ref a14, .ref a15, .ref a16])), (a9, .inl (nz_cI g, 6, .inl f9)), (a10, .inl (nz_cI g, 6, .inl f10)), (a11, .inl (nz_cI g, 6, .inl f11)), (a12, .inl (nz_cI g, 5, .inl f12)), (a13, .inl (nz_cI g, 5, .inl f13)), (a14, .inl (nz_cI g, 5, .inl f14)), (a15, .inl (nz_cI g, 5, .inl f15)), (a16, .inl (nz_cI g, 48, .inl f16))] (nz_Qi g [(ko, .inr (1, [.ref ka0, .int kr1])), (ka0, .inl (nz_cI g, 16, .inl kf0)), (o, .inr (5, [.int r0, .int r1, .int r2, .int r3, .int r4, .int r5, .int r6, .int r7, .int r8, .ref a9, .ref a10, .ref a11, .ref a12, .ref a13, .ref a14, .ref a15, .ref a16])), (a9, .inl (nz_cI g, 6, .inl f9)), (a10, .inl (nz_cI g, 6, .inl f10)), (a11, .inl (nz_cI g, 6, .inl f11)), (a12, .inl (nz_cI g, 5, .inl f12)), (a13, .inl (nz_cI g, 5, .inl f13)), (a14, .inl (nz_cI g, 5, .inl f14)), (a15, .inl (nz_cI g, 5, .inl f15)), (a16, .inl (nz_cI g, 48, .inl f16))] (fun r (u : Int32 × (Nat → Int32)) => K r u.1 u.2) (fun u => [(ko, .inr (1, [.ref ka0, .int u.1])), (ka0, .inl (nz_cI g, 16, .inl u.2)), (o, .inr (5, [.int r0, .int r1, .int r2, .int r3, .int r4, .int r5, .int r6, .int r7, .int r8, .ref a9, .ref a10, .ref a11, .ref a12, .ref a13, .ref a14, .ref a15, .ref a16])), (a9, .inl (nz_cI g, 6, .inl f9)), (a10, .inl (nz_cI g, 6, .inl f10)), (a11, .inl (nz_cI g, 6, .inl f11)), (a12, .inl (nz_cI g, 5, .inl f12)), (a13, .inl (nz_cI g, 5, .inl f13)), (a14, .inl (nz_cI g, 5, .inl f14)), (a15, .inl (nz_cI g, 5, .inl f15)), (a16, .inl (nz_cI g, 48, .inl f16))])) av isC) (h : wp_X1_sizeOfThief kr1 kf0 f12 f15 v2 K) (ws' : Int32 → (Nat → Int32) → va_W) (hm : ∀ (m0 : Int32) (m1 : (Nat → Int32)), nz_mrg ws isC [(ko, .inr (1, [.ref ka0, .int m0])), (ka0, .inl (nz_cI g, 16, .inl m1)), (o, .inr (5, [.int r0, .int r1, .int r2, .int r3, .int r4, .int r5, .int r6, .int r7, .int r8, .ref a9, .ref a10, .ref a11, .ref a12, .ref a13, .ref a14, .ref a15, .ref a16])), (a9, .inl (nz_cI g, 6, .inl f9)), (a10, .inl (nz_cI g, 6, .inl f10)), (a11, .inl (nz_cI g, 6, .inl f11)), (a12, .inl (nz_cI g, 5, .inl f12)), (a13, .inl (nz_cI g, 5, .inl f13)), (a14, .inl (nz_cI g, 5, .inl f14)), (a15, .inl (nz_cI g, 5, .inl f15)), (a16, .inl (nz_cI g, 48, .inl f16))] = ws' m0 m1) (kk : ∀ (r : Int32) (m0 : Int32) (m1 : (Nat → Int32)), K r m0 m1 → nz_V y g k n (ws' m0 m1) (pc + 3) ls (.int r :: rest)) : nz_V y g k n ws pc ls st :=
  nz_ci (ws' := fun u => ws' u.1 u.2) (run (c_X1_sizeOfThief (yz_l y) g ko ka0 o a9 a10 a11 a12 a13 a14 a15 a16 kr1 kf0 r0 r1 r2 r3 r4 r5 r6 r7 r8 f9 f10 f11 f12 f13 f14 f15 f16 v2 K h)) (fun _ => rfl) (fun u => hm u.1 u.2) (fun r u h => kk r u.1 u.2 h)
theorem dX1_markOfThief_0 : decode cX1_markOfThief 0 = .ok (.aload_n 0, 1) := by decide +kernel
theorem dX1_markOfThief_1 : decode cX1_markOfThief 1 = .ok (.bipush 23, 2) := by decide +kernel
theorem dX1_markOfThief_3 : decode cX1_markOfThief 3 = .ok (.invokevirtual 49, 3) := by decide +kernel
theorem dX1_markOfThief_6 : decode cX1_markOfThief 6 = .ok (.aload_n 0, 1) := by decide +kernel
theorem dX1_markOfThief_7 : decode cX1_markOfThief 7 = .ok (.bipush 20, 2) := by decide +kernel
theorem dX1_markOfThief_9 : decode cX1_markOfThief 9 = .ok (.invokevirtual 49, 3) := by decide +kernel
theorem dX1_markOfThief_12 : decode cX1_markOfThief 12 = .ok (.iload_n 2, 1) := by decide +kernel
theorem dX1_markOfThief_13 : decode cX1_markOfThief 13 = .ok (.aload_n 0, 1) := by decide +kernel
theorem dX1_markOfThief_14 : decode cX1_markOfThief 14 = .ok (.aload_n 1, 1) := by decide +kernel
theorem dX1_markOfThief_15 : decode cX1_markOfThief 15 = .ok (.iload_n 2, 1) := by decide +kernel
theorem dX1_markOfThief_16 : decode cX1_markOfThief 16 = .ok (.invokevirtual 36, 3) := by decide +kernel
theorem dX1_markOfThief_19 : decode cX1_markOfThief 19 = .ok (.isub, 1) := by decide +kernel
theorem dX1_markOfThief_20 : decode cX1_markOfThief 20 = .ok (.ireturn, 1) := by decide +kernel
set_option maxRecDepth 20000 in
theorem ggX1_markOfThief_X1_begin : GoodIn wsX1_markOfThief wsX1_begin := goodIn_r _ [5, 6, 7, 12, 13] rfl (by decide +kernel)
set_option maxRecDepth 20000 in
theorem gX1_markOfThief_X1_begin : GoodIn wsX1_markOfThief (wsV RX1 49 RX1 yX1_begin wsX1_begin) := goodIn_app (goodIn_r _ [1, 2, 3, 4] rfl (by decide +kernel)) ggX1_markOfThief_X1_begin
set_option maxRecDepth 20000 in
theorem ggX1_markOfThief_X1_sizeOfThief : GoodIn wsX1_markOfThief wsX1_sizeOfThief := goodIn_r _ [11, 1, 2, 3, 4, 5, 6, 7, 14, 15, 16, 17, 18, 19, 20, 21, 22, 23, 24, 25, 26, 27, 28, 29, 30, 12, 13] rfl (by decide +kernel)
set_option maxRecDepth 20000 in
theorem gX1_markOfThief_X1_sizeOfThief : GoodIn wsX1_markOfThief (wsV RX1 36 RX1 yX1_sizeOfThief wsX1_sizeOfThief) := goodIn_app (goodIn_r _ [8, 9, 10, 4] rfl (by decide +kernel)) ggX1_markOfThief_X1_sizeOfThief
theorem hd_X1_sizeOfThief : yX1_sizeOfThief.cls = RX1 ∧ yX1_sizeOfThief.cls ≠ "java/lang/invoke/MethodHandle" ∧ yX1_sizeOfThief.cls ≠ "java/lang/invoke/VarHandle" ∧ (parseMethodDescriptor yX1_sizeOfThief.desc).map (fun d => d.parameters.length) = some 2 := by decide +kernel
/-! X1_markOfThief -/
abbrev rm_X1_markOfThief : Room := { frames := 2, cells := 0, slots := 0, locals := 44 }
def wp_X1_markOfThief (kr1 : Int32) (kf0 : Nat → Int32) (f12 : Nat → Int32) (f15 : Nat → Int32) (v2 : Int32) (K : Int32 → Int32 → (Nat → Int32) → Prop) : Prop := wp_X1_begin kr1 kf0 23 (fun m1 m2 => wp_X1_begin m1 m2 20 (fun m3 m4 => wp_X1_sizeOfThief m3 m4 f12 f15 v2 (fun q5 m6 m7 => K (v2 - q5) m6 m7)))
set_option maxHeartbeats 4000000 in
set_option maxRecDepth 100000 in
theorem c_X1_markOfThief (l : Launch) (g : nz_G) (ko : Nat) (ka0 : Nat) (o : Nat) (a9 : Nat) (a10 : Nat) (a11 : Nat) (a12 : Nat) (a13 : Nat) (a14 : Nat) (a15 : Nat) (a16 : Nat) (kr1 : Int32) (kf0 : Nat → Int32) (r0 : Int32) (r1 : Int32) (r2 : Int32) (r3 : Int32) (r4 : Int32) (r5 : Int32) (r6 : Int32) (r7 : Int32) (r8 : Int32) (f9 : Nat → Int32) (f10 : Nat → Int32) (f11 : Nat → Int32) (f12 : Nat → Int32) (f13 : Nat → Int32) (f14 : Nat → Int32) (f15 : Nat → Int32) (f16 : Nat → Int32) (v2 : Int32) (K : Int32 → Int32 → (Nat → Int32) → Prop) (h : wp_X1_markOfThief kr1 kf0 f12 f15 v2 K) : nz_M l yX1_markOfThief wsX1_markOfThief rm_X1_markOfThief g [.ref ko, .ref o, .int v2] [(ko, .inr (1, [.ref ka0, .int kr1])), (ka0, .inl (nz_cI g, 16, .inl kf0)), (o, .inr (5, [.int r0, .int r1, .int r2, .int r3, .int r4, .int r5, .int r6, .int r7, .int r8, .ref a9, .ref a10, .ref a11, .ref a12, .ref a13, .ref a14, .ref a15, .ref a16])), (a9, .inl (nz_cI g, 6, .inl f9)), (a10, .inl (nz_cI g, 6, .inl f10)), (a11, .inl (nz_cI g, 6, .inl f11)), (a12, .inl (nz_cI g, 5, .inl f12)), (a13, .inl (nz_cI g, 5, .inl f13)), (a14, .inl (nz_cI g, 5, .inl f14)), (a15, .inl (nz_cI g, 5, .inl f15)), (a16, .inl (nz_cI g, 48, .inl f16))] (nz_Qi g [(ko, .inr (1, [.ref ka0, .int kr1])), (ka0, .inl (nz_cI g, 16, .inl kf0)), (o, .inr (5, [.int r0, .int r1, .int r2, .int r3, .int r4, .int r5, .int r6, .int r7, .int r8, .ref a9, .ref a10, .ref a11, .ref a12, .ref a13, .ref a14, .ref a15, .ref a16])), (a9, .inl (nz_cI g, 6, .inl f9)), (a10, .inl (nz_cI g, 6, .inl f10)), (a11, .inl (nz_cI g, 6, .inl f11)), (a12, .inl (nz_cI g, 5, .inl f12)), (a13, .inl (nz_cI g, 5, .inl f13)), (a14, .inl (nz_cI g, 5, .inl f14)), (a15, .inl (nz_cI g, 5, .inl f15)), (a16, .inl (nz_cI g, 48, .inl f16))] (fun r (u : Int32 × (Nat → Int32)) => K r u.1 u.2) (fun u => [(ko, .inr (1, [.ref ka0, .int u.1])), (ka0, .inl (nz_cI g, 16, .inl u.2)), (o, .inr (5, [.int r0, .int r1, .int r2, .int r3, .int r4, .int r5, .int r6, .int r7, .int r8, .ref a9, .ref a10, .ref a11, .ref a12, .ref a13, .ref a14, .ref a15, .ref a16])), (a9, .inl (nz_cI g, 6, .inl f9)), (a10, .inl (nz_cI g, 6, .inl f10)), (a11, .inl (nz_cI g, 6, .inl f11)), (a12, .inl (nz_cI g, 5, .inl f12)), (a13, .inl (nz_cI g, 5, .inl f13)), (a14, .inl (nz_cI g, 5, .inl f14)), (a15, .inl (nz_cI g, 5, .inl f15)), (a16, .inl (nz_cI g, 48, .inl f16))])) := by
  refine nz_M.of (bytes := cX1_markOfThief) (nL := 3) (ret := (some .int)) (own := RX1) (by decide) rfl rfl ⟨rfl, rfl⟩ rfl ?_
  intro y F hl hQ
  obtain ⟨sz, hQ⟩ := hQ
  refine nz_ent (lv' := [(0, .ref ko), (1, .ref o), (2, .int v2)]) rfl ?_
  unfold wp_X1_markOfThief at h
  refine nz_aload_n F dX1_markOfThief_0 rfl 0 rfl ?_
  refine nz_bipush (v := 23) F dX1_markOfThief_1 (by decide) ?_
  refine k_X1_begin ko ka0 kr1 kf0 23 (fun hM => nz_runV F gX1_markOfThief_X1_begin rfl hd_X1_begin rfl hM dX1_markOfThief_3 [0, 1] rfl rfl 0 rfl rfl rfl (Nat.le_of_ble_eq_true rfl) rfl) h (fun m1 m2 => [(ko, .inr (1, [.ref ka0, .int m1])), (ka0, .inl (nz_cI g, 16, .inl m2)), (o, .inr (5, [.int r0, .int r1, .int r2, .int r3, .int r4, .int r5, .int r6, .int r7, .int r8, .ref a9, .ref a10, .ref a11, .ref a12, .ref a13, .ref a14, .ref a15, .ref a16])), (a9, .inl (nz_cI g, 6, .inl f9)), (a10, .inl (nz_cI g, 6, .inl f10)), (a11, .inl (nz_cI g, 6, .inl f11)), (a12, .inl (nz_cI g, 5, .inl f12)), (a13, .inl (nz_cI g, 5, .inl f13)), (a14, .inl (nz_cI g, 5, .inl f14)), (a15, .inl (nz_cI g, 5, .inl f15)), (a16, .inl (nz_cI g, 48, .inl f16))]) (fun _ _ => rfl) (fun m1 m2 h => ?_)
  refine nz_aload_n F dX1_markOfThief_6 rfl 0 rfl ?_
  refine nz_bipush (v := 20) F dX1_markOfThief_7 (by decide) ?_
  refine k_X1_begin ko ka0 m1 m2 20 (fun hM => nz_runV F gX1_markOfThief_X1_begin rfl hd_X1_begin rfl hM dX1_markOfThief_9 [0, 1] rfl rfl 0 rfl rfl rfl (Nat.le_of_ble_eq_true rfl) rfl) h (fun m3 m4 => [(ko, .inr (1, [.ref ka0, .int m3])), (ka0, .inl (nz_cI g, 16, .inl m4)), (o, .inr (5, [.int r0, .int r1, .int r2, .int r3, .int r4, .int r5, .int r6, .int r7, .int r8, .ref a9, .ref a10, .ref a11, .ref a12, .ref a13, .ref a14, .ref a15, .ref a16])), (a9, .inl (nz_cI g, 6, .inl f9)), (a10, .inl (nz_cI g, 6, .inl f10)), (a11, .inl (nz_cI g, 6, .inl f11)), (a12, .inl (nz_cI g, 5, .inl f12)), (a13, .inl (nz_cI g, 5, .inl f13)), (a14, .inl (nz_cI g, 5, .inl f14)), (a15, .inl (nz_cI g, 5, .inl f15)), (a16, .inl (nz_cI g, 48, .inl f16))]) (fun _ _ => rfl) (fun m3 m4 h => ?_)
  refine nz_iload_n F dX1_markOfThief_12 rfl 2 rfl ?_
  refine nz_aload_n F dX1_markOfThief_13 rfl 0 rfl ?_
  refine nz_aload_n F dX1_markOfThief_14 rfl 1 rfl ?_
  refine nz_iload_n F dX1_markOfThief_15 rfl 2 rfl ?_
  refine k_X1_sizeOfThief ko ka0 o a9 a10 a11 a12 a13 a14 a15 a16 m3 m4 r0 r1 r2 r3 r4 r5 r6 r7 r8 f9 f10 f11 f12 f13 f14 f15 f16 v2 (fun hM => nz_runV F gX1_markOfThief_X1_sizeOfThief rfl hd_X1_sizeOfThief rfl hM dX1_markOfThief_16 [0, 1, 2, 3, 4, 5, 6, 7, 8, 9, 10] rfl rfl 0 rfl rfl rfl (Nat.le_of_ble_eq_true rfl) rfl) h (fun m6 m7 => [(ko, .inr (1, [.ref ka0, .int m6])), (ka0, .inl (nz_cI g, 16, .inl m7)), (o, .inr (5, [.int r0, .int r1, .int r2, .int r3, .int r4, .int r5, .int r6, .int r7, .int r8, .ref a9, .ref a10, .ref a11, .ref a12, .ref a13, .ref a14, .ref a15, .ref a16])), (a9, .inl (nz_cI g, 6, .inl f9)), (a10, .inl (nz_cI g, 6, .inl f10)), (a11, .inl (nz_cI g, 6, .inl f11)), (a12, .inl (nz_cI g, 5, .inl f12)), (a13, .inl (nz_cI g, 5, .inl f13)), (a14, .inl (nz_cI g, 5, .inl f14)), (a15, .inl (nz_cI g, 5, .inl f15)), (a16, .inl (nz_cI g, 48, .inl f16))]) (fun _ _ => rfl) (fun q5 m6 m7 h => ?_)
  refine nz_isub F dX1_markOfThief_19 ?_
  exact nz_iret F hQ (m6, m7) h rfl dX1_markOfThief_20
theorem k_X1_markOfThief {y : nz_Y} {g : nz_G} {k n : Nat} {ws : va_W} {pc : Nat} {ls : List (Nat × Value)} {st rest : List Value} {av : Array Value} {isC : List Nat} {K : Int32 → Int32 → (Nat → Int32) → Prop} (ko : Nat) (ka0 : Nat) (o : Nat) (a9 : Nat) (a10 : Nat) (a11 : Nat) (a12 : Nat) (a13 : Nat) (a14 : Nat) (a15 : Nat) (a16 : Nat) (kr1 : Int32) (kf0 : Nat → Int32) (r0 : Int32) (r1 : Int32) (r2 : Int32) (r3 : Int32) (r4 : Int32) (r5 : Int32) (r6 : Int32) (r7 : Int32) (r8 : Int32) (f9 : Nat → Int32) (f10 : Nat → Int32) (f11 : Nat → Int32) (f12 : Nat → Int32) (f13 : Nat → Int32) (f14 : Nat → Int32) (f15 : Nat → Int32) (f16 : Nat → Int32) (v2 : Int32) (run : nz_M (yz_l y) yX1_markOfThief wsX1_markOfThief rm_X1_markOfThief g [.ref ko, .ref o, .int v2] [(ko, .inr (1, [.ref ka0, .int kr1])), (ka0, .inl (nz_cI g, 16, .inl kf0)), (o, .inr (5, [.int r0, .int r1, .int r2, .int r3, .int r4, .int r5, .int r6, .int r7, .int r8, .ref a9, .ref a10, .ref a11, .ref a12, .ref a13, .ref a14, .ref a15, .ref a16])), (a9, .inl (nz_cI g, 6, .inl f9)), (a10, .inl (nz_cI g, 6, .inl f10)), (a11, .inl (nz_cI g, 6, .inl f11)), (a12, .inl (nz_cI g, 5, .inl f12)), (a13, .inl (nz_cI g, 5, .inl f13)), (a14, .inl (nz_cI g, 5, .inl f14)), (a15, .inl (nz_cI g, 5, .inl f15)), (a16, .inl (nz_cI g, 48, .inl f16))] (nz_Qi g [(ko, .inr (1, [.ref ka0, .int kr1])), (ka0, .inl (nz_cI g, 16, .inl kf0)), (o, .inr (5, [.int r0, .int r1, .int r2, .int r3, .int r4, .int r5, .int r6, .int r7, .int r8, .ref a9, .ref a10, .ref a11, .ref a12, .ref a13, .ref a14, .ref a15, .ref a16])), (a9, .inl (nz_cI g, 6, .inl f9)), (a10, .inl (nz_cI g, 6, .inl f10)), (a11, .inl (nz_cI g, 6, .inl f11)), (a12, .inl (nz_cI g, 5, .inl f12)), (a13, .inl (nz_cI g, 5, .inl f13)), (a14, .inl (nz_cI g, 5, .inl f14)), (a15, .inl (nz_cI g, 5, .inl f15)), (a16, .inl (nz_cI g, 48, .inl f16))] (fun r (u : Int32 × (Nat → Int32)) => K r u.1 u.2) (fun u => [(ko, .inr (1, [.ref ka0, .int u.1])), (ka0, .inl (nz_cI g, 16, .inl u.2)), (o, .inr (5, [.int r0, .int r1, .int r2, .int r3, .int r4, .int r5, .int r6, .int r7, .int r8, .ref a9, .ref a10, .ref a11, .ref a12, .ref a13, .ref a14, .ref a15, .ref a16])), (a9, .inl (nz_cI g, 6, .inl f9)), (a10, .inl (nz_cI g, 6, .inl f10)), (a11, .inl (nz_cI g, 6, .inl f11)), (a12, .inl (nz_cI g, 5, .inl f12)), (a13, .inl (nz_cI g, 5, .inl f13)), (a14, .inl (nz_cI g, 5, .inl f14)), (a15, .inl (nz_cI g, 5, .inl f15)), (a16, .inl (nz_cI g, 48, .inl f16))])) → nz_C y g k n ws pc ls st rest [(ko, .inr (1, [.ref ka0, .int kr1])), (ka0, .inl (nz_cI g, 16, .inl kf0)), (o, .inr (5, [.int r0, .int r1, .int r2, .int r3, .int r4, .int r5, .int r6, .int r7, .int r8, .ref a9, .ref a10, .ref a11, .ref a12, .ref a13, .ref a14, .ref a15, .ref a16])), (a9, .inl (nz_cI g, 6, .inl f9)), (a10, .inl (nz_cI g, 6, .inl f10)), (a11, .inl (nz_cI g, 6, .inl f11)), (a12, .inl (nz_cI g, 5, .inl f12)), (a13, .inl (nz_cI g, 5, .inl f13)), (a14, .inl (nz_cI g, 5, .inl f14)), (a15, .inl (nz_cI g, 5, .inl f15)), (a16, .inl (nz_cI g, 48, .inl f16))] (nz_Qi g [(ko, .inr (1, [.ref ka0, .int kr1])), (ka0, .inl (nz_cI g, 16, .inl kf0)), (o, .inr (5, [.int r0, .int r1, .int r2, .int r3, .int r4, .int r5, .int r6, .int r7, .int r8, .ref a9, .ref a10, .ref a11, .ref a12, .ref a13, .ref a14, .ref a15, .ref a16])), (a9, .inl (nz_cI g, 6, .inl f9)), (a10, .inl (nz_cI g, 6, .inl f10)), (a11, .inl (nz_cI g, 6, .inl f11)), (a12, .inl (nz_cI g, 5, .inl f12)), (a13, .inl (nz_cI g, 5, .inl f13)), (a14, .inl (nz_cI g, 5, .inl f14)), (a15, .inl (nz_cI g, 5, .inl f15)), (a16, .inl (nz_cI g, 48, .inl f16))] (fun r (u : Int32 × (Nat → Int32)) => K r u.1 u.2) (fun u => [(ko, .inr (1, [.ref ka0, .int u.1])), (ka0, .inl (nz_cI g, 16, .inl u.2)), (o, .inr (5, [.int r0, .int r1, .int r2, .int r3, .int r4, .int r5, .int r6, .int r7, .int r8, .ref a9, .ref a10, .ref a11, .ref a12, .ref a13, .ref a14, .ref a15, .ref a16])), (a9, .inl (nz_cI g, 6, .inl f9)), (a10, .inl (nz_cI g, 6, .inl f10)), (a11, .inl (nz_cI g, 6, .inl f11)), (a12, .inl (nz_cI g, 5, .inl f12)), (a13, .inl (nz_cI g, 5, .inl f13)), (a14, .inl (nz_cI g, 5, .inl f14)), (a15, .inl (nz_cI g, 5, .inl f15)), (a16, .inl (nz_cI g, 48, .inl f16))])) av isC) (h : wp_X1_markOfThief kr1 kf0 f12 f15 v2 K) (ws' : Int32 → (Nat → Int32) → va_W) (hm : ∀ (m0 : Int32) (m1 : (Nat → Int32)), nz_mrg ws isC [(ko, .inr (1, [.ref ka0, .int m0])), (ka0, .inl (nz_cI g, 16, .inl m1)), (o, .inr (5, [.int r0, .int r1, .int r2, .int r3, .int r4, .int r5, .int r6, .int r7, .int r8, .ref a9, .ref a10, .ref a11, .ref a12, .ref a13, .ref a14, .ref a15, .ref a16])), (a9, .inl (nz_cI g, 6, .inl f9)), (a10, .inl (nz_cI g, 6, .inl f10)), (a11, .inl (nz_cI g, 6, .inl f11)), (a12, .inl (nz_cI g, 5, .inl f12)), (a13, .inl (nz_cI g, 5, .inl f13)), (a14, .inl (nz_cI g, 5, .inl f14)), (a15, .inl (nz_cI g, 5, .inl f15)), (a16, .inl (nz_cI g, 48, .inl f16))] = ws' m0 m1) (kk : ∀ (r : Int32) (m0 : Int32) (m1 : (Nat → Int32)), K r m0 m1 → nz_V y g k n (ws' m0 m1) (pc + 3) ls (.int r :: rest)) : nz_V y g k n ws pc ls st :=
  nz_ci (ws' := fun u => ws' u.1 u.2) (run (c_X1_markOfThief (yz_l y) g ko ka0 o a9 a10 a11 a12 a13 a14 a15 a16 kr1 kf0 r0 r1 r2 r3 r4 r5 r6 r7 r8 f9 f10 f11 f12 f13 f14 f15 f16 v2 K h)) (fun _ => rfl) (fun u => hm u.1 u.2) (fun r u h => kk r u.1 u.2 h)
theorem dX1_numberAndPlace_0 : decode cX1_numberAndPlace 0 = .ok (.aload_n 0, 1) := by decide +kernel
theorem dX1_numberAndPlace_1 : decode cX1_numberAndPlace 1 = .ok (.bipush 21, 2) := by decide +kernel
theorem dX1_numberAndPlace_3 : decode cX1_numberAndPlace 3 = .ok (.invokevirtual 49, 3) := by decide +kernel
theorem dX1_numberAndPlace_6 : decode cX1_numberAndPlace 6 = .ok (.aload_n 0, 1) := by decide +kernel
theorem dX1_numberAndPlace_7 : decode cX1_numberAndPlace 7 = .ok (.bipush 20, 2) := by decide +kernel
theorem dX1_numberAndPlace_9 : decode cX1_numberAndPlace 9 = .ok (.invokevirtual 49, 3) := by decide +kernel
theorem dX1_numberAndPlace_12 : decode cX1_numberAndPlace 12 = .ok (.iload_n 2, 1) := by decide +kernel
theorem dX1_numberAndPlace_13 : decode cX1_numberAndPlace 13 = .ok (.aload_n 1, 1) := by decide +kernel
theorem dX1_numberAndPlace_14 : decode cX1_numberAndPlace 14 = .ok (.getfield 62, 3) := by decide +kernel
theorem dX1_numberAndPlace_17 : decode cX1_numberAndPlace 17 = .ok (.aload_n 1, 1) := by decide +kernel
theorem dX1_numberAndPlace_18 : decode cX1_numberAndPlace 18 = .ok (.getfield 65, 3) := by decide +kernel
theorem dX1_numberAndPlace_21 : decode cX1_numberAndPlace 21 = .ok (.iload_n 2, 1) := by decide +kernel
theorem dX1_numberAndPlace_22 : decode cX1_numberAndPlace 22 = .ok (.iaload, 1) := by decide +kernel
theorem dX1_numberAndPlace_23 : decode cX1_numberAndPlace 23 = .ok (.iaload, 1) := by decide +kernel
theorem dX1_numberAndPlace_24 : decode cX1_numberAndPlace 24 = .ok (.iadd, 1) := by decide +kernel
theorem dX1_numberAndPlace_25 : decode cX1_numberAndPlace 25 = .ok (.ireturn, 1) := by decide +kernel
set_option maxRecDepth 20000 in
theorem ggX1_numberAndPlace_X1_begin : GoodIn wsX1_numberAndPlace wsX1_begin := goodIn_r _ [5, 6, 7, 25, 26] rfl (by decide +kernel)
set_option maxRecDepth 20000 in
theorem gX1_numberAndPlace_X1_begin : GoodIn wsX1_numberAndPlace (wsV RX1 49 RX1 yX1_begin wsX1_begin) := goodIn_app (goodIn_r _ [1, 2, 3, 4] rfl (by decide +kernel)) ggX1_numberAndPlace_X1_begin
/-! X1_numberAndPlace -/
abbrev rm_X1_numberAndPlace : Room := { frames := 1, cells := 0, slots := 0, locals := 21 }
theorem iw_X1_numberAndPlace_5 : ∀ w ∈ wsX50, w ∈ wsX1_numberAndPlace := fun _ h => List.mem_cons_of_mem _ (List.mem_append_left _ (List.mem_append_right _ h))
theorem fn_X1_numberAndPlace_62 : Cond.fieldLinkNest RX1 62 "NightStones$Road" "at" "[I" RX7 ∈ nz_nest := List.mem_of_getElem? (i := 35) rfl
theorem fn_X1_numberAndPlace_65 : Cond.fieldLinkNest RX1 65 "NightStones$Road" "pushed" "[I" RX7 ∈ nz_nest := List.mem_of_getElem? (i := 43) rfl
def wp_X1_numberAndPlace (kr1 : Int32) (kf0 : Nat → Int32) (f10 : Nat → Int32) (f13 : Nat → Int32) (v2 : Int32) (K : Int32 → Int32 → (Nat → Int32) → Prop) : Prop := wp_X1_begin kr1 kf0 21 (fun m1 m2 => wp_X1_begin m1 m2 20 (fun m3 m4 => (vp_in v2 5 ∧ (vp_in (f13 v2.toNatClampNeg) 6 ∧ K (v2 + (f10 (f13 v2.toNatClampNeg).toNatClampNeg)) m3 m4))))
set_option maxHeartbeats 4000000 in
set_option maxRecDepth 100000 in
theorem c_X1_numberAndPlace (l : Launch) (g : nz_G) (ko : Nat) (ka0 : Nat) (o : Nat) (a9 : Nat) (a10 : Nat) (a11 : Nat) (a12 : Nat) (a13 : Nat) (a14 : Nat) (a15 : Nat) (a16 : Nat) (kr1 : Int32) (kf0 : Nat → Int32) (r0 : Int32) (r1 : Int32) (r2 : Int32) (r3 : Int32) (r4 : Int32) (r5 : Int32) (r6 : Int32) (r7 : Int32) (r8 : Int32) (f9 : Nat → Int32) (f10 : Nat → Int32) (f11 : Nat → Int32) (f12 : Nat → Int32) (f13 : Nat → Int32) (f14 : Nat → Int32) (f15 : Nat → Int32) (f16 : Nat → Int32) (v2 : Int32) (K : Int32 → Int32 → (Nat → Int32) → Prop) (h : wp_X1_numberAndPlace kr1 kf0 f10 f13 v2 K) : nz_M l yX1_numberAndPlace wsX1_numberAndPlace rm_X1_numberAndPlace g [.ref ko, .ref o, .int v2] [(ko, .inr (1, [.ref ka0, .int kr1])), (ka0, .inl (nz_cI g, 16, .inl kf0)), (o, .inr (5, [.int r0, .int r1, .int r2, .int r3, .int r4, .int r5, .int r6, .int r7, .int r8, .ref a9, .ref a10, .ref a11, .ref a12, .ref a13, .ref a14, .ref a15, .ref a16])), (a9, .inl (nz_cI g, 6, .inl f9)), (a10, .inl (nz_cI g, 6, .inl f10)), (a11, .inl (nz_cI g, 6, .inl f11)), (a12, .inl (nz_cI g, 5, .inl f12)), (a13, .inl (nz_cI g, 5, .inl f13)), (a14, .inl (nz_cI g, 5, .inl f14)), (a15, .inl (nz_cI g, 5, .inl f15)), (a16, .inl (nz_cI g, 48, .inl f16))] (nz_Qi g [(ko, .inr (1, [.ref ka0, .int kr1])), (ka0, .inl (nz_cI g, 16, .inl kf0)), (o, .inr (5, [.int r0, .int r1, .int r2, .int r3, .int r4, .int r5, .int r6, .int r7, .int r8, .ref a9, .ref a10, .ref a11, .ref a12, .ref a13, .ref a14, .ref a15, .ref a16])), (a9, .inl (nz_cI g, 6, .inl f9)), (a10, .inl (nz_cI g, 6, .inl f10)), (a11, .inl (nz_cI g, 6, .inl f11)), (a12, .inl (nz_cI g, 5, .inl f12)), (a13, .inl (nz_cI g, 5, .inl f13)), (a14, .inl (nz_cI g, 5, .inl f14)), (a15, .inl (nz_cI g, 5, .inl f15)), (a16, .inl (nz_cI g, 48, .inl f16))] (fun r (u : Int32 × (Nat → Int32)) => K r u.1 u.2) (fun u => [(ko, .inr (1, [.ref ka0, .int u.1])), (ka0, .inl (nz_cI g, 16, .inl u.2)), (o, .inr (5, [.int r0, .int r1, .int r2, .int r3, .int r4, .int r5, .int r6, .int r7, .int r8, .ref a9, .ref a10, .ref a11, .ref a12, .ref a13, .ref a14, .ref a15, .ref a16])), (a9, .inl (nz_cI g, 6, .inl f9)), (a10, .inl (nz_cI g, 6, .inl f10)), (a11, .inl (nz_cI g, 6, .inl f11)), (a12, .inl (nz_cI g, 5, .inl f12)), (a13, .inl (nz_cI g, 5, .inl f13)), (a14, .inl (nz_cI g, 5, .inl f14)), (a15, .inl (nz_cI g, 5, .inl f15)), (a16, .inl (nz_cI g, 48, .inl f16))])) := by
  refine nz_M.of (bytes := cX1_numberAndPlace) (nL := 3) (ret := (some .int)) (own := RX1) (by decide) rfl rfl ⟨rfl, rfl⟩ rfl ?_
  intro y F hl hQ
  obtain ⟨sz, hQ⟩ := hQ
  refine nz_ent (lv' := [(0, .ref ko), (1, .ref o), (2, .int v2)]) rfl ?_
  unfold wp_X1_numberAndPlace at h
  refine nz_aload_n F dX1_numberAndPlace_0 rfl 0 rfl ?_
  refine nz_bipush (v := 21) F dX1_numberAndPlace_1 (by decide) ?_
  refine k_X1_begin ko ka0 kr1 kf0 21 (fun hM => nz_runV F gX1_numberAndPlace_X1_begin rfl hd_X1_begin rfl hM dX1_numberAndPlace_3 [0, 1] rfl rfl 0 rfl rfl rfl (Nat.le_of_ble_eq_true rfl) rfl) h (fun m1 m2 => [(ko, .inr (1, [.ref ka0, .int m1])), (ka0, .inl (nz_cI g, 16, .inl m2)), (o, .inr (5, [.int r0, .int r1, .int r2, .int r3, .int r4, .int r5, .int r6, .int r7, .int r8, .ref a9, .ref a10, .ref a11, .ref a12, .ref a13, .ref a14, .ref a15, .ref a16])), (a9, .inl (nz_cI g, 6, .inl f9)), (a10, .inl (nz_cI g, 6, .inl f10)), (a11, .inl (nz_cI g, 6, .inl f11)), (a12, .inl (nz_cI g, 5, .inl f12)), (a13, .inl (nz_cI g, 5, .inl f13)), (a14, .inl (nz_cI g, 5, .inl f14)), (a15, .inl (nz_cI g, 5, .inl f15)), (a16, .inl (nz_cI g, 48, .inl f16))]) (fun _ _ => rfl) (fun m1 m2 h => ?_)
  refine nz_aload_n F dX1_numberAndPlace_6 rfl 0 rfl ?_
  refine nz_bipush (v := 20) F dX1_numberAndPlace_7 (by decide) ?_
  refine k_X1_begin ko ka0 m1 m2 20 (fun hM => nz_runV F gX1_numberAndPlace_X1_begin rfl hd_X1_begin rfl hM dX1_numberAndPlace_9 [0, 1] rfl rfl 0 rfl rfl rfl (Nat.le_of_ble_eq_true rfl) rfl) h (fun m3 m4 => [(ko, .inr (1, [.ref ka0, .int m3])), (ka0, .inl (nz_cI g, 16, .inl m4)), (o, .inr (5, [.int r0, .int r1, .int r2, .int r3, .int r4, .int r5, .int r6, .int r7, .int r8, .ref a9, .ref a10, .ref a11, .ref a12, .ref a13, .ref a14, .ref a15, .ref a16])), (a9, .inl (nz_cI g, 6, .inl f9)), (a10, .inl (nz_cI g, 6, .inl f10)), (a11, .inl (nz_cI g, 6, .inl f11)), (a12, .inl (nz_cI g, 5, .inl f12)), (a13, .inl (nz_cI g, 5, .inl f13)), (a14, .inl (nz_cI g, 5, .inl f14)), (a15, .inl (nz_cI g, 5, .inl f15)), (a16, .inl (nz_cI g, 48, .inl f16))]) (fun _ _ => rfl) (fun m3 m4 h => ?_)
  refine nz_iload_n F dX1_numberAndPlace_12 rfl 2 rfl ?_
  refine nz_aload_n F dX1_numberAndPlace_13 rfl 1 rfl ?_
  refine nz_getN F iw_X1_numberAndPlace_5 2 rfl rfl 10 (by decide) rfl fn_X1_numberAndPlace_62 rfl dX1_numberAndPlace_14 ?_
  refine nz_aload_n F dX1_numberAndPlace_17 rfl 1 rfl ?_
  refine nz_getN F iw_X1_numberAndPlace_5 2 rfl rfl 13 (by decide) rfl fn_X1_numberAndPlace_65 rfl dX1_numberAndPlace_18 ?_
  refine nz_iload_n F dX1_numberAndPlace_21 rfl 2 rfl ?_
  obtain ⟨i5, h⟩ := h
  refine nz_iald F 7 rfl i5 dX1_numberAndPlace_22 ?_
  obtain ⟨i6, h⟩ := h
  refine nz_iald F 4 rfl i6 dX1_numberAndPlace_23 ?_
  refine nz_iadd F dX1_numberAndPlace_24 ?_
  exact nz_iret F hQ (m3, m4) h rfl dX1_numberAndPlace_25
theorem k_X1_numberAndPlace {y : nz_Y} {g : nz_G} {k n : Nat} {ws : va_W} {pc : Nat} {ls : List (Nat × Value)} {st rest : List Value} {av : Array Value} {isC : List Nat} {K : Int32 → Int32 → (Nat → Int32) → Prop} (ko : Nat) (ka0 : Nat) (o : Nat) (a9 : Nat) (a10 : Nat) (a11 : Nat) (a12 : Nat) (a13 : Nat) (a14 : Nat) (a15 : Nat) (a16 : Nat) (kr1 : Int32) (kf0 : Nat → Int32) (r0 : Int32) (r1 : Int32) (r2 : Int32) (r3 : Int32) (r4 : Int32) (r5 : Int32) (r6 : Int32) (r7 : Int32) (r8 : Int32) (f9 : Nat → Int32) (f10 : Nat → Int32) (f11 : Nat → Int32) (f12 : Nat → Int32) (f13 : Nat → Int32) (f14 : Nat → Int32) (f15 : Nat → Int32) (f16 : Nat → Int32) (v2 : Int32) (run : nz_M (yz_l y) yX1_numberAndPlace wsX1_numberAndPlace rm_X1_numberAndPlace g [.ref ko, .ref o, .int v2] [(ko, .inr (1, [.ref ka0, .int kr1])), (ka0, .inl (nz_cI g, 16, .inl kf0)), (o, .inr (5, [.int r0, .int r1, .int r2, .int r3, .int r4, .int r5, .int r6, .int r7, .int r8, .ref a9, .ref a10, .ref a11, .ref a12, .ref a13, .ref a14, .ref a15, .ref a16])), (a9, .inl (nz_cI g, 6, .inl f9)), (a10, .inl (nz_cI g, 6, .inl f10)), (a11, .inl (nz_cI g, 6, .inl f11)), (a12, .inl (nz_cI g, 5, .inl f12)), (a13, .inl (nz_cI g, 5, .inl f13)), (a14, .inl (nz_cI g, 5, .inl f14)), (a15, .inl (nz_cI g, 5, .inl f15)), (a16, .inl (nz_cI g, 48, .inl f16))] (nz_Qi g [(ko, .inr (1, [.ref ka0, .int kr1])), (ka0, .inl (nz_cI g, 16, .inl kf0)), (o, .inr (5, [.int r0, .int r1, .int r2, .int r3, .int r4, .int r5, .int r6, .int r7, .int r8, .ref a9, .ref a10, .ref a11, .ref a12, .ref a13, .ref a14, .ref a15, .ref a16])), (a9, .inl (nz_cI g, 6, .inl f9)), (a10, .inl (nz_cI g, 6, .inl f10)), (a11, .inl (nz_cI g, 6, .inl f11)), (a12, .inl (nz_cI g, 5, .inl f12)), (a13, .inl (nz_cI g, 5, .inl f13)), (a14, .inl (nz_cI g, 5, .inl f14)), (a15, .inl (nz_cI g, 5, .inl f15)), (a16, .inl (nz_cI g, 48, .inl f16))] (fun r (u : Int32 × (Nat → Int32)) => K r u.1 u.2) (fun u => [(ko, .inr (1, [.ref ka0, .int u.1])), (ka0, .inl (nz_cI g, 16, .inl u.2)), (o, .inr (5, [.int r0, .int r1, .int r2, .int r3, .int r4, .int r5, .int r6, .int r7, .int r8, .ref a9, .ref a10, .ref a11, .ref a12, .ref a13, .ref a14, .ref a15, .ref a16])), (a9, .inl (nz_cI g, 6, .inl f9)), (a10, .inl (nz_cI g, 6, .inl f10)), (a11, .inl (nz_cI g, 6, .inl f11)), (a12, .inl (nz_cI g, 5, .inl f12)), (a13, .inl (nz_cI g, 5, .inl f13)), (a14, .inl (nz_cI g, 5, .inl f14)), (a15, .inl (nz_cI g, 5, .inl f15)), (a16, .inl (nz_cI g, 48, .inl f16))])) → nz_C y g k n ws pc ls st rest [(ko, .inr (1, [.ref ka0, .int kr1])), (ka0, .inl (nz_cI g, 16, .inl kf0)), (o, .inr (5, [.int r0, .int r1, .int r2, .int r3, .int r4, .int r5, .int r6, .int r7, .int r8, .ref a9, .ref a10, .ref a11, .ref a12, .ref a13, .ref a14, .ref a15, .ref a16])), (a9, .inl (nz_cI g, 6, .inl f9)), (a10, .inl (nz_cI g, 6, .inl f10)), (a11, .inl (nz_cI g, 6, .inl f11)), (a12, .inl (nz_cI g, 5, .inl f12)), (a13, .inl (nz_cI g, 5, .inl f13)), (a14, .inl (nz_cI g, 5, .inl f14)), (a15, .inl (nz_cI g, 5, .inl f15)), (a16, .inl (nz_cI g, 48, .inl f16))] (nz_Qi g [(ko, .inr (1, [.ref ka0, .int kr1])), (ka0, .inl (nz_cI g, 16, .inl kf0)), (o, .inr (5, [.int r0, .int r1, .int r2, .int r3, .int r4, .int r5, .int r6, .int r7, .int r8, .ref a9, .ref a10, .ref a11, .ref a12, .ref a13, .ref a14, .ref a15, .ref a16])), (a9, .inl (nz_cI g, 6, .inl f9)), (a10, .inl (nz_cI g, 6, .inl f10)), (a11, .inl (nz_cI g, 6, .inl f11)), (a12, .inl (nz_cI g, 5, .inl f12)), (a13, .inl (nz_cI g, 5, .inl f13)), (a14, .inl (nz_cI g, 5, .inl f14)), (a15, .inl (nz_cI g, 5, .inl f15)), (a16, .inl (nz_cI g, 48, .inl f16))] (fun r (u : Int32 × (Nat → Int32)) => K r u.1 u.2) (fun u => [(ko, .inr (1, [.ref ka0, .int u.1])), (ka0, .inl (nz_cI g, 16, .inl u.2)), (o, .inr (5, [.int r0, .int r1, .int r2, .int r3, .int r4, .int r5, .int r6, .int r7, .int r8, .ref a9, .ref a10, .ref a11, .ref a12, .ref a13, .ref a14, .ref a15, .ref a16])), (a9, .inl (nz_cI g, 6, .inl f9)), (a10, .inl (nz_cI g, 6, .inl f10)), (a11, .inl (nz_cI g, 6, .inl f11)), (a12, .inl (nz_cI g, 5, .inl f12)), (a13, .inl (nz_cI g, 5, .inl f13)), (a14, .inl (nz_cI g, 5, .inl f14)), (a15, .inl (nz_cI g, 5, .inl f15)), (a16, .inl (nz_cI g, 48, .inl f16))])) av isC) (h : wp_X1_numberAndPlace kr1 kf0 f10 f13 v2 K) (ws' : Int32 → (Nat → Int32) → va_W) (hm : ∀ (m0 : Int32) (m1 : (Nat → Int32)), nz_mrg ws isC [(ko, .inr (1, [.ref ka0, .int m0])), (ka0, .inl (nz_cI g, 16, .inl m1)), (o, .inr (5, [.int r0, .int r1, .int r2, .int r3, .int r4, .int r5, .int r6, .int r7, .int r8, .ref a9, .ref a10, .ref a11, .ref a12, .ref a13, .ref a14, .ref a15, .ref a16])), (a9, .inl (nz_cI g, 6, .inl f9)), (a10, .inl (nz_cI g, 6, .inl f10)), (a11, .inl (nz_cI g, 6, .inl f11)), (a12, .inl (nz_cI g, 5, .inl f12)), (a13, .inl (nz_cI g, 5, .inl f13)), (a14, .inl (nz_cI g, 5, .inl f14)), (a15, .inl (nz_cI g, 5, .inl f15)), (a16, .inl (nz_cI g, 48, .inl f16))] = ws' m0 m1) (kk : ∀ (r : Int32) (m0 : Int32) (m1 : (Nat → Int32)), K r m0 m1 → nz_V y g k n (ws' m0 m1) (pc + 3) ls (.int r :: rest)) : nz_V y g k n ws pc ls st :=
  nz_ci (ws' := fun u => ws' u.1 u.2) (run (c_X1_numberAndPlace (yz_l y) g ko ka0 o a9 a10 a11 a12 a13 a14 a15 a16 kr1 kf0 r0 r1 r2 r3 r4 r5 r6 r7 r8 f9 f10 f11 f12 f13 f14 f15 f16 v2 K h)) (fun _ => rfl) (fun u => hm u.1 u.2) (fun r u h => kk r u.1 u.2 h)
theorem dX1_markOfInn_0 : decode cX1_markOfInn 0 = .ok (.aload_n 1, 1) := by decide +kernel
theorem dX1_markOfInn_1 : decode cX1_markOfInn 1 = .ok (.getfield 27, 3) := by decide +kernel
theorem dX1_markOfInn_4 : decode cX1_markOfInn 4 = .ok (.iload_n 2, 1) := by decide +kernel
theorem dX1_markOfInn_5 : decode cX1_markOfInn 5 = .ok (.iaload, 1) := by decide +kernel
theorem dX1_markOfInn_6 : decode cX1_markOfInn 6 = .ok (.iconst 2, 1) := by decide +kernel
theorem dX1_markOfInn_7 : decode cX1_markOfInn 7 = .ok (.if_icmp .ne 18, 3) := by decide +kernel
theorem dX1_markOfInn_10 : decode cX1_markOfInn 10 = .ok (.aload_n 0, 1) := by decide +kernel
theorem dX1_markOfInn_11 : decode cX1_markOfInn 11 = .ok (.bipush 24, 2) := by decide +kernel
theorem dX1_markOfInn_13 : decode cX1_markOfInn 13 = .ok (.invokevirtual 49, 3) := by decide +kernel
theorem dX1_markOfInn_16 : decode cX1_markOfInn 16 = .ok (.iconst 2, 1) := by decide +kernel
theorem dX1_markOfInn_17 : decode cX1_markOfInn 17 = .ok (.aload_n 0, 1) := by decide +kernel
theorem dX1_markOfInn_18 : decode cX1_markOfInn 18 = .ok (.aload_n 1, 1) := by decide +kernel
theorem dX1_markOfInn_19 : decode cX1_markOfInn 19 = .ok (.iload_n 2, 1) := by decide +kernel
theorem dX1_markOfInn_20 : decode cX1_markOfInn 20 = .ok (.invokevirtual 59, 3) := by decide +kernel
theorem dX1_markOfInn_23 : decode cX1_markOfInn 23 = .ok (.imul, 1) := by decide +kernel
theorem dX1_markOfInn_24 : decode cX1_markOfInn 24 = .ok (.ireturn, 1) := by decide +kernel
theorem dX1_markOfInn_25 : decode cX1_markOfInn 25 = .ok (.aload_n 1, 1) := by decide +kernel
theorem dX1_markOfInn_26 : decode cX1_markOfInn 26 = .ok (.getfield 27, 3) := by decide +kernel
theorem dX1_markOfInn_29 : decode cX1_markOfInn 29 = .ok (.iload_n 2, 1) := by decide +kernel
theorem dX1_markOfInn_30 : decode cX1_markOfInn 30 = .ok (.iaload, 1) := by decide +kernel
theorem dX1_markOfInn_31 : decode cX1_markOfInn 31 = .ok (.iconst 3, 1) := by decide +kernel
theorem dX1_markOfInn_32 : decode cX1_markOfInn 32 = .ok (.if_icmp .ne 20, 3) := by decide +kernel
theorem dX1_markOfInn_35 : decode cX1_markOfInn 35 = .ok (.aload_n 0, 1) := by decide +kernel
theorem dX1_markOfInn_36 : decode cX1_markOfInn 36 = .ok (.bipush 22, 2) := by decide +kernel
theorem dX1_markOfInn_38 : decode cX1_markOfInn 38 = .ok (.invokevirtual 49, 3) := by decide +kernel
theorem dX1_markOfInn_41 : decode cX1_markOfInn 41 = .ok (.aload_n 0, 1) := by decide +kernel
theorem dX1_markOfInn_42 : decode cX1_markOfInn 42 = .ok (.aload_n 1, 1) := by decide +kernel
theorem dX1_markOfInn_43 : decode cX1_markOfInn 43 = .ok (.iload_n 2, 1) := by decide +kernel
theorem dX1_markOfInn_44 : decode cX1_markOfInn 44 = .ok (.invokevirtual 59, 3) := by decide +kernel
theorem dX1_markOfInn_47 : decode cX1_markOfInn 47 = .ok (.sipush 1000, 3) := by decide +kernel
theorem dX1_markOfInn_50 : decode cX1_markOfInn 50 = .ok (.isub, 1) := by decide +kernel
theorem dX1_markOfInn_51 : decode cX1_markOfInn 51 = .ok (.ireturn, 1) := by decide +kernel
theorem dX1_markOfInn_52 : decode cX1_markOfInn 52 = .ok (.aload_n 0, 1) := by decide +kernel
theorem dX1_markOfInn_53 : decode cX1_markOfInn 53 = .ok (.aload_n 1, 1) := by decide +kernel
theorem dX1_markOfInn_54 : decode cX1_markOfInn 54 = .ok (.iload_n 2, 1) := by decide +kernel
theorem dX1_markOfInn_55 : decode cX1_markOfInn 55 = .ok (.invokevirtual 59, 3) := by decide +kernel
theorem dX1_markOfInn_58 : decode cX1_markOfInn 58 = .ok (.ireturn, 1) := by decide +kernel
set_option maxRecDepth 20000 in
theorem ggX1_markOfInn_X1_begin : GoodIn wsX1_markOfInn wsX1_begin := goodIn_r _ [5, 6, 7, 29, 30] rfl (by decide +kernel)
set_option maxRecDepth 20000 in
theorem gX1_markOfInn_X1_begin : GoodIn wsX1_markOfInn (wsV RX1 49 RX1 yX1_begin wsX1_begin) := goodIn_app (goodIn_r _ [1, 2, 3, 4] rfl (by decide +kernel)) ggX1_markOfInn_X1_begin
set_option maxRecDepth 20000 in
theorem ggX1_markOfInn_X1_numberAndPlace : GoodIn wsX1_markOfInn wsX1_numberAndPlace := goodIn_r _ [11, 1, 2, 3, 4, 5, 6, 7, 12, 13, 14, 15, 16, 17, 18, 19, 20, 21, 22, 23, 24, 25, 26, 27, 28, 29, 30] rfl (by decide +kernel)
set_option maxRecDepth 20000 in
theorem gX1_markOfInn_X1_numberAndPlace : GoodIn wsX1_markOfInn (wsV RX1 59 RX1 yX1_numberAndPlace wsX1_numberAndPlace) := goodIn_app (goodIn_r _ [8, 9, 10, 4] rfl (by decide +kernel)) ggX1_markOfInn_X1_numberAndPlace
theorem hd_X1_numberAndPlace : yX1_numberAndPlace.cls = RX1 ∧ yX1_numberAndPlace.cls ≠ "java/lang/invoke/MethodHandle" ∧ yX1_numberAndPlace.cls ≠ "java/lang/invoke/VarHandle" ∧ (parseMethodDescriptor yX1_numberAndPlace.desc).map (fun d => d.parameters.length) = some 2 := by decide +kernel
/-! X1_markOfInn -/
abbrev rm_X1_markOfInn : Room := { frames := 2, cells := 0, slots := 0, locals := 43 }
theorem iw_X1_markOfInn_5 : ∀ w ∈ wsX50, w ∈ wsX1_markOfInn := fun _ h => List.mem_cons_of_mem _ (List.mem_append_left _ (List.mem_append_right _ h))
theorem fn_X1_markOfInn_27 : Cond.fieldLinkNest RX1 27 "NightStones$Road" "kinds" "[I" RX7 ∈ nz_nest := List.mem_of_getElem? (i := 39) rfl
def wp_X1_markOfInn (kr1 : Int32) (kf0 : Nat → Int32) (f10 : Nat → Int32) (f12 : Nat → Int32) (f13 : Nat → Int32) (v2 : Int32) (K : Int32 → Int32 → (Nat → Int32) → Prop) : Prop := (vp_in v2 5 ∧ ((¬ (f12 v2.toNatClampNeg) = 2 → (vp_in v2 5 ∧ ((¬ (f12 v2.toNatClampNeg) = 3 → wp_X1_numberAndPlace kr1 kf0 f10 f13 v2 (fun q5 m6 m7 => K q5 m6 m7)) ∧ ((f12 v2.toNatClampNeg) = 3 → wp_X1_begin kr1 kf0 22 (fun m8 m9 => wp_X1_numberAndPlace m8 m9 f10 f13 v2 (fun q10 m11 m12 => K (q10 - 1000) m11 m12)))))) ∧ ((f12 v2.toNatClampNeg) = 2 → wp_X1_begin kr1 kf0 24 (fun m13 m14 => wp_X1_numberAndPlace m13 m14 f10 f13 v2 (fun q15 m16 m17 => K (2 * q15) m16 m17)))))
set_option maxHeartbeats 4000000 in
set_option maxRecDepth 100000 in
theorem c_X1_markOfInn (l : Launch) (g : nz_G) (ko : Nat) (ka0 : Nat) (o : Nat) (a9 : Nat) (a10 : Nat) (a11 : Nat) (a12 : Nat) (a13 : Nat) (a14 : Nat) (a15 : Nat) (a16 : Nat) (kr1 : Int32) (kf0 : Nat → Int32) (r0 : Int32) (r1 : Int32) (r2 : Int32) (r3 : Int32) (r4 : Int32) (r5 : Int32) (r6 : Int32) (r7 : Int32) (r8 : Int32) (f9 : Nat → Int32) (f10 : Nat → Int32) (f11 : Nat → Int32) (f12 : Nat → Int32) (f13 : Nat → Int32) (f14 : Nat → Int32) (f15 : Nat → Int32) (f16 : Nat → Int32) (v2 : Int32) (K : Int32 → Int32 → (Nat → Int32) → Prop) (h : wp_X1_markOfInn kr1 kf0 f10 f12 f13 v2 K) : nz_M l yX1_markOfInn wsX1_markOfInn rm_X1_markOfInn g [.ref ko, .ref o, .int v2] [(ko, .inr (1, [.ref ka0, .int kr1])), (ka0, .inl (nz_cI g, 16, .inl kf0)), (o, .inr (5, [.int r0, .int r1, .int r2, .int r3, .int r4, .int r5, .int r6, .int r7, .int r8, .ref a9, .ref a10, .ref a11, .ref a12, .ref a13, .ref a14, .ref a15, .ref a16])), (a9, .inl (nz_cI g, 6, .inl f9)), (a10, .inl (nz_cI g, 6, .inl f10)), (a11, .inl (nz_cI g, 6, .inl f11)), (a12, .inl (nz_cI g, 5, .inl f12)), (a13, .inl (nz_cI g, 5, .inl f13)), (a14, .inl (nz_cI g, 5, .inl f14)), (a15, .inl (nz_cI g, 5, .inl f15)), (a16, .inl (nz_cI g, 48, .inl f16))] (nz_Qi g [(ko, .inr (1, [.ref ka0, .int kr1])), (ka0, .inl (nz_cI g, 16, .inl kf0)), (o, .inr (5, [.int r0, .int r1, .int r2, .int r3, .int r4, .int r5, .int r6, .int r7, .int r8, .ref a9, .ref a10, .ref a11, .ref a12, .ref a13, .ref a14, .ref a15, .ref a16])), (a9, .inl (nz_cI g, 6, .inl f9)), (a10, .inl (nz_cI g, 6, .inl f10)), (a11, .inl (nz_cI g, 6, .inl f11)), (a12, .inl (nz_cI g, 5, .inl f12)), (a13, .inl (nz_cI g, 5, .inl f13)), (a14, .inl (nz_cI g, 5, .inl f14)), (a15, .inl (nz_cI g, 5, .inl f15)), (a16, .inl (nz_cI g, 48, .inl f16))] (fun r (u : Int32 × (Nat → Int32)) => K r u.1 u.2) (fun u => [(ko, .inr (1, [.ref ka0, .int u.1])), (ka0, .inl (nz_cI g, 16, .inl u.2)), (o, .inr (5, [.int r0, .int r1, .int r2, .int r3, .int r4, .int r5, .int r6, .int r7, .int r8, .ref a9, .ref a10, .ref a11, .ref a12, .ref a13, .ref a14, .ref a15, .ref a16])), (a9, .inl (nz_cI g, 6, .inl f9)), (a10, .inl (nz_cI g, 6, .inl f10)), (a11, .inl (nz_cI g, 6, .inl f11)), (a12, .inl (nz_cI g, 5, .inl f12)), (a13, .inl (nz_cI g, 5, .inl f13)), (a14, .inl (nz_cI g, 5, .inl f14)), (a15, .inl (nz_cI g, 5, .inl f15)), (a16, .inl (nz_cI g, 48, .inl f16))])) := by
  refine nz_M.of (bytes := cX1_markOfInn) (nL := 3) (ret := (some .int)) (own := RX1) (by decide) rfl rfl ⟨rfl, rfl⟩ rfl ?_
  intro y F hl hQ
  obtain ⟨sz, hQ⟩ := hQ
  refine nz_ent (lv' := [(0, .ref ko), (1, .ref o), (2, .int v2)]) rfl ?_
  unfold wp_X1_markOfInn at h
  refine nz_aload_n F dX1_markOfInn_0 rfl 1 rfl ?_
  refine nz_getN F iw_X1_markOfInn_5 2 rfl rfl 12 (by decide) rfl fn_X1_markOfInn_27 rfl dX1_markOfInn_1 ?_
  refine nz_iload_n F dX1_markOfInn_4 rfl 2 rfl ?_
  obtain ⟨i1, h⟩ := h
  refine nz_iald F 6 rfl i1 dX1_markOfInn_5 ?_
  refine nz_iconst (v := 2) F dX1_markOfInn_6 (by decide) ?_
  refine nz_icmp_ne (tgt := 25) F dX1_markOfInn_7 (by decide) (fun c2 => ?_) (fun c2 => ?_)
  · have h := h.1 c2
    refine nz_aload_n F dX1_markOfInn_25 rfl 1 rfl ?_
    refine nz_getN F iw_X1_markOfInn_5 2 rfl rfl 12 (by decide) rfl fn_X1_markOfInn_27 rfl dX1_markOfInn_26 ?_
    refine nz_iload_n F dX1_markOfInn_29 rfl 2 rfl ?_
    obtain ⟨i3, h⟩ := h
    refine nz_iald F 6 rfl i3 dX1_markOfInn_30 ?_
    refine nz_iconst (v := 3) F dX1_markOfInn_31 (by decide) ?_
    refine nz_icmp_ne (tgt := 52) F dX1_markOfInn_32 (by decide) (fun c4 => ?_) (fun c4 => ?_)
    · have h := h.1 c4
      refine nz_aload_n F dX1_markOfInn_52 rfl 0 rfl ?_
      refine nz_aload_n F dX1_markOfInn_53 rfl 1 rfl ?_
      refine nz_iload_n F dX1_markOfInn_54 rfl 2 rfl ?_
      refine k_X1_numberAndPlace ko ka0 o a9 a10 a11 a12 a13 a14 a15 a16 kr1 kf0 r0 r1 r2 r3 r4 r5 r6 r7 r8 f9 f10 f11 f12 f13 f14 f15 f16 v2 (fun hM => nz_runV F gX1_markOfInn_X1_numberAndPlace rfl hd_X1_numberAndPlace rfl hM dX1_markOfInn_55 [0, 1, 2, 3, 4, 5, 6, 7, 8, 9, 10] rfl rfl 0 rfl rfl rfl (Nat.le_of_ble_eq_true rfl) rfl) h (fun m6 m7 => [(ko, .inr (1, [.ref ka0, .int m6])), (ka0, .inl (nz_cI g, 16, .inl m7)), (o, .inr (5, [.int r0, .int r1, .int r2, .int r3, .int r4, .int r5, .int r6, .int r7, .int r8, .ref a9, .ref a10, .ref a11, .ref a12, .ref a13, .ref a14, .ref a15, .ref a16])), (a9, .inl (nz_cI g, 6, .inl f9)), (a10, .inl (nz_cI g, 6, .inl f10)), (a11, .inl (nz_cI g, 6, .inl f11)), (a12, .inl (nz_cI g, 5, .inl f12)), (a13, .inl (nz_cI g, 5, .inl f13)), (a14, .inl (nz_cI g, 5, .inl f14)), (a15, .inl (nz_cI g, 5, .inl f15)), (a16, .inl (nz_cI g, 48, .inl f16))]) (fun _ _ => rfl) (fun q5 m6 m7 h => ?_)
      exact nz_iret F hQ (m6, m7) h rfl dX1_markOfInn_58
    · have h := h.2 c4
      refine nz_aload_n F dX1_markOfInn_35 rfl 0 rfl ?_
      refine nz_bipush (v := 22) F dX1_markOfInn_36 (by decide) ?_
      refine k_X1_begin ko ka0 kr1 kf0 22 (fun hM => nz_runV F gX1_markOfInn_X1_begin rfl hd_X1_begin rfl hM dX1_markOfInn_38 [0, 1] rfl rfl 0 rfl rfl rfl (Nat.le_of_ble_eq_true rfl) rfl) h (fun m8 m9 => [(ko, .inr (1, [.ref ka0, .int m8])), (ka0, .inl (nz_cI g, 16, .inl m9)), (o, .inr (5, [.int r0, .int r1, .int r2, .int r3, .int r4, .int r5, .int r6, .int r7, .int r8, .ref a9, .ref a10, .ref a11, .ref a12, .ref a13, .ref a14, .ref a15, .ref a16])), (a9, .inl (nz_cI g, 6, .inl f9)), (a10, .inl (nz_cI g, 6, .inl f10)), (a11, .inl (nz_cI g, 6, .inl f11)), (a12, .inl (nz_cI g, 5, .inl f12)), (a13, .inl (nz_cI g, 5, .inl f13)), (a14, .inl (nz_cI g, 5, .inl f14)), (a15, .inl (nz_cI g, 5, .inl f15)), (a16, .inl (nz_cI g, 48, .inl f16))]) (fun _ _ => rfl) (fun m8 m9 h => ?_)
      refine nz_aload_n F dX1_markOfInn_41 rfl 0 rfl ?_
      refine nz_aload_n F dX1_markOfInn_42 rfl 1 rfl ?_
      refine nz_iload_n F dX1_markOfInn_43 rfl 2 rfl ?_
      refine k_X1_numberAndPlace ko ka0 o a9 a10 a11 a12 a13 a14 a15 a16 m8 m9 r0 r1 r2 r3 r4 r5 r6 r7 r8 f9 f10 f11 f12 f13 f14 f15 f16 v2 (fun hM => nz_runV F gX1_markOfInn_X1_numberAndPlace rfl hd_X1_numberAndPlace rfl hM dX1_markOfInn_44 [0, 1, 2, 3, 4, 5, 6, 7, 8, 9, 10] rfl rfl 0 rfl rfl rfl (Nat.le_of_ble_eq_true rfl) rfl) h (fun m11 m12 => [(ko, .inr (1, [.ref ka0, .int m11])), (ka0, .inl (nz_cI g, 16, .inl m12)), (o, .inr (5, [.int r0, .int r1, .int r2, .int r3, .int r4, .int r5, .int r6, .int r7, .int r8, .ref a9, .ref a10, .ref a11, .ref a12, .ref a13, .ref a14, .ref a15, .ref a16])), (a9, .inl (nz_cI g, 6, .inl f9)), (a10, .inl (nz_cI g, 6, .inl f10)), (a11, .inl (nz_cI g, 6, .inl f11)), (a12, .inl (nz_cI g, 5, .inl f12)), (a13, .inl (nz_cI g, 5, .inl f13)), (a14, .inl (nz_cI g, 5, .inl f14)), (a15, .inl (nz_cI g, 5, .inl f15)), (a16, .inl (nz_cI g, 48, .inl f16))]) (fun _ _ => rfl) (fun q10 m11 m12 h => ?_)
      refine nz_sipush (v := 1000) F dX1_markOfInn_47 (by decide) ?_
      refine nz_isub F dX1_markOfInn_50 ?_
      exact nz_iret F hQ (m11, m12) h rfl dX1_markOfInn_51
  · have h := h.2 c2
    refine nz_aload_n F dX1_markOfInn_10 rfl 0 rfl ?_
    refine nz_bipush (v := 24) F dX1_markOfInn_11 (by decide) ?_
    refine k_X1_begin ko ka0 kr1 kf0 24 (fun hM => nz_runV F gX1_markOfInn_X1_begin rfl hd_X1_begin rfl hM dX1_markOfInn_13 [0, 1] rfl rfl 0 rfl rfl rfl (Nat.le_of_ble_eq_true rfl) rfl) h (fun m13 m14 => [(ko, .inr (1, [.ref ka0, .int m13])), (ka0, .inl (nz_cI g, 16, .inl m14)), (o, .inr (5, [.int r0, .int r1, .int r2, .int r3, .int r4, .int r5, .int r6, .int r7, .int r8, .ref a9, .ref a10, .ref a11, .ref a12, .ref a13, .ref a14, .ref a15, .ref a16])), (a9, .inl (nz_cI g, 6, .inl f9)), (a10, .inl (nz_cI g, 6, .inl f10)), (a11, .inl (nz_cI g, 6, .inl f11)), (a12, .inl (nz_cI g, 5, .inl f12)), (a13, .inl (nz_cI g, 5, .inl f13)), (a14, .inl (nz_cI g, 5, .inl f14)), (a15, .inl (nz_cI g, 5, .inl f15)), (a16, .inl (nz_cI g, 48, .inl f16))]) (fun _ _ => rfl) (fun m13 m14 h => ?_)
    refine nz_iconst (v := 2) F dX1_markOfInn_16 (by decide) ?_
    refine nz_aload_n F dX1_markOfInn_17 rfl 0 rfl ?_
    refine nz_aload_n F dX1_markOfInn_18 rfl 1 rfl ?_
    refine nz_iload_n F dX1_markOfInn_19 rfl 2 rfl ?_
    refine k_X1_numberAndPlace ko ka0 o a9 a10 a11 a12 a13 a14 a15 a16 m13 m14 r0 r1 r2 r3 r4 r5 r6 r7 r8 f9 f10 f11 f12 f13 f14 f15 f16 v2 (fun hM => nz_runV F gX1_markOfInn_X1_numberAndPlace rfl hd_X1_numberAndPlace rfl hM dX1_markOfInn_20 [0, 1, 2, 3, 4, 5, 6, 7, 8, 9, 10] rfl rfl 0 rfl rfl rfl (Nat.le_of_ble_eq_true rfl) rfl) h (fun m16 m17 => [(ko, .inr (1, [.ref ka0, .int m16])), (ka0, .inl (nz_cI g, 16, .inl m17)), (o, .inr (5, [.int r0, .int r1, .int r2, .int r3, .int r4, .int r5, .int r6, .int r7, .int r8, .ref a9, .ref a10, .ref a11, .ref a12, .ref a13, .ref a14, .ref a15, .ref a16])), (a9, .inl (nz_cI g, 6, .inl f9)), (a10, .inl (nz_cI g, 6, .inl f10)), (a11, .inl (nz_cI g, 6, .inl f11)), (a12, .inl (nz_cI g, 5, .inl f12)), (a13, .inl (nz_cI g, 5, .inl f13)), (a14, .inl (nz_cI g, 5, .inl f14)), (a15, .inl (nz_cI g, 5, .inl f15)), (a16, .inl (nz_cI g, 48, .inl f16))]) (fun _ _ => rfl) (fun q15 m16 m17 h => ?_)
    refine nz_imul F dX1_markOfInn_23 ?_
    exact nz_iret F hQ (m16, m17) h rfl dX1_markOfInn_24
theorem k_X1_markOfInn {y : nz_Y} {g : nz_G} {k n : Nat} {ws : va_W} {pc : Nat} {ls : List (Nat × Value)} {st rest : List Value} {av : Array Value} {isC : List Nat} {K : Int32 → Int32 → (Nat → Int32) → Prop} (ko : Nat) (ka0 : Nat) (o : Nat) (a9 : Nat) (a10 : Nat) (a11 : Nat) (a12 : Nat) (a13 : Nat) (a14 : Nat) (a15 : Nat) (a16 : Nat) (kr1 : Int32) (kf0 : Nat → Int32) (r0 : Int32) (r1 : Int32) (r2 : Int32) (r3 : Int32) (r4 : Int32) (r5 : Int32) (r6 : Int32) (r7 : Int32) (r8 : Int32) (f9 : Nat → Int32) (f10 : Nat → Int32) (f11 : Nat → Int32) (f12 : Nat → Int32) (f13 : Nat → Int32) (f14 : Nat → Int32) (f15 : Nat → Int32) (f16 : Nat → Int32) (v2 : Int32) (run : nz_M (yz_l y) yX1_markOfInn wsX1_markOfInn rm_X1_markOfInn g [.ref ko, .ref o, .int v2] [(ko, .inr (1, [.ref ka0, .int kr1])), (ka0, .inl (nz_cI g, 16, .inl kf0)), (o, .inr (5, [.int r0, .int r1, .int r2, .int r3, .int r4, .int r5, .int r6, .int r7, .int r8, .ref a9, .ref a10, .ref a11, .ref a12, .ref a13, .ref a14, .ref a15, .ref a16])), (a9, .inl (nz_cI g, 6, .inl f9)), (a10, .inl (nz_cI g, 6, .inl f10)), (a11, .inl (nz_cI g, 6, .inl f11)), (a12, .inl (nz_cI g, 5, .inl f12)), (a13, .inl (nz_cI g, 5, .inl f13)), (a14, .inl (nz_cI g, 5, .inl f14)), (a15, .inl (nz_cI g, 5, .inl f15)), (a16, .inl (nz_cI g, 48, .inl f16))] (nz_Qi g [(ko, .inr (1, [.ref ka0, .int kr1])), (ka0, .inl (nz_cI g, 16, .inl kf0)), (o, .inr (5, [.int r0, .int r1, .int r2, .int r3, .int r4, .int r5, .int r6, .int r7, .int r8, .ref a9, .ref a10, .ref a11, .ref a12, .ref a13, .ref a14, .ref a15, .ref a16])), (a9, .inl (nz_cI g, 6, .inl f9)), (a10, .inl (nz_cI g, 6, .inl f10)), (a11, .inl (nz_cI g, 6, .inl f11)), (a12, .inl (nz_cI g, 5, .inl f12)), (a13, .inl (nz_cI g, 5, .inl f13)), (a14, .inl (nz_cI g, 5, .inl f14)), (a15, .inl (nz_cI g, 5, .inl f15)), (a16, .inl (nz_cI g, 48, .inl f16))] (fun r (u : Int32 × (Nat → Int32)) => K r u.1 u.2) (fun u => [(ko, .inr (1, [.ref ka0, .int u.1])), (ka0, .inl (nz_cI g, 16, .inl u.2)), (o, .inr (5, [.int r0, .int r1, .int r2, .int r3, .int r4, .int r5, .int r6, .int r7, .int r8, .ref a9, .ref a10, .ref a11, .ref a12, .ref a13, .ref a14, .ref a15, .ref a16])), (a9, .inl (nz_cI g, 6, .inl f9)), (a10, .inl (nz_cI g, 6, .inl f10)), (a11, .inl (nz_cI g, 6, .inl f11)), (a12, .inl (nz_cI g, 5, .inl f12)), (a13, .inl (nz_cI g, 5, .inl f13)), (a14, .inl (nz_cI g, 5, .inl f14)), (a15, .inl (nz_cI g, 5, .inl f15)), (a16, .inl (nz_cI g, 48, .inl f16))])) → nz_C y g k n ws pc ls st rest [(ko, .inr (1, [.ref ka0, .int kr1])), (ka0, .inl (nz_cI g, 16, .inl kf0)), (o, .inr (5, [.int r0, .int r1, .int r2, .int r3, .int r4, .int r5, .int r6, .int r7, .int r8, .ref a9, .ref a10, .ref a11, .ref a12, .ref a13, .ref a14, .ref a15, .ref a16])), (a9, .inl (nz_cI g, 6, .inl f9)), (a10, .inl (nz_cI g, 6, .inl f10)), (a11, .inl (nz_cI g, 6, .inl f11)), (a12, .inl (nz_cI g, 5, .inl f12)), (a13, .inl (nz_cI g, 5, .inl f13)), (a14, .inl (nz_cI g, 5, .inl f14)), (a15, .inl (nz_cI g, 5, .inl f15)), (a16, .inl (nz_cI g, 48, .inl f16))] (nz_Qi g [(ko, .inr (1, [.ref ka0, .int kr1])), (ka0, .inl (nz_cI g, 16, .inl kf0)), (o, .inr (5, [.int r0, .int r1, .int r2, .int r3, .int r4, .int r5, .int r6, .int r7, .int r8, .ref a9, .ref a10, .ref a11, .ref a12, .ref a13, .ref a14, .ref a15, .ref a16])), (a9, .inl (nz_cI g, 6, .inl f9)), (a10, .inl (nz_cI g, 6, .inl f10)), (a11, .inl (nz_cI g, 6, .inl f11)), (a12, .inl (nz_cI g, 5, .inl f12)), (a13, .inl (nz_cI g, 5, .inl f13)), (a14, .inl (nz_cI g, 5, .inl f14)), (a15, .inl (nz_cI g, 5, .inl f15)), (a16, .inl (nz_cI g, 48, .inl f16))] (fun r (u : Int32 × (Nat → Int32)) => K r u.1 u.2) (fun u => [(ko, .inr (1, [.ref ka0, .int u.1])), (ka0, .inl (nz_cI g, 16, .inl u.2)), (o, .inr (5, [.int r0, .int r1, .int r2, .int r3, .int r4, .int r5, .int r6, .int r7, .int r8, .ref a9, .ref a10, .ref a11, .ref a12, .ref a13, .ref a14, .ref a15, .ref a16])), (a9, .inl (nz_cI g, 6, .inl f9)), (a10, .inl (nz_cI g, 6, .inl f10)), (a11, .inl (nz_cI g, 6, .inl f11)), (a12, .inl (nz_cI g, 5, .inl f12)), (a13, .inl (nz_cI g, 5, .inl f13)), (a14, .inl (nz_cI g, 5, .inl f14)), (a15, .inl (nz_cI g, 5, .inl f15)), (a16, .inl (nz_cI g, 48, .inl f16))])) av isC) (h : wp_X1_markOfInn kr1 kf0 f10 f12 f13 v2 K) (ws' : Int32 → (Nat → Int32) → va_W) (hm : ∀ (m0 : Int32) (m1 : (Nat → Int32)), nz_mrg ws isC [(ko, .inr (1, [.ref ka0, .int m0])), (ka0, .inl (nz_cI g, 16, .inl m1)), (o, .inr (5, [.int r0, .int r1, .int r2, .int r3, .int r4, .int r5, .int r6, .int r7, .int r8, .ref a9, .ref a10, .ref a11, .ref a12, .ref a13, .ref a14, .ref a15, .ref a16])), (a9, .inl (nz_cI g, 6, .inl f9)), (a10, .inl (nz_cI g, 6, .inl f10)), (a11, .inl (nz_cI g, 6, .inl f11)), (a12, .inl (nz_cI g, 5, .inl f12)), (a13, .inl (nz_cI g, 5, .inl f13)), (a14, .inl (nz_cI g, 5, .inl f14)), (a15, .inl (nz_cI g, 5, .inl f15)), (a16, .inl (nz_cI g, 48, .inl f16))] = ws' m0 m1) (kk : ∀ (r : Int32) (m0 : Int32) (m1 : (Nat → Int32)), K r m0 m1 → nz_V y g k n (ws' m0 m1) (pc + 3) ls (.int r :: rest)) : nz_V y g k n ws pc ls st :=
  nz_ci (ws' := fun u => ws' u.1 u.2) (run (c_X1_markOfInn (yz_l y) g ko ka0 o a9 a10 a11 a12 a13 a14 a15 a16 kr1 kf0 r0 r1 r2 r3 r4 r5 r6 r7 r8 f9 f10 f11 f12 f13 f14 f15 f16 v2 K h)) (fun _ => rfl) (fun u => hm u.1 u.2) (fun r u h => kk r u.1 u.2 h)
theorem dX1_reachAndMark_0 : decode cX1_reachAndMark 0 = .ok (.aload_n 0, 1) := by decide +kernel
theorem dX1_reachAndMark_1 : decode cX1_reachAndMark 1 = .ok (.bipush 11, 2) := by decide +kernel
theorem dX1_reachAndMark_3 : decode cX1_reachAndMark 3 = .ok (.invokevirtual 49, 3) := by decide +kernel
theorem dX1_reachAndMark_6 : decode cX1_reachAndMark 6 = .ok (.aload_n 0, 1) := by decide +kernel
theorem dX1_reachAndMark_7 : decode cX1_reachAndMark 7 = .ok (.bipush 10, 2) := by decide +kernel
theorem dX1_reachAndMark_9 : decode cX1_reachAndMark 9 = .ok (.invokevirtual 49, 3) := by decide +kernel
theorem dX1_reachAndMark_12 : decode cX1_reachAndMark 12 = .ok (.aload_n 1, 1) := by decide +kernel
theorem dX1_reachAndMark_13 : decode cX1_reachAndMark 13 = .ok (.getfield 56, 3) := by decide +kernel
theorem dX1_reachAndMark_16 : decode cX1_reachAndMark 16 = .ok (.iload_n 2, 1) := by decide +kernel
theorem dX1_reachAndMark_17 : decode cX1_reachAndMark 17 = .ok (.iaload, 1) := by decide +kernel
theorem dX1_reachAndMark_18 : decode cX1_reachAndMark 18 = .ok (.aload_n 0, 1) := by decide +kernel
theorem dX1_reachAndMark_19 : decode cX1_reachAndMark 19 = .ok (.aload_n 1, 1) := by decide +kernel
theorem dX1_reachAndMark_20 : decode cX1_reachAndMark 20 = .ok (.iload_n 2, 1) := by decide +kernel
theorem dX1_reachAndMark_21 : decode cX1_reachAndMark 21 = .ok (.invokevirtual 46, 3) := by decide +kernel
theorem dX1_reachAndMark_24 : decode cX1_reachAndMark 24 = .ok (.iadd, 1) := by decide +kernel
theorem dX1_reachAndMark_25 : decode cX1_reachAndMark 25 = .ok (.ireturn, 1) := by decide +kernel
set_option maxRecDepth 20000 in
theorem ggX1_reachAndMark_X1_begin : GoodIn wsX1_reachAndMark wsX1_begin := goodIn_r _ [5, 6, 7, 33, 34] rfl (by decide +kernel)
set_option maxRecDepth 20000 in
theorem gX1_reachAndMark_X1_begin : GoodIn wsX1_reachAndMark (wsV RX1 49 RX1 yX1_begin wsX1_begin) := goodIn_app (goodIn_r _ [1, 2, 3, 4] rfl (by decide +kernel)) ggX1_reachAndMark_X1_begin
set_option maxRecDepth 20000 in
theorem ggX1_reachAndMark_X1_markOfInn : GoodIn wsX1_reachAndMark wsX1_markOfInn := goodIn_r _ [11, 1, 2, 3, 4, 5, 6, 7, 12, 13, 14, 15, 16, 17, 18, 19, 20, 21, 22, 23, 24, 25, 26, 27, 28, 29, 30, 31, 32, 33, 34] rfl (by decide +kernel)
set_option maxRecDepth 20000 in
theorem gX1_reachAndMark_X1_markOfInn : GoodIn wsX1_reachAndMark (wsV RX1 46 RX1 yX1_markOfInn wsX1_markOfInn) := goodIn_app (goodIn_r _ [8, 9, 10, 4] rfl (by decide +kernel)) ggX1_reachAndMark_X1_markOfInn
theorem hd_X1_markOfInn : yX1_markOfInn.cls = RX1 ∧ yX1_markOfInn.cls ≠ "java/lang/invoke/MethodHandle" ∧ yX1_markOfInn.cls ≠ "java/lang/invoke/VarHandle" ∧ (parseMethodDescriptor yX1_markOfInn.desc).map (fun d => d.parameters.length) = some 2 := by decide +kernel
/-! X1_reachAndMark -/
abbrev rm_X1_reachAndMark : Room := { frames := 3, cells := 0, slots := 0, locals := 65 }
theorem iw_X1_reachAndMark_5 : ∀ w ∈ wsX50, w ∈ wsX1_reachAndMark := fun _ h => List.mem_cons_of_mem _ (List.mem_append_left _ (List.mem_append_right _ h))
theorem fn_X1_reachAndMark_56 : Cond.fieldLinkNest RX1 56 "NightStones$Road" "reach" "[I" RX7 ∈ nz_nest := List.mem_of_getElem? (i := 45) rfl
def wp_X1_reachAndMark (kr1 : Int32) (kf0 : Nat → Int32) (f10 : Nat → Int32) (f12 : Nat → Int32) (f13 : Nat → Int32) (f15 : Nat → Int32) (v2 : Int32) (K : Int32 → Int32 → (Nat → Int32) → Prop) : Prop := wp_X1_begin kr1 kf0 11 (fun m1 m2 => wp_X1_begin m1 m2 10 (fun m3 m4 => (vp_in v2 5 ∧ wp_X1_markOfInn m3 m4 f10 f12 f13 v2 (fun q6 m7 m8 => K ((f15 v2.toNatClampNeg) + q6) m7 m8))))
set_option maxHeartbeats 4000000 in
set_option maxRecDepth 100000 in
theorem c_X1_reachAndMark (l : Launch) (g : nz_G) (ko : Nat) (ka0 : Nat) (o : Nat) (a9 : Nat) (a10 : Nat) (a11 : Nat) (a12 : Nat) (a13 : Nat) (a14 : Nat) (a15 : Nat) (a16 : Nat) (kr1 : Int32) (kf0 : Nat → Int32) (r0 : Int32) (r1 : Int32) (r2 : Int32) (r3 : Int32) (r4 : Int32) (r5 : Int32) (r6 : Int32) (r7 : Int32) (r8 : Int32) (f9 : Nat → Int32) (f10 : Nat → Int32) (f11 : Nat → Int32) (f12 : Nat → Int32) (f13 : Nat → Int32) (f14 : Nat → Int32) (f15 : Nat → Int32) (f16 : Nat → Int32) (v2 : Int32) (K : Int32 → Int32 → (Nat → Int32) → Prop) (h : wp_X1_reachAndMark kr1 kf0 f10 f12 f13 f15 v2 K) : nz_M l yX1_reachAndMark wsX1_reachAndMark rm_X1_reachAndMark g [.ref ko, .ref o, .int v2] [(ko, .inr (1, [.ref ka0, .int kr1])), (ka0, .inl (nz_cI g, 16, .inl kf0)), (o, .inr (5, [.int r0, .int r1, .int r2, .int r3, .int r4, .int r5, .int r6, .int r7, .int r8, .ref a9, .ref a10, .ref a11, .ref a12, .ref a13, .ref a14, .ref a15, .ref a16])), (a9, .inl (nz_cI g, 6, .inl f9)), (a10, .inl (nz_cI g, 6, .inl f10)), (a11, .inl (nz_cI g, 6, .inl f11)), (a12, .inl (nz_cI g, 5, .inl f12)), (a13, .inl (nz_cI g, 5, .inl f13)), (a14, .inl (nz_cI g, 5, .inl f14)), (a15, .inl (nz_cI g, 5, .inl f15)), (a16, .inl (nz_cI g, 48, .inl f16))] (nz_Qi g [(ko, .inr (1, [.ref ka0, .int kr1])), (ka0, .inl (nz_cI g, 16, .inl kf0)), (o, .inr (5, [.int r0, .int r1, .int r2, .int r3, .int r4, .int r5, .int r6, .int r7, .int r8, .ref a9, .ref a10, .ref a11, .ref a12, .ref a13, .ref a14, .ref a15, .ref a16])), (a9, .inl (nz_cI g, 6, .inl f9)), (a10, .inl (nz_cI g, 6, .inl f10)), (a11, .inl (nz_cI g, 6, .inl f11)), (a12, .inl (nz_cI g, 5, .inl f12)), (a13, .inl (nz_cI g, 5, .inl f13)), (a14, .inl (nz_cI g, 5, .inl f14)), (a15, .inl (nz_cI g, 5, .inl f15)), (a16, .inl (nz_cI g, 48, .inl f16))] (fun r (u : Int32 × (Nat → Int32)) => K r u.1 u.2) (fun u => [(ko, .inr (1, [.ref ka0, .int u.1])), (ka0, .inl (nz_cI g, 16, .inl u.2)), (o, .inr (5, [.int r0, .int r1, .int r2, .int r3, .int r4, .int r5, .int r6, .int r7, .int r8, .ref a9, .ref a10, .ref a11, .ref a12, .ref a13, .ref a14, .ref a15, .ref a16])), (a9, .inl (nz_cI g, 6, .inl f9)), (a10, .inl (nz_cI g, 6, .inl f10)), (a11, .inl (nz_cI g, 6, .inl f11)), (a12, .inl (nz_cI g, 5, .inl f12)), (a13, .inl (nz_cI g, 5, .inl f13)), (a14, .inl (nz_cI g, 5, .inl f14)), (a15, .inl (nz_cI g, 5, .inl f15)), (a16, .inl (nz_cI g, 48, .inl f16))])) := by
  refine nz_M.of (bytes := cX1_reachAndMark) (nL := 3) (ret := (some .int)) (own := RX1) (by decide) rfl rfl ⟨rfl, rfl⟩ rfl ?_
  intro y F hl hQ
  obtain ⟨sz, hQ⟩ := hQ
  refine nz_ent (lv' := [(0, .ref ko), (1, .ref o), (2, .int v2)]) rfl ?_
  unfold wp_X1_reachAndMark at h
  refine nz_aload_n F dX1_reachAndMark_0 rfl 0 rfl ?_
  refine nz_bipush (v := 11) F dX1_reachAndMark_1 (by decide) ?_
  refine k_X1_begin ko ka0 kr1 kf0 11 (fun hM => nz_runV F gX1_reachAndMark_X1_begin rfl hd_X1_begin rfl hM dX1_reachAndMark_3 [0, 1] rfl rfl 0 rfl rfl rfl (Nat.le_of_ble_eq_true rfl) rfl) h (fun m1 m2 => [(ko, .inr (1, [.ref ka0, .int m1])), (ka0, .inl (nz_cI g, 16, .inl m2)), (o, .inr (5, [.int r0, .int r1, .int r2, .int r3, .int r4, .int r5, .int r6, .int r7, .int r8, .ref a9, .ref a10, .ref a11, .ref a12, .ref a13, .ref a14, .ref a15, .ref a16])), (a9, .inl (nz_cI g, 6, .inl f9)), (a10, .inl (nz_cI g, 6, .inl f10)), (a11, .inl (nz_cI g, 6, .inl f11)), (a12, .inl (nz_cI g, 5, .inl f12)), (a13, .inl (nz_cI g, 5, .inl f13)), (a14, .inl (nz_cI g, 5, .inl f14)), (a15, .inl (nz_cI g, 5, .inl f15)), (a16, .inl (nz_cI g, 48, .inl f16))]) (fun _ _ => rfl) (fun m1 m2 h => ?_)
  refine nz_aload_n F dX1_reachAndMark_6 rfl 0 rfl ?_
  refine nz_bipush (v := 10) F dX1_reachAndMark_7 (by decide) ?_
  refine k_X1_begin ko ka0 m1 m2 10 (fun hM => nz_runV F gX1_reachAndMark_X1_begin rfl hd_X1_begin rfl hM dX1_reachAndMark_9 [0, 1] rfl rfl 0 rfl rfl rfl (Nat.le_of_ble_eq_true rfl) rfl) h (fun m3 m4 => [(ko, .inr (1, [.ref ka0, .int m3])), (ka0, .inl (nz_cI g, 16, .inl m4)), (o, .inr (5, [.int r0, .int r1, .int r2, .int r3, .int r4, .int r5, .int r6, .int r7, .int r8, .ref a9, .ref a10, .ref a11, .ref a12, .ref a13, .ref a14, .ref a15, .ref a16])), (a9, .inl (nz_cI g, 6, .inl f9)), (a10, .inl (nz_cI g, 6, .inl f10)), (a11, .inl (nz_cI g, 6, .inl f11)), (a12, .inl (nz_cI g, 5, .inl f12)), (a13, .inl (nz_cI g, 5, .inl f13)), (a14, .inl (nz_cI g, 5, .inl f14)), (a15, .inl (nz_cI g, 5, .inl f15)), (a16, .inl (nz_cI g, 48, .inl f16))]) (fun _ _ => rfl) (fun m3 m4 h => ?_)
  refine nz_aload_n F dX1_reachAndMark_12 rfl 1 rfl ?_
  refine nz_getN F iw_X1_reachAndMark_5 2 rfl rfl 15 (by decide) rfl fn_X1_reachAndMark_56 rfl dX1_reachAndMark_13 ?_
  refine nz_iload_n F dX1_reachAndMark_16 rfl 2 rfl ?_
  obtain ⟨i5, h⟩ := h
  refine nz_iald F 9 rfl i5 dX1_reachAndMark_17 ?_
  refine nz_aload_n F dX1_reachAndMark_18 rfl 0 rfl ?_
  refine nz_aload_n F dX1_reachAndMark_19 rfl 1 rfl ?_
  refine nz_iload_n F dX1_reachAndMark_20 rfl 2 rfl ?_
  refine k_X1_markOfInn ko ka0 o a9 a10 a11 a12 a13 a14 a15 a16 m3 m4 r0 r1 r2 r3 r4 r5 r6 r7 r8 f9 f10 f11 f12 f13 f14 f15 f16 v2 (fun hM => nz_runV F gX1_reachAndMark_X1_markOfInn rfl hd_X1_markOfInn rfl hM dX1_reachAndMark_21 [0, 1, 2, 3, 4, 5, 6, 7, 8, 9, 10] rfl rfl 0 rfl rfl rfl (Nat.le_of_ble_eq_true rfl) rfl) h (fun m7 m8 => [(ko, .inr (1, [.ref ka0, .int m7])), (ka0, .inl (nz_cI g, 16, .inl m8)), (o, .inr (5, [.int r0, .int r1, .int r2, .int r3, .int r4, .int r5, .int r6, .int r7, .int r8, .ref a9, .ref a10, .ref a11, .ref a12, .ref a13, .ref a14, .ref a15, .ref a16])), (a9, .inl (nz_cI g, 6, .inl f9)), (a10, .inl (nz_cI g, 6, .inl f10)), (a11, .inl (nz_cI g, 6, .inl f11)), (a12, .inl (nz_cI g, 5, .inl f12)), (a13, .inl (nz_cI g, 5, .inl f13)), (a14, .inl (nz_cI g, 5, .inl f14)), (a15, .inl (nz_cI g, 5, .inl f15)), (a16, .inl (nz_cI g, 48, .inl f16))]) (fun _ _ => rfl) (fun q6 m7 m8 h => ?_)
  refine nz_iadd F dX1_reachAndMark_24 ?_
  exact nz_iret F hQ (m7, m8) h rfl dX1_reachAndMark_25
theorem k_X1_reachAndMark {y : nz_Y} {g : nz_G} {k n : Nat} {ws : va_W} {pc : Nat} {ls : List (Nat × Value)} {st rest : List Value} {av : Array Value} {isC : List Nat} {K : Int32 → Int32 → (Nat → Int32) → Prop} (ko : Nat) (ka0 : Nat) (o : Nat) (a9 : Nat) (a10 : Nat) (a11 : Nat) (a12 : Nat) (a13 : Nat) (a14 : Nat) (a15 : Nat) (a16 : Nat) (kr1 : Int32) (kf0 : Nat → Int32) (r0 : Int32) (r1 : Int32) (r2 : Int32) (r3 : Int32) (r4 : Int32) (r5 : Int32) (r6 : Int32) (r7 : Int32) (r8 : Int32) (f9 : Nat → Int32) (f10 : Nat → Int32) (f11 : Nat → Int32) (f12 : Nat → Int32) (f13 : Nat → Int32) (f14 : Nat → Int32) (f15 : Nat → Int32) (f16 : Nat → Int32) (v2 : Int32) (run : nz_M (yz_l y) yX1_reachAndMark wsX1_reachAndMark rm_X1_reachAndMark g [.ref ko, .ref o, .int v2] [(ko, .inr (1, [.ref ka0, .int kr1])), (ka0, .inl (nz_cI g, 16, .inl kf0)), (o, .inr (5, [.int r0, .int r1, .int r2, .int r3, .int r4, .int r5, .int r6, .int r7, .int r8, .ref a9, .ref a10, .ref a11, .ref a12, .ref a13, .ref a14, .ref a15, .ref a16])), (a9, .inl (nz_cI g, 6, .inl f9)), (a10, .inl (nz_cI g, 6, .inl f10)), (a11, .inl (nz_cI g, 6, .inl f11)), (a12, .inl (nz_cI g, 5, .inl f12)), (a13, .inl (nz_cI g, 5, .inl f13)), (a14, .inl (nz_cI g, 5, .inl f14)), (a15, .inl (nz_cI g, 5, .inl f15)), (a16, .inl (nz_cI g, 48, .inl f16))] (nz_Qi g [(ko, .inr (1, [.ref ka0, .int kr1])), (ka0, .inl (nz_cI g, 16, .inl kf0)), (o, .inr (5, [.int r0, .int r1, .int r2, .int r3, .int r4, .int r5, .int r6, .int r7, .int r8, .ref a9, .ref a10, .ref a11, .ref a12, .ref a13, .ref a14, .ref a15, .ref a16])), (a9, .inl (nz_cI g, 6, .inl f9)), (a10, .inl (nz_cI g, 6, .inl f10)), (a11, .inl (nz_cI g, 6, .inl f11)), (a12, .inl (nz_cI g, 5, .inl f12)), (a13, .inl (nz_cI g, 5, .inl f13)), (a14, .inl (nz_cI g, 5, .inl f14)), (a15, .inl (nz_cI g, 5, .inl f15)), (a16, .inl (nz_cI g, 48, .inl f16))] (fun r (u : Int32 × (Nat → Int32)) => K r u.1 u.2) (fun u => [(ko, .inr (1, [.ref ka0, .int u.1])), (ka0, .inl (nz_cI g, 16, .inl u.2)), (o, .inr (5, [.int r0, .int r1, .int r2, .int r3, .int r4, .int r5, .int r6, .int r7, .int r8, .ref a9, .ref a10, .ref a11, .ref a12, .ref a13, .ref a14, .ref a15, .ref a16])), (a9, .inl (nz_cI g, 6, .inl f9)), (a10, .inl (nz_cI g, 6, .inl f10)), (a11, .inl (nz_cI g, 6, .inl f11)), (a12, .inl (nz_cI g, 5, .inl f12)), (a13, .inl (nz_cI g, 5, .inl f13)), (a14, .inl (nz_cI g, 5, .inl f14)), (a15, .inl (nz_cI g, 5, .inl f15)), (a16, .inl (nz_cI g, 48, .inl f16))])) → nz_C y g k n ws pc ls st rest [(ko, .inr (1, [.ref ka0, .int kr1])), (ka0, .inl (nz_cI g, 16, .inl kf0)), (o, .inr (5, [.int r0, .int r1, .int r2, .int r3, .int r4, .int r5, .int r6, .int r7, .int r8, .ref a9, .ref a10, .ref a11, .ref a12, .ref a13, .ref a14, .ref a15, .ref a16])), (a9, .inl (nz_cI g, 6, .inl f9)), (a10, .inl (nz_cI g, 6, .inl f10)), (a11, .inl (nz_cI g, 6, .inl f11)), (a12, .inl (nz_cI g, 5, .inl f12)), (a13, .inl (nz_cI g, 5, .inl f13)), (a14, .inl (nz_cI g, 5, .inl f14)), (a15, .inl (nz_cI g, 5, .inl f15)), (a16, .inl (nz_cI g, 48, .inl f16))] (nz_Qi g [(ko, .inr (1, [.ref ka0, .int kr1])), (ka0, .inl (nz_cI g, 16, .inl kf0)), (o, .inr (5, [.int r0, .int r1, .int r2, .int r3, .int r4, .int r5, .int r6, .int r7, .int r8, .ref a9, .ref a10, .ref a11, .ref a12, .ref a13, .ref a14, .ref a15, .ref a16])), (a9, .inl (nz_cI g, 6, .inl f9)), (a10, .inl (nz_cI g, 6, .inl f10)), (a11, .inl (nz_cI g, 6, .inl f11)), (a12, .inl (nz_cI g, 5, .inl f12)), (a13, .inl (nz_cI g, 5, .inl f13)), (a14, .inl (nz_cI g, 5, .inl f14)), (a15, .inl (nz_cI g, 5, .inl f15)), (a16, .inl (nz_cI g, 48, .inl f16))] (fun r (u : Int32 × (Nat → Int32)) => K r u.1 u.2) (fun u => [(ko, .inr (1, [.ref ka0, .int u.1])), (ka0, .inl (nz_cI g, 16, .inl u.2)), (o, .inr (5, [.int r0, .int r1, .int r2, .int r3, .int r4, .int r5, .int r6, .int r7, .int r8, .ref a9, .ref a10, .ref a11, .ref a12, .ref a13, .ref a14, .ref a15, .ref a16])), (a9, .inl (nz_cI g, 6, .inl f9)), (a10, .inl (nz_cI g, 6, .inl f10)), (a11, .inl (nz_cI g, 6, .inl f11)), (a12, .inl (nz_cI g, 5, .inl f12)), (a13, .inl (nz_cI g, 5, .inl f13)), (a14, .inl (nz_cI g, 5, .inl f14)), (a15, .inl (nz_cI g, 5, .inl f15)), (a16, .inl (nz_cI g, 48, .inl f16))])) av isC) (h : wp_X1_reachAndMark kr1 kf0 f10 f12 f13 f15 v2 K) (ws' : Int32 → (Nat → Int32) → va_W) (hm : ∀ (m0 : Int32) (m1 : (Nat → Int32)), nz_mrg ws isC [(ko, .inr (1, [.ref ka0, .int m0])), (ka0, .inl (nz_cI g, 16, .inl m1)), (o, .inr (5, [.int r0, .int r1, .int r2, .int r3, .int r4, .int r5, .int r6, .int r7, .int r8, .ref a9, .ref a10, .ref a11, .ref a12, .ref a13, .ref a14, .ref a15, .ref a16])), (a9, .inl (nz_cI g, 6, .inl f9)), (a10, .inl (nz_cI g, 6, .inl f10)), (a11, .inl (nz_cI g, 6, .inl f11)), (a12, .inl (nz_cI g, 5, .inl f12)), (a13, .inl (nz_cI g, 5, .inl f13)), (a14, .inl (nz_cI g, 5, .inl f14)), (a15, .inl (nz_cI g, 5, .inl f15)), (a16, .inl (nz_cI g, 48, .inl f16))] = ws' m0 m1) (kk : ∀ (r : Int32) (m0 : Int32) (m1 : (Nat → Int32)), K r m0 m1 → nz_V y g k n (ws' m0 m1) (pc + 3) ls (.int r :: rest)) : nz_V y g k n ws pc ls st :=
  nz_ci (ws' := fun u => ws' u.1 u.2) (run (c_X1_reachAndMark (yz_l y) g ko ka0 o a9 a10 a11 a12 a13 a14 a15 a16 kr1 kf0 r0 r1 r2 r3 r4 r5 r6 r7 r8 f9 f10 f11 f12 f13 f14 f15 f16 v2 K h)) (fun _ => rfl) (fun u => hm u.1 u.2) (fun r u h => kk r u.1 u.2 h)
theorem dX1_sizeOfInn_0 : decode cX1_sizeOfInn 0 = .ok (.aload_n 1, 1) := by decide +kernel
theorem dX1_sizeOfInn_1 : decode cX1_sizeOfInn 1 = .ok (.getfield 27, 3) := by decide +kernel
theorem dX1_sizeOfInn_4 : decode cX1_sizeOfInn 4 = .ok (.iload_n 2, 1) := by decide +kernel
theorem dX1_sizeOfInn_5 : decode cX1_sizeOfInn 5 = .ok (.iaload, 1) := by decide +kernel
theorem dX1_sizeOfInn_6 : decode cX1_sizeOfInn 6 = .ok (.iconst 2, 1) := by decide +kernel
theorem dX1_sizeOfInn_7 : decode cX1_sizeOfInn 7 = .ok (.if_icmp .ne 17, 3) := by decide +kernel
theorem dX1_sizeOfInn_10 : decode cX1_sizeOfInn 10 = .ok (.aload_n 0, 1) := by decide +kernel
theorem dX1_sizeOfInn_11 : decode cX1_sizeOfInn 11 = .ok (.bipush 12, 2) := by decide +kernel
theorem dX1_sizeOfInn_13 : decode cX1_sizeOfInn 13 = .ok (.invokevirtual 49, 3) := by decide +kernel
theorem dX1_sizeOfInn_16 : decode cX1_sizeOfInn 16 = .ok (.aload_n 0, 1) := by decide +kernel
theorem dX1_sizeOfInn_17 : decode cX1_sizeOfInn 17 = .ok (.aload_n 1, 1) := by decide +kernel
theorem dX1_sizeOfInn_18 : decode cX1_sizeOfInn 18 = .ok (.iload_n 2, 1) := by decide +kernel
theorem dX1_sizeOfInn_19 : decode cX1_sizeOfInn 19 = .ok (.invokevirtual 53, 3) := by decide +kernel
theorem dX1_sizeOfInn_22 : decode cX1_sizeOfInn 22 = .ok (.ineg, 1) := by decide +kernel
theorem dX1_sizeOfInn_23 : decode cX1_sizeOfInn 23 = .ok (.ireturn, 1) := by decide +kernel
theorem dX1_sizeOfInn_24 : decode cX1_sizeOfInn 24 = .ok (.aload_n 0, 1) := by decide +kernel
theorem dX1_sizeOfInn_25 : decode cX1_sizeOfInn 25 = .ok (.aload_n 1, 1) := by decide +kernel
theorem dX1_sizeOfInn_26 : decode cX1_sizeOfInn 26 = .ok (.iload_n 2, 1) := by decide +kernel
theorem dX1_sizeOfInn_27 : decode cX1_sizeOfInn 27 = .ok (.invokevirtual 53, 3) := by decide +kernel
theorem dX1_sizeOfInn_30 : decode cX1_sizeOfInn 30 = .ok (.ireturn, 1) := by decide +kernel
set_option maxRecDepth 20000 in
theorem ggX1_sizeOfInn_X1_begin : GoodIn wsX1_sizeOfInn wsX1_begin := goodIn_r _ [5, 6, 7, 37, 38] rfl (by decide +kernel)
set_option maxRecDepth 20000 in
theorem gX1_sizeOfInn_X1_begin : GoodIn wsX1_sizeOfInn (wsV RX1 49 RX1 yX1_begin wsX1_begin) := goodIn_app (goodIn_r _ [1, 2, 3, 4] rfl (by decide +kernel)) ggX1_sizeOfInn_X1_begin
set_option maxRecDepth 20000 in
theorem ggX1_sizeOfInn_X1_reachAndMark : GoodIn wsX1_sizeOfInn wsX1_reachAndMark := goodIn_r _ [11, 1, 2, 3, 4, 5, 6, 7, 12, 13, 14, 15, 16, 17, 18, 19, 20, 21, 22, 23, 24, 25, 26, 27, 28, 29, 30, 31, 32, 33, 34, 35, 36, 37, 38] rfl (by decide +kernel)
set_option maxRecDepth 20000 in
theorem gX1_sizeOfInn_X1_reachAndMark : GoodIn wsX1_sizeOfInn (wsV RX1 53 RX1 yX1_reachAndMark wsX1_reachAndMark) := goodIn_app (goodIn_r _ [8, 9, 10, 4] rfl (by decide +kernel)) ggX1_sizeOfInn_X1_reachAndMark
theorem hd_X1_reachAndMark : yX1_reachAndMark.cls = RX1 ∧ yX1_reachAndMark.cls ≠ "java/lang/invoke/MethodHandle" ∧ yX1_reachAndMark.cls ≠ "java/lang/invoke/VarHandle" ∧ (parseMethodDescriptor yX1_reachAndMark.desc).map (fun d => d.parameters.length) = some 2 := by decide +kernel
/-! X1_sizeOfInn -/
abbrev rm_X1_sizeOfInn : Room := { frames := 4, cells := 0, slots := 0, locals := 87 }
theorem iw_X1_sizeOfInn_5 : ∀ w ∈ wsX50, w ∈ wsX1_sizeOfInn := fun _ h => List.mem_cons_of_mem _ (List.mem_append_left _ (List.mem_append_right _ h))
theorem fn_X1_sizeOfInn_27 : Cond.fieldLinkNest RX1 27 "NightStones$Road" "kinds" "[I" RX7 ∈ nz_nest := List.mem_of_getElem? (i := 39) rfl
def wp_X1_sizeOfInn (kr1 : Int32) (kf0 : Nat → Int32) (f10 : Nat → Int32) (f12 : Nat → Int32) (f13 : Nat → Int32) (f15 : Nat → Int32) (v2 : Int32) (K : Int32 → Int32 → (Nat → Int32) → Prop) : Prop := (vp_in v2 5 ∧ ((¬ (f12 v2.toNatClampNeg) = 2 → wp_X1_reachAndMark kr1 kf0 f10 f12 f13 f15 v2 (fun q3 m4 m5 => K q3 m4 m5)) ∧ ((f12 v2.toNatClampNeg) = 2 → wp_X1_begin kr1 kf0 12 (fun m6 m7 => wp_X1_reachAndMark m6 m7 f10 f12 f13 f15 v2 (fun q8 m9 m10 => K (-q8) m9 m10)))))
set_option maxHeartbeats 4000000 in
set_option maxRecDepth 100000 in
theorem c_X1_sizeOfInn (l : Launch) (g : nz_G) (ko : Nat) (ka0 : Nat) (o : Nat) (a9 : Nat) (a10 : Nat) (a11 : Nat) (a12 : Nat) (a13 : Nat) (a14 : Nat) (a15 : Nat) (a16 : Nat) (kr1 : Int32) (kf0 : Nat → Int32) (r0 : Int32) (r1 : Int32) (r2 : Int32) (r3 : Int32) (r4 : Int32) (r5 : Int32) (r6 : Int32) (r7 : Int32) (r8 : Int32) (f9 : Nat → Int32) (f10 : Nat → Int32) (f11 : Nat → Int32) (f12 : Nat → Int32) (f13 : Nat → Int32) (f14 : Nat → Int32) (f15 : Nat → Int32) (f16 : Nat → Int32) (v2 : Int32) (K : Int32 → Int32 → (Nat → Int32) → Prop) (h : wp_X1_sizeOfInn kr1 kf0 f10 f12 f13 f15 v2 K) : nz_M l yX1_sizeOfInn wsX1_sizeOfInn rm_X1_sizeOfInn g [.ref ko, .ref o, .int v2] [(ko, .inr (1, [.ref ka0, .int kr1])), (ka0, .inl (nz_cI g, 16, .inl kf0)), (o, .inr (5, [.int r0, .int r1, .int r2, .int r3, .int r4, .int r5, .int r6, .int r7, .int r8, .ref a9, .ref a10, .ref a11, .ref a12, .ref a13, .ref a14, .ref a15, .ref a16])), (a9, .inl (nz_cI g, 6, .inl f9)), (a10, .inl (nz_cI g, 6, .inl f10)), (a11, .inl (nz_cI g, 6, .inl f11)), (a12, .inl (nz_cI g, 5, .inl f12)), (a13, .inl (nz_cI g, 5, .inl f13)), (a14, .inl (nz_cI g, 5, .inl f14)), (a15, .inl (nz_cI g, 5, .inl f15)), (a16, .inl (nz_cI g, 48, .inl f16))] (nz_Qi g [(ko, .inr (1, [.ref ka0, .int kr1])), (ka0, .inl (nz_cI g, 16, .inl kf0)), (o, .inr (5, [.int r0, .int r1, .int r2, .int r3, .int r4, .int r5, .int r6, .int r7, .int r8, .ref a9, .ref a10, .ref a11, .ref a12, .ref a13, .ref a14, .ref a15, .ref a16])), (a9, .inl (nz_cI g, 6, .inl f9)), (a10, .inl (nz_cI g, 6, .inl f10)), (a11, .inl (nz_cI g, 6, .inl f11)), (a12, .inl (nz_cI g, 5, .inl f12)), (a13, .inl (nz_cI g, 5, .inl f13)), (a14, .inl (nz_cI g, 5, .inl f14)), (a15, .inl (nz_cI g, 5, .inl f15)), (a16, .inl (nz_cI g, 48, .inl f16))] (fun r (u : Int32 × (Nat → Int32)) => K r u.1 u.2) (fun u => [(ko, .inr (1, [.ref ka0, .int u.1])), (ka0, .inl (nz_cI g, 16, .inl u.2)), (o, .inr (5, [.int r0, .int r1, .int r2, .int r3, .int r4, .int r5, .int r6, .int r7, .int r8, .ref a9, .ref a10, .ref a11, .ref a12, .ref a13, .ref a14, .ref a15, .ref a16])), (a9, .inl (nz_cI g, 6, .inl f9)), (a10, .inl (nz_cI g, 6, .inl f10)), (a11, .inl (nz_cI g, 6, .inl f11)), (a12, .inl (nz_cI g, 5, .inl f12)), (a13, .inl (nz_cI g, 5, .inl f13)), (a14, .inl (nz_cI g, 5, .inl f14)), (a15, .inl (nz_cI g, 5, .inl f15)), (a16, .inl (nz_cI g, 48, .inl f16))])) := by
  refine nz_M.of (bytes := cX1_sizeOfInn) (nL := 3) (ret := (some .int)) (own := RX1) (by decide) rfl rfl ⟨rfl, rfl⟩ rfl ?_
  intro y F hl hQ
  obtain ⟨sz, hQ⟩ := hQ
  refine nz_ent (lv' := [(0, .ref ko), (1, .ref o), (2, .int v2)]) rfl ?_
  unfold wp_X1_sizeOfInn at h
  refine nz_aload_n F dX1_sizeOfInn_0 rfl 1 rfl ?_
  refine nz_getN F iw_X1_sizeOfInn_5 2 rfl rfl 12 (by decide) rfl fn_X1_sizeOfInn_27 rfl dX1_sizeOfInn_1 ?_
  refine nz_iload_n F dX1_sizeOfInn_4 rfl 2 rfl ?_
  obtain ⟨i1, h⟩ := h
  refine nz_iald F 6 rfl i1 dX1_sizeOfInn_5 ?_
  refine nz_iconst (v := 2) F dX1_sizeOfInn_6 (by decide) ?_
  refine nz_icmp_ne (tgt := 24) F dX1_sizeOfInn_7 (by decide) (fun c2 => ?_) (fun c2 => ?_)
  · have h := h.1 c2
    refine nz_aload_n F dX1_sizeOfInn_24 rfl 0 rfl ?_
    refine nz_aload_n F dX1_sizeOfInn_25 rfl 1 rfl ?_
    refine nz_iload_n F dX1_sizeOfInn_26 rfl 2 rfl ?_
    refine k_X1_reachAndMark ko ka0 o a9 a10 a11 a12 a13 a14 a15 a16 kr1 kf0 r0 r1 r2 r3 r4 r5 r6 r7 r8 f9 f10 f11 f12 f13 f14 f15 f16 v2 (fun hM => nz_runV F gX1_sizeOfInn_X1_reachAndMark rfl hd_X1_reachAndMark rfl hM dX1_sizeOfInn_27 [0, 1, 2, 3, 4, 5, 6, 7, 8, 9, 10] rfl rfl 0 rfl rfl rfl (Nat.le_of_ble_eq_true rfl) rfl) h (fun m4 m5 => [(ko, .inr (1, [.ref ka0, .int m4])), (ka0, .inl (nz_cI g, 16, .inl m5)), (o, .inr (5, [.int r0, .int r1, .int r2, .int r3, .int r4, .int r5, .int r6, .int r7, .int r8, .ref a9, .ref a10, .ref a11, .ref a12, .ref a13, .ref a14, .ref a15, .ref a16])), (a9, .inl (nz_cI g, 6, .inl f9)), (a10, .inl (nz_cI g, 6, .inl f10)), (a11, .inl (nz_cI g, 6, .inl f11)), (a12, .inl (nz_cI g, 5, .inl f12)), (a13, .inl (nz_cI g, 5, .inl f13)), (a14, .inl (nz_cI g, 5, .inl f14)), (a15, .inl (nz_cI g, 5, .inl f15)), (a16, .inl (nz_cI g, 48, .inl f16))]) (fun _ _ => rfl) (fun q3 m4 m5 h => ?_)
    exact nz_iret F hQ (m4, m5) h rfl dX1_sizeOfInn_30
  · have h := h.2 c2
    refine nz_aload_n F dX1_sizeOfInn_10 rfl 0 rfl ?_
    refine nz_bipush (v := 12) F dX1_sizeOfInn_11 (by decide) ?_
    refine k_X1_begin ko ka0 kr1 kf0 12 (fun hM => nz_runV F gX1_sizeOfInn_X1_begin rfl hd_X1_begin rfl hM dX1_sizeOfInn_13 [0, 1] rfl rfl 0 rfl rfl rfl (Nat.le_of_ble_eq_true rfl) rfl) h (fun m6 m7 => [(ko, .inr (1, [.ref ka0, .int m6])), (ka0, .inl (nz_cI g, 16, .inl m7)), (o, .inr (5, [.int r0, .int r1, .int r2, .int r3, .int r4, .int r5, .int r6, .int r7, .int r8, .ref a9, .ref a10, .ref a11, .ref a12, .ref a13, .ref a14, .ref a15, .ref a16])), (a9, .inl (nz_cI g, 6, .inl f9)), (a10, .inl (nz_cI g, 6, .inl f10)), (a11, .inl (nz_cI g, 6, .inl f11)), (a12, .inl (nz_cI g, 5, .inl f12)), (a13, .inl (nz_cI g, 5, .inl f13)), (a14, .inl (nz_cI g, 5, .inl f14)), (a15, .inl (nz_cI g, 5, .inl f15)), (a16, .inl (nz_cI g, 48, .inl f16))]) (fun _ _ => rfl) (fun m6 m7 h => ?_)
    refine nz_aload_n F dX1_sizeOfInn_16 rfl 0 rfl ?_
    refine nz_aload_n F dX1_sizeOfInn_17 rfl 1 rfl ?_
    refine nz_iload_n F dX1_sizeOfInn_18 rfl 2 rfl ?_
    refine k_X1_reachAndMark ko ka0 o a9 a10 a11 a12 a13 a14 a15 a16 m6 m7 r0 r1 r2 r3 r4 r5 r6 r7 r8 f9 f10 f11 f12 f13 f14 f15 f16 v2 (fun hM => nz_runV F gX1_sizeOfInn_X1_reachAndMark rfl hd_X1_reachAndMark rfl hM dX1_sizeOfInn_19 [0, 1, 2, 3, 4, 5, 6, 7, 8, 9, 10] rfl rfl 0 rfl rfl rfl (Nat.le_of_ble_eq_true rfl) rfl) h (fun m9 m10 => [(ko, .inr (1, [.ref ka0, .int m9])), (ka0, .inl (nz_cI g, 16, .inl m10)), (o, .inr (5, [.int r0, .int r1, .int r2, .int r3, .int r4, .int r5, .int r6, .int r7, .int r8, .ref a9, .ref a10, .ref a11, .ref a12, .ref a13, .ref a14, .ref a15, .ref a16])), (a9, .inl (nz_cI g, 6, .inl f9)), (a10, .inl (nz_cI g, 6, .inl f10)), (a11, .inl (nz_cI g, 6, .inl f11)), (a12, .inl (nz_cI g, 5, .inl f12)), (a13, .inl (nz_cI g, 5, .inl f13)), (a14, .inl (nz_cI g, 5, .inl f14)), (a15, .inl (nz_cI g, 5, .inl f15)), (a16, .inl (nz_cI g, 48, .inl f16))]) (fun _ _ => rfl) (fun q8 m9 m10 h => ?_)
    refine nz_ineg F dX1_sizeOfInn_22 ?_
    exact nz_iret F hQ (m9, m10) h rfl dX1_sizeOfInn_23
theorem k_X1_sizeOfInn {y : nz_Y} {g : nz_G} {k n : Nat} {ws : va_W} {pc : Nat} {ls : List (Nat × Value)} {st rest : List Value} {av : Array Value} {isC : List Nat} {K : Int32 → Int32 → (Nat → Int32) → Prop} (ko : Nat) (ka0 : Nat) (o : Nat) (a9 : Nat) (a10 : Nat) (a11 : Nat) (a12 : Nat) (a13 : Nat) (a14 : Nat) (a15 : Nat) (a16 : Nat) (kr1 : Int32) (kf0 : Nat → Int32) (r0 : Int32) (r1 : Int32) (r2 : Int32) (r3 : Int32) (r4 : Int32) (r5 : Int32) (r6 : Int32) (r7 : Int32) (r8 : Int32) (f9 : Nat → Int32) (f10 : Nat → Int32) (f11 : Nat → Int32) (f12 : Nat → Int32) (f13 : Nat → Int32) (f14 : Nat → Int32) (f15 : Nat → Int32) (f16 : Nat → Int32) (v2 : Int32) (run : nz_M (yz_l y) yX1_sizeOfInn wsX1_sizeOfInn rm_X1_sizeOfInn g [.ref ko, .ref o, .int v2] [(ko, .inr (1, [.ref ka0, .int kr1])), (ka0, .inl (nz_cI g, 16, .inl kf0)), (o, .inr (5, [.int r0, .int r1, .int r2, .int r3, .int r4, .int r5, .int r6, .int r7, .int r8, .ref a9, .ref a10, .ref a11, .ref a12, .ref a13, .ref a14, .ref a15, .ref a16])), (a9, .inl (nz_cI g, 6, .inl f9)), (a10, .inl (nz_cI g, 6, .inl f10)), (a11, .inl (nz_cI g, 6, .inl f11)), (a12, .inl (nz_cI g, 5, .inl f12)), (a13, .inl (nz_cI g, 5, .inl f13)), (a14, .inl (nz_cI g, 5, .inl f14)), (a15, .inl (nz_cI g, 5, .inl f15)), (a16, .inl (nz_cI g, 48, .inl f16))] (nz_Qi g [(ko, .inr (1, [.ref ka0, .int kr1])), (ka0, .inl (nz_cI g, 16, .inl kf0)), (o, .inr (5, [.int r0, .int r1, .int r2, .int r3, .int r4, .int r5, .int r6, .int r7, .int r8, .ref a9, .ref a10, .ref a11, .ref a12, .ref a13, .ref a14, .ref a15, .ref a16])), (a9, .inl (nz_cI g, 6, .inl f9)), (a10, .inl (nz_cI g, 6, .inl f10)), (a11, .inl (nz_cI g, 6, .inl f11)), (a12, .inl (nz_cI g, 5, .inl f12)), (a13, .inl (nz_cI g, 5, .inl f13)), (a14, .inl (nz_cI g, 5, .inl f14)), (a15, .inl (nz_cI g, 5, .inl f15)), (a16, .inl (nz_cI g, 48, .inl f16))] (fun r (u : Int32 × (Nat → Int32)) => K r u.1 u.2) (fun u => [(ko, .inr (1, [.ref ka0, .int u.1])), (ka0, .inl (nz_cI g, 16, .inl u.2)), (o, .inr (5, [.int r0, .int r1, .int r2, .int r3, .int r4, .int r5, .int r6, .int r7, .int r8, .ref a9, .ref a10, .ref a11, .ref a12, .ref a13, .ref a14, .ref a15, .ref a16])), (a9, .inl (nz_cI g, 6, .inl f9)), (a10, .inl (nz_cI g, 6, .inl f10)), (a11, .inl (nz_cI g, 6, .inl f11)), (a12, .inl (nz_cI g, 5, .inl f12)), (a13, .inl (nz_cI g, 5, .inl f13)), (a14, .inl (nz_cI g, 5, .inl f14)), (a15, .inl (nz_cI g, 5, .inl f15)), (a16, .inl (nz_cI g, 48, .inl f16))])) → nz_C y g k n ws pc ls st rest [(ko, .inr (1, [.ref ka0, .int kr1])), (ka0, .inl (nz_cI g, 16, .inl kf0)), (o, .inr (5, [.int r0, .int r1, .int r2, .int r3, .int r4, .int r5, .int r6, .int r7, .int r8, .ref a9, .ref a10, .ref a11, .ref a12, .ref a13, .ref a14, .ref a15, .ref a16])), (a9, .inl (nz_cI g, 6, .inl f9)), (a10, .inl (nz_cI g, 6, .inl f10)), (a11, .inl (nz_cI g, 6, .inl f11)), (a12, .inl (nz_cI g, 5, .inl f12)), (a13, .inl (nz_cI g, 5, .inl f13)), (a14, .inl (nz_cI g, 5, .inl f14)), (a15, .inl (nz_cI g, 5, .inl f15)), (a16, .inl (nz_cI g, 48, .inl f16))] (nz_Qi g [(ko, .inr (1, [.ref ka0, .int kr1])), (ka0, .inl (nz_cI g, 16, .inl kf0)), (o, .inr (5, [.int r0, .int r1, .int r2, .int r3, .int r4, .int r5, .int r6, .int r7, .int r8, .ref a9, .ref a10, .ref a11, .ref a12, .ref a13, .ref a14, .ref a15, .ref a16])), (a9, .inl (nz_cI g, 6, .inl f9)), (a10, .inl (nz_cI g, 6, .inl f10)), (a11, .inl (nz_cI g, 6, .inl f11)), (a12, .inl (nz_cI g, 5, .inl f12)), (a13, .inl (nz_cI g, 5, .inl f13)), (a14, .inl (nz_cI g, 5, .inl f14)), (a15, .inl (nz_cI g, 5, .inl f15)), (a16, .inl (nz_cI g, 48, .inl f16))] (fun r (u : Int32 × (Nat → Int32)) => K r u.1 u.2) (fun u => [(ko, .inr (1, [.ref ka0, .int u.1])), (ka0, .inl (nz_cI g, 16, .inl u.2)), (o, .inr (5, [.int r0, .int r1, .int r2, .int r3, .int r4, .int r5, .int r6, .int r7, .int r8, .ref a9, .ref a10, .ref a11, .ref a12, .ref a13, .ref a14, .ref a15, .ref a16])), (a9, .inl (nz_cI g, 6, .inl f9)), (a10, .inl (nz_cI g, 6, .inl f10)), (a11, .inl (nz_cI g, 6, .inl f11)), (a12, .inl (nz_cI g, 5, .inl f12)), (a13, .inl (nz_cI g, 5, .inl f13)), (a14, .inl (nz_cI g, 5, .inl f14)), (a15, .inl (nz_cI g, 5, .inl f15)), (a16, .inl (nz_cI g, 48, .inl f16))])) av isC) (h : wp_X1_sizeOfInn kr1 kf0 f10 f12 f13 f15 v2 K) (ws' : Int32 → (Nat → Int32) → va_W) (hm : ∀ (m0 : Int32) (m1 : (Nat → Int32)), nz_mrg ws isC [(ko, .inr (1, [.ref ka0, .int m0])), (ka0, .inl (nz_cI g, 16, .inl m1)), (o, .inr (5, [.int r0, .int r1, .int r2, .int r3, .int r4, .int r5, .int r6, .int r7, .int r8, .ref a9, .ref a10, .ref a11, .ref a12, .ref a13, .ref a14, .ref a15, .ref a16])), (a9, .inl (nz_cI g, 6, .inl f9)), (a10, .inl (nz_cI g, 6, .inl f10)), (a11, .inl (nz_cI g, 6, .inl f11)), (a12, .inl (nz_cI g, 5, .inl f12)), (a13, .inl (nz_cI g, 5, .inl f13)), (a14, .inl (nz_cI g, 5, .inl f14)), (a15, .inl (nz_cI g, 5, .inl f15)), (a16, .inl (nz_cI g, 48, .inl f16))] = ws' m0 m1) (kk : ∀ (r : Int32) (m0 : Int32) (m1 : (Nat → Int32)), K r m0 m1 → nz_V y g k n (ws' m0 m1) (pc + 3) ls (.int r :: rest)) : nz_V y g k n ws pc ls st :=
  nz_ci (ws' := fun u => ws' u.1 u.2) (run (c_X1_sizeOfInn (yz_l y) g ko ka0 o a9 a10 a11 a12 a13 a14 a15 a16 kr1 kf0 r0 r1 r2 r3 r4 r5 r6 r7 r8 f9 f10 f11 f12 f13 f14 f15 f16 v2 K h)) (fun _ => rfl) (fun u => hm u.1 u.2) (fun r u h => kk r u.1 u.2 h)
theorem dX1_sizeOf_0 : decode cX1_sizeOf 0 = .ok (.aload_n 1, 1) := by decide +kernel
theorem dX1_sizeOf_1 : decode cX1_sizeOf 1 = .ok (.getfield 27, 3) := by decide +kernel
theorem dX1_sizeOf_4 : decode cX1_sizeOf 4 = .ok (.iload_n 2, 1) := by decide +kernel
theorem dX1_sizeOf_5 : decode cX1_sizeOf 5 = .ok (.iaload, 1) := by decide +kernel
theorem dX1_sizeOf_6 : decode cX1_sizeOf 6 = .ok (.iconst 4, 1) := by decide +kernel
theorem dX1_sizeOf_7 : decode cX1_sizeOf 7 = .ok (.invokestatic 32, 3) := by decide +kernel
theorem dX1_sizeOf_10 : decode cX1_sizeOf 10 = .ok (.ifCond .eq 12, 3) := by decide +kernel
theorem dX1_sizeOf_13 : decode cX1_sizeOf 13 = .ok (.aload_n 0, 1) := by decide +kernel
theorem dX1_sizeOf_14 : decode cX1_sizeOf 14 = .ok (.aload_n 1, 1) := by decide +kernel
theorem dX1_sizeOf_15 : decode cX1_sizeOf 15 = .ok (.iload_n 2, 1) := by decide +kernel
theorem dX1_sizeOf_16 : decode cX1_sizeOf 16 = .ok (.invokevirtual 36, 3) := by decide +kernel
theorem dX1_sizeOf_19 : decode cX1_sizeOf 19 = .ok (.goto 9, 3) := by decide +kernel
theorem dX1_sizeOf_22 : decode cX1_sizeOf 22 = .ok (.aload_n 0, 1) := by decide +kernel
theorem dX1_sizeOf_23 : decode cX1_sizeOf 23 = .ok (.aload_n 1, 1) := by decide +kernel
theorem dX1_sizeOf_24 : decode cX1_sizeOf 24 = .ok (.iload_n 2, 1) := by decide +kernel
theorem dX1_sizeOf_25 : decode cX1_sizeOf 25 = .ok (.invokevirtual 40, 3) := by decide +kernel
theorem dX1_sizeOf_28 : decode cX1_sizeOf 28 = .ok (.ireturn, 1) := by decide +kernel
set_option maxRecDepth 20000 in
theorem ggX1_sizeOf_X1_isOne : GoodIn wsX1_sizeOf wsX1_isOne := goodIn_r _ [4, 5, 6, 7, 8] rfl (by decide +kernel)
set_option maxRecDepth 20000 in
theorem gX1_sizeOf_X1_isOne : GoodIn wsX1_sizeOf (va_wsS RX1 32 yX1_isOne wsX1_isOne) := goodIn_app (goodIn_r _ [1, 2, 3] rfl (by decide +kernel)) ggX1_sizeOf_X1_isOne
set_option maxRecDepth 20000 in
theorem ggX1_sizeOf_X1_sizeOfInn : GoodIn wsX1_sizeOf wsX1_sizeOfInn := goodIn_r _ [22, 13, 14, 15, 3, 16, 17, 18, 23, 24, 25, 26, 27, 28, 29, 30, 31, 32, 33, 34, 35, 36, 37, 38, 39, 40, 41, 42, 43, 44, 45, 46, 47, 48, 49, 50, 51, 52, 53] rfl (by decide +kernel)
set_option maxRecDepth 20000 in
theorem gX1_sizeOf_X1_sizeOfInn : GoodIn wsX1_sizeOf (wsV RX1 40 RX1 yX1_sizeOfInn wsX1_sizeOfInn) := goodIn_app (goodIn_r _ [19, 20, 21, 3] rfl (by decide +kernel)) ggX1_sizeOf_X1_sizeOfInn
set_option maxRecDepth 20000 in
theorem ggX1_sizeOf_X1_sizeOfThief : GoodIn wsX1_sizeOf wsX1_sizeOfThief := goodIn_r _ [12, 13, 14, 15, 3, 16, 17, 18, 35, 36, 37, 38, 39, 40, 41, 42, 43, 44, 45, 46, 47, 48, 49, 50, 51, 52, 53] rfl (by decide +kernel)
set_option maxRecDepth 20000 in
theorem gX1_sizeOf_X1_sizeOfThief : GoodIn wsX1_sizeOf (wsV RX1 36 RX1 yX1_sizeOfThief wsX1_sizeOfThief) := goodIn_app (goodIn_r _ [9, 10, 11, 3] rfl (by decide +kernel)) ggX1_sizeOf_X1_sizeOfThief
theorem hd_X1_isOne : yX1_isOne.cls = RX1 ∧ yX1_isOne.cls ≠ "java/lang/invoke/MethodHandle" ∧ yX1_isOne.cls ≠ "java/lang/invoke/VarHandle" ∧ (parseMethodDescriptor yX1_isOne.desc).map (fun d => d.parameters.length) = some 2 := by decide +kernel
theorem hd_X1_sizeOfInn : yX1_sizeOfInn.cls = RX1 ∧ yX1_sizeOfInn.cls ≠ "java/lang/invoke/MethodHandle" ∧ yX1_sizeOfInn.cls ≠ "java/lang/invoke/VarHandle" ∧ (parseMethodDescriptor yX1_sizeOfInn.desc).map (fun d => d.parameters.length) = some 2 := by decide +kernel
/-! X1_sizeOf -/
abbrev rm_X1_sizeOf : Room := { frames := 5, cells := 0, slots := 0, locals := 109 }
theorem iw_X1_sizeOf_5 : ∀ w ∈ wsX50, w ∈ wsX1_sizeOf := fun _ h => List.mem_cons_of_mem _ (List.mem_append_left _ (List.mem_append_right _ h))
theorem fn_X1_sizeOf_27 : Cond.fieldLinkNest RX1 27 "NightStones$Road" "kinds" "[I" RX7 ∈ nz_nest := List.mem_of_getElem? (i := 39) rfl
def wp_X1_sizeOf (kr1 : Int32) (kf0 : Nat → Int32) (f10 : Nat → Int32) (f12 : Nat → Int32) (f13 : Nat → Int32) (f15 : Nat → Int32) (v2 : Int32) (K : Int32 → Int32 → (Nat → Int32) → Prop) : Prop := (vp_in v2 5 ∧ wp_X1_isOne (f12 v2.toNatClampNeg) 4 (fun q2 => ((q2 = 0 → wp_X1_sizeOfInn kr1 kf0 f10 f12 f13 f15 v2 (fun q4 m5 m6 => K q4 m5 m6)) ∧ (¬ (q2 = 0) → wp_X1_sizeOfThief kr1 kf0 f12 f15 v2 (fun q7 m8 m9 => K q7 m8 m9)))))
set_option maxHeartbeats 4000000 in
set_option maxRecDepth 100000 in
theorem c_X1_sizeOf (l : Launch) (g : nz_G) (ko : Nat) (ka0 : Nat) (o : Nat) (a9 : Nat) (a10 : Nat) (a11 : Nat) (a12 : Nat) (a13 : Nat) (a14 : Nat) (a15 : Nat) (a16 : Nat) (kr1 : Int32) (kf0 : Nat → Int32) (r0 : Int32) (r1 : Int32) (r2 : Int32) (r3 : Int32) (r4 : Int32) (r5 : Int32) (r6 : Int32) (r7 : Int32) (r8 : Int32) (f9 : Nat → Int32) (f10 : Nat → Int32) (f11 : Nat → Int32) (f12 : Nat → Int32) (f13 : Nat → Int32) (f14 : Nat → Int32) (f15 : Nat → Int32) (f16 : Nat → Int32) (v2 : Int32) (K : Int32 → Int32 → (Nat → Int32) → Prop) (h : wp_X1_sizeOf kr1 kf0 f10 f12 f13 f15 v2 K) : nz_M l yX1_sizeOf wsX1_sizeOf rm_X1_sizeOf g [.ref ko, .ref o, .int v2] [(ko, .inr (1, [.ref ka0, .int kr1])), (ka0, .inl (nz_cI g, 16, .inl kf0)), (o, .inr (5, [.int r0, .int r1, .int r2, .int r3, .int r4, .int r5, .int r6, .int r7, .int r8, .ref a9, .ref a10, .ref a11, .ref a12, .ref a13, .ref a14, .ref a15, .ref a16])), (a9, .inl (nz_cI g, 6, .inl f9)), (a10, .inl (nz_cI g, 6, .inl f10)), (a11, .inl (nz_cI g, 6, .inl f11)), (a12, .inl (nz_cI g, 5, .inl f12)), (a13, .inl (nz_cI g, 5, .inl f13)), (a14, .inl (nz_cI g, 5, .inl f14)), (a15, .inl (nz_cI g, 5, .inl f15)), (a16, .inl (nz_cI g, 48, .inl f16))] (nz_Qi g [(ko, .inr (1, [.ref ka0, .int kr1])), (ka0, .inl (nz_cI g, 16, .inl kf0)), (o, .inr (5, [.int r0, .int r1, .int r2, .int r3, .int r4, .int r5, .int r6, .int r7, .int r8, .ref a9, .ref a10, .ref a11, .ref a12, .ref a13, .ref a14, .ref a15, .ref a16])), (a9, .inl (nz_cI g, 6, .inl f9)), (a10, .inl (nz_cI g, 6, .inl f10)), (a11, .inl (nz_cI g, 6, .inl f11)), (a12, .inl (nz_cI g, 5, .inl f12)), (a13, .inl (nz_cI g, 5, .inl f13)), (a14, .inl (nz_cI g, 5, .inl f14)), (a15, .inl (nz_cI g, 5, .inl f15)), (a16, .inl (nz_cI g, 48, .inl f16))] (fun r (u : Int32 × (Nat → Int32)) => K r u.1 u.2) (fun u => [(ko, .inr (1, [.ref ka0, .int u.1])), (ka0, .inl (nz_cI g, 16, .inl u.2)), (o, .inr (5, [.int r0, .int r1, .int r2, .int r3, .int r4, .int r5, .int r6, .int r7, .int r8, .ref a9, .ref a10, .ref a11, .ref a12, .ref a13, .ref a14, .ref a15, .ref a16])), (a9, .inl (nz_cI g, 6, .inl f9)), (a10, .inl (nz_cI g, 6, .inl f10)), (a11, .inl (nz_cI g, 6, .inl f11)), (a12, .inl (nz_cI g, 5, .inl f12)), (a13, .inl (nz_cI g, 5, .inl f13)), (a14, .inl (nz_cI g, 5, .inl f14)), (a15, .inl (nz_cI g, 5, .inl f15)), (a16, .inl (nz_cI g, 48, .inl f16))])) := by
  refine nz_M.of (bytes := cX1_sizeOf) (nL := 3) (ret := (some .int)) (own := RX1) (by decide) rfl rfl ⟨rfl, rfl⟩ rfl ?_
  intro y F hl hQ
  obtain ⟨sz, hQ⟩ := hQ
  refine nz_ent (lv' := [(0, .ref ko), (1, .ref o), (2, .int v2)]) rfl ?_
  unfold wp_X1_sizeOf at h
  refine nz_aload_n F dX1_sizeOf_0 rfl 1 rfl ?_
  refine nz_getN F iw_X1_sizeOf_5 2 rfl rfl 12 (by decide) rfl fn_X1_sizeOf_27 rfl dX1_sizeOf_1 ?_
  refine nz_iload_n F dX1_sizeOf_4 rfl 2 rfl ?_
  obtain ⟨i1, h⟩ := h
  refine nz_iald F 6 rfl i1 dX1_sizeOf_5 ?_
  refine nz_iconst (v := 4) F dX1_sizeOf_6 (by decide) ?_
  refine k_X1_isOne (f12 v2.toNatClampNeg) 4 (fun hM => nz_runS F gX1_sizeOf_X1_isOne rfl hd_X1_isOne.2 rfl hM dX1_sizeOf_7 [] rfl rfl rfl (Nat.le_of_ble_eq_true rfl) rfl) h ([(ko, .inr (1, [.ref ka0, .int kr1])), (ka0, .inl (nz_cI g, 16, .inl kf0)), (o, .inr (5, [.int r0, .int r1, .int r2, .int r3, .int r4, .int r5, .int r6, .int r7, .int r8, .ref a9, .ref a10, .ref a11, .ref a12, .ref a13, .ref a14, .ref a15, .ref a16])), (a9, .inl (nz_cI g, 6, .inl f9)), (a10, .inl (nz_cI g, 6, .inl f10)), (a11, .inl (nz_cI g, 6, .inl f11)), (a12, .inl (nz_cI g, 5, .inl f12)), (a13, .inl (nz_cI g, 5, .inl f13)), (a14, .inl (nz_cI g, 5, .inl f14)), (a15, .inl (nz_cI g, 5, .inl f15)), (a16, .inl (nz_cI g, 48, .inl f16))]) (rfl) (fun q2 h => ?_)
  refine nz_if_eq (tgt := 22) F dX1_sizeOf_10 (by decide) (fun c3 => ?_) (fun c3 => ?_)
  · have h := h.1 c3
    refine nz_aload_n F dX1_sizeOf_22 rfl 0 rfl ?_
    refine nz_aload_n F dX1_sizeOf_23 rfl 1 rfl ?_
    refine nz_iload_n F dX1_sizeOf_24 rfl 2 rfl ?_
    refine k_X1_sizeOfInn ko ka0 o a9 a10 a11 a12 a13 a14 a15 a16 kr1 kf0 r0 r1 r2 r3 r4 r5 r6 r7 r8 f9 f10 f11 f12 f13 f14 f15 f16 v2 (fun hM => nz_runV F gX1_sizeOf_X1_sizeOfInn rfl hd_X1_sizeOfInn rfl hM dX1_sizeOf_25 [0, 1, 2, 3, 4, 5, 6, 7, 8, 9, 10] rfl rfl 0 rfl rfl rfl (Nat.le_of_ble_eq_true rfl) rfl) h (fun m5 m6 => [(ko, .inr (1, [.ref ka0, .int m5])), (ka0, .inl (nz_cI g, 16, .inl m6)), (o, .inr (5, [.int r0, .int r1, .int r2, .int r3, .int r4, .int r5, .int r6, .int r7, .int r8, .ref a9, .ref a10, .ref a11, .ref a12, .ref a13, .ref a14, .ref a15, .ref a16])), (a9, .inl (nz_cI g, 6, .inl f9)), (a10, .inl (nz_cI g, 6, .inl f10)), (a11, .inl (nz_cI g, 6, .inl f11)), (a12, .inl (nz_cI g, 5, .inl f12)), (a13, .inl (nz_cI g, 5, .inl f13)), (a14, .inl (nz_cI g, 5, .inl f14)), (a15, .inl (nz_cI g, 5, .inl f15)), (a16, .inl (nz_cI g, 48, .inl f16))]) (fun _ _ => rfl) (fun q4 m5 m6 h => ?_)
    exact nz_iret F hQ (m5, m6) h rfl dX1_sizeOf_28
  · have h := h.2 c3
    refine nz_aload_n F dX1_sizeOf_13 rfl 0 rfl ?_
    refine nz_aload_n F dX1_sizeOf_14 rfl 1 rfl ?_
    refine nz_iload_n F dX1_sizeOf_15 rfl 2 rfl ?_
    refine k_X1_sizeOfThief ko ka0 o a9 a10 a11 a12 a13 a14 a15 a16 kr1 kf0 r0 r1 r2 r3 r4 r5 r6 r7 r8 f9 f10 f11 f12 f13 f14 f15 f16 v2 (fun hM => nz_runV F gX1_sizeOf_X1_sizeOfThief rfl hd_X1_sizeOfThief rfl hM dX1_sizeOf_16 [0, 1, 2, 3, 4, 5, 6, 7, 8, 9, 10] rfl rfl 0 rfl rfl rfl (Nat.le_of_ble_eq_true rfl) rfl) h (fun m8 m9 => [(ko, .inr (1, [.ref ka0, .int m8])), (ka0, .inl (nz_cI g, 16, .inl m9)), (o, .inr (5, [.int r0, .int r1, .int r2, .int r3, .int r4, .int r5, .int r6, .int r7, .int r8, .ref a9, .ref a10, .ref a11, .ref a12, .ref a13, .ref a14, .ref a15, .ref a16])), (a9, .inl (nz_cI g, 6, .inl f9)), (a10, .inl (nz_cI g, 6, .inl f10)), (a11, .inl (nz_cI g, 6, .inl f11)), (a12, .inl (nz_cI g, 5, .inl f12)), (a13, .inl (nz_cI g, 5, .inl f13)), (a14, .inl (nz_cI g, 5, .inl f14)), (a15, .inl (nz_cI g, 5, .inl f15)), (a16, .inl (nz_cI g, 48, .inl f16))]) (fun _ _ => rfl) (fun q7 m8 m9 h => ?_)
    refine nz_goto (tgt := 28) F dX1_sizeOf_19 (by decide) ?_
    exact nz_iret F hQ (m8, m9) h rfl dX1_sizeOf_28
theorem k_X1_sizeOf {y : nz_Y} {g : nz_G} {k n : Nat} {ws : va_W} {pc : Nat} {ls : List (Nat × Value)} {st rest : List Value} {av : Array Value} {isC : List Nat} {K : Int32 → Int32 → (Nat → Int32) → Prop} (ko : Nat) (ka0 : Nat) (o : Nat) (a9 : Nat) (a10 : Nat) (a11 : Nat) (a12 : Nat) (a13 : Nat) (a14 : Nat) (a15 : Nat) (a16 : Nat) (kr1 : Int32) (kf0 : Nat → Int32) (r0 : Int32) (r1 : Int32) (r2 : Int32) (r3 : Int32) (r4 : Int32) (r5 : Int32) (r6 : Int32) (r7 : Int32) (r8 : Int32) (f9 : Nat → Int32) (f10 : Nat → Int32) (f11 : Nat → Int32) (f12 : Nat → Int32) (f13 : Nat → Int32) (f14 : Nat → Int32) (f15 : Nat → Int32) (f16 : Nat → Int32) (v2 : Int32) (run : nz_M (yz_l y) yX1_sizeOf wsX1_sizeOf rm_X1_sizeOf g [.ref ko, .ref o, .int v2] [(ko, .inr (1, [.ref ka0, .int kr1])), (ka0, .inl (nz_cI g, 16, .inl kf0)), (o, .inr (5, [.int r0, .int r1, .int r2, .int r3, .int r4, .int r5, .int r6, .int r7, .int r8, .ref a9, .ref a10, .ref a11, .ref a12, .ref a13, .ref a14, .ref a15, .ref a16])), (a9, .inl (nz_cI g, 6, .inl f9)), (a10, .inl (nz_cI g, 6, .inl f10)), (a11, .inl (nz_cI g, 6, .inl f11)), (a12, .inl (nz_cI g, 5, .inl f12)), (a13, .inl (nz_cI g, 5, .inl f13)), (a14, .inl (nz_cI g, 5, .inl f14)), (a15, .inl (nz_cI g, 5, .inl f15)), (a16, .inl (nz_cI g, 48, .inl f16))] (nz_Qi g [(ko, .inr (1, [.ref ka0, .int kr1])), (ka0, .inl (nz_cI g, 16, .inl kf0)), (o, .inr (5, [.int r0, .int r1, .int r2, .int r3, .int r4, .int r5, .int r6, .int r7, .int r8, .ref a9, .ref a10, .ref a11, .ref a12, .ref a13, .ref a14, .ref a15, .ref a16])), (a9, .inl (nz_cI g, 6, .inl f9)), (a10, .inl (nz_cI g, 6, .inl f10)), (a11, .inl (nz_cI g, 6, .inl f11)), (a12, .inl (nz_cI g, 5, .inl f12)), (a13, .inl (nz_cI g, 5, .inl f13)), (a14, .inl (nz_cI g, 5, .inl f14)), (a15, .inl (nz_cI g, 5, .inl f15)), (a16, .inl (nz_cI g, 48, .inl f16))] (fun r (u : Int32 × (Nat → Int32)) => K r u.1 u.2) (fun u => [(ko, .inr (1, [.ref ka0, .int u.1])), (ka0, .inl (nz_cI g, 16, .inl u.2)), (o, .inr (5, [.int r0, .int r1, .int r2, .int r3, .int r4, .int r5, .int r6, .int r7, .int r8, .ref a9, .ref a10, .ref a11, .ref a12, .ref a13, .ref a14, .ref a15, .ref a16])), (a9, .inl (nz_cI g, 6, .inl f9)), (a10, .inl (nz_cI g, 6, .inl f10)), (a11, .inl (nz_cI g, 6, .inl f11)), (a12, .inl (nz_cI g, 5, .inl f12)), (a13, .inl (nz_cI g, 5, .inl f13)), (a14, .inl (nz_cI g, 5, .inl f14)), (a15, .inl (nz_cI g, 5, .inl f15)), (a16, .inl (nz_cI g, 48, .inl f16))])) → nz_C y g k n ws pc ls st rest [(ko, .inr (1, [.ref ka0, .int kr1])), (ka0, .inl (nz_cI g, 16, .inl kf0)), (o, .inr (5, [.int r0, .int r1, .int r2, .int r3, .int r4, .int r5, .int r6, .int r7, .int r8, .ref a9, .ref a10, .ref a11, .ref a12, .ref a13, .ref a14, .ref a15, .ref a16])), (a9, .inl (nz_cI g, 6, .inl f9)), (a10, .inl (nz_cI g, 6, .inl f10)), (a11, .inl (nz_cI g, 6, .inl f11)), (a12, .inl (nz_cI g, 5, .inl f12)), (a13, .inl (nz_cI g, 5, .inl f13)), (a14, .inl (nz_cI g, 5, .inl f14)), (a15, .inl (nz_cI g, 5, .inl f15)), (a16, .inl (nz_cI g, 48, .inl f16))] (nz_Qi g [(ko, .inr (1, [.ref ka0, .int kr1])), (ka0, .inl (nz_cI g, 16, .inl kf0)), (o, .inr (5, [.int r0, .int r1, .int r2, .int r3, .int r4, .int r5, .int r6, .int r7, .int r8, .ref a9, .ref a10, .ref a11, .ref a12, .ref a13, .ref a14, .ref a15, .ref a16])), (a9, .inl (nz_cI g, 6, .inl f9)), (a10, .inl (nz_cI g, 6, .inl f10)), (a11, .inl (nz_cI g, 6, .inl f11)), (a12, .inl (nz_cI g, 5, .inl f12)), (a13, .inl (nz_cI g, 5, .inl f13)), (a14, .inl (nz_cI g, 5, .inl f14)), (a15, .inl (nz_cI g, 5, .inl f15)), (a16, .inl (nz_cI g, 48, .inl f16))] (fun r (u : Int32 × (Nat → Int32)) => K r u.1 u.2) (fun u => [(ko, .inr (1, [.ref ka0, .int u.1])), (ka0, .inl (nz_cI g, 16, .inl u.2)), (o, .inr (5, [.int r0, .int r1, .int r2, .int r3, .int r4, .int r5, .int r6, .int r7, .int r8, .ref a9, .ref a10, .ref a11, .ref a12, .ref a13, .ref a14, .ref a15, .ref a16])), (a9, .inl (nz_cI g, 6, .inl f9)), (a10, .inl (nz_cI g, 6, .inl f10)), (a11, .inl (nz_cI g, 6, .inl f11)), (a12, .inl (nz_cI g, 5, .inl f12)), (a13, .inl (nz_cI g, 5, .inl f13)), (a14, .inl (nz_cI g, 5, .inl f14)), (a15, .inl (nz_cI g, 5, .inl f15)), (a16, .inl (nz_cI g, 48, .inl f16))])) av isC) (h : wp_X1_sizeOf kr1 kf0 f10 f12 f13 f15 v2 K) (ws' : Int32 → (Nat → Int32) → va_W) (hm : ∀ (m0 : Int32) (m1 : (Nat → Int32)), nz_mrg ws isC [(ko, .inr (1, [.ref ka0, .int m0])), (ka0, .inl (nz_cI g, 16, .inl m1)), (o, .inr (5, [.int r0, .int r1, .int r2, .int r3, .int r4, .int r5, .int r6, .int r7, .int r8, .ref a9, .ref a10, .ref a11, .ref a12, .ref a13, .ref a14, .ref a15, .ref a16])), (a9, .inl (nz_cI g, 6, .inl f9)), (a10, .inl (nz_cI g, 6, .inl f10)), (a11, .inl (nz_cI g, 6, .inl f11)), (a12, .inl (nz_cI g, 5, .inl f12)), (a13, .inl (nz_cI g, 5, .inl f13)), (a14, .inl (nz_cI g, 5, .inl f14)), (a15, .inl (nz_cI g, 5, .inl f15)), (a16, .inl (nz_cI g, 48, .inl f16))] = ws' m0 m1) (kk : ∀ (r : Int32) (m0 : Int32) (m1 : (Nat → Int32)), K r m0 m1 → nz_V y g k n (ws' m0 m1) (pc + 3) ls (.int r :: rest)) : nz_V y g k n ws pc ls st :=
  nz_ci (ws' := fun u => ws' u.1 u.2) (run (c_X1_sizeOf (yz_l y) g ko ka0 o a9 a10 a11 a12 a13 a14 a15 a16 kr1 kf0 r0 r1 r2 r3 r4 r5 r6 r7 r8 f9 f10 f11 f12 f13 f14 f15 f16 v2 K h)) (fun _ => rfl) (fun u => hm u.1 u.2) (fun r u h => kk r u.1 u.2 h)
theorem dX1_markOf_0 : decode cX1_markOf 0 = .ok (.aload_n 1, 1) := by decide +kernel
theorem dX1_markOf_1 : decode cX1_markOf 1 = .ok (.getfield 27, 3) := by decide +kernel
theorem dX1_markOf_4 : decode cX1_markOf 4 = .ok (.iload_n 2, 1) := by decide +kernel
theorem dX1_markOf_5 : decode cX1_markOf 5 = .ok (.iaload, 1) := by decide +kernel
theorem dX1_markOf_6 : decode cX1_markOf 6 = .ok (.iconst 4, 1) := by decide +kernel
theorem dX1_markOf_7 : decode cX1_markOf 7 = .ok (.invokestatic 32, 3) := by decide +kernel
theorem dX1_markOf_10 : decode cX1_markOf 10 = .ok (.ifCond .eq 12, 3) := by decide +kernel
theorem dX1_markOf_13 : decode cX1_markOf 13 = .ok (.aload_n 0, 1) := by decide +kernel
theorem dX1_markOf_14 : decode cX1_markOf 14 = .ok (.aload_n 1, 1) := by decide +kernel
theorem dX1_markOf_15 : decode cX1_markOf 15 = .ok (.iload_n 2, 1) := by decide +kernel
theorem dX1_markOf_16 : decode cX1_markOf 16 = .ok (.invokevirtual 43, 3) := by decide +kernel
theorem dX1_markOf_19 : decode cX1_markOf 19 = .ok (.goto 9, 3) := by decide +kernel
theorem dX1_markOf_22 : decode cX1_markOf 22 = .ok (.aload_n 0, 1) := by decide +kernel
theorem dX1_markOf_23 : decode cX1_markOf 23 = .ok (.aload_n 1, 1) := by decide +kernel
theorem dX1_markOf_24 : decode cX1_markOf 24 = .ok (.iload_n 2, 1) := by decide +kernel
theorem dX1_markOf_25 : decode cX1_markOf 25 = .ok (.invokevirtual 46, 3) := by decide +kernel
theorem dX1_markOf_28 : decode cX1_markOf 28 = .ok (.ireturn, 1) := by decide +kernel
set_option maxRecDepth 20000 in
theorem ggX1_markOf_X1_isOne : GoodIn wsX1_markOf wsX1_isOne := goodIn_r _ [4, 5, 6, 7, 8] rfl (by decide +kernel)
set_option maxRecDepth 20000 in
theorem gX1_markOf_X1_isOne : GoodIn wsX1_markOf (va_wsS RX1 32 yX1_isOne wsX1_isOne) := goodIn_app (goodIn_r _ [1, 2, 3] rfl (by decide +kernel)) ggX1_markOf_X1_isOne
set_option maxRecDepth 20000 in
theorem ggX1_markOf_X1_markOfInn : GoodIn wsX1_markOf wsX1_markOfInn := goodIn_r _ [26, 13, 14, 15, 3, 16, 17, 18, 27, 28, 29, 30, 31, 32, 33, 34, 35, 36, 37, 38, 39, 40, 41, 42, 43, 44, 45, 46, 47, 48, 49] rfl (by decide +kernel)
set_option maxRecDepth 20000 in
theorem gX1_markOf_X1_markOfInn : GoodIn wsX1_markOf (wsV RX1 46 RX1 yX1_markOfInn wsX1_markOfInn) := goodIn_app (goodIn_r _ [23, 24, 25, 3] rfl (by decide +kernel)) ggX1_markOf_X1_markOfInn
set_option maxRecDepth 20000 in
theorem ggX1_markOf_X1_markOfThief : GoodIn wsX1_markOf wsX1_markOfThief := goodIn_r _ [12, 13, 14, 15, 3, 16, 17, 18, 19, 20, 21, 22, 48, 49, 31, 32, 33, 34, 35, 36, 37, 38, 39, 40, 41, 42, 43, 44, 45, 46, 47] rfl (by decide +kernel)
set_option maxRecDepth 20000 in
theorem gX1_markOf_X1_markOfThief : GoodIn wsX1_markOf (wsV RX1 43 RX1 yX1_markOfThief wsX1_markOfThief) := goodIn_app (goodIn_r _ [9, 10, 11, 3] rfl (by decide +kernel)) ggX1_markOf_X1_markOfThief
theorem hd_X1_markOfThief : yX1_markOfThief.cls = RX1 ∧ yX1_markOfThief.cls ≠ "java/lang/invoke/MethodHandle" ∧ yX1_markOfThief.cls ≠ "java/lang/invoke/VarHandle" ∧ (parseMethodDescriptor yX1_markOfThief.desc).map (fun d => d.parameters.length) = some 2 := by decide +kernel
/-! X1_markOf -/
abbrev rm_X1_markOf : Room := { frames := 3, cells := 0, slots := 0, locals := 66 }
theorem iw_X1_markOf_5 : ∀ w ∈ wsX50, w ∈ wsX1_markOf := fun _ h => List.mem_cons_of_mem _ (List.mem_append_left _ (List.mem_append_right _ h))
theorem fn_X1_markOf_27 : Cond.fieldLinkNest RX1 27 "NightStones$Road" "kinds" "[I" RX7 ∈ nz_nest := List.mem_of_getElem? (i := 39) rfl
def wp_X1_markOf (kr1 : Int32) (kf0 : Nat → Int32) (f10 : Nat → Int32) (f12 : Nat → Int32) (f13 : Nat → Int32) (f15 : Nat → Int32) (v2 : Int32) (K : Int32 → Int32 → (Nat → Int32) → Prop) : Prop := (vp_in v2 5 ∧ wp_X1_isOne (f12 v2.toNatClampNeg) 4 (fun q2 => ((q2 = 0 → wp_X1_markOfInn kr1 kf0 f10 f12 f13 v2 (fun q4 m5 m6 => K q4 m5 m6)) ∧ (¬ (q2 = 0) → wp_X1_markOfThief kr1 kf0 f12 f15 v2 (fun q7 m8 m9 => K q7 m8 m9)))))
set_option maxHeartbeats 4000000 in
set_option maxRecDepth 100000 in
theorem c_X1_markOf (l : Launch) (g : nz_G) (ko : Nat) (ka0 : Nat) (o : Nat) (a9 : Nat) (a10 : Nat) (a11 : Nat) (a12 : Nat) (a13 : Nat) (a14 : Nat) (a15 : Nat) (a16 : Nat) (kr1 : Int32) (kf0 : Nat → Int32) (r0 : Int32) (r1 : Int32) (r2 : Int32) (r3 : Int32) (r4 : Int32) (r5 : Int32) (r6 : Int32) (r7 : Int32) (r8 : Int32) (f9 : Nat → Int32) (f10 : Nat → Int32) (f11 : Nat → Int32) (f12 : Nat → Int32) (f13 : Nat → Int32) (f14 : Nat → Int32) (f15 : Nat → Int32) (f16 : Nat → Int32) (v2 : Int32) (K : Int32 → Int32 → (Nat → Int32) → Prop) (h : wp_X1_markOf kr1 kf0 f10 f12 f13 f15 v2 K) : nz_M l yX1_markOf wsX1_markOf rm_X1_markOf g [.ref ko, .ref o, .int v2] [(ko, .inr (1, [.ref ka0, .int kr1])), (ka0, .inl (nz_cI g, 16, .inl kf0)), (o, .inr (5, [.int r0, .int r1, .int r2, .int r3, .int r4, .int r5, .int r6, .int r7, .int r8, .ref a9, .ref a10, .ref a11, .ref a12, .ref a13, .ref a14, .ref a15, .ref a16])), (a9, .inl (nz_cI g, 6, .inl f9)), (a10, .inl (nz_cI g, 6, .inl f10)), (a11, .inl (nz_cI g, 6, .inl f11)), (a12, .inl (nz_cI g, 5, .inl f12)), (a13, .inl (nz_cI g, 5, .inl f13)), (a14, .inl (nz_cI g, 5, .inl f14)), (a15, .inl (nz_cI g, 5, .inl f15)), (a16, .inl (nz_cI g, 48, .inl f16))] (nz_Qi g [(ko, .inr (1, [.ref ka0, .int kr1])), (ka0, .inl (nz_cI g, 16, .inl kf0)), (o, .inr (5, [.int r0, .int r1, .int r2, .int r3, .int r4, .int r5, .int r6, .int r7, .int r8, .ref a9, .ref a10, .ref a11, .ref a12, .ref a13, .ref a14, .ref a15, .ref a16])), (a9, .inl (nz_cI g, 6, .inl f9)), (a10, .inl (nz_cI g, 6, .inl f10)), (a11, .inl (nz_cI g, 6, .inl f11)), (a12, .inl (nz_cI g, 5, .inl f12)), (a13, .inl (nz_cI g, 5, .inl f13)), (a14, .inl (nz_cI g, 5, .inl f14)), (a15, .inl (nz_cI g, 5, .inl f15)), (a16, .inl (nz_cI g, 48, .inl f16))] (fun r (u : Int32 × (Nat → Int32)) => K r u.1 u.2) (fun u => [(ko, .inr (1, [.ref ka0, .int u.1])), (ka0, .inl (nz_cI g, 16, .inl u.2)), (o, .inr (5, [.int r0, .int r1, .int r2, .int r3, .int r4, .int r5, .int r6, .int r7, .int r8, .ref a9, .ref a10, .ref a11, .ref a12, .ref a13, .ref a14, .ref a15, .ref a16])), (a9, .inl (nz_cI g, 6, .inl f9)), (a10, .inl (nz_cI g, 6, .inl f10)), (a11, .inl (nz_cI g, 6, .inl f11)), (a12, .inl (nz_cI g, 5, .inl f12)), (a13, .inl (nz_cI g, 5, .inl f13)), (a14, .inl (nz_cI g, 5, .inl f14)), (a15, .inl (nz_cI g, 5, .inl f15)), (a16, .inl (nz_cI g, 48, .inl f16))])) := by
  refine nz_M.of (bytes := cX1_markOf) (nL := 3) (ret := (some .int)) (own := RX1) (by decide) rfl rfl ⟨rfl, rfl⟩ rfl ?_
  intro y F hl hQ
  obtain ⟨sz, hQ⟩ := hQ
  refine nz_ent (lv' := [(0, .ref ko), (1, .ref o), (2, .int v2)]) rfl ?_
  unfold wp_X1_markOf at h
  refine nz_aload_n F dX1_markOf_0 rfl 1 rfl ?_
  refine nz_getN F iw_X1_markOf_5 2 rfl rfl 12 (by decide) rfl fn_X1_markOf_27 rfl dX1_markOf_1 ?_
  refine nz_iload_n F dX1_markOf_4 rfl 2 rfl ?_
  obtain ⟨i1, h⟩ := h
  refine nz_iald F 6 rfl i1 dX1_markOf_5 ?_
  refine nz_iconst (v := 4) F dX1_markOf_6 (by decide) ?_
  refine k_X1_isOne (f12 v2.toNatClampNeg) 4 (fun hM => nz_runS F gX1_markOf_X1_isOne rfl hd_X1_isOne.2 rfl hM dX1_markOf_7 [] rfl rfl rfl (Nat.le_of_ble_eq_true rfl) rfl) h ([(ko, .inr (1, [.ref ka0, .int kr1])), (ka0, .inl (nz_cI g, 16, .inl kf0)), (o, .inr (5, [.int r0, .int r1, .int r2, .int r3, .int r4, .int r5, .int r6, .int r7, .int r8, .ref a9, .ref a10, .ref a11, .ref a12, .ref a13, .ref a14, .ref a15, .ref a16])), (a9, .inl (nz_cI g, 6, .inl f9)), (a10, .inl (nz_cI g, 6, .inl f10)), (a11, .inl (nz_cI g, 6, .inl f11)), (a12, .inl (nz_cI g, 5, .inl f12)), (a13, .inl (nz_cI g, 5, .inl f13)), (a14, .inl (nz_cI g, 5, .inl f14)), (a15, .inl (nz_cI g, 5, .inl f15)), (a16, .inl (nz_cI g, 48, .inl f16))]) (rfl) (fun q2 h => ?_)
  refine nz_if_eq (tgt := 22) F dX1_markOf_10 (by decide) (fun c3 => ?_) (fun c3 => ?_)
  · have h := h.1 c3
    refine nz_aload_n F dX1_markOf_22 rfl 0 rfl ?_
    refine nz_aload_n F dX1_markOf_23 rfl 1 rfl ?_
    refine nz_iload_n F dX1_markOf_24 rfl 2 rfl ?_
    refine k_X1_markOfInn ko ka0 o a9 a10 a11 a12 a13 a14 a15 a16 kr1 kf0 r0 r1 r2 r3 r4 r5 r6 r7 r8 f9 f10 f11 f12 f13 f14 f15 f16 v2 (fun hM => nz_runV F gX1_markOf_X1_markOfInn rfl hd_X1_markOfInn rfl hM dX1_markOf_25 [0, 1, 2, 3, 4, 5, 6, 7, 8, 9, 10] rfl rfl 0 rfl rfl rfl (Nat.le_of_ble_eq_true rfl) rfl) h (fun m5 m6 => [(ko, .inr (1, [.ref ka0, .int m5])), (ka0, .inl (nz_cI g, 16, .inl m6)), (o, .inr (5, [.int r0, .int r1, .int r2, .int r3, .int r4, .int r5, .int r6, .int r7, .int r8, .ref a9, .ref a10, .ref a11, .ref a12, .ref a13, .ref a14, .ref a15, .ref a16])), (a9, .inl (nz_cI g, 6, .inl f9)), (a10, .inl (nz_cI g, 6, .inl f10)), (a11, .inl (nz_cI g, 6, .inl f11)), (a12, .inl (nz_cI g, 5, .inl f12)), (a13, .inl (nz_cI g, 5, .inl f13)), (a14, .inl (nz_cI g, 5, .inl f14)), (a15, .inl (nz_cI g, 5, .inl f15)), (a16, .inl (nz_cI g, 48, .inl f16))]) (fun _ _ => rfl) (fun q4 m5 m6 h => ?_)
    exact nz_iret F hQ (m5, m6) h rfl dX1_markOf_28
  · have h := h.2 c3
    refine nz_aload_n F dX1_markOf_13 rfl 0 rfl ?_
    refine nz_aload_n F dX1_markOf_14 rfl 1 rfl ?_
    refine nz_iload_n F dX1_markOf_15 rfl 2 rfl ?_
    refine k_X1_markOfThief ko ka0 o a9 a10 a11 a12 a13 a14 a15 a16 kr1 kf0 r0 r1 r2 r3 r4 r5 r6 r7 r8 f9 f10 f11 f12 f13 f14 f15 f16 v2 (fun hM => nz_runV F gX1_markOf_X1_markOfThief rfl hd_X1_markOfThief rfl hM dX1_markOf_16 [0, 1, 2, 3, 4, 5, 6, 7, 8, 9, 10] rfl rfl 0 rfl rfl rfl (Nat.le_of_ble_eq_true rfl) rfl) h (fun m8 m9 => [(ko, .inr (1, [.ref ka0, .int m8])), (ka0, .inl (nz_cI g, 16, .inl m9)), (o, .inr (5, [.int r0, .int r1, .int r2, .int r3, .int r4, .int r5, .int r6, .int r7, .int r8, .ref a9, .ref a10, .ref a11, .ref a12, .ref a13, .ref a14, .ref a15, .ref a16])), (a9, .inl (nz_cI g, 6, .inl f9)), (a10, .inl (nz_cI g, 6, .inl f10)), (a11, .inl (nz_cI g, 6, .inl f11)), (a12, .inl (nz_cI g, 5, .inl f12)), (a13, .inl (nz_cI g, 5, .inl f13)), (a14, .inl (nz_cI g, 5, .inl f14)), (a15, .inl (nz_cI g, 5, .inl f15)), (a16, .inl (nz_cI g, 48, .inl f16))]) (fun _ _ => rfl) (fun q7 m8 m9 h => ?_)
    refine nz_goto (tgt := 28) F dX1_markOf_19 (by decide) ?_
    exact nz_iret F hQ (m8, m9) h rfl dX1_markOf_28
theorem k_X1_markOf {y : nz_Y} {g : nz_G} {k n : Nat} {ws : va_W} {pc : Nat} {ls : List (Nat × Value)} {st rest : List Value} {av : Array Value} {isC : List Nat} {K : Int32 → Int32 → (Nat → Int32) → Prop} (ko : Nat) (ka0 : Nat) (o : Nat) (a9 : Nat) (a10 : Nat) (a11 : Nat) (a12 : Nat) (a13 : Nat) (a14 : Nat) (a15 : Nat) (a16 : Nat) (kr1 : Int32) (kf0 : Nat → Int32) (r0 : Int32) (r1 : Int32) (r2 : Int32) (r3 : Int32) (r4 : Int32) (r5 : Int32) (r6 : Int32) (r7 : Int32) (r8 : Int32) (f9 : Nat → Int32) (f10 : Nat → Int32) (f11 : Nat → Int32) (f12 : Nat → Int32) (f13 : Nat → Int32) (f14 : Nat → Int32) (f15 : Nat → Int32) (f16 : Nat → Int32) (v2 : Int32) (run : nz_M (yz_l y) yX1_markOf wsX1_markOf rm_X1_markOf g [.ref ko, .ref o, .int v2] [(ko, .inr (1, [.ref ka0, .int kr1])), (ka0, .inl (nz_cI g, 16, .inl kf0)), (o, .inr (5, [.int r0, .int r1, .int r2, .int r3, .int r4, .int r5, .int r6, .int r7, .int r8, .ref a9, .ref a10, .ref a11, .ref a12, .ref a13, .ref a14, .ref a15, .ref a16])), (a9, .inl (nz_cI g, 6, .inl f9)), (a10, .inl (nz_cI g, 6, .inl f10)), (a11, .inl (nz_cI g, 6, .inl f11)), (a12, .inl (nz_cI g, 5, .inl f12)), (a13, .inl (nz_cI g, 5, .inl f13)), (a14, .inl (nz_cI g, 5, .inl f14)), (a15, .inl (nz_cI g, 5, .inl f15)), (a16, .inl (nz_cI g, 48, .inl f16))] (nz_Qi g [(ko, .inr (1, [.ref ka0, .int kr1])), (ka0, .inl (nz_cI g, 16, .inl kf0)), (o, .inr (5, [.int r0, .int r1, .int r2, .int r3, .int r4, .int r5, .int r6, .int r7, .int r8, .ref a9, .ref a10, .ref a11, .ref a12, .ref a13, .ref a14, .ref a15, .ref a16])), (a9, .inl (nz_cI g, 6, .inl f9)), (a10, .inl (nz_cI g, 6, .inl f10)), (a11, .inl (nz_cI g, 6, .inl f11)), (a12, .inl (nz_cI g, 5, .inl f12)), (a13, .inl (nz_cI g, 5, .inl f13)), (a14, .inl (nz_cI g, 5, .inl f14)), (a15, .inl (nz_cI g, 5, .inl f15)), (a16, .inl (nz_cI g, 48, .inl f16))] (fun r (u : Int32 × (Nat → Int32)) => K r u.1 u.2) (fun u => [(ko, .inr (1, [.ref ka0, .int u.1])), (ka0, .inl (nz_cI g, 16, .inl u.2)), (o, .inr (5, [.int r0, .int r1, .int r2, .int r3, .int r4, .int r5, .int r6, .int r7, .int r8, .ref a9, .ref a10, .ref a11, .ref a12, .ref a13, .ref a14, .ref a15, .ref a16])), (a9, .inl (nz_cI g, 6, .inl f9)), (a10, .inl (nz_cI g, 6, .inl f10)), (a11, .inl (nz_cI g, 6, .inl f11)), (a12, .inl (nz_cI g, 5, .inl f12)), (a13, .inl (nz_cI g, 5, .inl f13)), (a14, .inl (nz_cI g, 5, .inl f14)), (a15, .inl (nz_cI g, 5, .inl f15)), (a16, .inl (nz_cI g, 48, .inl f16))])) → nz_C y g k n ws pc ls st rest [(ko, .inr (1, [.ref ka0, .int kr1])), (ka0, .inl (nz_cI g, 16, .inl kf0)), (o, .inr (5, [.int r0, .int r1, .int r2, .int r3, .int r4, .int r5, .int r6, .int r7, .int r8, .ref a9, .ref a10, .ref a11, .ref a12, .ref a13, .ref a14, .ref a15, .ref a16])), (a9, .inl (nz_cI g, 6, .inl f9)), (a10, .inl (nz_cI g, 6, .inl f10)), (a11, .inl (nz_cI g, 6, .inl f11)), (a12, .inl (nz_cI g, 5, .inl f12)), (a13, .inl (nz_cI g, 5, .inl f13)), (a14, .inl (nz_cI g, 5, .inl f14)), (a15, .inl (nz_cI g, 5, .inl f15)), (a16, .inl (nz_cI g, 48, .inl f16))] (nz_Qi g [(ko, .inr (1, [.ref ka0, .int kr1])), (ka0, .inl (nz_cI g, 16, .inl kf0)), (o, .inr (5, [.int r0, .int r1, .int r2, .int r3, .int r4, .int r5, .int r6, .int r7, .int r8, .ref a9, .ref a10, .ref a11, .ref a12, .ref a13, .ref a14, .ref a15, .ref a16])), (a9, .inl (nz_cI g, 6, .inl f9)), (a10, .inl (nz_cI g, 6, .inl f10)), (a11, .inl (nz_cI g, 6, .inl f11)), (a12, .inl (nz_cI g, 5, .inl f12)), (a13, .inl (nz_cI g, 5, .inl f13)), (a14, .inl (nz_cI g, 5, .inl f14)), (a15, .inl (nz_cI g, 5, .inl f15)), (a16, .inl (nz_cI g, 48, .inl f16))] (fun r (u : Int32 × (Nat → Int32)) => K r u.1 u.2) (fun u => [(ko, .inr (1, [.ref ka0, .int u.1])), (ka0, .inl (nz_cI g, 16, .inl u.2)), (o, .inr (5, [.int r0, .int r1, .int r2, .int r3, .int r4, .int r5, .int r6, .int r7, .int r8, .ref a9, .ref a10, .ref a11, .ref a12, .ref a13, .ref a14, .ref a15, .ref a16])), (a9, .inl (nz_cI g, 6, .inl f9)), (a10, .inl (nz_cI g, 6, .inl f10)), (a11, .inl (nz_cI g, 6, .inl f11)), (a12, .inl (nz_cI g, 5, .inl f12)), (a13, .inl (nz_cI g, 5, .inl f13)), (a14, .inl (nz_cI g, 5, .inl f14)), (a15, .inl (nz_cI g, 5, .inl f15)), (a16, .inl (nz_cI g, 48, .inl f16))])) av isC) (h : wp_X1_markOf kr1 kf0 f10 f12 f13 f15 v2 K) (ws' : Int32 → (Nat → Int32) → va_W) (hm : ∀ (m0 : Int32) (m1 : (Nat → Int32)), nz_mrg ws isC [(ko, .inr (1, [.ref ka0, .int m0])), (ka0, .inl (nz_cI g, 16, .inl m1)), (o, .inr (5, [.int r0, .int r1, .int r2, .int r3, .int r4, .int r5, .int r6, .int r7, .int r8, .ref a9, .ref a10, .ref a11, .ref a12, .ref a13, .ref a14, .ref a15, .ref a16])), (a9, .inl (nz_cI g, 6, .inl f9)), (a10, .inl (nz_cI g, 6, .inl f10)), (a11, .inl (nz_cI g, 6, .inl f11)), (a12, .inl (nz_cI g, 5, .inl f12)), (a13, .inl (nz_cI g, 5, .inl f13)), (a14, .inl (nz_cI g, 5, .inl f14)), (a15, .inl (nz_cI g, 5, .inl f15)), (a16, .inl (nz_cI g, 48, .inl f16))] = ws' m0 m1) (kk : ∀ (r : Int32) (m0 : Int32) (m1 : (Nat → Int32)), K r m0 m1 → nz_V y g k n (ws' m0 m1) (pc + 3) ls (.int r :: rest)) : nz_V y g k n ws pc ls st :=
  nz_ci (ws' := fun u => ws' u.1 u.2) (run (c_X1_markOf (yz_l y) g ko ka0 o a9 a10 a11 a12 a13 a14 a15 a16 kr1 kf0 r0 r1 r2 r3 r4 r5 r6 r7 r8 f9 f10 f11 f12 f13 f14 f15 f16 v2 K h)) (fun _ => rfl) (fun u => hm u.1 u.2) (fun r u h => kk r u.1 u.2 h)
