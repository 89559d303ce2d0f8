theorem dX7_trace_0 : decode cX7_trace 0 = .ok (.aload_n 0, 1) := by decide +kernel
theorem dX7_trace_1 : decode cX7_trace 1 = .ok (.getfield 58, 3) := by decide +kernel
theorem dX7_trace_4 : decode cX7_trace 4 = .ok (.iload_n 1, 1) := by decide +kernel
theorem dX7_trace_5 : decode cX7_trace 5 = .ok (.invokevirtual 270, 3) := by decide +kernel
theorem dX7_trace_8 : decode cX7_trace 8 = .ok (.ireturn, 1) := by decide +kernel
set_option maxRecDepth 20000 in
theorem ggX7_trace_X1_begun : GoodIn wsX7_trace wsX1_begun := goodIn_r _ [5, 6, 7, 8, 9, 10, 11, 22, 23] rfl (by decide +kernel)
set_option maxRecDepth 20000 in
theorem gX7_trace_X1_begun_n270 : GoodIn wsX7_trace (wsX1_begun) := ggX7_trace_X1_begun
theorem hd_X1_begun : yX1_begun.cls = RX1 ∧ yX1_begun.cls ≠ "java/lang/invoke/MethodHandle" ∧ yX1_begun.cls ≠ "java/lang/invoke/VarHandle" ∧ (parseMethodDescriptor yX1_begun.desc).map (fun d => d.parameters.length) = some 1 := by decide +kernel
theorem hC_X1_begun_52 (g : nz_G) (a : Nat → Nat) (X : Nat → Nat → Int32) : (List.range' 52 2).map (fun i => (nz_wX g a X)[i]?) = (([((a 52), .inr (1, [.ref (a 53), .int (X 52 1)])), ((a 53), .inl (nz_cI g, 16, .inl (X 53)))] : va_W)).map some := rfl
def wX_X1_begun_52 (X : Nat → Nat → Int32) (v1 : Int32) (K : Int32 → Prop) : Prop := wp_X1_begun (X 52 1) (X 53) v1 (fun r => K r)
theorem kX_X1_begun_52 {y : nz_Y} {g : nz_G} {k n pc : Nat} {ls : List (Nat × Value)} {st rest : List Value} {av : Array Value} {K : Int32 → Prop} (a : Nat → Nat) (X : Nat → Nat → Int32) (v1 : Int32) (run : ∀ Q : Nat → Array Value → State → Outcome → State → Prop, nz_M (yz_l y) yX1_begun wsX1_begun rm_X1_begun g [.ref (a 52), .int v1] [((a 52), .inr (1, [.ref (a 53), .int (X 52 1)])), ((a 53), .inl (nz_cI g, 16, .inl (X 53)))] Q → nz_C y g k n (nz_wX g a X) pc ls st rest [((a 52), .inr (1, [.ref (a 53), .int (X 52 1)])), ((a 53), .inl (nz_cI g, 16, .inl (X 53)))] Q av (List.range' 52 2)) (h : wX_X1_begun_52 X v1 K) (kk : ∀ (r : Int32), K r → nz_V y g k n (nz_wX g a X) (pc + 3) ls (.int r :: rest)) : nz_V y g k n (nz_wX g a X) pc ls st :=
 k_X1_begun (a 52) (a 53) (X 52 1) (X 53) v1 (run _) h (nz_wX g a X) (nz_xm (hC_X1_begun_52 g a X) nz_ag.refl) (fun r h => kk r h)
/-! X7_trace -/
abbrev rm_X7_trace : Room := { frames := 2, cells := 0, slots := 0, locals := 43 }
theorem iw_X7_trace_7 : ∀ w ∈ wsX70, w ∈ wsX7_trace := fun _ h => List.mem_cons_of_mem _ (List.mem_append_left _ (List.mem_append_right _ h))
theorem fl_X7_trace_58 : Cond.fieldLink RX7 58 "NightStones" "asker" "LNightStones$Asker;" ∈ wsX7_trace := List.mem_of_getElem? (i := 1) rfl
theorem nt_X7_trace_X1_begun_270 : Cond.methodLinkNest RX7 270 yX1_begun RX7 ∈ nz_nest := List.mem_of_getElem? (i := 102) rfl
theorem wd_X7_trace_in_RX1 : Cond.initialized RX1 ∈ wsX7_trace := List.mem_of_getElem? (i := 3) rfl
theorem wd_X7_trace_im_X1_begun : Cond.instanceMethod yX1_begun ∈ wsX7_trace := List.mem_of_getElem? (i := 2) rfl
theorem wd_X7_trace_se_X1_begun : Cond.selects RX1 yX1_begun yX1_begun ∈ wsX7_trace := List.mem_of_getElem? (i := 4) rfl
def wp_X7_trace (X : Nat → Nat → Int32) (v1 : Int32) (K : Int32 → (Nat → Nat → Int32) → Prop) : Prop := wX_X1_begun_52 X v1 (fun q1 => K q1 X)
set_option maxHeartbeats 4000000 in
set_option maxRecDepth 100000 in
theorem c_X7_trace (l : Launch) (g : nz_G) (a : Nat → Nat) (X : Nat → Nat → Int32) (v1 : Int32) (K : Int32 → (Nat → Nat → Int32) → Prop) (h : wp_X7_trace X v1 K) : nz_M l yX7_trace wsX7_trace rm_X7_trace g [.ref (a 0), .int v1] (nz_wX g a X) (nz_Qi g (nz_wX g a X) (fun r (u : Nat → Nat → Int32) => K r u) (fun u => nz_wX g a u)) := by
  refine nz_M.of (bytes := cX7_trace) (nL := 2) (ret := (some .int)) (own := RX7) (by decide) rfl rfl ⟨rfl, rfl⟩ rfl ?_
  intro y F hl hQ
  obtain ⟨sz, hQ⟩ := hQ
  refine nz_ent (lv' := [(0, .ref (a 0)), (1, .int v1)]) rfl ?_
  unfold wp_X7_trace at h
  refine nz_aload_n F dX7_trace_0 rfl 0 rfl ?_
  refine nz_get F iw_X7_trace_7 0 (nz_xg0 g a X) rfl 7 (by decide) rfl fl_X7_trace_58 rfl dX7_trace_1 ?_
  refine nz_iload_n F dX7_trace_4 rfl 1 rfl ?_
  refine kX_X1_begun_52 a X v1 (fun Q hM => nz_runVN F gX7_trace_X1_begun_n270 rfl nt_X7_trace_X1_begun_270 wd_X7_trace_in_RX1 wd_X7_trace_im_X1_begun wd_X7_trace_se_X1_begun hd_X1_begun rfl hM dX7_trace_5 (List.range' 52 2) (hC_X1_begun_52 g a X) nd_52_2 52 (nz_xg52 g a X) rfl rfl (Nat.le_of_ble_eq_true rfl) rfl) h (fun q1 h => ?_)
  exact nz_iret F hQ X h rfl dX7_trace_8
theorem k_X7_trace {y : nz_Y} {g : nz_G} {k n : Nat} {ws : va_W} {pc : Nat} {ls : List (Nat × Value)} {st rest : List Value} {av : Array Value} {isC : List Nat} {K : Int32 → (Nat → Nat → Int32) → Prop} (a : Nat → Nat) (X : Nat → Nat → Int32) (v1 : Int32) (run : nz_M (yz_l y) yX7_trace wsX7_trace rm_X7_trace g [.ref (a 0), .int v1] (nz_wX g a X) (nz_Qi g (nz_wX g a X) (fun r (u : Nat → Nat → Int32) => K r u) (fun u => nz_wX g a u)) → nz_C y g k n ws pc ls st rest (nz_wX g a X) (nz_Qi g (nz_wX g a X) (fun r (u : Nat → Nat → Int32) => K r u) (fun u => nz_wX g a u)) av isC) (h : wp_X7_trace X v1 K) (ws' : (Nat → Nat → Int32) → va_W) (hm : ∀ (m0 : (Nat → Nat → Int32)), nz_mrg ws isC (nz_wX g a m0) = ws' m0) (kk : ∀ (r : Int32) (m0 : (Nat → Nat → Int32)), K r m0 → nz_V y g k n (ws' m0) (pc + 3) ls (.int r :: rest)) : nz_V y g k n ws pc ls st :=
  nz_ci (ws' := fun u => ws' u) (run (c_X7_trace (yz_l y) g a X v1 K h)) (fun _ => rfl) (fun u => hm u) (fun r u h => kk r u h)
theorem dX7_count_0 : decode cX7_count 0 = .ok (.iload_n 1, 1) := by decide +kernel
theorem dX7_count_1 : decode cX7_count 1 = .ok (.tableswitch 99 0 6 #[43, 51, 59, 67, 75, 83, 91], 43) := by decide +kernel
theorem dX7_count_44 : decode cX7_count 44 = .ok (.aload_n 0, 1) := by decide +kernel
theorem dX7_count_45 : decode cX7_count 45 = .ok (.getfield 10, 3) := by decide +kernel
theorem dX7_count_48 : decode cX7_count 48 = .ok (.invokevirtual 273, 3) := by decide +kernel
theorem dX7_count_51 : decode cX7_count 51 = .ok (.ireturn, 1) := by decide +kernel
theorem dX7_count_52 : decode cX7_count 52 = .ok (.aload_n 0, 1) := by decide +kernel
theorem dX7_count_53 : decode cX7_count 53 = .ok (.getfield 26, 3) := by decide +kernel
theorem dX7_count_56 : decode cX7_count 56 = .ok (.getfield 134, 3) := by decide +kernel
theorem dX7_count_59 : decode cX7_count 59 = .ok (.ireturn, 1) := by decide +kernel
theorem dX7_count_60 : decode cX7_count 60 = .ok (.aload_n 0, 1) := by decide +kernel
theorem dX7_count_61 : decode cX7_count 61 = .ok (.getfield 26, 3) := by decide +kernel
theorem dX7_count_64 : decode cX7_count 64 = .ok (.getfield 276, 3) := by decide +kernel
theorem dX7_count_67 : decode cX7_count 67 = .ok (.ireturn, 1) := by decide +kernel
theorem dX7_count_68 : decode cX7_count 68 = .ok (.aload_n 0, 1) := by decide +kernel
theorem dX7_count_69 : decode cX7_count 69 = .ok (.getfield 26, 3) := by decide +kernel
theorem dX7_count_72 : decode cX7_count 72 = .ok (.getfield 142, 3) := by decide +kernel
theorem dX7_count_75 : decode cX7_count 75 = .ok (.ireturn, 1) := by decide +kernel
theorem dX7_count_76 : decode cX7_count 76 = .ok (.aload_n 0, 1) := by decide +kernel
theorem dX7_count_77 : decode cX7_count 77 = .ok (.getfield 37, 3) := by decide +kernel
theorem dX7_count_80 : decode cX7_count 80 = .ok (.getfield 174, 3) := by decide +kernel
theorem dX7_count_83 : decode cX7_count 83 = .ok (.ireturn, 1) := by decide +kernel
theorem dX7_count_84 : decode cX7_count 84 = .ok (.aload_n 0, 1) := by decide +kernel
theorem dX7_count_85 : decode cX7_count 85 = .ok (.getfield 26, 3) := by decide +kernel
theorem dX7_count_88 : decode cX7_count 88 = .ok (.getfield 201, 3) := by decide +kernel
theorem dX7_count_91 : decode cX7_count 91 = .ok (.ireturn, 1) := by decide +kernel
theorem dX7_count_92 : decode cX7_count 92 = .ok (.aload_n 0, 1) := by decide +kernel
theorem dX7_count_93 : decode cX7_count 93 = .ok (.getfield 19, 3) := by decide +kernel
theorem dX7_count_96 : decode cX7_count 96 = .ok (.getfield 279, 3) := by decide +kernel
theorem dX7_count_99 : decode cX7_count 99 = .ok (.ireturn, 1) := by decide +kernel
theorem dX7_count_100 : decode cX7_count 100 = .ok (.ldc 70, 2) := by decide +kernel
theorem dX7_count_102 : decode cX7_count 102 = .ok (.ireturn, 1) := by decide +kernel
set_option maxRecDepth 20000 in
theorem ggX7_count_X6_present : GoodIn wsX7_count wsX6_present := goodIn_r _ [9, 10, 11, 12, 7, 13, 14, 53, 54, 55] rfl (by decide +kernel)
set_option maxRecDepth 20000 in
theorem gX7_count_X6_present_n273 : GoodIn wsX7_count (wsX6_present) := ggX7_count_X6_present
theorem hd_X6_present : yX6_present.cls = RX6 ∧ yX6_present.cls ≠ "java/lang/invoke/MethodHandle" ∧ yX6_present.cls ≠ "java/lang/invoke/VarHandle" ∧ (parseMethodDescriptor yX6_present.desc).map (fun d => d.parameters.length) = some 0 := by decide +kernel
theorem hC_X6_present_1_54 (g : nz_G) (a : Nat → Nat) (X : Nat → Nat → Int32) : (List.range' 1 4 ++ List.range' 54 8).map (fun i => (nz_wX g a X)[i]?) = ((([((a 1), .inr (6, [.ref (a 4), .ref (a 2), .ref (a 3)])), ((a 2), .inl (nz_cI g, 8, .inl (X 2))), ((a 3), .inl (nz_cI g, 8, .inl (X 3))), ((a 4), .inl (nz_cA g, 8, .inr (.inr (.inr (.inr (fun j => some (a (54 + j))))))))] ++ nz_pool g (fun j => a (54 + j)) (fun j => X (54 + j))) : va_W)).map some := rfl
def wX_X6_present_1_54 (X : Nat → Nat → Int32) (K : Int32 → Prop) : Prop := wp_X6_present (X 2) (fun r => K r)
theorem kX_X6_present_1_54 {y : nz_Y} {g : nz_G} {k n pc : Nat} {ls : List (Nat × Value)} {st rest : List Value} {av : Array Value} {K : Int32 → Prop} (a : Nat → Nat) (X : Nat → Nat → Int32) (run : ∀ Q : Nat → Array Value → State → Outcome → State → Prop, nz_M (yz_l y) yX6_present wsX6_present rm_X6_present g [.ref (a 1)] ([((a 1), .inr (6, [.ref (a 4), .ref (a 2), .ref (a 3)])), ((a 2), .inl (nz_cI g, 8, .inl (X 2))), ((a 3), .inl (nz_cI g, 8, .inl (X 3))), ((a 4), .inl (nz_cA g, 8, .inr (.inr (.inr (.inr (fun j => some (a (54 + j))))))))] ++ nz_pool g (fun j => a (54 + j)) (fun j => X (54 + j))) Q → nz_C y g k n (nz_wX g a X) pc ls st rest ([((a 1), .inr (6, [.ref (a 4), .ref (a 2), .ref (a 3)])), ((a 2), .inl (nz_cI g, 8, .inl (X 2))), ((a 3), .inl (nz_cI g, 8, .inl (X 3))), ((a 4), .inl (nz_cA g, 8, .inr (.inr (.inr (.inr (fun j => some (a (54 + j))))))))] ++ nz_pool g (fun j => a (54 + j)) (fun j => X (54 + j))) Q av (List.range' 1 4 ++ List.range' 54 8)) (h : wX_X6_present_1_54 X K) (kk : ∀ (r : Int32), K r → nz_V y g k n (nz_wX g a X) (pc + 3) ls (.int r :: rest)) : nz_V y g k n (nz_wX g a X) pc ls st :=
 k_X6_present (a 1) (a 4) (a 2) (a 3) (fun j => a (54 + j)) (X 2) (X 3) (fun j => X (54 + j)) (run _) h (nz_wX g a X) (nz_xm (hC_X6_present_1_54 g a X) nz_ag.refl) (fun r h => kk r h)
/-! X7_count -/
abbrev rm_X7_count : Room := { frames := 2, cells := 0, slots := 0, locals := 43 }
theorem iw_X7_count_7 : ∀ w ∈ wsX70, w ∈ wsX7_count := fun _ h => List.mem_cons_of_mem _ (List.mem_append_left _ (List.mem_append_left _ (List.mem_append_left _ (List.mem_append_left _ (List.mem_append_right _ h)))))
theorem iw_X7_count_5 : ∀ w ∈ wsX50, w ∈ wsX7_count := fun _ h => List.mem_cons_of_mem _ (List.mem_append_left _ (List.mem_append_left _ (List.mem_append_left _ (List.mem_append_right _ h))))
theorem iw_X7_count_0 : ∀ w ∈ wsX00, w ∈ wsX7_count := fun _ h => List.mem_cons_of_mem _ (List.mem_append_left _ (List.mem_append_left _ (List.mem_append_right _ h)))
theorem iw_X7_count_4 : ∀ w ∈ wsX40, w ∈ wsX7_count := fun _ h => List.mem_cons_of_mem _ (List.mem_append_left _ (List.mem_append_right _ h))
theorem fl_X7_count_10 : Cond.fieldLink RX7 10 "NightStones" "rows" "LNightStones$Rows;" ∈ wsX7_count := List.mem_of_getElem? (i := 1) rfl
theorem nt_X7_count_X6_present_273 : Cond.methodLinkNest RX7 273 yX6_present RX7 ∈ nz_nest := List.mem_of_getElem? (i := 103) rfl
theorem wd_X7_count_in_RX6 : Cond.initialized RX6 ∈ wsX7_count := List.mem_of_getElem? (i := 7) rfl
theorem wd_X7_count_im_X6_present : Cond.instanceMethod yX6_present ∈ wsX7_count := List.mem_of_getElem? (i := 6) rfl
theorem wd_X7_count_se_X6_present : Cond.selects RX6 yX6_present yX6_present ∈ wsX7_count := List.mem_of_getElem? (i := 8) rfl
theorem fl_X7_count_26 : Cond.fieldLink RX7 26 "NightStones" "now" "LNightStones$Road;" ∈ wsX7_count := List.mem_of_getElem? (i := 2) rfl
theorem fn_X7_count_134 : Cond.fieldLinkNest RX7 134 "NightStones$Road" "stones" "I" RX7 ∈ nz_nest := List.mem_of_getElem? (i := 20) rfl
theorem fn_X7_count_276 : Cond.fieldLinkNest RX7 276 "NightStones$Road" "movers" "I" RX7 ∈ nz_nest := List.mem_of_getElem? (i := 24) rfl
theorem fn_X7_count_142 : Cond.fieldLinkNest RX7 142 "NightStones$Road" "nights" "I" RX7 ∈ nz_nest := List.mem_of_getElem? (i := 16) rfl
theorem fl_X7_count_37 : Cond.fieldLink RX7 37 "NightStones" "acts" "LNightStones$Acts;" ∈ wsX7_count := List.mem_of_getElem? (i := 3) rfl
theorem fn_X7_count_174 : Cond.fieldLinkNest RX7 174 "NightStones$Acts" "kept" "I" RX7 ∈ nz_nest := List.mem_of_getElem? (i := 51) rfl
theorem fn_X7_count_201 : Cond.fieldLinkNest RX7 201 "NightStones$Road" "heard" "I" RX7 ∈ nz_nest := List.mem_of_getElem? (i := 27) rfl
theorem fl_X7_count_19 : Cond.fieldLink RX7 19 "NightStones" "reader" "LNightStones$Reader;" ∈ wsX7_count := List.mem_of_getElem? (i := 4) rfl
theorem fn_X7_count_279 : Cond.fieldLinkNest RX7 279 "NightStones$Reader" "bytes" "I" RX7 ∈ nz_nest := List.mem_of_getElem? (i := 48) rfl
theorem wd_X7_count_c70 : Cond.constant RX7 70 (-1000001) ∈ wsX7_count := List.mem_of_getElem? (i := 5) rfl
def wp_X7_count (X : Nat → Nat → Int32) (v1 : Int32) (K : Int32 → (Nat → Nat → Int32) → Prop) : Prop := ((v1 = 0 → wX_X6_present_1_54 X (fun q2 => K q2 X)) ∧ (¬ v1 = 0 → ((v1 = 1 → K (X 16 6) X) ∧ (¬ v1 = 1 → ((v1 = 2 → K (X 16 7) X) ∧ (¬ v1 = 2 → ((v1 = 3 → K (X 16 5) X) ∧ (¬ v1 = 3 → ((v1 = 4 → K (X 44 2) X) ∧ (¬ v1 = 4 → ((v1 = 5 → K (X 16 8) X) ∧ (¬ v1 = 5 → ((v1 = 6 → K (X 5 2) X) ∧ (¬ v1 = 6 → K (-1000001 : Int32) X))))))))))))))
set_option maxHeartbeats 4000000 in
set_option maxRecDepth 100000 in
theorem c_X7_count (l : Launch) (g : nz_G) (a : Nat → Nat) (X : Nat → Nat → Int32) (v1 : Int32) (K : Int32 → (Nat → Nat → Int32) → Prop) (h : wp_X7_count X v1 K) : nz_M l yX7_count wsX7_count rm_X7_count g [.ref (a 0), .int v1] (nz_wX g a X) (nz_Qi g (nz_wX g a X) (fun r (u : Nat → Nat → Int32) => K r u) (fun u => nz_wX g a u)) := by
  refine nz_M.of (bytes := cX7_count) (nL := 2) (ret := (some .int)) (own := RX7) (by decide) rfl rfl ⟨rfl, rfl⟩ rfl ?_
  intro y F hl hQ
  obtain ⟨sz, hQ⟩ := hQ
  refine nz_ent (lv' := [(0, .ref (a 0)), (1, .int v1)]) rfl ?_
  unfold wp_X7_count at h
  refine nz_iload_n F dX7_count_0 rfl 1 rfl ?_
  by_cases c1 : v1 = 0
  · have h := h.1 c1
    refine nz_tin (tgt := 44) (off := 43) F dX7_count_1 (by rw [c1]; decide) (by rw [c1]; decide) (by rw [c1]; rfl) (by decide) ?_
    refine nz_aload_n F dX7_count_44 rfl 0 rfl ?_
    refine nz_get F iw_X7_count_7 0 (nz_xg0 g a X) rfl 0 (by decide) rfl fl_X7_count_10 rfl dX7_count_45 ?_
    refine kX_X6_present_1_54 a X (fun Q hM => nz_runVN F gX7_count_X6_present_n273 rfl nt_X7_count_X6_present_273 wd_X7_count_in_RX6 wd_X7_count_im_X6_present wd_X7_count_se_X6_present hd_X6_present rfl hM dX7_count_48 (List.range' 1 4 ++ List.range' 54 8) (hC_X6_present_1_54 g a X) nd_1_4_54_8 1 (nz_xg1 g a X) rfl rfl (Nat.le_of_ble_eq_true rfl) rfl) h (fun q2 h => ?_)
    exact nz_iret F hQ X h rfl dX7_count_51
  · have h := h.2 c1
    by_cases c3 : v1 = 1
    · have h := h.1 c3
      refine nz_tin (tgt := 52) (off := 51) F dX7_count_1 (by rw [c3]; decide) (by rw [c3]; decide) (by rw [c3]; rfl) (by decide) ?_
      refine nz_aload_n F dX7_count_52 rfl 0 rfl ?_
      refine nz_get F iw_X7_count_7 0 (nz_xg0 g a X) rfl 2 (by decide) rfl fl_X7_count_26 rfl dX7_count_53 ?_
      refine nz_getN F iw_X7_count_5 16 (nz_xg16 g a X) rfl 6 (by decide) rfl fn_X7_count_134 rfl dX7_count_56 ?_
      exact nz_iret F hQ X h rfl dX7_count_59
    · have h := h.2 c3
      by_cases c4 : v1 = 2
      · have h := h.1 c4
        refine nz_tin (tgt := 60) (off := 59) F dX7_count_1 (by rw [c4]; decide) (by rw [c4]; decide) (by rw [c4]; rfl) (by decide) ?_
        refine nz_aload_n F dX7_count_60 rfl 0 rfl ?_
        refine nz_get F iw_X7_count_7 0 (nz_xg0 g a X) rfl 2 (by decide) rfl fl_X7_count_26 rfl dX7_count_61 ?_
        refine nz_getN F iw_X7_count_5 16 (nz_xg16 g a X) rfl 7 (by decide) rfl fn_X7_count_276 rfl dX7_count_64 ?_
        exact nz_iret F hQ X h rfl dX7_count_67
      · have h := h.2 c4
        by_cases c5 : v1 = 3
        · have h := h.1 c5
          refine nz_tin (tgt := 68) (off := 67) F dX7_count_1 (by rw [c5]; decide) (by rw [c5]; decide) (by rw [c5]; rfl) (by decide) ?_
          refine nz_aload_n F dX7_count_68 rfl 0 rfl ?_
          refine nz_get F iw_X7_count_7 0 (nz_xg0 g a X) rfl 2 (by decide) rfl fl_X7_count_26 rfl dX7_count_69 ?_
          refine nz_getN F iw_X7_count_5 16 (nz_xg16 g a X) rfl 5 (by decide) rfl fn_X7_count_142 rfl dX7_count_72 ?_
          exact nz_iret F hQ X h rfl dX7_count_75
        · have h := h.2 c5
          by_cases c6 : v1 = 4
          · have h := h.1 c6
            refine nz_tin (tgt := 76) (off := 75) F dX7_count_1 (by rw [c6]; decide) (by rw [c6]; decide) (by rw [c6]; rfl) (by decide) ?_
            refine nz_aload_n F dX7_count_76 rfl 0 rfl ?_
            refine nz_get F iw_X7_count_7 0 (nz_xg0 g a X) rfl 4 (by decide) rfl fl_X7_count_37 rfl dX7_count_77 ?_
            refine nz_getN F iw_X7_count_0 44 (nz_xg44 g a X) rfl 2 (by decide) rfl fn_X7_count_174 rfl dX7_count_80 ?_
            exact nz_iret F hQ X h rfl dX7_count_83
          · have h := h.2 c6
            by_cases c7 : v1 = 5
            · have h := h.1 c7
              refine nz_tin (tgt := 84) (off := 83) F dX7_count_1 (by rw [c7]; decide) (by rw [c7]; decide) (by rw [c7]; rfl) (by decide) ?_
              refine nz_aload_n F dX7_count_84 rfl 0 rfl ?_
              refine nz_get F iw_X7_count_7 0 (nz_xg0 g a X) rfl 2 (by decide) rfl fl_X7_count_26 rfl dX7_count_85 ?_
              refine nz_getN F iw_X7_count_5 16 (nz_xg16 g a X) rfl 8 (by decide) rfl fn_X7_count_201 rfl dX7_count_88 ?_
              exact nz_iret F hQ X h rfl dX7_count_91
            · have h := h.2 c7
              by_cases c8 : v1 = 6
              · have h := h.1 c8
                refine nz_tin (tgt := 92) (off := 91) F dX7_count_1 (by rw [c8]; decide) (by rw [c8]; decide) (by rw [c8]; rfl) (by decide) ?_
                refine nz_aload_n F dX7_count_92 rfl 0 rfl ?_
                refine nz_get F iw_X7_count_7 0 (nz_xg0 g a X) rfl 1 (by decide) rfl fl_X7_count_19 rfl dX7_count_93 ?_
                refine nz_getN F iw_X7_count_4 5 (nz_xg5 g a X) rfl 2 (by decide) rfl fn_X7_count_279 rfl dX7_count_96 ?_
                exact nz_iret F hQ X h rfl dX7_count_99
              · have h := h.2 c8
                refine nz_tout (tgt := 100) F dX7_count_1 (nz_osw (lo := 0) (hi := 6) (fun j h1 h2 => by have e0 : ¬ (v1 : Int32).toInt = (0 : Int) := nz_nq c1; have e1 : ¬ (v1 : Int32).toInt = (1 : Int) := nz_nq c3; have e2 : ¬ (v1 : Int32).toInt = (2 : Int) := nz_nq c4; have e3 : ¬ (v1 : Int32).toInt = (3 : Int) := nz_nq c5; have e4 : ¬ (v1 : Int32).toInt = (4 : Int) := nz_nq c6; have e5 : ¬ (v1 : Int32).toInt = (5 : Int) := nz_nq c7; have e6 : ¬ (v1 : Int32).toInt = (6 : Int) := nz_nq c8; omega)) (by decide) ?_
                refine nz_ldc (v := (-1000001 : Int32)) F wd_X7_count_c70 dX7_count_100 ?_
                exact nz_iret F hQ X h rfl dX7_count_102
theorem k_X7_count {y : nz_Y} {g : nz_G} {k n : Nat} {ws : va_W} {pc : Nat} {ls : List (Nat × Value)} {st rest : List Value} {av : Array Value} {isC : List Nat} {K : Int32 → (Nat → Nat → Int32) → Prop} (a : Nat → Nat) (X : Nat → Nat → Int32) (v1 : Int32) (run : nz_M (yz_l y) yX7_count wsX7_count rm_X7_count g [.ref (a 0), .int v1] (nz_wX g a X) (nz_Qi g (nz_wX g a X) (fun r (u : Nat → Nat → Int32) => K r u) (fun u => nz_wX g a u)) → nz_C y g k n ws pc ls st rest (nz_wX g a X) (nz_Qi g (nz_wX g a X) (fun r (u : Nat → Nat → Int32) => K r u) (fun u => nz_wX g a u)) av isC) (h : wp_X7_count X v1 K) (ws' : (Nat → Nat → Int32) → va_W) (hm : ∀ (m0 : (Nat → Nat → Int32)), nz_mrg ws isC (nz_wX g a m0) = ws' m0) (kk : ∀ (r : Int32) (m0 : (Nat → Nat → Int32)), K r m0 → nz_V y g k n (ws' m0) (pc + 3) ls (.int r :: rest)) : nz_V y g k n ws pc ls st :=
  nz_ci (ws' := fun u => ws' u) (run (c_X7_count (yz_l y) g a X v1 K h)) (fun _ => rfl) (fun u => hm u) (fun r u h => kk r u h)
theorem dX7_status_0 : decode cX7_status 0 = .ok (.aload_n 0, 1) := by decide +kernel
theorem dX7_status_1 : decode cX7_status 1 = .ok (.getfield 282, 3) := by decide +kernel
theorem dX7_status_4 : decode cX7_status 4 = .ok (.ireturn, 1) := by decide +kernel
/-! X7_status -/
abbrev rm_X7_status : Room := { frames := 0, cells := 0, slots := 0, locals := 0 }
theorem iw_X7_status_7 : ∀ w ∈ wsX70, w ∈ wsX7_status := fun _ h => List.mem_cons_of_mem _ (List.mem_append_right _ h)
theorem fl_X7_status_282 : Cond.fieldLink RX7 282 "NightStones" "latestFinding" "I" ∈ wsX7_status := List.mem_of_getElem? (i := 1) rfl
def wp_X7_status (X : Nat → Nat → Int32) (K : Int32 → (Nat → Nat → Int32) → Prop) : Prop := K (X 0 9) X
set_option maxHeartbeats 4000000 in
set_option maxRecDepth 100000 in
theorem c_X7_status (l : Launch) (g : nz_G) (a : Nat → Nat) (X : Nat → Nat → Int32) (K : Int32 → (Nat → Nat → Int32) → Prop) (h : wp_X7_status X K) : nz_M l yX7_status wsX7_status rm_X7_status g [.ref (a 0)] (nz_wX g a X) (nz_Qi g (nz_wX g a X) (fun r (u : Nat → Nat → Int32) => K r u) (fun u => nz_wX g a u)) := by
  refine nz_M.of (bytes := cX7_status) (nL := 1) (ret := (some .int)) (own := RX7) (by decide) rfl rfl ⟨rfl, rfl⟩ rfl ?_
  intro y F hl hQ
  obtain ⟨sz, hQ⟩ := hQ
  refine nz_ent (lv' := [(0, .ref (a 0))]) rfl ?_
  unfold wp_X7_status at h
  refine nz_aload_n F dX7_status_0 rfl 0 rfl ?_
  refine nz_get F iw_X7_status_7 0 (nz_xg0 g a X) rfl 9 (by decide) rfl fl_X7_status_282 rfl dX7_status_1 ?_
  exact nz_iret F hQ X h rfl dX7_status_4
theorem k_X7_status {y : nz_Y} {g : nz_G} {k n : Nat} {ws : va_W} {pc : Nat} {ls : List (Nat × Value)} {st rest : List Value} {av : Array Value} {isC : List Nat} {K : Int32 → (Nat → Nat → Int32) → Prop} (a : Nat → Nat) (X : Nat → Nat → Int32) (run : nz_M (yz_l y) yX7_status wsX7_status rm_X7_status g [.ref (a 0)] (nz_wX g a X) (nz_Qi g (nz_wX g a X) (fun r (u : Nat → Nat → Int32) => K r u) (fun u => nz_wX g a u)) → nz_C y g k n ws pc ls st rest (nz_wX g a X) (nz_Qi g (nz_wX g a X) (fun r (u : Nat → Nat → Int32) => K r u) (fun u => nz_wX g a u)) av isC) (h : wp_X7_status X K) (ws' : (Nat → Nat → Int32) → va_W) (hm : ∀ (m0 : (Nat → Nat → Int32)), nz_mrg ws isC (nz_wX g a m0) = ws' m0) (kk : ∀ (r : Int32) (m0 : (Nat → Nat → Int32)), K r m0 → nz_V y g k n (ws' m0) (pc + 3) ls (.int r :: rest)) : nz_V y g k n ws pc ls st :=
  nz_ci (ws' := fun u => ws' u) (run (c_X7_status (yz_l y) g a X K h)) (fun _ => rfl) (fun u => hm u) (fun r u h => kk r u h)
