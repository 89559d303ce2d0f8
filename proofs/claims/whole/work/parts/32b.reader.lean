theorem dX4_blame_0 : decode cX4_blame 0 = .ok (.aload_n 0, 1) := by decide +kernel
theorem dX4_blame_1 : decode cX4_blame 1 = .ok (.getfield 26, 3) := by decide +kernel
theorem dX4_blame_4 : decode cX4_blame 4 = .ok (.ifCond .ne 8, 3) := by decide +kernel
theorem dX4_blame_7 : decode cX4_blame 7 = .ok (.aload_n 0, 1) := by decide +kernel
theorem dX4_blame_8 : decode cX4_blame 8 = .ok (.iload_n 1, 1) := by decide +kernel
theorem dX4_blame_9 : decode cX4_blame 9 = .ok (.putfield 26, 3) := by decide +kernel
theorem dX4_blame_12 : decode cX4_blame 12 = .ok (.return_, 1) := by decide +kernel
/-! X4_blame -/
abbrev rm_X4_blame : Room := { frames := 0, cells := 0, slots := 0, locals := 0 }
theorem iw_X4_blame_4 : ∀ w ∈ wsX40, w ∈ wsX4_blame := fun _ h => List.mem_cons_of_mem _ (List.mem_append_right _ h)
theorem fl_X4_blame_26 : Cond.fieldLink RX4 26 "NightStones$Reader" "fault" "I" ∈ wsX4_blame := List.mem_of_getElem? (i := 1) rfl
def wp_X4_blame (er7 : Int32) (v1 : Int32) (K : Int32 → Prop) : Prop := ((¬ er7 = 0 → K er7) ∧ (er7 = 0 → K v1))
set_option maxHeartbeats 4000000 in
set_option maxRecDepth 100000 in
theorem c_X4_blame (l : Launch) (g : nz_G) (eo : Nat) (ea0 : Nat) (ed : Nat) (er2 : Int32) (er3 : Int32) (er4 : Int32) (er5 : Int32) (er6 : Int32) (er7 : Int32) (ef0 : Nat → Int32) (v1 : Int32) (K : Int32 → Prop) (h : wp_X4_blame er7 v1 K) : nz_M l yX4_blame wsX4_blame rm_X4_blame g [.ref eo, .int v1] [(eo, .inr (4, [.ref ea0, .ref ed, .int er2, .int er3, .int er4, .int er5, .int er6, .int er7])), (ea0, .inl (nz_cI g, 400, .inl ef0))] (nz_Qv g [(eo, .inr (4, [.ref ea0, .ref ed, .int er2, .int er3, .int er4, .int er5, .int er6, .int er7])), (ea0, .inl (nz_cI g, 400, .inl ef0))] (fun (u : Int32) => K u) (fun u => [(eo, .inr (4, [.ref ea0, .ref ed, .int er2, .int er3, .int er4, .int er5, .int er6, .int u])), (ea0, .inl (nz_cI g, 400, .inl ef0))])) := by
  refine nz_M.of (bytes := cX4_blame) (nL := 2) (ret := none) (own := RX4) (by decide) rfl rfl ⟨rfl, rfl⟩ rfl ?_
  intro y F hl hQ
  obtain ⟨sz, hQ⟩ := hQ
  refine nz_ent (lv' := [(0, .ref eo), (1, .int v1)]) rfl ?_
  unfold wp_X4_blame at h
  refine nz_aload_n F dX4_blame_0 rfl 0 rfl ?_
  refine nz_get F iw_X4_blame_4 0 rfl rfl 7 (by decide) rfl fl_X4_blame_26 rfl dX4_blame_1 ?_
  refine nz_if_ne (tgt := 12) F dX4_blame_4 (by decide) (fun c1 => ?_) (fun c1 => ?_)
  · have h := h.1 c1
    exact nz_vret F hQ er7 h rfl dX4_blame_12
  · have h := h.2 c1
    refine nz_aload_n F dX4_blame_7 rfl 0 rfl ?_
    refine nz_iload_n F dX4_blame_8 rfl 1 rfl ?_
    refine nz_put (ws' := [(eo, .inr (4, [.ref ea0, .ref ed, .int er2, .int er3, .int er4, .int er5, .int er6, .int v1])), (ea0, .inl (nz_cI g, 400, .inl ef0))]) F iw_X4_blame_4 tyX4 tyX4_ok nmX4 0 rfl rfl 7 (by decide) rfl fl_X4_blame_26 rfl rfl (Nat.le_of_ble_eq_true rfl) dX4_blame_9 rfl ?_
    exact nz_vret F hQ v1 h rfl dX4_blame_12
theorem k_X4_blame {y : nz_Y} {g : nz_G} {k n : Nat} {ws : va_W} {pc : Nat} {ls : List (Nat × Value)} {st rest : List Value} {av : Array Value} {isC : List Nat} {K : Int32 → Prop} (eo : Nat) (ea0 : Nat) (ed : Nat) (er2 : Int32) (er3 : Int32) (er4 : Int32) (er5 : Int32) (er6 : Int32) (er7 : Int32) (ef0 : Nat → Int32) (v1 : Int32) (run : nz_M (yz_l y) yX4_blame wsX4_blame rm_X4_blame g [.ref eo, .int v1] [(eo, .inr (4, [.ref ea0, .ref ed, .int er2, .int er3, .int er4, .int er5, .int er6, .int er7])), (ea0, .inl (nz_cI g, 400, .inl ef0))] (nz_Qv g [(eo, .inr (4, [.ref ea0, .ref ed, .int er2, .int er3, .int er4, .int er5, .int er6, .int er7])), (ea0, .inl (nz_cI g, 400, .inl ef0))] (fun (u : Int32) => K u) (fun u => [(eo, .inr (4, [.ref ea0, .ref ed, .int er2, .int er3, .int er4, .int er5, .int er6, .int u])), (ea0, .inl (nz_cI g, 400, .inl ef0))])) → nz_C y g k n ws pc ls st rest [(eo, .inr (4, [.ref ea0, .ref ed, .int er2, .int er3, .int er4, .int er5, .int er6, .int er7])), (ea0, .inl (nz_cI g, 400, .inl ef0))] (nz_Qv g [(eo, .inr (4, [.ref ea0, .ref ed, .int er2, .int er3, .int er4, .int er5, .int er6, .int er7])), (ea0, .inl (nz_cI g, 400, .inl ef0))] (fun (u : Int32) => K u) (fun u => [(eo, .inr (4, [.ref ea0, .ref ed, .int er2, .int er3, .int er4, .int er5, .int er6, .int u])), (ea0, .inl (nz_cI g, 400, .inl ef0))])) av isC) (h : wp_X4_blame er7 v1 K) (ws' : Int32 → va_W) (hm : ∀ (m0 : Int32), nz_mrg ws isC [(eo, .inr (4, [.ref ea0, .ref ed, .int er2, .int er3, .int er4, .int er5, .int er6, .int m0])), (ea0, .inl (nz_cI g, 400, .inl ef0))] = ws' m0) (kk : ∀ (m0 : Int32), K m0 → nz_V y g k n (ws' m0) (pc + 3) ls (rest)) : nz_V y g k n ws pc ls st :=
  nz_cv (ws' := fun u => ws' u) (run (c_X4_blame (yz_l y) g eo ea0 ed er2 er3 er4 er5 er6 er7 ef0 v1 K h)) (fun _ => rfl) (fun u => hm u) (fun u h => kk u h)
theorem dX4_isWord_0 : decode cX4_isWord 0 = .ok (.aload_n 0, 1) := by decide +kernel
theorem dX4_isWord_1 : decode cX4_isWord 1 = .ok (.getfield 44, 3) := by decide +kernel
theorem dX4_isWord_4 : decode cX4_isWord 4 = .ok (.iconst 1, 1) := by decide +kernel
theorem dX4_isWord_5 : decode cX4_isWord 5 = .ok (.if_icmp .ne 19, 3) := by decide +kernel
theorem dX4_isWord_8 : decode cX4_isWord 8 = .ok (.aload_n 0, 1) := by decide +kernel
theorem dX4_isWord_9 : decode cX4_isWord 9 = .ok (.getfield 29, 3) := by decide +kernel
theorem dX4_isWord_12 : decode cX4_isWord 12 = .ok (.aload_n 0, 1) := by decide +kernel
theorem dX4_isWord_13 : decode cX4_isWord 13 = .ok (.getfield 73, 3) := by decide +kernel
theorem dX4_isWord_16 : decode cX4_isWord 16 = .ok (.isub, 1) := by decide +kernel
theorem dX4_isWord_17 : decode cX4_isWord 17 = .ok (.aload_n 1, 1) := by decide +kernel
theorem dX4_isWord_18 : decode cX4_isWord 18 = .ok (.invokevirtual 150, 3) := by decide +kernel
theorem dX4_isWord_21 : decode cX4_isWord 21 = .ok (.if_icmp .eq 5, 3) := by decide +kernel
theorem dX4_isWord_24 : decode cX4_isWord 24 = .ok (.iconst 0, 1) := by decide +kernel
theorem dX4_isWord_25 : decode cX4_isWord 25 = .ok (.ireturn, 1) := by decide +kernel
theorem dX4_isWord_26 : decode cX4_isWord 26 = .ok (.iconst 0, 1) := by decide +kernel
theorem dX4_isWord_27 : decode cX4_isWord 27 = .ok (.istore_n 2, 1) := by decide +kernel
theorem dX4_isWord_28 : decode cX4_isWord 28 = .ok (.iload_n 2, 1) := by decide +kernel
theorem dX4_isWord_29 : decode cX4_isWord 29 = .ok (.aload_n 1, 1) := by decide +kernel
theorem dX4_isWord_30 : decode cX4_isWord 30 = .ok (.invokevirtual 150, 3) := by decide +kernel
theorem dX4_isWord_33 : decode cX4_isWord 33 = .ok (.if_icmp .ge 43, 3) := by decide +kernel
theorem dX4_isWord_36 : decode cX4_isWord 36 = .ok (.aload_n 0, 1) := by decide +kernel
theorem dX4_isWord_37 : decode cX4_isWord 37 = .ok (.getfield 73, 3) := by decide +kernel
theorem dX4_isWord_40 : decode cX4_isWord 40 = .ok (.iload_n 2, 1) := by decide +kernel
theorem dX4_isWord_41 : decode cX4_isWord 41 = .ok (.iadd, 1) := by decide +kernel
theorem dX4_isWord_42 : decode cX4_isWord 42 = .ok (.aload_n 0, 1) := by decide +kernel
theorem dX4_isWord_43 : decode cX4_isWord 43 = .ok (.getfield 22, 3) := by decide +kernel
theorem dX4_isWord_46 : decode cX4_isWord 46 = .ok (.if_icmp .ge 30, 3) := by decide +kernel
theorem dX4_isWord_49 : decode cX4_isWord 49 = .ok (.aload_n 0, 1) := by decide +kernel
theorem dX4_isWord_50 : decode cX4_isWord 50 = .ok (.getfield 11, 3) := by decide +kernel
theorem dX4_isWord_53 : decode cX4_isWord 53 = .ok (.aload_n 0, 1) := by decide +kernel
theorem dX4_isWord_54 : decode cX4_isWord 54 = .ok (.getfield 73, 3) := by decide +kernel
theorem dX4_isWord_57 : decode cX4_isWord 57 = .ok (.iload_n 2, 1) := by decide +kernel
theorem dX4_isWord_58 : decode cX4_isWord 58 = .ok (.iadd, 1) := by decide +kernel
theorem dX4_isWord_59 : decode cX4_isWord 59 = .ok (.iaload, 1) := by decide +kernel
theorem dX4_isWord_60 : decode cX4_isWord 60 = .ok (.aload_n 1, 1) := by decide +kernel
theorem dX4_isWord_61 : decode cX4_isWord 61 = .ok (.iload_n 2, 1) := by decide +kernel
theorem dX4_isWord_62 : decode cX4_isWord 62 = .ok (.invokevirtual 154, 3) := by decide +kernel
theorem dX4_isWord_65 : decode cX4_isWord 65 = .ok (.if_icmp .eq 5, 3) := by decide +kernel
theorem dX4_isWord_68 : decode cX4_isWord 68 = .ok (.iconst 0, 1) := by decide +kernel
theorem dX4_isWord_69 : decode cX4_isWord 69 = .ok (.ireturn, 1) := by decide +kernel
theorem dX4_isWord_70 : decode cX4_isWord 70 = .ok (.iinc 2 1, 3) := by decide +kernel
theorem dX4_isWord_73 : decode cX4_isWord 73 = .ok (.goto (-45), 3) := by decide +kernel
theorem dX4_isWord_76 : decode cX4_isWord 76 = .ok (.iconst 1, 1) := by decide +kernel
theorem dX4_isWord_77 : decode cX4_isWord 77 = .ok (.ireturn, 1) := by decide +kernel
set_option maxRecDepth 20000 in
theorem ggX4_isWord_J0_charAt_5068e : GoodIn wsX4_isWord wsJ0_charAt_5068e := goodIn_r _ [21, 11, 22, 23, 24, 9, 25, 16, 17, 26, 27, 28, 29, 30, 31, 32, 33, 34, 35, 36, 37, 38, 39, 40, 41, 42, 43, 44, 45, 46, 47, 48, 49, 50, 51, 52, 53, 54] rfl (by decide +kernel)
set_option maxRecDepth 20000 in
theorem gX4_isWord_J0_charAt_5068e : GoodIn wsX4_isWord (wsV RX4 154 RJ0 yJ0_charAt_5068e wsJ0_charAt_5068e) := goodIn_app (goodIn_r _ [18, 19, 20, 9] rfl (by decide +kernel)) ggX4_isWord_J0_charAt_5068e
set_option maxRecDepth 20000 in
theorem ggX4_isWord_J0_length_8abf5 : GoodIn wsX4_isWord wsJ0_length_8abf5 := goodIn_r _ [10, 11, 12, 13, 14, 9, 15, 16, 17] rfl (by decide +kernel)
set_option maxRecDepth 20000 in
theorem gX4_isWord_J0_length_8abf5 : GoodIn wsX4_isWord (wsV RX4 150 RJ0 yJ0_length_8abf5 wsJ0_length_8abf5) := goodIn_app (goodIn_r _ [6, 7, 8, 9] rfl (by decide +kernel)) ggX4_isWord_J0_length_8abf5
theorem hd_J0_charAt_5068e : yJ0_charAt_5068e.cls = RJ0 ∧ yJ0_charAt_5068e.cls ≠ "java/lang/invoke/MethodHandle" ∧ yJ0_charAt_5068e.cls ≠ "java/lang/invoke/VarHandle" ∧ (parseMethodDescriptor yJ0_charAt_5068e.desc).map (fun d => d.parameters.length) = some 1 := by decide +kernel
theorem hd_J0_length_8abf5 : yJ0_length_8abf5.cls = RJ0 ∧ yJ0_length_8abf5.cls ≠ "java/lang/invoke/MethodHandle" ∧ yJ0_length_8abf5.cls ≠ "java/lang/invoke/VarHandle" ∧ (parseMethodDescriptor yJ0_length_8abf5.desc).map (fun d => d.parameters.length) = some 0 := by decide +kernel
/-! X4_isWord -/
abbrev rm_X4_isWord : Room := { frames := 4, cells := 0, slots := 0, locals := 85 }
theorem iw_X4_isWord_4 : ∀ w ∈ wsX40, w ∈ wsX4_isWord := fun _ h => List.mem_cons_of_mem _ (List.mem_append_right _ h)
theorem fl_X4_isWord_44 : Cond.fieldLink RX4 44 "NightStones$Reader" "token" "I" ∈ wsX4_isWord := List.mem_of_getElem? (i := 1) rfl
theorem fl_X4_isWord_29 : Cond.fieldLink RX4 29 "NightStones$Reader" "to" "I" ∈ wsX4_isWord := List.mem_of_getElem? (i := 2) rfl
theorem fl_X4_isWord_73 : Cond.fieldLink RX4 73 "NightStones$Reader" "from" "I" ∈ wsX4_isWord := List.mem_of_getElem? (i := 3) rfl
theorem fl_X4_isWord_22 : Cond.fieldLink RX4 22 "NightStones$Reader" "bytes" "I" ∈ wsX4_isWord := List.mem_of_getElem? (i := 4) rfl
theorem fl_X4_isWord_11 : Cond.fieldLink RX4 11 "NightStones$Reader" "tape" "[I" ∈ wsX4_isWord := List.mem_of_getElem? (i := 5) rfl
def S_X4_isWord_28 (er2 : Int32) (er3 : Int32) (ef0 : Nat → Int32) (v1 : Nat) (K : Int32 → Prop) (R28 : Int32 → Prop) (x2 : Int32) : Prop := wp_J0_length_8abf5 v1 (fun q4 => ((q4 ≤ x2 → K 1) ∧ (¬ (q4 ≤ x2) → ((er2 ≤ (er3 + x2) → K 1) ∧ (¬ (er2 ≤ (er3 + x2)) → (vp_in (er3 + x2) 400 ∧ wp_J0_charAt_5068e v1 x2 (fun q8 => (((ef0 (er3 + x2).toNatClampNeg) = q8 → R28 (x2 + 1)) ∧ (¬ ((ef0 (er3 + x2).toNatClampNeg) = q8) → K 0)))))))))
set_option maxHeartbeats 4000000 in
set_option maxRecDepth 100000 in
theorem t_X4_isWord_28 {y : nz_Y} {g : nz_G} (F : nz_F y g cX4_isWord 3 wsX4_isWord RX4 (some .boolean) rm_X4_isWord) {wc0 : va_W} {sz : Nat} {K : Int32 → Prop} (eo : Nat) (ea0 : Nat) (ed : Nat) (er2 : Int32) (er3 : Int32) (er4 : Int32) (er5 : Int32) (er6 : Int32) (er7 : Int32) (ef0 : Nat → Int32) (v1 : Nat) (hQ : yz_A y = va_A wc0 sz ∧ yz_Q y = MQ (yz_b y) ((nz_Qi g wc0 (fun r (u : Unit) => K r) (fun u => [(eo, .inr (4, [.ref ea0, .ref ed, .int er2, .int er3, .int er4, .int er5, .int er6, .int er7])), (ea0, .inl (nz_cI g, 400, .inl ef0))])) sz) (yz_a y) (yz_s y) 0 0 (va_A wc0 sz)) : ∀ (n1 : Nat) (x2 : Int32), nz_it (fun _ => False) (S_X4_isWord_28 er2 er3 ef0 v1 K) n1 x2 → nz_V y g 0 0 [(eo, .inr (4, [.ref ea0, .ref ed, .int er2, .int er3, .int er4, .int er5, .int er6, .int er7])), (ea0, .inl (nz_cI g, 400, .inl ef0))] 28 [(0, .ref eo), (1, .ref (nz_aK g v1)), (2, .int x2)] [] := by
  intro n1
  induction n1 with
  | zero =>
    intro x2 h
    exact h.elim
  | succ n1 hR28 =>
    intro x2 h
    have h : S_X4_isWord_28 er2 er3 ef0 v1 K (nz_it (fun _ => False) (S_X4_isWord_28 er2 er3 ef0 v1 K) n1) x2 := h
    unfold S_X4_isWord_28 at h
    refine nz_iload_n F dX4_isWord_28 rfl 2 rfl ?_
    refine nz_aload_n F dX4_isWord_29 rfl 1 rfl ?_
    refine k_J0_length_8abf5 v1 (fun hM => nz_runK F (And.left h) gX4_isWord_J0_length_8abf5 rfl hd_J0_length_8abf5 rfl hM dX4_isWord_30 [] rfl rfl rfl (Nat.le_of_ble_eq_true rfl) rfl) h ([(eo, .inr (4, [.ref ea0, .ref ed, .int er2, .int er3, .int er4, .int er5, .int er6, .int er7])), (ea0, .inl (nz_cI g, 400, .inl ef0))]) (rfl) (fun q4 h => ?_)
    refine nz_icmp_ge (tgt := 76) F dX4_isWord_33 (by decide) (fun c5 => ?_) (fun c5 => ?_)
    · have h := h.1 c5
      refine nz_iconst (v := 1) F dX4_isWord_76 (by decide) ?_
      exact nz_zret F hQ () h rfl (by decide) dX4_isWord_77
    · have h := h.2 c5
      refine nz_aload_n F dX4_isWord_36 rfl 0 rfl ?_
      refine nz_get F iw_X4_isWord_4 0 rfl rfl 3 (by decide) rfl fl_X4_isWord_73 rfl dX4_isWord_37 ?_
      refine nz_iload_n F dX4_isWord_40 rfl 2 rfl ?_
      refine nz_iadd F dX4_isWord_41 ?_
      refine nz_aload_n F dX4_isWord_42 rfl 0 rfl ?_
      refine nz_get F iw_X4_isWord_4 0 rfl rfl 2 (by decide) rfl fl_X4_isWord_22 rfl dX4_isWord_43 ?_
      refine nz_icmp_ge (tgt := 76) F dX4_isWord_46 (by decide) (fun c6 => ?_) (fun c6 => ?_)
      · have h := h.1 c6
        refine nz_iconst (v := 1) F dX4_isWord_76 (by decide) ?_
        exact nz_zret F hQ () h rfl (by decide) dX4_isWord_77
      · have h := h.2 c6
        refine nz_aload_n F dX4_isWord_49 rfl 0 rfl ?_
        refine nz_get F iw_X4_isWord_4 0 rfl rfl 0 (by decide) rfl fl_X4_isWord_11 rfl dX4_isWord_50 ?_
        refine nz_aload_n F dX4_isWord_53 rfl 0 rfl ?_
        refine nz_get F iw_X4_isWord_4 0 rfl rfl 3 (by decide) rfl fl_X4_isWord_73 rfl dX4_isWord_54 ?_
        refine nz_iload_n F dX4_isWord_57 rfl 2 rfl ?_
        refine nz_iadd F dX4_isWord_58 ?_
        obtain ⟨i7, h⟩ := h
        refine nz_iald F 1 rfl i7 dX4_isWord_59 ?_
        refine nz_aload_n F dX4_isWord_60 rfl 1 rfl ?_
        refine nz_iload_n F dX4_isWord_61 rfl 2 rfl ?_
        refine k_J0_charAt_5068e v1 x2 (fun hM => nz_runK F (And.left h) gX4_isWord_J0_charAt_5068e rfl hd_J0_charAt_5068e rfl hM dX4_isWord_62 [] rfl rfl rfl (Nat.le_of_ble_eq_true rfl) rfl) h ([(eo, .inr (4, [.ref ea0, .ref ed, .int er2, .int er3, .int er4, .int er5, .int er6, .int er7])), (ea0, .inl (nz_cI g, 400, .inl ef0))]) (rfl) (fun q8 h => ?_)
        refine nz_icmp_eq (tgt := 70) F dX4_isWord_65 (by decide) (fun c9 => ?_) (fun c9 => ?_)
        · have h := h.1 c9
          refine nz_iinc (v := (x2 + 1)) (j := 2) (lv' := [(2, .int (x2 + 1)), (0, .ref eo), (1, .ref (nz_aK g v1))]) F dX4_isWord_70 rfl rfl (by decide) rfl ?_
          refine nz_goto (tgt := 28) F dX4_isWord_73 (by decide) ?_
          refine nz_ls (lv' := [(0, .ref eo), (1, .ref (nz_aK g v1)), (2, .int (x2 + 1))]) [1, 2, 0] rfl ?_
          exact hR28 (x2 + 1) h
        · have h := h.2 c9
          refine nz_iconst (v := 0) F dX4_isWord_68 (by decide) ?_
          exact nz_zret F hQ () h rfl (by decide) dX4_isWord_69
def wp_X4_isWord (er2 : Int32) (er3 : Int32) (er4 : Int32) (er5 : Int32) (ef0 : Nat → Int32) (v1 : Nat) (K : Int32 → Prop) : Prop := ((¬ er5 = 1 → K 0) ∧ (er5 = 1 → wp_J0_length_8abf5 v1 (fun q2 => (((er4 - er3) = q2 → (∃ n, nz_it (fun _ => False) (S_X4_isWord_28 er2 er3 ef0 v1 K) n 0)) ∧ (¬ ((er4 - er3) = q2) → K 0)))))
set_option maxHeartbeats 4000000 in
set_option maxRecDepth 100000 in
theorem c_X4_isWord (l : Launch) (g : nz_G) (eo : Nat) (ea0 : Nat) (ed : Nat) (er2 : Int32) (er3 : Int32) (er4 : Int32) (er5 : Int32) (er6 : Int32) (er7 : Int32) (ef0 : Nat → Int32) (v1 : Nat) (K : Int32 → Prop) (h : wp_X4_isWord er2 er3 er4 er5 ef0 v1 K) : nz_M l yX4_isWord wsX4_isWord rm_X4_isWord g [.ref eo, .ref (nz_aK g v1)] [(eo, .inr (4, [.ref ea0, .ref ed, .int er2, .int er3, .int er4, .int er5, .int er6, .int er7])), (ea0, .inl (nz_cI g, 400, .inl ef0))] (nz_Qi g [(eo, .inr (4, [.ref ea0, .ref ed, .int er2, .int er3, .int er4, .int er5, .int er6, .int er7])), (ea0, .inl (nz_cI g, 400, .inl ef0))] (fun r (u : Unit) => K r) (fun u => [(eo, .inr (4, [.ref ea0, .ref ed, .int er2, .int er3, .int er4, .int er5, .int er6, .int er7])), (ea0, .inl (nz_cI g, 400, .inl ef0))])) := by
  refine nz_M.of (bytes := cX4_isWord) (nL := 3) (ret := (some .boolean)) (own := RX4) (by decide) rfl rfl ⟨rfl, rfl⟩ rfl ?_
  intro y F hl hQ
  obtain ⟨sz, hQ⟩ := hQ
  refine nz_ent (lv' := [(0, .ref eo), (1, .ref (nz_aK g v1))]) rfl ?_
  unfold wp_X4_isWord at h
  refine nz_aload_n F dX4_isWord_0 rfl 0 rfl ?_
  refine nz_get F iw_X4_isWord_4 0 rfl rfl 5 (by decide) rfl fl_X4_isWord_44 rfl dX4_isWord_1 ?_
  refine nz_iconst (v := 1) F dX4_isWord_4 (by decide) ?_
  refine nz_icmp_ne (tgt := 24) F dX4_isWord_5 (by decide) (fun c1 => ?_) (fun c1 => ?_)
  · have h := h.1 c1
    refine nz_iconst (v := 0) F dX4_isWord_24 (by decide) ?_
    exact nz_zret F hQ () h rfl (by decide) dX4_isWord_25
  · have h := h.2 c1
    refine nz_aload_n F dX4_isWord_8 rfl 0 rfl ?_
    refine nz_get F iw_X4_isWord_4 0 rfl rfl 4 (by decide) rfl fl_X4_isWord_29 rfl dX4_isWord_9 ?_
    refine nz_aload_n F dX4_isWord_12 rfl 0 rfl ?_
    refine nz_get F iw_X4_isWord_4 0 rfl rfl 3 (by decide) rfl fl_X4_isWord_73 rfl dX4_isWord_13 ?_
    refine nz_isub F dX4_isWord_16 ?_
    refine nz_aload_n F dX4_isWord_17 rfl 1 rfl ?_
    refine k_J0_length_8abf5 v1 (fun hM => nz_runK F (And.left h) gX4_isWord_J0_length_8abf5 rfl hd_J0_length_8abf5 rfl hM dX4_isWord_18 [] rfl rfl rfl (Nat.le_of_ble_eq_true rfl) rfl) h ([(eo, .inr (4, [.ref ea0, .ref ed, .int er2, .int er3, .int er4, .int er5, .int er6, .int er7])), (ea0, .inl (nz_cI g, 400, .inl ef0))]) (rfl) (fun q2 h => ?_)
    refine nz_icmp_eq (tgt := 26) F dX4_isWord_21 (by decide) (fun c3 => ?_) (fun c3 => ?_)
    · have h := h.1 c3
      refine nz_iconst (v := 0) F dX4_isWord_26 (by decide) ?_
      refine nz_istore_n (lv' := [(2, .int 0), (0, .ref eo), (1, .ref (nz_aK g v1))]) F dX4_isWord_27 rfl (by decide) rfl ?_
      refine nz_ls (lv' := [(0, .ref eo), (1, .ref (nz_aK g v1)), (2, .int 0)]) [1, 2, 0] rfl ?_
      obtain ⟨n1, h⟩ := h
      exact t_X4_isWord_28 F eo ea0 ed er2 er3 er4 er5 er6 er7 ef0 v1 hQ n1 0 h
    · have h := h.2 c3
      refine nz_iconst (v := 0) F dX4_isWord_24 (by decide) ?_
      exact nz_zret F hQ () h rfl (by decide) dX4_isWord_25
theorem k_X4_isWord {y : nz_Y} {g : nz_G} {k n : Nat} {ws : va_W} {pc : Nat} {ls : List (Nat × Value)} {st rest : List Value} {av : Array Value} {isC : List Nat} {K : Int32 → Prop} (eo : Nat) (ea0 : Nat) (ed : Nat) (er2 : Int32) (er3 : Int32) (er4 : Int32) (er5 : Int32) (er6 : Int32) (er7 : Int32) (ef0 : Nat → Int32) (v1 : Nat) (run : nz_M (yz_l y) yX4_isWord wsX4_isWord rm_X4_isWord g [.ref eo, .ref (nz_aK g v1)] [(eo, .inr (4, [.ref ea0, .ref ed, .int er2, .int er3, .int er4, .int er5, .int er6, .int er7])), (ea0, .inl (nz_cI g, 400, .inl ef0))] (nz_Qi g [(eo, .inr (4, [.ref ea0, .ref ed, .int er2, .int er3, .int er4, .int er5, .int er6, .int er7])), (ea0, .inl (nz_cI g, 400, .inl ef0))] (fun r (u : Unit) => K r) (fun u => [(eo, .inr (4, [.ref ea0, .ref ed, .int er2, .int er3, .int er4, .int er5, .int er6, .int er7])), (ea0, .inl (nz_cI g, 400, .inl ef0))])) → nz_C y g k n ws pc ls st rest [(eo, .inr (4, [.ref ea0, .ref ed, .int er2, .int er3, .int er4, .int er5, .int er6, .int er7])), (ea0, .inl (nz_cI g, 400, .inl ef0))] (nz_Qi g [(eo, .inr (4, [.ref ea0, .ref ed, .int er2, .int er3, .int er4, .int er5, .int er6, .int er7])), (ea0, .inl (nz_cI g, 400, .inl ef0))] (fun r (u : Unit) => K r) (fun u => [(eo, .inr (4, [.ref ea0, .ref ed, .int er2, .int er3, .int er4, .int er5, .int er6, .int er7])), (ea0, .inl (nz_cI g, 400, .inl ef0))])) av isC) (h : wp_X4_isWord er2 er3 er4 er5 ef0 v1 K) (ws' : va_W) (hm : nz_mrg ws isC [(eo, .inr (4, [.ref ea0, .ref ed, .int er2, .int er3, .int er4, .int er5, .int er6, .int er7])), (ea0, .inl (nz_cI g, 400, .inl ef0))] = ws' ) (kk : ∀ (r : Int32), K r → nz_V y g k n ws' (pc + 3) ls (.int r :: rest)) : nz_V y g k n ws pc ls st :=
  nz_ci (ws' := fun _ => ws') (run (c_X4_isWord (yz_l y) g eo ea0 ed er2 er3 er4 er5 er6 er7 ef0 v1 K h)) (fun _ => rfl) (fun _ => hm) (fun r u h => kk r h)
theorem dX4_readNumber_0 : decode cX4_readNumber 0 = .ok (.aload_n 0, 1) := by decide +kernel
theorem dX4_readNumber_1 : decode cX4_readNumber 1 = .ok (.getfield 147, 3) := by decide +kernel
theorem dX4_readNumber_4 : decode cX4_readNumber 4 = .ok (.istore_n 3, 1) := by decide +kernel
theorem dX4_readNumber_5 : decode cX4_readNumber 5 = .ok (.aload_n 0, 1) := by decide +kernel
theorem dX4_readNumber_6 : decode cX4_readNumber 6 = .ok (.getfield 44, 3) := by decide +kernel
theorem dX4_readNumber_9 : decode cX4_readNumber 9 = .ok (.iconst 2, 1) := by decide +kernel
theorem dX4_readNumber_10 : decode cX4_readNumber 10 = .ok (.if_icmp .eq 11, 3) := by decide +kernel
theorem dX4_readNumber_13 : decode cX4_readNumber 13 = .ok (.aload_n 0, 1) := by decide +kernel
theorem dX4_readNumber_14 : decode cX4_readNumber 14 = .ok (.iconst 1, 1) := by decide +kernel
theorem dX4_readNumber_15 : decode cX4_readNumber 15 = .ok (.invokevirtual 47, 3) := by decide +kernel
theorem dX4_readNumber_18 : decode cX4_readNumber 18 = .ok (.goto 25, 3) := by decide +kernel
theorem dX4_readNumber_21 : decode cX4_readNumber 21 = .ok (.iload_n 3, 1) := by decide +kernel
theorem dX4_readNumber_22 : decode cX4_readNumber 22 = .ok (.iload_n 1, 1) := by decide +kernel
theorem dX4_readNumber_23 : decode cX4_readNumber 23 = .ok (.if_icmp .lt 8, 3) := by decide +kernel
theorem dX4_readNumber_26 : decode cX4_readNumber 26 = .ok (.iload_n 3, 1) := by decide +kernel
theorem dX4_readNumber_27 : decode cX4_readNumber 27 = .ok (.iload_n 2, 1) := by decide +kernel
theorem dX4_readNumber_28 : decode cX4_readNumber 28 = .ok (.if_icmp .le 11, 3) := by decide +kernel
theorem dX4_readNumber_31 : decode cX4_readNumber 31 = .ok (.aload_n 0, 1) := by decide +kernel
theorem dX4_readNumber_32 : decode cX4_readNumber 32 = .ok (.iconst 2, 1) := by decide +kernel
theorem dX4_readNumber_33 : decode cX4_readNumber 33 = .ok (.invokevirtual 47, 3) := by decide +kernel
theorem dX4_readNumber_36 : decode cX4_readNumber 36 = .ok (.goto 7, 3) := by decide +kernel
theorem dX4_readNumber_39 : decode cX4_readNumber 39 = .ok (.aload_n 0, 1) := by decide +kernel
theorem dX4_readNumber_40 : decode cX4_readNumber 40 = .ok (.invokevirtual 32, 3) := by decide +kernel
theorem dX4_readNumber_43 : decode cX4_readNumber 43 = .ok (.aload_n 0, 1) := by decide +kernel
theorem dX4_readNumber_44 : decode cX4_readNumber 44 = .ok (.getfield 26, 3) := by decide +kernel
theorem dX4_readNumber_47 : decode cX4_readNumber 47 = .ok (.ifCond .ne 7, 3) := by decide +kernel
theorem dX4_readNumber_50 : decode cX4_readNumber 50 = .ok (.iload_n 3, 1) := by decide +kernel
theorem dX4_readNumber_51 : decode cX4_readNumber 51 = .ok (.goto 4, 3) := by decide +kernel
theorem dX4_readNumber_54 : decode cX4_readNumber 54 = .ok (.iconst 0, 1) := by decide +kernel
theorem dX4_readNumber_55 : decode cX4_readNumber 55 = .ok (.ireturn, 1) := by decide +kernel
set_option maxRecDepth 20000 in
theorem ggX4_readNumber_X4_blame : GoodIn wsX4_readNumber wsX4_blame := goodIn_r _ [8, 3, 33, 34, 35, 36, 37, 38, 39, 40] rfl (by decide +kernel)
set_option maxRecDepth 20000 in
theorem gX4_readNumber_X4_blame : GoodIn wsX4_readNumber (wsV RX4 47 RX4 yX4_blame wsX4_blame) := goodIn_app (goodIn_r _ [4, 5, 6, 7] rfl (by decide +kernel)) ggX4_readNumber_X4_blame
set_option maxRecDepth 20000 in
theorem ggX4_readNumber_X4_next : GoodIn wsX4_readNumber wsX4_next := goodIn_r _ [12, 3, 13, 14, 15, 16, 1, 2, 17, 18, 19, 7, 20, 21, 22, 23, 24, 25, 26, 27, 28, 29, 30, 31, 32, 33, 34, 35, 36, 37, 38, 39, 40] rfl (by decide +kernel)
set_option maxRecDepth 20000 in
theorem gX4_readNumber_X4_next : GoodIn wsX4_readNumber (wsV RX4 32 RX4 yX4_next wsX4_next) := goodIn_app (goodIn_r _ [9, 10, 11, 7] rfl (by decide +kernel)) ggX4_readNumber_X4_next
theorem hd_X4_blame : yX4_blame.cls = RX4 ∧ yX4_blame.cls ≠ "java/lang/invoke/MethodHandle" ∧ yX4_blame.cls ≠ "java/lang/invoke/VarHandle" ∧ (parseMethodDescriptor yX4_blame.desc).map (fun d => d.parameters.length) = some 1 := by decide +kernel
theorem hd_X4_next : yX4_next.cls = RX4 ∧ yX4_next.cls ≠ "java/lang/invoke/MethodHandle" ∧ yX4_next.cls ≠ "java/lang/invoke/VarHandle" ∧ (parseMethodDescriptor yX4_next.desc).map (fun d => d.parameters.length) = some 0 := by decide +kernel
/-! X4_readNumber -/
abbrev rm_X4_readNumber : Room := { frames := 3, cells := 0, slots := 0, locals := 61 }
theorem iw_X4_readNumber_4 : ∀ w ∈ wsX40, w ∈ wsX4_readNumber := fun _ h => List.mem_cons_of_mem _ (List.mem_append_right _ h)
theorem fl_X4_readNumber_147 : Cond.fieldLink RX4 147 "NightStones$Reader" "value" "I" ∈ wsX4_readNumber := List.mem_of_getElem? (i := 1) rfl
theorem fl_X4_readNumber_44 : Cond.fieldLink RX4 44 "NightStones$Reader" "token" "I" ∈ wsX4_readNumber := List.mem_of_getElem? (i := 2) rfl
theorem fl_X4_readNumber_26 : Cond.fieldLink RX4 26 "NightStones$Reader" "fault" "I" ∈ wsX4_readNumber := List.mem_of_getElem? (i := 3) rfl
def S_X4_readNumber_43 (x3 : Int32) (er3 : Int32) (er4 : Int32) (er5 : Int32) (er6 : Int32) (er7 : Int32) (K : Int32 → Int32 → Int32 → Int32 → Int32 → Int32 → Prop) : Prop := ((¬ er7 = 0 → K 0 er3 er4 er5 er6 er7) ∧ (er7 = 0 → K x3 er3 er4 er5 er6 er7))
set_option maxHeartbeats 4000000 in
set_option maxRecDepth 100000 in
theorem t_X4_readNumber_43 {y : nz_Y} {g : nz_G} (F : nz_F y g cX4_readNumber 4 wsX4_readNumber RX4 (some .int) rm_X4_readNumber) {wc0 : va_W} {sz : Nat} {K : Int32 → Int32 → Int32 → Int32 → Int32 → Int32 → Prop} (eo : Nat) (ea0 : Nat) (ed : Nat) (er2 : Int32) (ef0 : Nat → Int32) (v1 : Int32) (v2 : Int32) (x3 : Int32) (er3 : Int32) (er4 : Int32) (er5 : Int32) (er6 : Int32) (er7 : Int32) (hQ : yz_A y = va_A wc0 sz ∧ yz_Q y = MQ (yz_b y) ((nz_Qi g wc0 (fun r (u : Int32 × Int32 × Int32 × Int32 × Int32) => K r u.1 u.2.1 u.2.2.1 u.2.2.2.1 u.2.2.2.2) (fun u => [(eo, .inr (4, [.ref ea0, .ref ed, .int er2, .int u.1, .int u.2.1, .int u.2.2.1, .int u.2.2.2.1, .int u.2.2.2.2])), (ea0, .inl (nz_cI g, 400, .inl ef0))])) sz) (yz_a y) (yz_s y) 0 0 (va_A wc0 sz)) : S_X4_readNumber_43 x3 er3 er4 er5 er6 er7 K → nz_V y g 0 0 [(eo, .inr (4, [.ref ea0, .ref ed, .int er2, .int er3, .int er4, .int er5, .int er6, .int er7])), (ea0, .inl (nz_cI g, 400, .inl ef0))] 43 [(0, .ref eo), (3, .int x3)] [] := by
  intro h
  unfold S_X4_readNumber_43 at h
  refine nz_aload_n F dX4_readNumber_43 rfl 0 rfl ?_
  refine nz_get F iw_X4_readNumber_4 0 rfl rfl 7 (by decide) rfl fl_X4_readNumber_26 rfl dX4_readNumber_44 ?_
  refine nz_if_ne (tgt := 54) F dX4_readNumber_47 (by decide) (fun c4 => ?_) (fun c4 => ?_)
  · have h := h.1 c4
    refine nz_iconst (v := 0) F dX4_readNumber_54 (by decide) ?_
    exact nz_iret F hQ (er3, er4, er5, er6, er7) h rfl dX4_readNumber_55
  · have h := h.2 c4
    refine nz_iload_n F dX4_readNumber_50 rfl 1 rfl ?_
    refine nz_goto (tgt := 55) F dX4_readNumber_51 (by decide) ?_
    exact nz_iret F hQ (er3, er4, er5, er6, er7) h rfl dX4_readNumber_55
def wp_X4_readNumber (er2 : Int32) (er3 : Int32) (er4 : Int32) (er5 : Int32) (er6 : Int32) (er7 : Int32) (ef0 : Nat → Int32) (v1 : Int32) (v2 : Int32) (K : Int32 → Int32 → Int32 → Int32 → Int32 → Int32 → Prop) : Prop := ((er5 = 2 → ((er6 < v1 → wp_X4_blame er7 2 (fun m3 => S_X4_readNumber_43 er6 er3 er4 er5 er6 m3 K)) ∧ (¬ (er6 < v1) → ((er6 ≤ v2 → wp_X4_next er2 er3 er4 er5 er6 er7 ef0 (fun m6 m7 m8 m9 => S_X4_readNumber_43 er6 m6 m7 m8 m9 er7 K)) ∧ (¬ (er6 ≤ v2) → wp_X4_blame er7 2 (fun m10 => S_X4_readNumber_43 er6 er3 er4 er5 er6 m10 K)))))) ∧ (¬ (er5 = 2) → wp_X4_blame er7 1 (fun m11 => S_X4_readNumber_43 er6 er3 er4 er5 er6 m11 K)))
set_option maxHeartbeats 4000000 in
set_option maxRecDepth 100000 in
theorem c_X4_readNumber (l : Launch) (g : nz_G) (eo : Nat) (ea0 : Nat) (ed : Nat) (er2 : Int32) (er3 : Int32) (er4 : Int32) (er5 : Int32) (er6 : Int32) (er7 : Int32) (ef0 : Nat → Int32) (v1 : Int32) (v2 : Int32) (K : Int32 → Int32 → Int32 → Int32 → Int32 → Int32 → Prop) (h : wp_X4_readNumber er2 er3 er4 er5 er6 er7 ef0 v1 v2 K) : nz_M l yX4_readNumber wsX4_readNumber rm_X4_readNumber g [.ref eo, .int v1, .int v2] [(eo, .inr (4, [.ref ea0, .ref ed, .int er2, .int er3, .int er4, .int er5, .int er6, .int er7])), (ea0, .inl (nz_cI g, 400, .inl ef0))] (nz_Qi g [(eo, .inr (4, [.ref ea0, .ref ed, .int er2, .int er3, .int er4, .int er5, .int er6, .int er7])), (ea0, .inl (nz_cI g, 400, .inl ef0))] (fun r (u : Int32 × Int32 × Int32 × Int32 × Int32) => K r u.1 u.2.1 u.2.2.1 u.2.2.2.1 u.2.2.2.2) (fun u => [(eo, .inr (4, [.ref ea0, .ref ed, .int er2, .int u.1, .int u.2.1, .int u.2.2.1, .int u.2.2.2.1, .int u.2.2.2.2])), (ea0, .inl (nz_cI g, 400, .inl ef0))])) := by
  refine nz_M.of (bytes := cX4_readNumber) (nL := 4) (ret := (some .int)) (own := RX4) (by decide) rfl rfl ⟨rfl, rfl⟩ rfl ?_
  intro y F hl hQ
  obtain ⟨sz, hQ⟩ := hQ
  refine nz_ent (lv' := [(0, .ref eo), (1, .int v1), (2, .int v2)]) rfl ?_
  unfold wp_X4_readNumber at h
  refine nz_aload_n F dX4_readNumber_0 rfl 0 rfl ?_
  refine nz_get F iw_X4_readNumber_4 0 rfl rfl 6 (by decide) rfl fl_X4_readNumber_147 rfl dX4_readNumber_1 ?_
  refine nz_istore_n (lv' := [(3, .int er6), (0, .ref eo), (1, .int v1), (2, .int v2)]) F dX4_readNumber_4 rfl (by decide) rfl ?_
  refine nz_aload_n F dX4_readNumber_5 rfl 1 rfl ?_
  refine nz_get F iw_X4_readNumber_4 0 rfl rfl 5 (by decide) rfl fl_X4_readNumber_44 rfl dX4_readNumber_6 ?_
  refine nz_iconst (v := 2) F dX4_readNumber_9 (by decide) ?_
  refine nz_icmp_eq (tgt := 21) F dX4_readNumber_10 (by decide) (fun c1 => ?_) (fun c1 => ?_)
  · have h := h.1 c1
    refine nz_iload_n F dX4_readNumber_21 rfl 0 rfl ?_
    refine nz_iload_n F dX4_readNumber_22 rfl 2 rfl ?_
    refine nz_icmp_lt (tgt := 31) F dX4_readNumber_23 (by decide) (fun c2 => ?_) (fun c2 => ?_)
    · have h := h.1 c2
      refine nz_aload_n F dX4_readNumber_31 rfl 1 rfl ?_
      refine nz_iconst (v := 2) F dX4_readNumber_32 (by decide) ?_
      refine k_X4_blame eo ea0 ed er2 er3 er4 er5 er6 er7 ef0 2 (fun hM => nz_runV F gX4_readNumber_X4_blame rfl hd_X4_blame rfl hM dX4_readNumber_33 [0, 1] rfl rfl 0 rfl rfl rfl (Nat.le_of_ble_eq_true rfl) rfl) h (fun m3 => [(eo, .inr (4, [.ref ea0, .ref ed, .int er2, .int er3, .int er4, .int er5, .int er6, .int m3])), (ea0, .inl (nz_cI g, 400, .inl ef0))]) (fun _ => rfl) (fun m3 h => ?_)
      refine nz_goto (tgt := 43) F dX4_readNumber_36 (by decide) ?_
      refine nz_ls (lv' := [(0, .ref eo), (3, .int er6)]) [1, 0] rfl ?_
      exact t_X4_readNumber_43 F eo ea0 ed er2 ef0 v1 v2 er6 er3 er4 er5 er6 m3 hQ h
    · have h := h.2 c2
      refine nz_iload_n F dX4_readNumber_26 rfl 0 rfl ?_
      refine nz_iload_n F dX4_readNumber_27 rfl 3 rfl ?_
      refine nz_icmp_le (tgt := 39) F dX4_readNumber_28 (by decide) (fun c5 => ?_) (fun c5 => ?_)
      · have h := h.1 c5
        refine nz_aload_n F dX4_readNumber_39 rfl 1 rfl ?_
        refine k_X4_next eo ea0 ed er2 er3 er4 er5 er6 er7 ef0 (fun hM => nz_runV F gX4_readNumber_X4_next rfl hd_X4_next rfl hM dX4_readNumber_40 [0, 1] rfl rfl 0 rfl rfl rfl (Nat.le_of_ble_eq_true rfl) rfl) h (fun m6 m7 m8 m9 => [(eo, .inr (4, [.ref ea0, .ref ed, .int er2, .int m6, .int m7, .int m8, .int m9, .int er7])), (ea0, .inl (nz_cI g, 400, .inl ef0))]) (fun _ _ _ _ => rfl) (fun m6 m7 m8 m9 h => ?_)
        refine nz_ls (lv' := [(0, .ref eo), (3, .int er6)]) [1, 0] rfl ?_
        exact t_X4_readNumber_43 F eo ea0 ed er2 ef0 v1 v2 er6 m6 m7 m8 m9 er7 hQ h
      · have h := h.2 c5
        refine nz_aload_n F dX4_readNumber_31 rfl 1 rfl ?_
        refine nz_iconst (v := 2) F dX4_readNumber_32 (by decide) ?_
        refine k_X4_blame eo ea0 ed er2 er3 er4 er5 er6 er7 ef0 2 (fun hM => nz_runV F gX4_readNumber_X4_blame rfl hd_X4_blame rfl hM dX4_readNumber_33 [0, 1] rfl rfl 0 rfl rfl rfl (Nat.le_of_ble_eq_true rfl) rfl) h (fun m10 => [(eo, .inr (4, [.ref ea0, .ref ed, .int er2, .int er3, .int er4, .int er5, .int er6, .int m10])), (ea0, .inl (nz_cI g, 400, .inl ef0))]) (fun _ => rfl) (fun m10 h => ?_)
        refine nz_goto (tgt := 43) F dX4_readNumber_36 (by decide) ?_
        refine nz_ls (lv' := [(0, .ref eo), (3, .int er6)]) [1, 0] rfl ?_
        exact t_X4_readNumber_43 F eo ea0 ed er2 ef0 v1 v2 er6 er3 er4 er5 er6 m10 hQ h
  · have h := h.2 c1
    refine nz_aload_n F dX4_readNumber_13 rfl 1 rfl ?_
    refine nz_iconst (v := 1) F dX4_readNumber_14 (by decide) ?_
    refine k_X4_blame eo ea0 ed er2 er3 er4 er5 er6 er7 ef0 1 (fun hM => nz_runV F gX4_readNumber_X4_blame rfl hd_X4_blame rfl hM dX4_readNumber_15 [0, 1] rfl rfl 0 rfl rfl rfl (Nat.le_of_ble_eq_true rfl) rfl) h (fun m11 => [(eo, .inr (4, [.ref ea0, .ref ed, .int er2, .int er3, .int er4, .int er5, .int er6, .int m11])), (ea0, .inl (nz_cI g, 400, .inl ef0))]) (fun _ => rfl) (fun m11 h => ?_)
    refine nz_goto (tgt := 43) F dX4_readNumber_18 (by decide) ?_
    refine nz_ls (lv' := [(0, .ref eo), (3, .int er6)]) [1, 0] rfl ?_
    exact t_X4_readNumber_43 F eo ea0 ed er2 ef0 v1 v2 er6 er3 er4 er5 er6 m11 hQ h
theorem k_X4_readNumber {y : nz_Y} {g : nz_G} {k n : Nat} {ws : va_W} {pc : Nat} {ls : List (Nat × Value)} {st rest : List Value} {av : Array Value} {isC : List Nat} {K : Int32 → Int32 → Int32 → Int32 → Int32 → Int32 → Prop} (eo : Nat) (ea0 : Nat) (ed : Nat) (er2 : Int32) (er3 : Int32) (er4 : Int32) (er5 : Int32) (er6 : Int32) (er7 : Int32) (ef0 : Nat → Int32) (v1 : Int32) (v2 : Int32) (run : nz_M (yz_l y) yX4_readNumber wsX4_readNumber rm_X4_readNumber g [.ref eo, .int v1, .int v2] [(eo, .inr (4, [.ref ea0, .ref ed, .int er2, .int er3, .int er4, .int er5, .int er6, .int er7])), (ea0, .inl (nz_cI g, 400, .inl ef0))] (nz_Qi g [(eo, .inr (4, [.ref ea0, .ref ed, .int er2, .int er3, .int er4, .int er5, .int er6, .int er7])), (ea0, .inl (nz_cI g, 400, .inl ef0))] (fun r (u : Int32 × Int32 × Int32 × Int32 × Int32) => K r u.1 u.2.1 u.2.2.1 u.2.2.2.1 u.2.2.2.2) (fun u => [(eo, .inr (4, [.ref ea0, .ref ed, .int er2, .int u.1, .int u.2.1, .int u.2.2.1, .int u.2.2.2.1, .int u.2.2.2.2])), (ea0, .inl (nz_cI g, 400, .inl ef0))])) → nz_C y g k n ws pc ls st rest [(eo, .inr (4, [.ref ea0, .ref ed, .int er2, .int er3, .int er4, .int er5, .int er6, .int er7])), (ea0, .inl (nz_cI g, 400, .inl ef0))] (nz_Qi g [(eo, .inr (4, [.ref ea0, .ref ed, .int er2, .int er3, .int er4, .int er5, .int er6, .int er7])), (ea0, .inl (nz_cI g, 400, .inl ef0))] (fun r (u : Int32 × Int32 × Int32 × Int32 × Int32) => K r u.1 u.2.1 u.2.2.1 u.2.2.2.1 u.2.2.2.2) (fun u => [(eo, .inr (4, [.ref ea0, .ref ed, .int er2, .int u.1, .int u.2.1, .int u.2.2.1, .int u.2.2.2.1, .int u.2.2.2.2])), (ea0, .inl (nz_cI g, 400, .inl ef0))])) av isC) (h : wp_X4_readNumber er2 er3 er4 er5 er6 er7 ef0 v1 v2 K) (ws' : Int32 → Int32 → Int32 → Int32 → Int32 → va_W) (hm : ∀ (m0 : Int32) (m1 : Int32) (m2 : Int32) (m3 : Int32) (m4 : Int32), nz_mrg ws isC [(eo, .inr (4, [.ref ea0, .ref ed, .int er2, .int m0, .int m1, .int m2, .int m3, .int m4])), (ea0, .inl (nz_cI g, 400, .inl ef0))] = ws' m0 m1 m2 m3 m4) (kk : ∀ (r : Int32) (m0 : Int32) (m1 : Int32) (m2 : Int32) (m3 : Int32) (m4 : Int32), K r m0 m1 m2 m3 m4 → nz_V y g k n (ws' m0 m1 m2 m3 m4) (pc + 3) ls (.int r :: rest)) : nz_V y g k n ws pc ls st :=
  nz_ci (ws' := fun u => ws' u.1 u.2.1 u.2.2.1 u.2.2.2.1 u.2.2.2.2) (run (c_X4_readNumber (yz_l y) g eo ea0 ed er2 er3 er4 er5 er6 er7 ef0 v1 v2 K h)) (fun _ => rfl) (fun u => hm u.1 u.2.1 u.2.2.1 u.2.2.2.1 u.2.2.2.2) (fun r u h => kk r u.1 u.2.1 u.2.2.1 u.2.2.2.1 u.2.2.2.2 h)
theorem dX4_readEnd_0 : decode cX4_readEnd 0 = .ok (.aload_n 0, 1) := by decide +kernel
theorem dX4_readEnd_1 : decode cX4_readEnd 1 = .ok (.getfield 44, 3) := by decide +kernel
theorem dX4_readEnd_4 : decode cX4_readEnd 4 = .ok (.iconst 3, 1) := by decide +kernel
theorem dX4_readEnd_5 : decode cX4_readEnd 5 = .ok (.if_icmp .ne 10, 3) := by decide +kernel
theorem dX4_readEnd_8 : decode cX4_readEnd 8 = .ok (.aload_n 0, 1) := by decide +kernel
theorem dX4_readEnd_9 : decode cX4_readEnd 9 = .ok (.invokevirtual 32, 3) := by decide +kernel
theorem dX4_readEnd_12 : decode cX4_readEnd 12 = .ok (.goto 8, 3) := by decide +kernel
theorem dX4_readEnd_15 : decode cX4_readEnd 15 = .ok (.aload_n 0, 1) := by decide +kernel
theorem dX4_readEnd_16 : decode cX4_readEnd 16 = .ok (.iconst 1, 1) := by decide +kernel
theorem dX4_readEnd_17 : decode cX4_readEnd 17 = .ok (.invokevirtual 47, 3) := by decide +kernel
theorem dX4_readEnd_20 : decode cX4_readEnd 20 = .ok (.return_, 1) := by decide +kernel
set_option maxRecDepth 20000 in
theorem ggX4_readEnd_X4_blame : GoodIn wsX4_readEnd wsX4_blame := goodIn_r _ [32, 7, 33, 34, 35, 36, 37, 38, 39, 40] rfl (by decide +kernel)
set_option maxRecDepth 20000 in
theorem gX4_readEnd_X4_blame : GoodIn wsX4_readEnd (wsV RX4 47 RX4 yX4_blame wsX4_blame) := goodIn_app (goodIn_r _ [29, 30, 31, 5] rfl (by decide +kernel)) ggX4_readEnd_X4_blame
set_option maxRecDepth 20000 in
theorem ggX4_readEnd_X4_next : GoodIn wsX4_readEnd wsX4_next := goodIn_r _ [6, 7, 8, 9, 10, 11, 12, 1, 13, 14, 15, 5, 16, 17, 18, 19, 20, 21, 22, 23, 24, 25, 26, 27, 28, 33, 34, 35, 36, 37, 38, 39, 40] rfl (by decide +kernel)
set_option maxRecDepth 20000 in
theorem gX4_readEnd_X4_next : GoodIn wsX4_readEnd (wsV RX4 32 RX4 yX4_next wsX4_next) := goodIn_app (goodIn_r _ [2, 3, 4, 5] rfl (by decide +kernel)) ggX4_readEnd_X4_next
/-! X4_readEnd -/
abbrev rm_X4_readEnd : Room := { frames := 3, cells := 0, slots := 0, locals := 61 }
theorem iw_X4_readEnd_4 : ∀ w ∈ wsX40, w ∈ wsX4_readEnd := fun _ h => List.mem_cons_of_mem _ (List.mem_append_right _ h)
theorem fl_X4_readEnd_44 : Cond.fieldLink RX4 44 "NightStones$Reader" "token" "I" ∈ wsX4_readEnd := List.mem_of_getElem? (i := 1) rfl
def wp_X4_readEnd (er2 : Int32) (er3 : Int32) (er4 : Int32) (er5 : Int32) (er6 : Int32) (er7 : Int32) (ef0 : Nat → Int32) (K : Int32 → Int32 → Int32 → Int32 → Int32 → Prop) : Prop := ((¬ er5 = 3 → wp_X4_blame er7 1 (fun m2 => K er3 er4 er5 er6 m2)) ∧ (er5 = 3 → wp_X4_next er2 er3 er4 er5 er6 er7 ef0 (fun m3 m4 m5 m6 => K m3 m4 m5 m6 er7)))
set_option maxHeartbeats 4000000 in
set_option maxRecDepth 100000 in
theorem c_X4_readEnd (l : Launch) (g : nz_G) (eo : Nat) (ea0 : Nat) (ed : Nat) (er2 : Int32) (er3 : Int32) (er4 : Int32) (er5 : Int32) (er6 : Int32) (er7 : Int32) (ef0 : Nat → Int32) (K : Int32 → Int32 → Int32 → Int32 → Int32 → Prop) (h : wp_X4_readEnd er2 er3 er4 er5 er6 er7 ef0 K) : nz_M l yX4_readEnd wsX4_readEnd rm_X4_readEnd g [.ref eo] [(eo, .inr (4, [.ref ea0, .ref ed, .int er2, .int er3, .int er4, .int er5, .int er6, .int er7])), (ea0, .inl (nz_cI g, 400, .inl ef0))] (nz_Qv g [(eo, .inr (4, [.ref ea0, .ref ed, .int er2, .int er3, .int er4, .int er5, .int er6, .int er7])), (ea0, .inl (nz_cI g, 400, .inl ef0))] (fun (u : Int32 × Int32 × Int32 × Int32 × Int32) => K u.1 u.2.1 u.2.2.1 u.2.2.2.1 u.2.2.2.2) (fun u => [(eo, .inr (4, [.ref ea0, .ref ed, .int er2, .int u.1, .int u.2.1, .int u.2.2.1, .int u.2.2.2.1, .int u.2.2.2.2])), (ea0, .inl (nz_cI g, 400, .inl ef0))])) := by
  refine nz_M.of (bytes := cX4_readEnd) (nL := 1) (ret := none) (own := RX4) (by decide) rfl rfl ⟨rfl, rfl⟩ rfl ?_
  intro y F hl hQ
  obtain ⟨sz, hQ⟩ := hQ
  refine nz_ent (lv' := [(0, .ref eo)]) rfl ?_
  unfold wp_X4_readEnd at h
  refine nz_aload_n F dX4_readEnd_0 rfl 0 rfl ?_
  refine nz_get F iw_X4_readEnd_4 0 rfl rfl 5 (by decide) rfl fl_X4_readEnd_44 rfl dX4_readEnd_1 ?_
  refine nz_iconst (v := 3) F dX4_readEnd_4 (by decide) ?_
  refine nz_icmp_ne (tgt := 15) F dX4_readEnd_5 (by decide) (fun c1 => ?_) (fun c1 => ?_)
  · have h := h.1 c1
    refine nz_aload_n F dX4_readEnd_15 rfl 0 rfl ?_
    refine nz_iconst (v := 1) F dX4_readEnd_16 (by decide) ?_
    refine k_X4_blame eo ea0 ed er2 er3 er4 er5 er6 er7 ef0 1 (fun hM => nz_runV F gX4_readEnd_X4_blame rfl hd_X4_blame rfl hM dX4_readEnd_17 [0, 1] rfl rfl 0 rfl rfl rfl (Nat.le_of_ble_eq_true rfl) rfl) h (fun m2 => [(eo, .inr (4, [.ref ea0, .ref ed, .int er2, .int er3, .int er4, .int er5, .int er6, .int m2])), (ea0, .inl (nz_cI g, 400, .inl ef0))]) (fun _ => rfl) (fun m2 h => ?_)
    exact nz_vret F hQ (er3, er4, er5, er6, m2) h rfl dX4_readEnd_20
  · have h := h.2 c1
    refine nz_aload_n F dX4_readEnd_8 rfl 0 rfl ?_
    refine k_X4_next eo ea0 ed er2 er3 er4 er5 er6 er7 ef0 (fun hM => nz_runV F gX4_readEnd_X4_next rfl hd_X4_next rfl hM dX4_readEnd_9 [0, 1] rfl rfl 0 rfl rfl rfl (Nat.le_of_ble_eq_true rfl) rfl) h (fun m3 m4 m5 m6 => [(eo, .inr (4, [.ref ea0, .ref ed, .int er2, .int m3, .int m4, .int m5, .int m6, .int er7])), (ea0, .inl (nz_cI g, 400, .inl ef0))]) (fun _ _ _ _ => rfl) (fun m3 m4 m5 m6 h => ?_)
    refine nz_goto (tgt := 20) F dX4_readEnd_12 (by decide) ?_
    exact nz_vret F hQ (m3, m4, m5, m6, er7) h rfl dX4_readEnd_20
theorem k_X4_readEnd {y : nz_Y} {g : nz_G} {k n : Nat} {ws : va_W} {pc : Nat} {ls : List (Nat × Value)} {st rest : List Value} {av : Array Value} {isC : List Nat} {K : Int32 → Int32 → Int32 → Int32 → Int32 → Prop} (eo : Nat) (ea0 : Nat) (ed : Nat) (er2 : Int32) (er3 : Int32) (er4 : Int32) (er5 : Int32) (er6 : Int32) (er7 : Int32) (ef0 : Nat → Int32) (run : nz_M (yz_l y) yX4_readEnd wsX4_readEnd rm_X4_readEnd g [.ref eo] [(eo, .inr (4, [.ref ea0, .ref ed, .int er2, .int er3, .int er4, .int er5, .int er6, .int er7])), (ea0, .inl (nz_cI g, 400, .inl ef0))] (nz_Qv g [(eo, .inr (4, [.ref ea0, .ref ed, .int er2, .int er3, .int er4, .int er5, .int er6, .int er7])), (ea0, .inl (nz_cI g, 400, .inl ef0))] (fun (u : Int32 × Int32 × Int32 × Int32 × Int32) => K u.1 u.2.1 u.2.2.1 u.2.2.2.1 u.2.2.2.2) (fun u => [(eo, .inr (4, [.ref ea0, .ref ed, .int er2, .int u.1, .int u.2.1, .int u.2.2.1, .int u.2.2.2.1, .int u.2.2.2.2])), (ea0, .inl (nz_cI g, 400, .inl ef0))])) → nz_C y g k n ws pc ls st rest [(eo, .inr (4, [.ref ea0, .ref ed, .int er2, .int er3, .int er4, .int er5, .int er6, .int er7])), (ea0, .inl (nz_cI g, 400, .inl ef0))] (nz_Qv g [(eo, .inr (4, [.ref ea0, .ref ed, .int er2, .int er3, .int er4, .int er5, .int er6, .int er7])), (ea0, .inl (nz_cI g, 400, .inl ef0))] (fun (u : Int32 × Int32 × Int32 × Int32 × Int32) => K u.1 u.2.1 u.2.2.1 u.2.2.2.1 u.2.2.2.2) (fun u => [(eo, .inr (4, [.ref ea0, .ref ed, .int er2, .int u.1, .int u.2.1, .int u.2.2.1, .int u.2.2.2.1, .int u.2.2.2.2])), (ea0, .inl (nz_cI g, 400, .inl ef0))])) av isC) (h : wp_X4_readEnd er2 er3 er4 er5 er6 er7 ef0 K) (ws' : Int32 → Int32 → Int32 → Int32 → Int32 → va_W) (hm : ∀ (m0 : Int32) (m1 : Int32) (m2 : Int32) (m3 : Int32) (m4 : Int32), nz_mrg ws isC [(eo, .inr (4, [.ref ea0, .ref ed, .int er2, .int m0, .int m1, .int m2, .int m3, .int m4])), (ea0, .inl (nz_cI g, 400, .inl ef0))] = ws' m0 m1 m2 m3 m4) (kk : ∀ (m0 : Int32) (m1 : Int32) (m2 : Int32) (m3 : Int32) (m4 : Int32), K m0 m1 m2 m3 m4 → nz_V y g k n (ws' m0 m1 m2 m3 m4) (pc + 3) ls (rest)) : nz_V y g k n ws pc ls st :=
  nz_cv (ws' := fun u => ws' u.1 u.2.1 u.2.2.1 u.2.2.2.1 u.2.2.2.2) (run (c_X4_readEnd (yz_l y) g eo ea0 ed er2 er3 er4 er5 er6 er7 ef0 K h)) (fun _ => rfl) (fun u => hm u.1 u.2.1 u.2.2.1 u.2.2.2.1 u.2.2.2.2) (fun u h => kk u.1 u.2.1 u.2.2.1 u.2.2.2.1 u.2.2.2.2 h)
theorem dX4_readWord_0 : decode cX4_readWord 0 = .ok (.aload_n 0, 1) := by decide +kernel
theorem dX4_readWord_1 : decode cX4_readWord 1 = .ok (.aload_n 1, 1) := by decide +kernel
theorem dX4_readWord_2 : decode cX4_readWord 2 = .ok (.invokevirtual 106, 3) := by decide +kernel
theorem dX4_readWord_5 : decode cX4_readWord 5 = .ok (.ifCond .eq 10, 3) := by decide +kernel
theorem dX4_readWord_8 : decode cX4_readWord 8 = .ok (.aload_n 0, 1) := by decide +kernel
theorem dX4_readWord_9 : decode cX4_readWord 9 = .ok (.invokevirtual 32, 3) := by decide +kernel
theorem dX4_readWord_12 : decode cX4_readWord 12 = .ok (.goto 8, 3) := by decide +kernel
theorem dX4_readWord_15 : decode cX4_readWord 15 = .ok (.aload_n 0, 1) := by decide +kernel
theorem dX4_readWord_16 : decode cX4_readWord 16 = .ok (.iconst 1, 1) := by decide +kernel
theorem dX4_readWord_17 : decode cX4_readWord 17 = .ok (.invokevirtual 47, 3) := by decide +kernel
theorem dX4_readWord_20 : decode cX4_readWord 20 = .ok (.return_, 1) := by decide +kernel
set_option maxRecDepth 20000 in
theorem ggX4_readWord_X4_blame : GoodIn wsX4_readWord wsX4_blame := goodIn_r _ [85, 64, 86, 87, 88, 89, 90, 91, 92, 93] rfl (by decide +kernel)
set_option maxRecDepth 20000 in
theorem gX4_readWord_X4_blame : GoodIn wsX4_readWord (wsV RX4 47 RX4 yX4_blame wsX4_blame) := goodIn_app (goodIn_r _ [82, 83, 84, 4] rfl (by decide +kernel)) ggX4_readWord_X4_blame
set_option maxRecDepth 20000 in
theorem ggX4_readWord_X4_isWord : GoodIn wsX4_readWord wsX4_isWord := goodIn_r _ [5, 6, 7, 8, 9, 10, 11, 12, 13, 14, 15, 16, 17, 18, 19, 20, 21, 22, 23, 24, 25, 26, 27, 28, 29, 30, 31, 32, 33, 34, 35, 36, 37, 38, 39, 40, 41, 42, 43, 44, 45, 46, 47, 48, 49, 50, 51, 52, 53, 54, 55, 56, 57, 58, 59, 86, 87, 88, 89, 90, 91, 92, 93] rfl (by decide +kernel)
set_option maxRecDepth 20000 in
theorem gX4_readWord_X4_isWord : GoodIn wsX4_readWord (wsV RX4 106 RX4 yX4_isWord wsX4_isWord) := goodIn_app (goodIn_r _ [1, 2, 3, 4] rfl (by decide +kernel)) ggX4_readWord_X4_isWord
set_option maxRecDepth 20000 in
theorem ggX4_readWord_X4_next : GoodIn wsX4_readWord wsX4_next := goodIn_r _ [63, 64, 7, 8, 9, 10, 65, 6, 66, 67, 68, 4, 69, 70, 71, 72, 73, 74, 75, 76, 77, 78, 79, 80, 81, 86, 87, 88, 89, 90, 91, 92, 93] rfl (by decide +kernel)
set_option maxRecDepth 20000 in
theorem gX4_readWord_X4_next : GoodIn wsX4_readWord (wsV RX4 32 RX4 yX4_next wsX4_next) := goodIn_app (goodIn_r _ [60, 61, 62, 4] rfl (by decide +kernel)) ggX4_readWord_X4_next
theorem hd_X4_isWord : yX4_isWord.cls = RX4 ∧ yX4_isWord.cls ≠ "java/lang/invoke/MethodHandle" ∧ yX4_isWord.cls ≠ "java/lang/invoke/VarHandle" ∧ (parseMethodDescriptor yX4_isWord.desc).map (fun d => d.parameters.length) = some 1 := by decide +kernel
/-! X4_readWord -/
abbrev rm_X4_readWord : Room := { frames := 5, cells := 0, slots := 0, locals := 107 }
def wp_X4_readWord (er2 : Int32) (er3 : Int32) (er4 : Int32) (er5 : Int32) (er6 : Int32) (er7 : Int32) (ef0 : Nat → Int32) (v1 : Nat) (K : Int32 → Int32 → Int32 → Int32 → Int32 → Prop) : Prop := wp_X4_isWord er2 er3 er4 er5 ef0 v1 (fun q1 => ((q1 = 0 → wp_X4_blame er7 1 (fun m3 => K er3 er4 er5 er6 m3)) ∧ (¬ (q1 = 0) → wp_X4_next er2 er3 er4 er5 er6 er7 ef0 (fun m4 m5 m6 m7 => K m4 m5 m6 m7 er7))))
set_option maxHeartbeats 4000000 in
set_option maxRecDepth 100000 in
theorem c_X4_readWord (l : Launch) (g : nz_G) (eo : Nat) (ea0 : Nat) (ed : Nat) (er2 : Int32) (er3 : Int32) (er4 : Int32) (er5 : Int32) (er6 : Int32) (er7 : Int32) (ef0 : Nat → Int32) (v1 : Nat) (K : Int32 → Int32 → Int32 → Int32 → Int32 → Prop) (h : wp_X4_readWord er2 er3 er4 er5 er6 er7 ef0 v1 K) : nz_M l yX4_readWord wsX4_readWord rm_X4_readWord g [.ref eo, .ref (nz_aK g v1)] [(eo, .inr (4, [.ref ea0, .ref ed, .int er2, .int er3, .int er4, .int er5, .int er6, .int er7])), (ea0, .inl (nz_cI g, 400, .inl ef0))] (nz_Qv g [(eo, .inr (4, [.ref ea0, .ref ed, .int er2, .int er3, .int er4, .int er5, .int er6, .int er7])), (ea0, .inl (nz_cI g, 400, .inl ef0))] (fun (u : Int32 × Int32 × Int32 × Int32 × Int32) => K u.1 u.2.1 u.2.2.1 u.2.2.2.1 u.2.2.2.2) (fun u => [(eo, .inr (4, [.ref ea0, .ref ed, .int er2, .int u.1, .int u.2.1, .int u.2.2.1, .int u.2.2.2.1, .int u.2.2.2.2])), (ea0, .inl (nz_cI g, 400, .inl ef0))])) := by
  refine nz_M.of (bytes := cX4_readWord) (nL := 2) (ret := none) (own := RX4) (by decide) rfl rfl ⟨rfl, rfl⟩ rfl ?_
  intro y F hl hQ
  obtain ⟨sz, hQ⟩ := hQ
  refine nz_ent (lv' := [(0, .ref eo), (1, .ref (nz_aK g v1))]) rfl ?_
  unfold wp_X4_readWord at h
  refine nz_aload_n F dX4_readWord_0 rfl 0 rfl ?_
  refine nz_aload_n F dX4_readWord_1 rfl 1 rfl ?_
  refine k_X4_isWord eo ea0 ed er2 er3 er4 er5 er6 er7 ef0 v1 (fun hM => nz_runV F gX4_readWord_X4_isWord rfl hd_X4_isWord rfl hM dX4_readWord_2 [0, 1] rfl rfl 0 rfl rfl rfl (Nat.le_of_ble_eq_true rfl) rfl) h ([(eo, .inr (4, [.ref ea0, .ref ed, .int er2, .int er3, .int er4, .int er5, .int er6, .int er7])), (ea0, .inl (nz_cI g, 400, .inl ef0))]) (rfl) (fun q1 h => ?_)
  refine nz_if_eq (tgt := 15) F dX4_readWord_5 (by decide) (fun c2 => ?_) (fun c2 => ?_)
  · have h := h.1 c2
    refine nz_aload_n F dX4_readWord_15 rfl 0 rfl ?_
    refine nz_iconst (v := 1) F dX4_readWord_16 (by decide) ?_
    refine k_X4_blame eo ea0 ed er2 er3 er4 er5 er6 er7 ef0 1 (fun hM => nz_runV F gX4_readWord_X4_blame rfl hd_X4_blame rfl hM dX4_readWord_17 [0, 1] rfl rfl 0 rfl rfl rfl (Nat.le_of_ble_eq_true rfl) rfl) h (fun m3 => [(eo, .inr (4, [.ref ea0, .ref ed, .int er2, .int er3, .int er4, .int er5, .int er6, .int m3])), (ea0, .inl (nz_cI g, 400, .inl ef0))]) (fun _ => rfl) (fun m3 h => ?_)
    exact nz_vret F hQ (er3, er4, er5, er6, m3) h rfl dX4_readWord_20
  · have h := h.2 c2
    refine nz_aload_n F dX4_readWord_8 rfl 0 rfl ?_
    refine k_X4_next eo ea0 ed er2 er3 er4 er5 er6 er7 ef0 (fun hM => nz_runV F gX4_readWord_X4_next rfl hd_X4_next rfl hM dX4_readWord_9 [0, 1] rfl rfl 0 rfl rfl rfl (Nat.le_of_ble_eq_true rfl) rfl) h (fun m4 m5 m6 m7 => [(eo, .inr (4, [.ref ea0, .ref ed, .int er2, .int m4, .int m5, .int m6, .int m7, .int er7])), (ea0, .inl (nz_cI g, 400, .inl ef0))]) (fun _ _ _ _ => rfl) (fun m4 m5 m6 m7 h => ?_)
    refine nz_goto (tgt := 20) F dX4_readWord_12 (by decide) ?_
    exact nz_vret F hQ (m4, m5, m6, m7, er7) h rfl dX4_readWord_20
theorem k_X4_readWord {y : nz_Y} {g : nz_G} {k n : Nat} {ws : va_W} {pc : Nat} {ls : List (Nat × Value)} {st rest : List Value} {av : Array Value} {isC : List Nat} {K : Int32 → Int32 → Int32 → Int32 → Int32 → Prop} (eo : Nat) (ea0 : Nat) (ed : Nat) (er2 : Int32) (er3 : Int32) (er4 : Int32) (er5 : Int32) (er6 : Int32) (er7 : Int32) (ef0 : Nat → Int32) (v1 : Nat) (run : nz_M (yz_l y) yX4_readWord wsX4_readWord rm_X4_readWord g [.ref eo, .ref (nz_aK g v1)] [(eo, .inr (4, [.ref ea0, .ref ed, .int er2, .int er3, .int er4, .int er5, .int er6, .int er7])), (ea0, .inl (nz_cI g, 400, .inl ef0))] (nz_Qv g [(eo, .inr (4, [.ref ea0, .ref ed, .int er2, .int er3, .int er4, .int er5, .int er6, .int er7])), (ea0, .inl (nz_cI g, 400, .inl ef0))] (fun (u : Int32 × Int32 × Int32 × Int32 × Int32) => K u.1 u.2.1 u.2.2.1 u.2.2.2.1 u.2.2.2.2) (fun u => [(eo, .inr (4, [.ref ea0, .ref ed, .int er2, .int u.1, .int u.2.1, .int u.2.2.1, .int u.2.2.2.1, .int u.2.2.2.2])), (ea0, .inl (nz_cI g, 400, .inl ef0))])) → nz_C y g k n ws pc ls st rest [(eo, .inr (4, [.ref ea0, .ref ed, .int er2, .int er3, .int er4, .int er5, .int er6, .int er7])), (ea0, .inl (nz_cI g, 400, .inl ef0))] (nz_Qv g [(eo, .inr (4, [.ref ea0, .ref ed, .int er2, .int er3, .int er4, .int er5, .int er6, .int er7])), (ea0, .inl (nz_cI g, 400, .inl ef0))] (fun (u : Int32 × Int32 × Int32 × Int32 × Int32) => K u.1 u.2.1 u.2.2.1 u.2.2.2.1 u.2.2.2.2) (fun u => [(eo, .inr (4, [.ref ea0, .ref ed, .int er2, .int u.1, .int u.2.1, .int u.2.2.1, .int u.2.2.2.1, .int u.2.2.2.2])), (ea0, .inl (nz_cI g, 400, .inl ef0))])) av isC) (h : wp_X4_readWord er2 er3 er4 er5 er6 er7 ef0 v1 K) (ws' : Int32 → Int32 → Int32 → Int32 → Int32 → va_W) (hm : ∀ (m0 : Int32) (m1 : Int32) (m2 : Int32) (m3 : Int32) (m4 : Int32), nz_mrg ws isC [(eo, .inr (4, [.ref ea0, .ref ed, .int er2, .int m0, .int m1, .int m2, .int m3, .int m4])), (ea0, .inl (nz_cI g, 400, .inl ef0))] = ws' m0 m1 m2 m3 m4) (kk : ∀ (m0 : Int32) (m1 : Int32) (m2 : Int32) (m3 : Int32) (m4 : Int32), K m0 m1 m2 m3 m4 → nz_V y g k n (ws' m0 m1 m2 m3 m4) (pc + 3) ls (rest)) : nz_V y g k n ws pc ls st :=
  nz_cv (ws' := fun u => ws' u.1 u.2.1 u.2.2.1 u.2.2.2.1 u.2.2.2.2) (run (c_X4_readWord (yz_l y) g eo ea0 ed er2 er3 er4 er5 er6 er7 ef0 v1 K h)) (fun _ => rfl) (fun u => hm u.1 u.2.1 u.2.2.1 u.2.2.2.1 u.2.2.2.2) (fun u h => kk u.1 u.2.1 u.2.2.1 u.2.2.2.1 u.2.2.2.2 h)
theorem dX4_sortNamed_0 : decode cX4_sortNamed 0 = .ok (.aload_n 0, 1) := by decide +kernel
theorem dX4_sortNamed_1 : decode cX4_sortNamed 1 = .ok (.ldc 137, 2) := by decide +kernel
theorem dX4_sortNamed_3 : decode cX4_sortNamed 3 = .ok (.invokevirtual 106, 3) := by decide +kernel
theorem dX4_sortNamed_6 : decode cX4_sortNamed 6 = .ok (.ifCond .eq 5, 3) := by decide +kernel
theorem dX4_sortNamed_9 : decode cX4_sortNamed 9 = .ok (.iconst 1, 1) := by decide +kernel
theorem dX4_sortNamed_10 : decode cX4_sortNamed 10 = .ok (.ireturn, 1) := by decide +kernel
theorem dX4_sortNamed_11 : decode cX4_sortNamed 11 = .ok (.aload_n 0, 1) := by decide +kernel
theorem dX4_sortNamed_12 : decode cX4_sortNamed 12 = .ok (.ldc 139, 2) := by decide +kernel
theorem dX4_sortNamed_14 : decode cX4_sortNamed 14 = .ok (.invokevirtual 106, 3) := by decide +kernel
theorem dX4_sortNamed_17 : decode cX4_sortNamed 17 = .ok (.ifCond .eq 5, 3) := by decide +kernel
theorem dX4_sortNamed_20 : decode cX4_sortNamed 20 = .ok (.iconst 2, 1) := by decide +kernel
theorem dX4_sortNamed_21 : decode cX4_sortNamed 21 = .ok (.ireturn, 1) := by decide +kernel
theorem dX4_sortNamed_22 : decode cX4_sortNamed 22 = .ok (.aload_n 0, 1) := by decide +kernel
theorem dX4_sortNamed_23 : decode cX4_sortNamed 23 = .ok (.ldc 141, 2) := by decide +kernel
theorem dX4_sortNamed_25 : decode cX4_sortNamed 25 = .ok (.invokevirtual 106, 3) := by decide +kernel
theorem dX4_sortNamed_28 : decode cX4_sortNamed 28 = .ok (.ifCond .eq 5, 3) := by decide +kernel
theorem dX4_sortNamed_31 : decode cX4_sortNamed 31 = .ok (.iconst 3, 1) := by decide +kernel
theorem dX4_sortNamed_32 : decode cX4_sortNamed 32 = .ok (.ireturn, 1) := by decide +kernel
theorem dX4_sortNamed_33 : decode cX4_sortNamed 33 = .ok (.aload_n 0, 1) := by decide +kernel
theorem dX4_sortNamed_34 : decode cX4_sortNamed 34 = .ok (.ldc 143, 2) := by decide +kernel
theorem dX4_sortNamed_36 : decode cX4_sortNamed 36 = .ok (.invokevirtual 106, 3) := by decide +kernel
theorem dX4_sortNamed_39 : decode cX4_sortNamed 39 = .ok (.ifCond .eq 5, 3) := by decide +kernel
theorem dX4_sortNamed_42 : decode cX4_sortNamed 42 = .ok (.iconst 4, 1) := by decide +kernel
theorem dX4_sortNamed_43 : decode cX4_sortNamed 43 = .ok (.ireturn, 1) := by decide +kernel
theorem dX4_sortNamed_44 : decode cX4_sortNamed 44 = .ok (.aload_n 0, 1) := by decide +kernel
theorem dX4_sortNamed_45 : decode cX4_sortNamed 45 = .ok (.ldc 145, 2) := by decide +kernel
theorem dX4_sortNamed_47 : decode cX4_sortNamed 47 = .ok (.invokevirtual 106, 3) := by decide +kernel
theorem dX4_sortNamed_50 : decode cX4_sortNamed 50 = .ok (.ifCond .eq 7, 3) := by decide +kernel
theorem dX4_sortNamed_53 : decode cX4_sortNamed 53 = .ok (.iconst 5, 1) := by decide +kernel
theorem dX4_sortNamed_54 : decode cX4_sortNamed 54 = .ok (.goto 4, 3) := by decide +kernel
theorem dX4_sortNamed_57 : decode cX4_sortNamed 57 = .ok (.iconst 0, 1) := by decide +kernel
theorem dX4_sortNamed_58 : decode cX4_sortNamed 58 = .ok (.ireturn, 1) := by decide +kernel
set_option maxRecDepth 20000 in
theorem ggX4_sortNamed_X4_isWord : GoodIn wsX4_sortNamed wsX4_isWord := goodIn_r _ [5, 6, 7, 8, 9, 10, 11, 12, 13, 14, 15, 16, 17, 18, 19, 20, 21, 22, 23, 24, 25, 26, 27, 28, 29, 30, 31, 32, 33, 34, 35, 36, 37, 38, 39, 40, 41, 42, 43, 44, 45, 46, 47, 48, 49, 50, 51, 52, 53, 54, 55, 56, 57, 58, 59, 60, 61, 62, 63, 64, 65, 66, 67] rfl (by decide +kernel)
set_option maxRecDepth 20000 in
theorem gX4_sortNamed_X4_isWord : GoodIn wsX4_sortNamed (wsV RX4 106 RX4 yX4_isWord wsX4_isWord) := goodIn_app (goodIn_r _ [1, 2, 3, 4] rfl (by decide +kernel)) ggX4_sortNamed_X4_isWord
/-! X4_sortNamed -/
abbrev rm_X4_sortNamed : Room := { frames := 5, cells := 0, slots := 0, locals := 107 }
def wp_X4_sortNamed (er2 : Int32) (er3 : Int32) (er4 : Int32) (er5 : Int32) (ef0 : Nat → Int32) (K : Int32 → Prop) : Prop := wp_X4_isWord er2 er3 er4 er5 ef0 3 (fun q1 => ((q1 = 0 → wp_X4_isWord er2 er3 er4 er5 ef0 4 (fun q3 => ((q3 = 0 → wp_X4_isWord er2 er3 er4 er5 ef0 5 (fun q5 => ((q5 = 0 → wp_X4_isWord er2 er3 er4 er5 ef0 6 (fun q7 => ((q7 = 0 → wp_X4_isWord er2 er3 er4 er5 ef0 7 (fun q9 => ((q9 = 0 → K 0) ∧ (¬ (q9 = 0) → K 5)))) ∧ (¬ (q7 = 0) → K 4)))) ∧ (¬ (q5 = 0) → K 3)))) ∧ (¬ (q3 = 0) → K 2)))) ∧ (¬ (q1 = 0) → K 1)))
set_option maxHeartbeats 4000000 in
set_option maxRecDepth 100000 in
theorem c_X4_sortNamed (l : Launch) (g : nz_G) (eo : Nat) (ea0 : Nat) (ed : Nat) (er2 : Int32) (er3 : Int32) (er4 : Int32) (er5 : Int32) (er6 : Int32) (er7 : Int32) (ef0 : Nat → Int32) (K : Int32 → Prop) (h : wp_X4_sortNamed er2 er3 er4 er5 ef0 K) : nz_M l yX4_sortNamed wsX4_sortNamed rm_X4_sortNamed g [.ref eo] [(eo, .inr (4, [.ref ea0, .ref ed, .int er2, .int er3, .int er4, .int er5, .int er6, .int er7])), (ea0, .inl (nz_cI g, 400, .inl ef0))] (nz_Qi g [(eo, .inr (4, [.ref ea0, .ref ed, .int er2, .int er3, .int er4, .int er5, .int er6, .int er7])), (ea0, .inl (nz_cI g, 400, .inl ef0))] (fun r (u : Unit) => K r) (fun u => [(eo, .inr (4, [.ref ea0, .ref ed, .int er2, .int er3, .int er4, .int er5, .int er6, .int er7])), (ea0, .inl (nz_cI g, 400, .inl ef0))])) := by
  refine nz_M.of (bytes := cX4_sortNamed) (nL := 1) (ret := (some .int)) (own := RX4) (by decide) rfl rfl ⟨rfl, rfl⟩ rfl ?_
  intro y F hl hQ
  obtain ⟨sz, hQ⟩ := hQ
  refine nz_ent (lv' := [(0, .ref eo)]) rfl ?_
  unfold wp_X4_sortNamed at h
  refine nz_aload_n F dX4_sortNamed_0 rfl 0 rfl ?_
  refine nz_ldcS (i := 3) F rfl dX4_sortNamed_1 ?_
  refine k_X4_isWord eo ea0 ed er2 er3 er4 er5 er6 er7 ef0 3 (fun hM => nz_runV F gX4_sortNamed_X4_isWord rfl hd_X4_isWord rfl hM dX4_sortNamed_3 [0, 1] rfl rfl 0 rfl rfl rfl (Nat.le_of_ble_eq_true rfl) rfl) h ([(eo, .inr (4, [.ref ea0, .ref ed, .int er2, .int er3, .int er4, .int er5, .int er6, .int er7])), (ea0, .inl (nz_cI g, 400, .inl ef0))]) (rfl) (fun q1 h => ?_)
  refine nz_if_eq (tgt := 11) F dX4_sortNamed_6 (by decide) (fun c2 => ?_) (fun c2 => ?_)
  · have h := h.1 c2
    refine nz_aload_n F dX4_sortNamed_11 rfl 0 rfl ?_
    refine nz_ldcS (i := 4) F rfl dX4_sortNamed_12 ?_
    refine k_X4_isWord eo ea0 ed er2 er3 er4 er5 er6 er7 ef0 4 (fun hM => nz_runV F gX4_sortNamed_X4_isWord rfl hd_X4_isWord rfl hM dX4_sortNamed_14 [0, 1] rfl rfl 0 rfl rfl rfl (Nat.le_of_ble_eq_true rfl) rfl) h ([(eo, .inr (4, [.ref ea0, .ref ed, .int er2, .int er3, .int er4, .int er5, .int er6, .int er7])), (ea0, .inl (nz_cI g, 400, .inl ef0))]) (rfl) (fun q3 h => ?_)
    refine nz_if_eq (tgt := 22) F dX4_sortNamed_17 (by decide) (fun c4 => ?_) (fun c4 => ?_)
    · have h := h.1 c4
      refine nz_aload_n F dX4_sortNamed_22 rfl 0 rfl ?_
      refine nz_ldcS (i := 5) F rfl dX4_sortNamed_23 ?_
      refine k_X4_isWord eo ea0 ed er2 er3 er4 er5 er6 er7 ef0 5 (fun hM => nz_runV F gX4_sortNamed_X4_isWord rfl hd_X4_isWord rfl hM dX4_sortNamed_25 [0, 1] rfl rfl 0 rfl rfl rfl (Nat.le_of_ble_eq_true rfl) rfl) h ([(eo, .inr (4, [.ref ea0, .ref ed, .int er2, .int er3, .int er4, .int er5, .int er6, .int er7])), (ea0, .inl (nz_cI g, 400, .inl ef0))]) (rfl) (fun q5 h => ?_)
      refine nz_if_eq (tgt := 33) F dX4_sortNamed_28 (by decide) (fun c6 => ?_) (fun c6 => ?_)
      · have h := h.1 c6
        refine nz_aload_n F dX4_sortNamed_33 rfl 0 rfl ?_
        refine nz_ldcS (i := 6) F rfl dX4_sortNamed_34 ?_
        refine k_X4_isWord eo ea0 ed er2 er3 er4 er5 er6 er7 ef0 6 (fun hM => nz_runV F gX4_sortNamed_X4_isWord rfl hd_X4_isWord rfl hM dX4_sortNamed_36 [0, 1] rfl rfl 0 rfl rfl rfl (Nat.le_of_ble_eq_true rfl) rfl) h ([(eo, .inr (4, [.ref ea0, .ref ed, .int er2, .int er3, .int er4, .int er5, .int er6, .int er7])), (ea0, .inl (nz_cI g, 400, .inl ef0))]) (rfl) (fun q7 h => ?_)
        refine nz_if_eq (tgt := 44) F dX4_sortNamed_39 (by decide) (fun c8 => ?_) (fun c8 => ?_)
        · have h := h.1 c8
          refine nz_aload_n F dX4_sortNamed_44 rfl 0 rfl ?_
          refine nz_ldcS (i := 7) F rfl dX4_sortNamed_45 ?_
          refine k_X4_isWord eo ea0 ed er2 er3 er4 er5 er6 er7 ef0 7 (fun hM => nz_runV F gX4_sortNamed_X4_isWord rfl hd_X4_isWord rfl hM dX4_sortNamed_47 [0, 1] rfl rfl 0 rfl rfl rfl (Nat.le_of_ble_eq_true rfl) rfl) h ([(eo, .inr (4, [.ref ea0, .ref ed, .int er2, .int er3, .int er4, .int er5, .int er6, .int er7])), (ea0, .inl (nz_cI g, 400, .inl ef0))]) (rfl) (fun q9 h => ?_)
          refine nz_if_eq (tgt := 57) F dX4_sortNamed_50 (by decide) (fun c10 => ?_) (fun c10 => ?_)
          · have h := h.1 c10
            refine nz_iconst (v := 0) F dX4_sortNamed_57 (by decide) ?_
            exact nz_iret F hQ () h rfl dX4_sortNamed_58
          · have h := h.2 c10
            refine nz_iconst (v := 5) F dX4_sortNamed_53 (by decide) ?_
            refine nz_goto (tgt := 58) F dX4_sortNamed_54 (by decide) ?_
            exact nz_iret F hQ () h rfl dX4_sortNamed_58
        · have h := h.2 c8
          refine nz_iconst (v := 4) F dX4_sortNamed_42 (by decide) ?_
          exact nz_iret F hQ () h rfl dX4_sortNamed_43
      · have h := h.2 c6
        refine nz_iconst (v := 3) F dX4_sortNamed_31 (by decide) ?_
        exact nz_iret F hQ () h rfl dX4_sortNamed_32
    · have h := h.2 c4
      refine nz_iconst (v := 2) F dX4_sortNamed_20 (by decide) ?_
      exact nz_iret F hQ () h rfl dX4_sortNamed_21
  · have h := h.2 c2
    refine nz_iconst (v := 1) F dX4_sortNamed_9 (by decide) ?_
    exact nz_iret F hQ () h rfl dX4_sortNamed_10
theorem k_X4_sortNamed {y : nz_Y} {g : nz_G} {k n : Nat} {ws : va_W} {pc : Nat} {ls : List (Nat × Value)} {st rest : List Value} {av : Array Value} {isC : List Nat} {K : Int32 → Prop} (eo : Nat) (ea0 : Nat) (ed : Nat) (er2 : Int32) (er3 : Int32) (er4 : Int32) (er5 : Int32) (er6 : Int32) (er7 : Int32) (ef0 : Nat → Int32) (run : nz_M (yz_l y) yX4_sortNamed wsX4_sortNamed rm_X4_sortNamed g [.ref eo] [(eo, .inr (4, [.ref ea0, .ref ed, .int er2, .int er3, .int er4, .int er5, .int er6, .int er7])), (ea0, .inl (nz_cI g, 400, .inl ef0))] (nz_Qi g [(eo, .inr (4, [.ref ea0, .ref ed, .int er2, .int er3, .int er4, .int er5, .int er6, .int er7])), (ea0, .inl (nz_cI g, 400, .inl ef0))] (fun r (u : Unit) => K r) (fun u => [(eo, .inr (4, [.ref ea0, .ref ed, .int er2, .int er3, .int er4, .int er5, .int er6, .int er7])), (ea0, .inl (nz_cI g, 400, .inl ef0))])) → nz_C y g k n ws pc ls st rest [(eo, .inr (4, [.ref ea0, .ref ed, .int er2, .int er3, .int er4, .int er5, .int er6, .int er7])), (ea0, .inl (nz_cI g, 400, .inl ef0))] (nz_Qi g [(eo, .inr (4, [.ref ea0, .ref ed, .int er2, .int er3, .int er4, .int er5, .int er6, .int er7])), (ea0, .inl (nz_cI g, 400, .inl ef0))] (fun r (u : Unit) => K r) (fun u => [(eo, .inr (4, [.ref ea0, .ref ed, .int er2, .int er3, .int er4, .int er5, .int er6, .int er7])), (ea0, .inl (nz_cI g, 400, .inl ef0))])) av isC) (h : wp_X4_sortNamed er2 er3 er4 er5 ef0 K) (ws' : va_W) (hm : nz_mrg ws isC [(eo, .inr (4, [.ref ea0, .ref ed, .int er2, .int er3, .int er4, .int er5, .int er6, .int er7])), (ea0, .inl (nz_cI g, 400, .inl ef0))] = ws' ) (kk : ∀ (r : Int32), K r → nz_V y g k n ws' (pc + 3) ls (.int r :: rest)) : nz_V y g k n ws pc ls st :=
  nz_ci (ws' := fun _ => ws') (run (c_X4_sortNamed (yz_l y) g eo ea0 ed er2 er3 er4 er5 er6 er7 ef0 K h)) (fun _ => rfl) (fun _ => hm) (fun r u h => kk r h)
theorem dX4_readSort_0 : decode cX4_readSort 0 = .ok (.aload_n 0, 1) := by decide +kernel
theorem dX4_readSort_1 : decode cX4_readSort 1 = .ok (.invokevirtual 134, 3) := by decide +kernel
theorem dX4_readSort_4 : decode cX4_readSort 4 = .ok (.istore_n 1, 1) := by decide +kernel
theorem dX4_readSort_5 : decode cX4_readSort 5 = .ok (.iload_n 1, 1) := by decide +kernel
theorem dX4_readSort_6 : decode cX4_readSort 6 = .ok (.ifCond .ne 11, 3) := by decide +kernel
theorem dX4_readSort_9 : decode cX4_readSort 9 = .ok (.aload_n 0, 1) := by decide +kernel
theorem dX4_readSort_10 : decode cX4_readSort 10 = .ok (.iconst 1, 1) := by decide +kernel
theorem dX4_readSort_11 : decode cX4_readSort 11 = .ok (.invokevirtual 47, 3) := by decide +kernel
theorem dX4_readSort_14 : decode cX4_readSort 14 = .ok (.goto 7, 3) := by decide +kernel
theorem dX4_readSort_17 : decode cX4_readSort 17 = .ok (.aload_n 0, 1) := by decide +kernel
theorem dX4_readSort_18 : decode cX4_readSort 18 = .ok (.invokevirtual 32, 3) := by decide +kernel
theorem dX4_readSort_21 : decode cX4_readSort 21 = .ok (.iload_n 1, 1) := by decide +kernel
theorem dX4_readSort_22 : decode cX4_readSort 22 = .ok (.ireturn, 1) := by decide +kernel
set_option maxRecDepth 20000 in
theorem ggX4_readSort_X4_blame : GoodIn wsX4_readSort wsX4_blame := goodIn_r _ [67, 68, 90, 91, 92, 93, 94, 95, 96, 97] rfl (by decide +kernel)
set_option maxRecDepth 20000 in
theorem gX4_readSort_X4_blame : GoodIn wsX4_readSort (wsV RX4 47 RX4 yX4_blame wsX4_blame) := goodIn_app (goodIn_r _ [64, 65, 66, 4] rfl (by decide +kernel)) ggX4_readSort_X4_blame
set_option maxRecDepth 20000 in
theorem ggX4_readSort_X4_next : GoodIn wsX4_readSort wsX4_next := goodIn_r _ [72, 68, 11, 12, 13, 14, 73, 10, 74, 75, 76, 4, 77, 78, 79, 80, 81, 82, 83, 84, 85, 86, 87, 88, 89, 90, 91, 92, 93, 94, 95, 96, 97] rfl (by decide +kernel)
set_option maxRecDepth 20000 in
theorem gX4_readSort_X4_next : GoodIn wsX4_readSort (wsV RX4 32 RX4 yX4_next wsX4_next) := goodIn_app (goodIn_r _ [69, 70, 71, 4] rfl (by decide +kernel)) ggX4_readSort_X4_next
set_option maxRecDepth 20000 in
theorem ggX4_readSort_X4_sortNamed : GoodIn wsX4_readSort wsX4_sortNamed := goodIn_r _ [5, 6, 7, 8, 4, 9, 10, 11, 12, 13, 14, 15, 16, 17, 18, 19, 20, 21, 22, 23, 24, 25, 26, 27, 28, 29, 30, 31, 32, 33, 34, 35, 36, 37, 38, 39, 40, 41, 42, 43, 44, 45, 46, 47, 48, 49, 50, 51, 52, 53, 54, 55, 56, 57, 58, 59, 60, 61, 62, 63, 90, 91, 92, 93, 94, 95, 96, 97] rfl (by decide +kernel)
set_option maxRecDepth 20000 in
theorem gX4_readSort_X4_sortNamed : GoodIn wsX4_readSort (wsV RX4 134 RX4 yX4_sortNamed wsX4_sortNamed) := goodIn_app (goodIn_r _ [1, 2, 3, 4] rfl (by decide +kernel)) ggX4_readSort_X4_sortNamed
theorem hd_X4_sortNamed : yX4_sortNamed.cls = RX4 ∧ yX4_sortNamed.cls ≠ "java/lang/invoke/MethodHandle" ∧ yX4_sortNamed.cls ≠ "java/lang/invoke/VarHandle" ∧ (parseMethodDescriptor yX4_sortNamed.desc).map (fun d => d.parameters.length) = some 0 := by decide +kernel
/-! X4_readSort -/
abbrev rm_X4_readSort : Room := { frames := 6, cells := 0, slots := 0, locals := 127 }
def wp_X4_readSort (er2 : Int32) (er3 : Int32) (er4 : Int32) (er5 : Int32) (er6 : Int32) (er7 : Int32) (ef0 : Nat → Int32) (K : Int32 → Int32 → Int32 → Int32 → Int32 → Int32 → Prop) : Prop := wp_X4_sortNamed er2 er3 er4 er5 ef0 (fun q1 => ((¬ q1 = 0 → wp_X4_next er2 er3 er4 er5 er6 er7 ef0 (fun m3 m4 m5 m6 => K q1 m3 m4 m5 m6 er7)) ∧ (q1 = 0 → wp_X4_blame er7 1 (fun m7 => K q1 er3 er4 er5 er6 m7))))
set_option maxHeartbeats 4000000 in
set_option maxRecDepth 100000 in
theorem c_X4_readSort (l : Launch) (g : nz_G) (eo : Nat) (ea0 : Nat) (ed : Nat) (er2 : Int32) (er3 : Int32) (er4 : Int32) (er5 : Int32) (er6 : Int32) (er7 : Int32) (ef0 : Nat → Int32) (K : Int32 → Int32 → Int32 → Int32 → Int32 → Int32 → Prop) (h : wp_X4_readSort er2 er3 er4 er5 er6 er7 ef0 K) : nz_M l yX4_readSort wsX4_readSort rm_X4_readSort g [.ref eo] [(eo, .inr (4, [.ref ea0, .ref ed, .int er2, .int er3, .int er4, .int er5, .int er6, .int er7])), (ea0, .inl (nz_cI g, 400, .inl ef0))] (nz_Qi g [(eo, .inr (4, [.ref ea0, .ref ed, .int er2, .int er3, .int er4, .int er5, .int er6, .int er7])), (ea0, .inl (nz_cI g, 400, .inl ef0))] (fun r (u : Int32 × Int32 × Int32 × Int32 × Int32) => K r u.1 u.2.1 u.2.2.1 u.2.2.2.1 u.2.2.2.2) (fun u => [(eo, .inr (4, [.ref ea0, .ref ed, .int er2, .int u.1, .int u.2.1, .int u.2.2.1, .int u.2.2.2.1, .int u.2.2.2.2])), (ea0, .inl (nz_cI g, 400, .inl ef0))])) := by
  refine nz_M.of (bytes := cX4_readSort) (nL := 2) (ret := (some .int)) (own := RX4) (by decide) rfl rfl ⟨rfl, rfl⟩ rfl ?_
  intro y F hl hQ
  obtain ⟨sz, hQ⟩ := hQ
  refine nz_ent (lv' := [(0, .ref eo)]) rfl ?_
  unfold wp_X4_readSort at h
  refine nz_aload_n F dX4_readSort_0 rfl 0 rfl ?_
  refine k_X4_sortNamed eo ea0 ed er2 er3 er4 er5 er6 er7 ef0 (fun hM => nz_runV F gX4_readSort_X4_sortNamed rfl hd_X4_sortNamed rfl hM dX4_readSort_1 [0, 1] rfl rfl 0 rfl rfl rfl (Nat.le_of_ble_eq_true rfl) rfl) h ([(eo, .inr (4, [.ref ea0, .ref ed, .int er2, .int er3, .int er4, .int er5, .int er6, .int er7])), (ea0, .inl (nz_cI g, 400, .inl ef0))]) (rfl) (fun q1 h => ?_)
  refine nz_istore_n (lv' := [(1, .int q1), (0, .ref eo)]) F dX4_readSort_4 rfl (by decide) rfl ?_
  refine nz_iload_n F dX4_readSort_5 rfl 0 rfl ?_
  refine nz_if_ne (tgt := 17) F dX4_readSort_6 (by decide) (fun c2 => ?_) (fun c2 => ?_)
  · have h := h.1 c2
    refine nz_aload_n F dX4_readSort_17 rfl 1 rfl ?_
    refine k_X4_next eo ea0 ed er2 er3 er4 er5 er6 er7 ef0 (fun hM => nz_runV F gX4_readSort_X4_next rfl hd_X4_next rfl hM dX4_readSort_18 [0, 1] rfl rfl 0 rfl rfl rfl (Nat.le_of_ble_eq_true rfl) rfl) h (fun m3 m4 m5 m6 => [(eo, .inr (4, [.ref ea0, .ref ed, .int er2, .int m3, .int m4, .int m5, .int m6, .int er7])), (ea0, .inl (nz_cI g, 400, .inl ef0))]) (fun _ _ _ _ => rfl) (fun m3 m4 m5 m6 h => ?_)
    refine nz_iload_n F dX4_readSort_21 rfl 0 rfl ?_
    exact nz_iret F hQ (m3, m4, m5, m6, er7) h rfl dX4_readSort_22
  · have h := h.2 c2
    refine nz_aload_n F dX4_readSort_9 rfl 1 rfl ?_
    refine nz_iconst (v := 1) F dX4_readSort_10 (by decide) ?_
    refine k_X4_blame eo ea0 ed er2 er3 er4 er5 er6 er7 ef0 1 (fun hM => nz_runV F gX4_readSort_X4_blame rfl hd_X4_blame rfl hM dX4_readSort_11 [0, 1] rfl rfl 0 rfl rfl rfl (Nat.le_of_ble_eq_true rfl) rfl) h (fun m7 => [(eo, .inr (4, [.ref ea0, .ref ed, .int er2, .int er3, .int er4, .int er5, .int er6, .int m7])), (ea0, .inl (nz_cI g, 400, .inl ef0))]) (fun _ => rfl) (fun m7 h => ?_)
    refine nz_goto (tgt := 21) F dX4_readSort_14 (by decide) ?_
    refine nz_iload_n F dX4_readSort_21 rfl 0 rfl ?_
    exact nz_iret F hQ (er3, er4, er5, er6, m7) h rfl dX4_readSort_22
theorem k_X4_readSort {y : nz_Y} {g : nz_G} {k n : Nat} {ws : va_W} {pc : Nat} {ls : List (Nat × Value)} {st rest : List Value} {av : Array Value} {isC : List Nat} {K : Int32 → Int32 → Int32 → Int32 → Int32 → Int32 → Prop} (eo : Nat) (ea0 : Nat) (ed : Nat) (er2 : Int32) (er3 : Int32) (er4 : Int32) (er5 : Int32) (er6 : Int32) (er7 : Int32) (ef0 : Nat → Int32) (run : nz_M (yz_l y) yX4_readSort wsX4_readSort rm_X4_readSort g [.ref eo] [(eo, .inr (4, [.ref ea0, .ref ed, .int er2, .int er3, .int er4, .int er5, .int er6, .int er7])), (ea0, .inl (nz_cI g, 400, .inl ef0))] (nz_Qi g [(eo, .inr (4, [.ref ea0, .ref ed, .int er2, .int er3, .int er4, .int er5, .int er6, .int er7])), (ea0, .inl (nz_cI g, 400, .inl ef0))] (fun r (u : Int32 × Int32 × Int32 × Int32 × Int32) => K r u.1 u.2.1 u.2.2.1 u.2.2.2.1 u.2.2.2.2) (fun u => [(eo, .inr (4, [.ref ea0, .ref ed, .int er2, .int u.1, .int u.2.1, .int u.2.2.1, .int u.2.2.2.1, .int u.2.2.2.2])), (ea0, .inl (nz_cI g, 400, .inl ef0))])) → nz_C y g k n ws pc ls st rest [(eo, .inr (4, [.ref ea0, .ref ed, .int er2, .int er3, .int er4, .int er5, .int er6, .int er7])), (ea0, .inl (nz_cI g, 400, .inl ef0))] (nz_Qi g [(eo, .inr (4, [.ref ea0, .ref ed, .int er2, .int er3, .int er4, .int er5, .int er6, .int er7])), (ea0, .inl (nz_cI g, 400, .inl ef0))] (fun r (u : Int32 × Int32 × Int32 × Int32 × Int32) => K r u.1 u.2.1 u.2.2.1 u.2.2.2.1 u.2.2.2.2) (fun u => [(eo, .inr (4, [.ref ea0, .ref ed, .int er2, .int u.1, .int u.2.1, .int u.2.2.1, .int u.2.2.2.1, .int u.2.2.2.2])), (ea0, .inl (nz_cI g, 400, .inl ef0))])) av isC) (h : wp_X4_readSort er2 er3 er4 er5 er6 er7 ef0 K) (ws' : Int32 → Int32 → Int32 → Int32 → Int32 → va_W) (hm : ∀ (m0 : Int32) (m1 : Int32) (m2 : Int32) (m3 : Int32) (m4 : Int32), nz_mrg ws isC [(eo, .inr (4, [.ref ea0, .ref ed, .int er2, .int m0, .int m1, .int m2, .int m3, .int m4])), (ea0, .inl (nz_cI g, 400, .inl ef0))] = ws' m0 m1 m2 m3 m4) (kk : ∀ (r : Int32) (m0 : Int32) (m1 : Int32) (m2 : Int32) (m3 : Int32) (m4 : Int32), K r m0 m1 m2 m3 m4 → nz_V y g k n (ws' m0 m1 m2 m3 m4) (pc + 3) ls (.int r :: rest)) : nz_V y g k n ws pc ls st :=
  nz_ci (ws' := fun u => ws' u.1 u.2.1 u.2.2.1 u.2.2.2.1 u.2.2.2.2) (run (c_X4_readSort (yz_l y) g eo ea0 ed er2 er3 er4 er5 er6 er7 ef0 K h)) (fun _ => rfl) (fun u => hm u.1 u.2.1 u.2.2.1 u.2.2.2.1 u.2.2.2.2) (fun r u h => kk r u.1 u.2.1 u.2.2.1 u.2.2.2.1 u.2.2.2.2 h)
