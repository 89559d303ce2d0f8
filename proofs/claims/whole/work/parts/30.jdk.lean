/-! rows of statics and texts; the methods of the JDK on text constants -/
abbrev nz_Qr (g : nz_G) (wc : va_W) (b : Nat) {S : Type} (post : S → Prop) (w1 : S → va_W) : Nat → Array Value → State → Outcome → State → Prop := fun sz => va_Qr post (fun u a t => nz_B g (va_A wc sz) w1 u t ∧ a = b) (va_A wc sz)
section NZK
variable {y : nz_Y} {g : nz_G} {k n : Nat} {ws : va_W} {pc : Nat} {ls : List (Nat × Value)} {st rest : List Value} {cc : ByteArray} {nL : Nat} {Ts : List Cond} {own : String} {ret : Option FieldType} {rm : Room}
theorem nz_gets (F : nz_F y g cc nL Ts own ret rm) {C nm ds : String} {v : Value} {idx : Nat} (hZ : va_Z C nm ds v (yz_A y) (yz_s y) (yz_s y).heap) (hk : Cond.fieldLink own idx C nm ds ∈ Ts) (d : decode cc pc = .ok (.getstatic idx, 3)) (h : nz_V y g k n ws (pc + 3) ls (v :: st)) : nz_V y g k n ws pc ls st := fun H locs la hP hD hS hL => va_gets (ref := C) F.1 F.2.1 hZ hS F.2.2.2.2.1 (F.2.2.2.2.2.1 _ hk) (fun _ q => q) d (h H locs la hP hD hS hL)
theorem nz_getO (F : nz_F y g cc nL Ts own ret rm) {C nm ds : String} {v : Value} {q idx : Nat} (hO : va_OF C nm ds v q (yz_A y) (yz_s y) (yz_s y).heap) (hk : Cond.fieldLink own idx C nm ds ∈ Ts) (d : decode cc pc = .ok (.getfield idx, 3)) (h : nz_V y g k n ws (pc + 3) ls (v :: st)) : nz_V y g k n ws pc ls (.ref q :: st) := fun H locs la hP hD hS hL => vk_getf (ref := C) F.1 F.2.1 hO hS F.2.2.2.2.1 (F.2.2.2.2.2.1 _ hk) (fun _ q => q) d (h H locs la hP hD hS hL)
theorem nz_tlen (F : nz_F y g cc nL Ts own ret rm) {ty : FieldType} {t N : Nat} {f : Nat → Value} {v : Int32} (hT : va_T ty t N f (yz_A y) (yz_s y) (yz_s y).heap) (hv : Int32.ofNat N = v) (d : decode cc pc = .ok (.arraylength, 1)) (h : nz_V y g k n ws (pc + 1) ls (.int v :: st)) : nz_V y g k n ws pc ls (.ref t :: st) := fun H locs la hP hD hS hL => va_tlen F.1 F.2.1 hT hS hv d (h H locs la hP hD hS hL)
theorem nz_tb (F : nz_F y g cc nL Ts own ret rm) {t N : Nat} {f : Nat → Value} {i : Int32} {v : Value} (hT : va_T .byte t N f (yz_A y) (yz_s y) (yz_s y).heap) (hin : vp_in i N) (hv : f i.toNatClampNeg = v) (d : decode cc pc = .ok (.baload, 1)) (h : nz_V y g k n ws (pc + 1) ls (v :: st)) : nz_V y g k n ws pc ls (.int i :: .ref t :: st) := fun H locs la hP hD hS hL => va_tb F.1 F.2.1 hT hS hin hv d (h H locs la hP hD hS hL)
theorem nz_ti (F : nz_F y g cc nL Ts own ret rm) {t N : Nat} {f : Nat → Value} {i : Int32} {v : Value} (hT : va_T .int t N f (yz_A y) (yz_s y) (yz_s y).heap) (hin : vp_in i N) (hv : f i.toNatClampNeg = v) (d : decode cc pc = .ok (.iaload, 1)) (h : nz_V y g k n ws (pc + 1) ls (v :: st)) : nz_V y g k n ws pc ls (.int i :: .ref t :: st) := fun H locs la hP hD hS hL => va_ti F.1 F.2.1 hT hS hin hv d (h H locs la hP hD hS hL)
theorem nz_runK (F : nz_F y g cc nL Ts own ret rm) {yy : MethodName} {bytes : ByteArray} {maxL nn idx : Nat} {ret1 : Option FieldType} {wsy ws1 : List Cond} {rmy : Room} {As : List Value} {wc : va_W} {Qc : Nat → Array Value → State → Outcome → State → Prop} {i : Nat} (hi : i < 8) (hG : GoodIn Ts (wsV own idx RJ0 yy wsy)) (hw : wsy = Cond.code yy bytes maxL ret1 :: ws1)
    (hd : yy.cls = RJ0 ∧ yy.cls ≠ "java/lang/invoke/MethodHandle" ∧ yy.cls ≠ "java/lang/invoke/VarHandle" ∧ (parseMethodDescriptor yy.desc).map (fun d => d.parameters.length) = some nn) (hR : (Nat.ble (rmy.frames + 1) rm.frames && Nat.ble (8 + (maxL + 11) + rmy.locals) rm.locals && Nat.beq rmy.cells 0 && Nat.beq rmy.slots 0 && Nat.ble k rm.cells && Nat.ble n rm.slots) = true) (hM : nz_M (yz_l y) yy wsy rmy g (.ref (nz_aK g i) :: As) wc Qc) (d : decode cc pc = .ok (.invokevirtual idx, 3)) (isC : List Nat) (hC : isC.map (fun i => ws[i]?) = wc.map some) (hnd : va_nd isC = true)
    (hn : As.length = nn) (hcat : (rest.map fun v => v.category).sum ≤ 8) (hst : st = As.reverse ++ .ref (nz_aK g i) :: rest) : nz_C y g k n ws pc ls st rest wc Qc (Value.ref (nz_aK g i) :: As).toArray isC := by
  simp only [Bool.and_eq_true] at hR
  obtain ⟨⟨⟨⟨⟨r1, r2⟩, r3⟩, r4⟩, r5⟩, r6⟩ := hR
  have r1 := Nat.le_of_ble_eq_true r1
  have r2 := Nat.le_of_ble_eq_true r2
  have r3 := Nat.eq_of_beq_eq_true r3
  have r4 := Nat.eq_of_beq_eq_true r4
  have r5 := Nat.le_of_ble_eq_true r5
  have r6 := Nat.le_of_ble_eq_true r6
  refine ⟨hC, F.2.2.2.2.2.2.2.2.1, fun H locs la hP hD hS hL => ?_⟩
  have hM1 := hM H.size
  obtain ⟨f1, f2, f3, f4, f5, f6, f7, f8, f9, f10, f11, f12⟩ := F
  have F : nz_F y g cc nL Ts own ret rm := ⟨f1, f2, f3, f4, f5, f6, f7, f8, f9, f10, f11, f12⟩
  subst f12
  subst hst
  exact va_runV (As := As) (rest := rest) (C := RJ0) ⟨f1, f2, f3.trans f4, f5, f6⟩ hM1 (cwV nn f6 hG hw r3 r4 hd ⟨r1, r2⟩) ⟨nz_bld, vk_recv f11.2.1 hi hS, fun U hU hW => ⟨rfl, nz_giv F hP hD hS hC hnd hU hW⟩⟩ rfl hn (hL.1.trans f4) rfl (lv_room hcat) d ⟨r5, r6⟩
theorem nz_aret {S : Type} {wc : va_W} {b sz : Nat} {post : S → Prop} {w1 : S → va_W} {C0 : String} (F : nz_F y g cc nL Ts own (some (.object C0)) rm) (hQ : yz_A y = va_A wc sz ∧ yz_Q y = MQ (yz_b y) (nz_Qr g wc b post w1 sz) (yz_a y) (yz_s y) k n (va_A wc sz)) (u : S) (hp : post u) (hw : ws = w1 u) (d : decode cc pc = .ok (.areturn, 1)) : nz_V y g k n ws pc ls [.ref b] := by
  intro H locs la hP hD hS hL
  obtain ⟨hA, hQ⟩ := hQ
  rw [hA] at hD hS
  rw [hQ]
  subst hw
  exact W.aret F.1 F.2.1 F.2.2.2.2.2.2.1 (Or.inl ⟨_, rfl⟩) (Or.inr ⟨b, rfl⟩) (fun t ht hW => ⟨⟨u, b, rfl, hp, ⟨by rw [ht]; exact hP, va_K.moved hW.alike F.2.2.2.2.2.2.2.2.2.1, hD⟩, rfl⟩, hS.F ht⟩) hS.2.2 d F.2.2.2.2.2.2.2.1
theorem nz_cr {S : Type} {wc : va_W} {b : Nat} {post : S → Prop} {w1 ws' : S → va_W} {av : Array Value} {isC : List Nat} (hc : nz_C y g k n ws pc ls st rest wc (nz_Qr g wc b post w1) av isC) (ha : ∀ u, (w1 u).map Prod.fst = wc.map Prod.fst) (hm : ∀ u, nz_mrg ws isC (w1 u) = ws' u)
    (kk : ∀ u : S, post u → nz_V y g k n (ws' u) (pc + 3) ls (.ref b :: rest)) : nz_V y g k n ws pc ls st := by
  intro H locs la hP hD hS hL
  obtain ⟨hC, hA, hrun⟩ := hc
  have hFc := va_free hD hS hA isC hC
  refine va_callr (hrun H locs la hP hD hS hL) hS (fun q _ h => hFc q h) hFc (fun u a t H1 locs1 ht hvm hw hB hz1 hk1 hS1 => ?_)
  obtain ⟨⟨hP1, hK1, hD1⟩, rfl⟩ := hB
  rw [ht] at hP1
  obtain ⟨hP2, hD2⟩ := nz_merge hP hD isC hC (ha u) hk1 hP1
  rw [hm u] at hP2 hD2
  exact kk u hw H1 locs1 la hP2 hD2 hS1 hL
end NZK
theorem dJ0_coder_7d493_0 : decode cJ0_coder_7d493 0 = .ok (.getstatic 38, 3) := by decide +kernel
theorem dJ0_coder_7d493_3 : decode cJ0_coder_7d493 3 = .ok (.ifCond .eq 10, 3) := by decide +kernel
theorem dJ0_coder_7d493_6 : decode cJ0_coder_7d493 6 = .ok (.aload_n 0, 1) := by decide +kernel
theorem dJ0_coder_7d493_7 : decode cJ0_coder_7d493 7 = .ok (.getfield 15, 3) := by decide +kernel
theorem dJ0_coder_7d493_10 : decode cJ0_coder_7d493 10 = .ok (.goto 4, 3) := by decide +kernel
theorem dJ0_coder_7d493_14 : decode cJ0_coder_7d493 14 = .ok (.ireturn, 1) := by decide +kernel
theorem fl_J0_coder_7d493_38 : Cond.fieldLink RJ0 38 "java/lang/String" "COMPACT_STRINGS" "Z" ∈ wsJ0_coder_7d493 := List.mem_of_getElem? (i := 1) rfl
theorem fl_J0_coder_7d493_15 : Cond.fieldLink RJ0 15 "java/lang/String" "coder" "B" ∈ wsJ0_coder_7d493 := List.mem_of_getElem? (i := 2) rfl
abbrev rm_J0_coder_7d493 : Room := { frames := 0, cells := 0, slots := 0, locals := 0 }
def wp_J0_coder_7d493 (i : Nat) (K : Int32 → Prop) : Prop := (i < 8 ∧ K 0)
set_option maxHeartbeats 4000000 in
set_option maxRecDepth 100000 in
theorem c_J0_coder_7d493 (l : Launch) (g : nz_G) (i : Nat) (K : Int32 → Prop) (h : wp_J0_coder_7d493 i K) : nz_M l yJ0_coder_7d493 wsJ0_coder_7d493 rm_J0_coder_7d493 g [.ref (nz_aK g i)] [] (nz_Qi g [] (fun r (u : Unit) => K r) (fun u => [])) := by
  refine nz_M.of (bytes := cJ0_coder_7d493) (nL := 1) (ret := (some .byte)) (own := RJ0) (by decide) rfl rfl ⟨rfl, rfl⟩ rfl ?_
  intro y F hl hQ
  obtain ⟨sz, hQ⟩ := hQ
  refine nz_ent (lv' := [(0, .ref (nz_aK g i))]) rfl ?_
  unfold wp_J0_coder_7d493 at h
  obtain ⟨hi, h⟩ := h
  refine nz_gets F F.2.2.2.2.2.2.2.2.2.2.1.2.2.2.2.1 fl_J0_coder_7d493_38 dJ0_coder_7d493_0 ?_
  refine nz_if_eq (tgt := 13) F dJ0_coder_7d493_3 (by decide) (fun c => absurd c (by decide)) (fun _ => ?_)
  refine nz_aload_n F dJ0_coder_7d493_6 rfl 0 rfl ?_
  refine nz_getO F (F.2.2.2.2.2.2.2.2.2.2.1.2.1.1 i hi).2.1 fl_J0_coder_7d493_15 dJ0_coder_7d493_7 ?_
  refine nz_goto (tgt := 14) F dJ0_coder_7d493_10 (by decide) ?_
  exact nz_zret F hQ () h rfl rfl dJ0_coder_7d493_14
theorem k_J0_coder_7d493 {y : nz_Y} {g : nz_G} {k n : Nat} {ws : va_W} {pc : Nat} {ls : List (Nat × Value)} {st rest : List Value} {av : Array Value} {isC : List Nat} {K : Int32 → Prop} (i : Nat) (run : nz_M (yz_l y) yJ0_coder_7d493 wsJ0_coder_7d493 rm_J0_coder_7d493 g [.ref (nz_aK g i)] [] (nz_Qi g [] (fun r (u : Unit) => K r) (fun u => [])) → nz_C y g k n ws pc ls st rest [] (nz_Qi g [] (fun r (u : Unit) => K r) (fun u => [])) av isC) (h : wp_J0_coder_7d493 i K) (ws' : va_W) (hm : nz_mrg ws isC [] = ws') (kk : ∀ (r0 : Int32), K r0 → nz_V y g k n ws' (pc + 3) ls (.int r0 :: rest)) : nz_V y g k n ws pc ls st :=
  nz_ci (ws' := fun _ => ws') (run (c_J0_coder_7d493 (yz_l y) g i K h)) (fun _ => rfl) (fun _ => hm) (fun r0 u h => kk r0 h)
theorem dJ0_isLatin1_aae02_0 : decode cJ0_isLatin1_aae02 0 = .ok (.getstatic 38, 3) := by decide +kernel
theorem dJ0_isLatin1_aae02_3 : decode cJ0_isLatin1_aae02 3 = .ok (.ifCond .eq 14, 3) := by decide +kernel
theorem dJ0_isLatin1_aae02_6 : decode cJ0_isLatin1_aae02 6 = .ok (.aload_n 0, 1) := by decide +kernel
theorem dJ0_isLatin1_aae02_7 : decode cJ0_isLatin1_aae02 7 = .ok (.getfield 15, 3) := by decide +kernel
theorem dJ0_isLatin1_aae02_10 : decode cJ0_isLatin1_aae02 10 = .ok (.ifCond .ne 7, 3) := by decide +kernel
theorem dJ0_isLatin1_aae02_13 : decode cJ0_isLatin1_aae02 13 = .ok (.iconst 1, 1) := by decide +kernel
theorem dJ0_isLatin1_aae02_14 : decode cJ0_isLatin1_aae02 14 = .ok (.goto 4, 3) := by decide +kernel
theorem dJ0_isLatin1_aae02_18 : decode cJ0_isLatin1_aae02 18 = .ok (.ireturn, 1) := by decide +kernel
theorem fl_J0_isLatin1_aae02_38 : Cond.fieldLink RJ0 38 "java/lang/String" "COMPACT_STRINGS" "Z" ∈ wsJ0_isLatin1_aae02 := List.mem_of_getElem? (i := 1) rfl
theorem fl_J0_isLatin1_aae02_15 : Cond.fieldLink RJ0 15 "java/lang/String" "coder" "B" ∈ wsJ0_isLatin1_aae02 := List.mem_of_getElem? (i := 2) rfl
abbrev rm_J0_isLatin1_aae02 : Room := { frames := 0, cells := 0, slots := 0, locals := 0 }
def wp_J0_isLatin1_aae02 (i : Nat) (K : Int32 → Prop) : Prop := (i < 8 ∧ K 1)
set_option maxHeartbeats 4000000 in
set_option maxRecDepth 100000 in
theorem c_J0_isLatin1_aae02 (l : Launch) (g : nz_G) (i : Nat) (K : Int32 → Prop) (h : wp_J0_isLatin1_aae02 i K) : nz_M l yJ0_isLatin1_aae02 wsJ0_isLatin1_aae02 rm_J0_isLatin1_aae02 g [.ref (nz_aK g i)] [] (nz_Qi g [] (fun r (u : Unit) => K r) (fun u => [])) := by
  refine nz_M.of (bytes := cJ0_isLatin1_aae02) (nL := 1) (ret := (some .boolean)) (own := RJ0) (by decide) rfl rfl ⟨rfl, rfl⟩ rfl ?_
  intro y F hl hQ
  obtain ⟨sz, hQ⟩ := hQ
  refine nz_ent (lv' := [(0, .ref (nz_aK g i))]) rfl ?_
  unfold wp_J0_isLatin1_aae02 at h
  obtain ⟨hi, h⟩ := h
  refine nz_gets F F.2.2.2.2.2.2.2.2.2.2.1.2.2.2.2.1 fl_J0_isLatin1_aae02_38 dJ0_isLatin1_aae02_0 ?_
  refine nz_if_eq (tgt := 17) F dJ0_isLatin1_aae02_3 (by decide) (fun c => absurd c (by decide)) (fun _ => ?_)
  refine nz_aload_n F dJ0_isLatin1_aae02_6 rfl 0 rfl ?_
  refine nz_getO F (F.2.2.2.2.2.2.2.2.2.2.1.2.1.1 i hi).2.1 fl_J0_isLatin1_aae02_15 dJ0_isLatin1_aae02_7 ?_
  refine nz_if_ne (tgt := 17) F dJ0_isLatin1_aae02_10 (by decide) (fun c => absurd c (by decide)) (fun _ => ?_)
  refine nz_iconst (v := 1) F dJ0_isLatin1_aae02_13 (by decide) ?_
  refine nz_goto (tgt := 18) F dJ0_isLatin1_aae02_14 (by decide) ?_
  exact nz_zret F hQ () h rfl rfl dJ0_isLatin1_aae02_18
theorem k_J0_isLatin1_aae02 {y : nz_Y} {g : nz_G} {k n : Nat} {ws : va_W} {pc : Nat} {ls : List (Nat × Value)} {st rest : List Value} {av : Array Value} {isC : List Nat} {K : Int32 → Prop} (i : Nat) (run : nz_M (yz_l y) yJ0_isLatin1_aae02 wsJ0_isLatin1_aae02 rm_J0_isLatin1_aae02 g [.ref (nz_aK g i)] [] (nz_Qi g [] (fun r (u : Unit) => K r) (fun u => [])) → nz_C y g k n ws pc ls st rest [] (nz_Qi g [] (fun r (u : Unit) => K r) (fun u => [])) av isC) (h : wp_J0_isLatin1_aae02 i K) (ws' : va_W) (hm : nz_mrg ws isC [] = ws') (kk : ∀ (r0 : Int32), K r0 → nz_V y g k n ws' (pc + 3) ls (.int r0 :: rest)) : nz_V y g k n ws pc ls st :=
  nz_ci (ws' := fun _ => ws') (run (c_J0_isLatin1_aae02 (yz_l y) g i K h)) (fun _ => rfl) (fun _ => hm) (fun r0 u h => kk r0 h)
theorem dJ0_length_8abf5_0 : decode cJ0_length_8abf5 0 = .ok (.aload_n 0, 1) := by decide +kernel
theorem dJ0_length_8abf5_1 : decode cJ0_length_8abf5 1 = .ok (.getfield 9, 3) := by decide +kernel
theorem dJ0_length_8abf5_4 : decode cJ0_length_8abf5 4 = .ok (.arraylength, 1) := by decide +kernel
theorem dJ0_length_8abf5_5 : decode cJ0_length_8abf5 5 = .ok (.aload_n 0, 1) := by decide +kernel
theorem dJ0_length_8abf5_6 : decode cJ0_length_8abf5 6 = .ok (.invokevirtual 335, 3) := by decide +kernel
theorem dJ0_length_8abf5_9 : decode cJ0_length_8abf5 9 = .ok (.ishr, 1) := by decide +kernel
theorem dJ0_length_8abf5_10 : decode cJ0_length_8abf5 10 = .ok (.ireturn, 1) := by decide +kernel
set_option maxRecDepth 20000 in
theorem ggJ0_length_8abf5_J0_coder_7d493 : GoodIn wsJ0_length_8abf5 wsJ0_coder_7d493 := goodIn_r _ [6, 7, 8] rfl (by decide +kernel)
set_option maxRecDepth 20000 in
theorem gJ0_length_8abf5_J0_coder_7d493 : GoodIn wsJ0_length_8abf5 (wsV RJ0 335 RJ0 yJ0_coder_7d493 wsJ0_coder_7d493) := goodIn_app (goodIn_r _ [2, 3, 4, 5] rfl (by decide +kernel)) ggJ0_length_8abf5_J0_coder_7d493
theorem hd_J0_coder_7d493 : yJ0_coder_7d493.cls = RJ0 ∧ yJ0_coder_7d493.cls ≠ "java/lang/invoke/MethodHandle" ∧ yJ0_coder_7d493.cls ≠ "java/lang/invoke/VarHandle" ∧ (parseMethodDescriptor yJ0_coder_7d493.desc).map (fun d => d.parameters.length) = some 0 := by decide +kernel
theorem fl_J0_length_8abf5_9 : Cond.fieldLink RJ0 9 "java/lang/String" "value" "[B" ∈ wsJ0_length_8abf5 := List.mem_of_getElem? (i := 1) rfl
abbrev rm_J0_length_8abf5 : Room := { frames := 1, cells := 0, slots := 0, locals := 20 }
def wp_J0_length_8abf5 (i : Nat) (K : Int32 → Prop) : Prop := (i < 8 ∧ K (nI (nz_len.getD i 0)))
set_option maxHeartbeats 4000000 in
set_option maxRecDepth 100000 in
theorem c_J0_length_8abf5 (l : Launch) (g : nz_G) (i : Nat) (K : Int32 → Prop) (h : wp_J0_length_8abf5 i K) : nz_M l yJ0_length_8abf5 wsJ0_length_8abf5 rm_J0_length_8abf5 g [.ref (nz_aK g i)] [] (nz_Qi g [] (fun r (u : Unit) => K r) (fun u => [])) := by
  refine nz_M.of (bytes := cJ0_length_8abf5) (nL := 1) (ret := (some .int)) (own := RJ0) (by decide) rfl rfl ⟨rfl, rfl⟩ rfl ?_
  intro y F hl hQ
  obtain ⟨sz, hQ⟩ := hQ
  refine nz_ent (lv' := [(0, .ref (nz_aK g i))]) rfl ?_
  unfold wp_J0_length_8abf5 at h
  obtain ⟨hi, h⟩ := h
  refine nz_aload_n F dJ0_length_8abf5_0 rfl 0 rfl ?_
  refine nz_getO F (F.2.2.2.2.2.2.2.2.2.2.1.2.1.1 i hi).2.2.1 fl_J0_length_8abf5_9 dJ0_length_8abf5_1 ?_
  refine nz_tlen (v := nI (nz_len.getD i 0)) F (F.2.2.2.2.2.2.2.2.2.2.1.2.1.1 i hi).2.2.2 rfl dJ0_length_8abf5_4 ?_
  refine nz_aload_n F dJ0_length_8abf5_5 rfl 0 rfl ?_
  refine k_J0_coder_7d493 (K := fun q => q = 0) i (fun hM => nz_runK F hi gJ0_length_8abf5_J0_coder_7d493 rfl hd_J0_coder_7d493 rfl hM dJ0_length_8abf5_6 [] rfl rfl rfl (Nat.le_of_ble_eq_true rfl) rfl) ⟨hi, rfl⟩ [] rfl (fun q e => ?_)
  subst e
  refine nz_ishr F dJ0_length_8abf5_9 ?_
  refine nz_vi (sb_shr0 _) ?_
  exact nz_iret F hQ () h rfl dJ0_length_8abf5_10
theorem k_J0_length_8abf5 {y : nz_Y} {g : nz_G} {k n : Nat} {ws : va_W} {pc : Nat} {ls : List (Nat × Value)} {st rest : List Value} {av : Array Value} {isC : List Nat} {K : Int32 → Prop} (i : Nat) (run : nz_M (yz_l y) yJ0_length_8abf5 wsJ0_length_8abf5 rm_J0_length_8abf5 g [.ref (nz_aK g i)] [] (nz_Qi g [] (fun r (u : Unit) => K r) (fun u => [])) → nz_C y g k n ws pc ls st rest [] (nz_Qi g [] (fun r (u : Unit) => K r) (fun u => [])) av isC) (h : wp_J0_length_8abf5 i K) (ws' : va_W) (hm : nz_mrg ws isC [] = ws') (kk : ∀ (r0 : Int32), K r0 → nz_V y g k n ws' (pc + 3) ls (.int r0 :: rest)) : nz_V y g k n ws pc ls st :=
  nz_ci (ws' := fun _ => ws') (run (c_J0_length_8abf5 (yz_l y) g i K h)) (fun _ => rfl) (fun _ => hm) (fun r0 u h => kk r0 h)
theorem dJ3_checkIndex_8e157_0 : decode cJ3_checkIndex_8e157 0 = .ok (.iload_n 0, 1) := by decide +kernel
theorem dJ3_checkIndex_8e157_1 : decode cJ3_checkIndex_8e157 1 = .ok (.ifCond .lt 8, 3) := by decide +kernel
theorem dJ3_checkIndex_8e157_4 : decode cJ3_checkIndex_8e157 4 = .ok (.iload_n 0, 1) := by decide +kernel
theorem dJ3_checkIndex_8e157_5 : decode cJ3_checkIndex_8e157 5 = .ok (.iload_n 1, 1) := by decide +kernel
theorem dJ3_checkIndex_8e157_6 : decode cJ3_checkIndex_8e157 6 = .ok (.if_icmp .lt 10, 3) := by decide +kernel
theorem dJ3_checkIndex_8e157_16 : decode cJ3_checkIndex_8e157 16 = .ok (.iload_n 0, 1) := by decide +kernel
theorem dJ3_checkIndex_8e157_17 : decode cJ3_checkIndex_8e157 17 = .ok (.ireturn, 1) := by decide +kernel
abbrev rm_J3_checkIndex_8e157 : Room := { frames := 0, cells := 0, slots := 0, locals := 0 }
def wp_J3_checkIndex_8e157 (a : Int32) (b : Int32) (K : Int32 → Prop) : Prop := (¬ a < 0 ∧ a < b ∧ K a)
set_option maxHeartbeats 4000000 in
set_option maxRecDepth 100000 in
theorem c_J3_checkIndex_8e157 (l : Launch) (g : nz_G) (a : Int32) (b : Int32) (r : Option Nat) (K : Int32 → Prop) (h : wp_J3_checkIndex_8e157 a b K) : nz_M l yJ3_checkIndex_8e157 wsJ3_checkIndex_8e157 rm_J3_checkIndex_8e157 g [.int a, .int b, va_rf r] [] (nz_Qi g [] (fun r (u : Unit) => K r) (fun u => [])) := by
  refine nz_M.of (bytes := cJ3_checkIndex_8e157) (nL := 3) (ret := (some .int)) (own := RJ3) (by decide) rfl rfl ⟨rfl, rfl⟩ (by cases r <;> rfl) ?_
  intro y F hl hQ
  obtain ⟨sz, hQ⟩ := hQ
  refine nz_ent (lv' := [(0, .int a), (1, .int b), (2, va_rf r)]) (by cases r <;> rfl) ?_
  unfold wp_J3_checkIndex_8e157 at h
  obtain ⟨h1, h2, h⟩ := h
  refine nz_iload_n F dJ3_checkIndex_8e157_0 rfl 0 rfl ?_
  refine nz_if_lt (tgt := 9) F dJ3_checkIndex_8e157_1 (by decide) (fun c => absurd c h1) (fun _ => ?_)
  refine nz_iload_n F dJ3_checkIndex_8e157_4 rfl 0 rfl ?_
  refine nz_iload_n F dJ3_checkIndex_8e157_5 rfl 1 rfl ?_
  refine nz_icmp_lt (tgt := 16) F dJ3_checkIndex_8e157_6 (by decide) (fun _ => ?_) (fun c => absurd h2 c)
  refine nz_iload_n F dJ3_checkIndex_8e157_16 rfl 0 rfl ?_
  exact nz_iret F hQ () h rfl dJ3_checkIndex_8e157_17
theorem k_J3_checkIndex_8e157 {y : nz_Y} {g : nz_G} {k n : Nat} {ws : va_W} {pc : Nat} {ls : List (Nat × Value)} {st rest : List Value} {av : Array Value} {isC : List Nat} {K : Int32 → Prop} (a : Int32) (b : Int32) (r : Option Nat) (run : nz_M (yz_l y) yJ3_checkIndex_8e157 wsJ3_checkIndex_8e157 rm_J3_checkIndex_8e157 g [.int a, .int b, va_rf r] [] (nz_Qi g [] (fun r (u : Unit) => K r) (fun u => [])) → nz_C y g k n ws pc ls st rest [] (nz_Qi g [] (fun r (u : Unit) => K r) (fun u => [])) av isC) (h : wp_J3_checkIndex_8e157 a b K) (ws' : va_W) (hm : nz_mrg ws isC [] = ws') (kk : ∀ (r0 : Int32), K r0 → nz_V y g k n ws' (pc + 3) ls (.int r0 :: rest)) : nz_V y g k n ws pc ls st :=
  nz_ci (ws' := fun _ => ws') (run (c_J3_checkIndex_8e157 (yz_l y) g a b r K h)) (fun _ => rfl) (fun _ => hm) (fun r0 u h => kk r0 h)
theorem dJ0_checkIndex_df160_0 : decode cJ0_checkIndex_df160 0 = .ok (.iload_n 0, 1) := by decide +kernel
theorem dJ0_checkIndex_df160_1 : decode cJ0_checkIndex_df160 1 = .ok (.iload_n 1, 1) := by decide +kernel
theorem dJ0_checkIndex_df160_2 : decode cJ0_checkIndex_df160 2 = .ok (.getstatic 1053, 3) := by decide +kernel
theorem dJ0_checkIndex_df160_5 : decode cJ0_checkIndex_df160 5 = .ok (.invokestatic 1059, 3) := by decide +kernel
theorem dJ0_checkIndex_df160_8 : decode cJ0_checkIndex_df160 8 = .ok (.pop, 1) := by decide +kernel
theorem dJ0_checkIndex_df160_9 : decode cJ0_checkIndex_df160 9 = .ok (.return_, 1) := by decide +kernel
set_option maxRecDepth 20000 in
theorem ggJ0_checkIndex_df160_J3_checkIndex_8e157 : GoodIn wsJ0_checkIndex_df160 wsJ3_checkIndex_8e157 := goodIn_r _ [5] rfl (by decide +kernel)
set_option maxRecDepth 20000 in
theorem gJ0_checkIndex_df160_J3_checkIndex_8e157 : GoodIn wsJ0_checkIndex_df160 (va_wsS RJ0 1059 yJ3_checkIndex_8e157 wsJ3_checkIndex_8e157) := goodIn_app (goodIn_r _ [2, 3, 4] rfl (by decide +kernel)) ggJ0_checkIndex_df160_J3_checkIndex_8e157
theorem hd_J3_checkIndex_8e157 : yJ3_checkIndex_8e157.cls = RJ3 ∧ yJ3_checkIndex_8e157.cls ≠ "java/lang/invoke/MethodHandle" ∧ yJ3_checkIndex_8e157.cls ≠ "java/lang/invoke/VarHandle" ∧ (parseMethodDescriptor yJ3_checkIndex_8e157.desc).map (fun d => d.parameters.length) = some 3 := by decide +kernel
theorem fl_J0_checkIndex_df160_1053 : Cond.fieldLink RJ0 1053 "jdk/internal/util/Preconditions" "SIOOBE_FORMATTER" "Ljava/util/function/BiFunction;" ∈ wsJ0_checkIndex_df160 := List.mem_of_getElem? (i := 1) rfl
abbrev rm_J0_checkIndex_df160 : Room := { frames := 1, cells := 0, slots := 0, locals := 22 }
def wp_J0_checkIndex_df160 (a : Int32) (b : Int32) (K : Prop) : Prop := (¬ a < 0 ∧ a < b ∧ K)
set_option maxHeartbeats 4000000 in
set_option maxRecDepth 100000 in
theorem c_J0_checkIndex_df160 (l : Launch) (g : nz_G) (a : Int32) (b : Int32) (K : Prop) (h : wp_J0_checkIndex_df160 a b K) : nz_M l yJ0_checkIndex_df160 wsJ0_checkIndex_df160 rm_J0_checkIndex_df160 g [.int a, .int b] [] (nz_Qv g [] (fun (u : Unit) => K) (fun u => [])) := by
  refine nz_M.of (bytes := cJ0_checkIndex_df160) (nL := 2) (ret := none) (own := RJ0) (by decide) rfl rfl ⟨rfl, rfl⟩ rfl ?_
  intro y F hl hQ
  obtain ⟨sz, hQ⟩ := hQ
  refine nz_ent (lv' := [(0, .int a), (1, .int b)]) rfl ?_
  unfold wp_J0_checkIndex_df160 at h
  obtain ⟨h1, h2, h⟩ := h
  refine nz_iload_n F dJ0_checkIndex_df160_0 rfl 0 rfl ?_
  refine nz_iload_n F dJ0_checkIndex_df160_1 rfl 1 rfl ?_
  rcases F.2.2.2.2.2.2.2.2.2.2.1.2.2.2.2.2 with hZ | ⟨t, hZ⟩
  · refine nz_gets F hZ fl_J0_checkIndex_df160_1053 dJ0_checkIndex_df160_2 ?_
    refine k_J3_checkIndex_8e157 (K := fun q => q = a) a b none (fun hM => nz_runS F gJ0_checkIndex_df160_J3_checkIndex_8e157 rfl hd_J3_checkIndex_8e157.2 rfl hM dJ0_checkIndex_df160_5 [] rfl rfl rfl (Nat.le_of_ble_eq_true rfl) rfl) ⟨h1, h2, rfl⟩ [] rfl (fun q e => ?_)
    refine nz_pop F dJ0_checkIndex_df160_8 rfl ?_
    exact nz_vret F hQ () h rfl dJ0_checkIndex_df160_9
  · refine nz_gets F hZ fl_J0_checkIndex_df160_1053 dJ0_checkIndex_df160_2 ?_
    refine k_J3_checkIndex_8e157 (K := fun q => q = a) a b (some t) (fun hM => nz_runS F gJ0_checkIndex_df160_J3_checkIndex_8e157 rfl hd_J3_checkIndex_8e157.2 rfl hM dJ0_checkIndex_df160_5 [] rfl rfl rfl (Nat.le_of_ble_eq_true rfl) rfl) ⟨h1, h2, rfl⟩ [] rfl (fun q e => ?_)
    refine nz_pop F dJ0_checkIndex_df160_8 rfl ?_
    exact nz_vret F hQ () h rfl dJ0_checkIndex_df160_9
theorem k_J0_checkIndex_df160 {y : nz_Y} {g : nz_G} {k n : Nat} {ws : va_W} {pc : Nat} {ls : List (Nat × Value)} {st rest : List Value} {av : Array Value} {isC : List Nat} {K : Prop} (a : Int32) (b : Int32) (run : nz_M (yz_l y) yJ0_checkIndex_df160 wsJ0_checkIndex_df160 rm_J0_checkIndex_df160 g [.int a, .int b] [] (nz_Qv g [] (fun (u : Unit) => K) (fun u => [])) → nz_C y g k n ws pc ls st rest [] (nz_Qv g [] (fun (u : Unit) => K) (fun u => [])) av isC) (h : wp_J0_checkIndex_df160 a b K) (ws' : va_W) (hm : nz_mrg ws isC [] = ws') (kk : K → nz_V y g k n ws' (pc + 3) ls rest) : nz_V y g k n ws pc ls st :=
  nz_cv (ws' := fun _ => ws') (run (c_J0_checkIndex_df160 (yz_l y) g a b K h)) (fun _ => rfl) (fun _ => hm) (fun u h => kk h)
theorem dJ1_charAt_3b067_0 : decode cJ1_charAt_3b067 0 = .ok (.iload_n 1, 1) := by decide +kernel
theorem dJ1_charAt_3b067_1 : decode cJ1_charAt_3b067 1 = .ok (.aload_n 0, 1) := by decide +kernel
theorem dJ1_charAt_3b067_2 : decode cJ1_charAt_3b067 2 = .ok (.arraylength, 1) := by decide +kernel
theorem dJ1_charAt_3b067_3 : decode cJ1_charAt_3b067 3 = .ok (.invokestatic 9, 3) := by decide +kernel
theorem dJ1_charAt_3b067_6 : decode cJ1_charAt_3b067 6 = .ok (.aload_n 0, 1) := by decide +kernel
theorem dJ1_charAt_3b067_7 : decode cJ1_charAt_3b067 7 = .ok (.iload_n 1, 1) := by decide +kernel
theorem dJ1_charAt_3b067_8 : decode cJ1_charAt_3b067 8 = .ok (.baload, 1) := by decide +kernel
theorem dJ1_charAt_3b067_9 : decode cJ1_charAt_3b067 9 = .ok (.sipush 255, 3) := by decide +kernel
theorem dJ1_charAt_3b067_12 : decode cJ1_charAt_3b067 12 = .ok (.iand, 1) := by decide +kernel
theorem dJ1_charAt_3b067_13 : decode cJ1_charAt_3b067 13 = .ok (.i2c, 1) := by decide +kernel
theorem dJ1_charAt_3b067_14 : decode cJ1_charAt_3b067 14 = .ok (.ireturn, 1) := by decide +kernel
set_option maxRecDepth 20000 in
theorem ggJ1_charAt_3b067_J0_checkIndex_df160 : GoodIn wsJ1_charAt_3b067 wsJ0_checkIndex_df160 := goodIn_r _ [4, 5, 6, 7, 8, 9] rfl (by decide +kernel)
set_option maxRecDepth 20000 in
theorem gJ1_charAt_3b067_J0_checkIndex_df160 : GoodIn wsJ1_charAt_3b067 (va_wsS RJ1 9 yJ0_checkIndex_df160 wsJ0_checkIndex_df160) := goodIn_app (goodIn_r _ [1, 2, 3] rfl (by decide +kernel)) ggJ1_charAt_3b067_J0_checkIndex_df160
theorem hd_J0_checkIndex_df160 : yJ0_checkIndex_df160.cls = RJ0 ∧ yJ0_checkIndex_df160.cls ≠ "java/lang/invoke/MethodHandle" ∧ yJ0_checkIndex_df160.cls ≠ "java/lang/invoke/VarHandle" ∧ (parseMethodDescriptor yJ0_checkIndex_df160.desc).map (fun d => d.parameters.length) = some 2 := by decide +kernel
def nz_ch (i : Nat) (a : Int32) : Int32 := ((((nz_byt.getD i []).getD a.toNatClampNeg 0) &&& 255).toUInt32 % 65536).toInt32
theorem nz_chin {i : Nat} {a : Int32} (h : vp_in a (nz_len.getD i 0)) (hi : i < 8) : ¬ a < 0 ∧ a < nI (nz_len.getD i 0) := by
  have hb : nz_len.getD i 0 < 100 := by
    have : ∀ j : Nat, j < 8 → nz_len.getD j 0 < 100 := nz_8 (by decide) (by decide) (by decide) (by decide) (by decide) (by decide) (by decide) (by decide)
    exact this i hi
  obtain ⟨j, hj, rfl⟩ := vp_in_of h (by omega)
  exact ⟨nI_pos (by omega), nI_lt hj (by omega)⟩
abbrev rm_J1_charAt_3b067 : Room := { frames := 2, cells := 0, slots := 0, locals := 43 }
def wp_J1_charAt_3b067 (i : Nat) (a : Int32) (K : Int32 → Prop) : Prop := (i < 8 ∧ vp_in a (nz_len.getD i 0) ∧ K (nz_ch i a))
set_option maxHeartbeats 4000000 in
set_option maxRecDepth 100000 in
theorem c_J1_charAt_3b067 (l : Launch) (g : nz_G) (i : Nat) (a : Int32) (K : Int32 → Prop) (h : wp_J1_charAt_3b067 i a K) : nz_M l yJ1_charAt_3b067 wsJ1_charAt_3b067 rm_J1_charAt_3b067 g [.ref (nz_aV g i), .int a] [] (nz_Qi g [] (fun r (u : Unit) => K r) (fun u => [])) := by
  refine nz_M.of (bytes := cJ1_charAt_3b067) (nL := 2) (ret := (some .char)) (own := RJ1) (by decide) rfl rfl ⟨rfl, rfl⟩ rfl ?_
  intro y F hl hQ
  obtain ⟨sz, hQ⟩ := hQ
  refine nz_ent (lv' := [(0, .ref (nz_aV g i)), (1, .int a)]) rfl ?_
  unfold wp_J1_charAt_3b067 at h
  obtain ⟨hi, hin, h⟩ := h
  refine nz_iload_n F dJ1_charAt_3b067_0 rfl 1 rfl ?_
  refine nz_aload_n F dJ1_charAt_3b067_1 rfl 0 rfl ?_
  refine nz_tlen (v := nI (nz_len.getD i 0)) F (F.2.2.2.2.2.2.2.2.2.2.1.2.1.1 i hi).2.2.2 rfl dJ1_charAt_3b067_2 ?_
  refine k_J0_checkIndex_df160 (K := True) a (nI (nz_len.getD i 0)) (fun hM => nz_runS F gJ1_charAt_3b067_J0_checkIndex_df160 rfl hd_J0_checkIndex_df160.2 rfl hM dJ1_charAt_3b067_3 [] rfl rfl rfl (Nat.le_of_ble_eq_true rfl) rfl) ⟨(nz_chin hin hi).1, (nz_chin hin hi).2, trivial⟩ [] rfl (fun _ => ?_)
  refine nz_aload_n F dJ1_charAt_3b067_6 rfl 0 rfl ?_
  refine nz_iload_n F dJ1_charAt_3b067_7 rfl 1 rfl ?_
  refine nz_tb F (F.2.2.2.2.2.2.2.2.2.2.1.2.1.1 i hi).2.2.2 hin rfl dJ1_charAt_3b067_8 ?_
  refine nz_sipush (v := 255) F dJ1_charAt_3b067_9 (by decide) ?_
  refine nz_iand F dJ1_charAt_3b067_12 ?_
  refine nz_i2c (v := nz_ch i a) F dJ1_charAt_3b067_13 rfl ?_
  exact nz_zret F hQ () h rfl (pk_nc _) dJ1_charAt_3b067_14
theorem k_J1_charAt_3b067 {y : nz_Y} {g : nz_G} {k n : Nat} {ws : va_W} {pc : Nat} {ls : List (Nat × Value)} {st rest : List Value} {av : Array Value} {isC : List Nat} {K : Int32 → Prop} (i : Nat) (a : Int32) (run : nz_M (yz_l y) yJ1_charAt_3b067 wsJ1_charAt_3b067 rm_J1_charAt_3b067 g [.ref (nz_aV g i), .int a] [] (nz_Qi g [] (fun r (u : Unit) => K r) (fun u => [])) → nz_C y g k n ws pc ls st rest [] (nz_Qi g [] (fun r (u : Unit) => K r) (fun u => [])) av isC) (h : wp_J1_charAt_3b067 i a K) (ws' : va_W) (hm : nz_mrg ws isC [] = ws') (kk : ∀ (r0 : Int32), K r0 → nz_V y g k n ws' (pc + 3) ls (.int r0 :: rest)) : nz_V y g k n ws pc ls st :=
  nz_ci (ws' := fun _ => ws') (run (c_J1_charAt_3b067 (yz_l y) g i a K h)) (fun _ => rfl) (fun _ => hm) (fun r0 u h => kk r0 h)
theorem dJ0_charAt_5068e_0 : decode cJ0_charAt_5068e 0 = .ok (.aload_n 0, 1) := by decide +kernel
theorem dJ0_charAt_5068e_1 : decode cJ0_charAt_5068e 1 = .ok (.invokevirtual 492, 3) := by decide +kernel
theorem dJ0_charAt_5068e_4 : decode cJ0_charAt_5068e 4 = .ok (.ifCond .eq 12, 3) := by decide +kernel
theorem dJ0_charAt_5068e_7 : decode cJ0_charAt_5068e 7 = .ok (.aload_n 0, 1) := by decide +kernel
theorem dJ0_charAt_5068e_8 : decode cJ0_charAt_5068e 8 = .ok (.getfield 9, 3) := by decide +kernel
theorem dJ0_charAt_5068e_11 : decode cJ0_charAt_5068e 11 = .ok (.iload_n 1, 1) := by decide +kernel
theorem dJ0_charAt_5068e_12 : decode cJ0_charAt_5068e 12 = .ok (.invokestatic 495, 3) := by decide +kernel
theorem dJ0_charAt_5068e_15 : decode cJ0_charAt_5068e 15 = .ok (.ireturn, 1) := by decide +kernel
set_option maxRecDepth 20000 in
theorem ggJ0_charAt_5068e_J0_isLatin1_aae02 : GoodIn wsJ0_charAt_5068e wsJ0_isLatin1_aae02 := goodIn_r _ [6, 7, 8] rfl (by decide +kernel)
set_option maxRecDepth 20000 in
theorem gJ0_charAt_5068e_J0_isLatin1_aae02 : GoodIn wsJ0_charAt_5068e (wsV RJ0 492 RJ0 yJ0_isLatin1_aae02 wsJ0_isLatin1_aae02) := goodIn_app (goodIn_r _ [2, 3, 4, 5] rfl (by decide +kernel)) ggJ0_charAt_5068e_J0_isLatin1_aae02
set_option maxRecDepth 20000 in
theorem ggJ0_charAt_5068e_J1_charAt_3b067 : GoodIn wsJ0_charAt_5068e wsJ1_charAt_3b067 := goodIn_r _ [12, 13, 14, 5, 15, 16, 17, 18, 19, 20] rfl (by decide +kernel)
set_option maxRecDepth 20000 in
theorem gJ0_charAt_5068e_J1_charAt_3b067 : GoodIn wsJ0_charAt_5068e (va_wsS RJ0 495 yJ1_charAt_3b067 wsJ1_charAt_3b067) := goodIn_app (goodIn_r _ [9, 10, 11] rfl (by decide +kernel)) ggJ0_charAt_5068e_J1_charAt_3b067
theorem hd_J0_isLatin1_aae02 : yJ0_isLatin1_aae02.cls = RJ0 ∧ yJ0_isLatin1_aae02.cls ≠ "java/lang/invoke/MethodHandle" ∧ yJ0_isLatin1_aae02.cls ≠ "java/lang/invoke/VarHandle" ∧ (parseMethodDescriptor yJ0_isLatin1_aae02.desc).map (fun d => d.parameters.length) = some 0 := by decide +kernel
theorem hd_J1_charAt_3b067 : yJ1_charAt_3b067.cls = RJ1 ∧ yJ1_charAt_3b067.cls ≠ "java/lang/invoke/MethodHandle" ∧ yJ1_charAt_3b067.cls ≠ "java/lang/invoke/VarHandle" ∧ (parseMethodDescriptor yJ1_charAt_3b067.desc).map (fun d => d.parameters.length) = some 2 := by decide +kernel
theorem fl_J0_charAt_5068e_9 : Cond.fieldLink RJ0 9 "java/lang/String" "value" "[B" ∈ wsJ0_charAt_5068e := List.mem_of_getElem? (i := 1) rfl
abbrev rm_J0_charAt_5068e : Room := { frames := 3, cells := 0, slots := 0, locals := 64 }
def wp_J0_charAt_5068e (i : Nat) (a : Int32) (K : Int32 → Prop) : Prop := (i < 8 ∧ vp_in a (nz_len.getD i 0) ∧ K (nz_ch i a))
set_option maxHeartbeats 4000000 in
set_option maxRecDepth 100000 in
theorem c_J0_charAt_5068e (l : Launch) (g : nz_G) (i : Nat) (a : Int32) (K : Int32 → Prop) (h : wp_J0_charAt_5068e i a K) : nz_M l yJ0_charAt_5068e wsJ0_charAt_5068e rm_J0_charAt_5068e g [.ref (nz_aK g i), .int a] [] (nz_Qi g [] (fun r (u : Unit) => K r) (fun u => [])) := by
  refine nz_M.of (bytes := cJ0_charAt_5068e) (nL := 2) (ret := (some .char)) (own := RJ0) (by decide) rfl rfl ⟨rfl, rfl⟩ rfl ?_
  intro y F hl hQ
  obtain ⟨sz, hQ⟩ := hQ
  refine nz_ent (lv' := [(0, .ref (nz_aK g i)), (1, .int a)]) rfl ?_
  unfold wp_J0_charAt_5068e at h
  obtain ⟨hi, hin, h⟩ := h
  refine nz_aload_n F dJ0_charAt_5068e_0 rfl 0 rfl ?_
  refine k_J0_isLatin1_aae02 (K := fun q => q = 1) i (fun hM => nz_runK F hi gJ0_charAt_5068e_J0_isLatin1_aae02 rfl hd_J0_isLatin1_aae02 rfl hM dJ0_charAt_5068e_1 [] rfl rfl rfl (Nat.le_of_ble_eq_true rfl) rfl) ⟨hi, rfl⟩ [] rfl (fun q e => ?_)
  subst e
  refine nz_if_eq (tgt := 16) F dJ0_charAt_5068e_4 (by decide) (fun c => absurd c (by decide)) (fun _ => ?_)
  refine nz_aload_n F dJ0_charAt_5068e_7 rfl 0 rfl ?_
  refine nz_getO F (F.2.2.2.2.2.2.2.2.2.2.1.2.1.1 i hi).2.2.1 fl_J0_charAt_5068e_9 dJ0_charAt_5068e_8 ?_
  refine nz_iload_n F dJ0_charAt_5068e_11 rfl 1 rfl ?_
  refine k_J1_charAt_3b067 (K := fun q => q = nz_ch i a) i a (fun hM => nz_runS F gJ0_charAt_5068e_J1_charAt_3b067 rfl hd_J1_charAt_3b067.2 rfl hM dJ0_charAt_5068e_12 [] rfl rfl rfl (Nat.le_of_ble_eq_true rfl) rfl) ⟨hi, hin, rfl⟩ [] rfl (fun q e => ?_)
  subst e
  exact nz_zret F hQ () h rfl (pk_nc _) dJ0_charAt_5068e_15
theorem k_J0_charAt_5068e {y : nz_Y} {g : nz_G} {k n : Nat} {ws : va_W} {pc : Nat} {ls : List (Nat × Value)} {st rest : List Value} {av : Array Value} {isC : List Nat} {K : Int32 → Prop} (i : Nat) (a : Int32) (run : nz_M (yz_l y) yJ0_charAt_5068e wsJ0_charAt_5068e rm_J0_charAt_5068e g [.ref (nz_aK g i), .int a] [] (nz_Qi g [] (fun r (u : Unit) => K r) (fun u => [])) → nz_C y g k n ws pc ls st rest [] (nz_Qi g [] (fun r (u : Unit) => K r) (fun u => [])) av isC) (h : wp_J0_charAt_5068e i a K) (ws' : va_W) (hm : nz_mrg ws isC [] = ws') (kk : ∀ (r0 : Int32), K r0 → nz_V y g k n ws' (pc + 3) ls (.int r0 :: rest)) : nz_V y g k n ws pc ls st :=
  nz_ci (ws' := fun _ => ws') (run (c_J0_charAt_5068e (yz_l y) g i a K h)) (fun _ => rfl) (fun _ => hm) (fun r0 u h => kk r0 h)
