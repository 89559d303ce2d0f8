theorem dJ7_fill_53178_0 : decode cJ7_fill_53178 0 = .ok (.iconst 0, 1) := by decide +kernel
theorem dJ7_fill_53178_1 : decode cJ7_fill_53178 1 = .ok (.istore_n 2, 1) := by decide +kernel
theorem dJ7_fill_53178_2 : decode cJ7_fill_53178 2 = .ok (.aload_n 0, 1) := by decide +kernel
theorem dJ7_fill_53178_3 : decode cJ7_fill_53178 3 = .ok (.arraylength, 1) := by decide +kernel
theorem dJ7_fill_53178_4 : decode cJ7_fill_53178 4 = .ok (.istore_n 3, 1) := by decide +kernel
theorem dJ7_fill_53178_5 : decode cJ7_fill_53178 5 = .ok (.iload_n 2, 1) := by decide +kernel
theorem dJ7_fill_53178_6 : decode cJ7_fill_53178 6 = .ok (.iload_n 3, 1) := by decide +kernel
theorem dJ7_fill_53178_7 : decode cJ7_fill_53178 7 = .ok (.if_icmp .ge 13, 3) := by decide +kernel
theorem dJ7_fill_53178_10 : decode cJ7_fill_53178 10 = .ok (.aload_n 0, 1) := by decide +kernel
theorem dJ7_fill_53178_11 : decode cJ7_fill_53178 11 = .ok (.iload_n 2, 1) := by decide +kernel
theorem dJ7_fill_53178_12 : decode cJ7_fill_53178 12 = .ok (.iload_n 1, 1) := by decide +kernel
theorem dJ7_fill_53178_13 : decode cJ7_fill_53178 13 = .ok (.iastore, 1) := by decide +kernel
theorem dJ7_fill_53178_14 : decode cJ7_fill_53178 14 = .ok (.iinc 2 1, 3) := by decide +kernel
theorem dJ7_fill_53178_17 : decode cJ7_fill_53178 17 = .ok (.goto (-12), 3) := by decide +kernel
theorem dJ7_fill_53178_20 : decode cJ7_fill_53178 20 = .ok (.return_, 1) := by decide +kernel
/-! J7_fill_53178 _8 -/
abbrev rm_J7_fill_53178_8 : Room := { frames := 0, cells := 0, slots := 0, locals := 0 }
def S_J7_fill_53178_8_5 (v1 : Int32) (x3 : Int32) (K : (Nat → Int32) → Prop) (R5 : Int32 → (Nat → Int32) → Prop) (x2 : Int32) (fp : Nat → Int32) : Prop := ((x3 ≤ x2 → K fp) ∧ (¬ (x3 ≤ x2) → (vp_in x2 8 ∧ R5 (x2 + 1) (upd fp x2.toNatClampNeg v1))))
set_option maxHeartbeats 4000000 in
set_option maxRecDepth 100000 in
theorem t_J7_fill_53178_8_5 {y : nz_Y} {g : nz_G} (F : nz_F y g cJ7_fill_53178 4 wsJ7_fill_53178 RJ7 none rm_J7_fill_53178_8) {wc0 : va_W} {sz : Nat} {K : (Nat → Int32) → Prop} (ap : Nat) (v1 : Int32) (x3 : Int32) (hQ : yz_A y = va_A wc0 sz ∧ yz_Q y = MQ (yz_b y) ((nz_Qv g wc0 (fun (u : (Nat → Int32)) => K u) (fun u => [(ap, .inl (nz_cI g, 8, .inl u))])) sz) (yz_a y) (yz_s y) 0 0 (va_A wc0 sz)) : ∀ (n1 : Nat) (x2 : Int32) (fp : Nat → Int32), nz_it (fun _ _ => False) (S_J7_fill_53178_8_5 v1 x3 K) n1 x2 fp → nz_V y g 0 0 [(ap, .inl (nz_cI g, 8, .inl fp))] 5 [(0, .ref ap), (1, .int v1), (2, .int x2), (3, .int x3)] [] := by
  intro n1
  induction n1 with
  | zero =>
    intro x2 fp h
    exact h.elim
  | succ n1 hR5 =>
    intro x2 fp h
    have h : S_J7_fill_53178_8_5 v1 x3 K (nz_it (fun _ _ => False) (S_J7_fill_53178_8_5 v1 x3 K) n1) x2 fp := h
    unfold S_J7_fill_53178_8_5 at h
    refine nz_iload_n F dJ7_fill_53178_5 rfl 2 rfl ?_
    refine nz_iload_n F dJ7_fill_53178_6 rfl 3 rfl ?_
    refine nz_icmp_ge (tgt := 20) F dJ7_fill_53178_7 (by decide) (fun c1 => ?_) (fun c1 => ?_)
    · have h := h.1 c1
      exact nz_vret F hQ fp h rfl dJ7_fill_53178_20
    · have h := h.2 c1
      refine nz_aload_n F dJ7_fill_53178_10 rfl 0 rfl ?_
      refine nz_iload_n F dJ7_fill_53178_11 rfl 2 rfl ?_
      refine nz_iload_n F dJ7_fill_53178_12 rfl 1 rfl ?_
      obtain ⟨i2, h⟩ := h
      refine nz_iast (ws' := [(ap, .inl (nz_cI g, 8, .inl (upd fp x2.toNatClampNeg v1)))]) F 0 rfl i2 dJ7_fill_53178_13 rfl ?_
      refine nz_iinc (v := (x2 + 1)) (j := 2) (lv' := [(2, .int (x2 + 1)), (0, .ref ap), (1, .int v1), (3, .int x3)]) F dJ7_fill_53178_14 rfl rfl (by decide) rfl ?_
      refine nz_goto (tgt := 5) F dJ7_fill_53178_17 (by decide) ?_
      refine nz_ls (lv' := [(0, .ref ap), (1, .int v1), (2, .int (x2 + 1)), (3, .int x3)]) [1, 2, 0, 3] rfl ?_
      exact hR5 (x2 + 1) (upd fp x2.toNatClampNeg v1) h
def wp_J7_fill_53178_8 (fp : Nat → Int32) (v1 : Int32) (K : (Nat → Int32) → Prop) : Prop := (∃ n, nz_it (fun _ _ => False) (S_J7_fill_53178_8_5 v1 8 K) n 0 fp)
set_option maxHeartbeats 4000000 in
set_option maxRecDepth 100000 in
theorem c_J7_fill_53178_8 (l : Launch) (g : nz_G) (ap : Nat) (fp : Nat → Int32) (v1 : Int32) (K : (Nat → Int32) → Prop) (h : wp_J7_fill_53178_8 fp v1 K) : nz_M l yJ7_fill_53178 wsJ7_fill_53178 rm_J7_fill_53178_8 g [.ref ap, .int v1] [(ap, .inl (nz_cI g, 8, .inl fp))] (nz_Qv g [(ap, .inl (nz_cI g, 8, .inl fp))] (fun (u : (Nat → Int32)) => K u) (fun u => [(ap, .inl (nz_cI g, 8, .inl u))])) := by
  refine nz_M.of (bytes := cJ7_fill_53178) (nL := 4) (ret := none) (own := RJ7) (by decide) rfl rfl ⟨rfl, rfl⟩ rfl ?_
  intro y F hl hQ
  obtain ⟨sz, hQ⟩ := hQ
  refine nz_ent (lv' := [(0, .ref ap), (1, .int v1)]) rfl ?_
  unfold wp_J7_fill_53178_8 at h
  refine nz_iconst (v := 0) F dJ7_fill_53178_0 (by decide) ?_
  refine nz_istore_n (lv' := [(2, .int 0), (0, .ref ap), (1, .int v1)]) F dJ7_fill_53178_1 rfl (by decide) rfl ?_
  refine nz_aload_n F dJ7_fill_53178_2 rfl 1 rfl ?_
  refine nz_alen (v := 8) F 0 0 rfl rfl rfl dJ7_fill_53178_3 ?_
  refine nz_istore_n (lv' := [(3, .int 8), (2, .int 0), (0, .ref ap), (1, .int v1)]) F dJ7_fill_53178_4 rfl (by decide) rfl ?_
  refine nz_ls (lv' := [(0, .ref ap), (1, .int v1), (2, .int 0), (3, .int 8)]) [2, 3, 1, 0] rfl ?_
  obtain ⟨n1, h⟩ := h
  exact t_J7_fill_53178_8_5 F ap v1 8 hQ n1 0 fp h
theorem k_J7_fill_53178_8 {y : nz_Y} {g : nz_G} {k n : Nat} {ws : va_W} {pc : Nat} {ls : List (Nat × Value)} {st rest : List Value} {av : Array Value} {isC : List Nat} {K : (Nat → Int32) → Prop} (ap : Nat) (fp : Nat → Int32) (v1 : Int32) (run : nz_M (yz_l y) yJ7_fill_53178 wsJ7_fill_53178 rm_J7_fill_53178_8 g [.ref ap, .int v1] [(ap, .inl (nz_cI g, 8, .inl fp))] (nz_Qv g [(ap, .inl (nz_cI g, 8, .inl fp))] (fun (u : (Nat → Int32)) => K u) (fun u => [(ap, .inl (nz_cI g, 8, .inl u))])) → nz_C y g k n ws pc ls st rest [(ap, .inl (nz_cI g, 8, .inl fp))] (nz_Qv g [(ap, .inl (nz_cI g, 8, .inl fp))] (fun (u : (Nat → Int32)) => K u) (fun u => [(ap, .inl (nz_cI g, 8, .inl u))])) av isC) (h : wp_J7_fill_53178_8 fp v1 K) (ws' : (Nat → Int32) → va_W) (hm : ∀ (m0 : (Nat → Int32)), nz_mrg ws isC [(ap, .inl (nz_cI g, 8, .inl m0))] = ws' m0) (kk : ∀ (m0 : (Nat → Int32)), K m0 → nz_V y g k n (ws' m0) (pc + 3) ls (rest)) : nz_V y g k n ws pc ls st :=
  nz_cv (ws' := fun u => ws' u) (run (c_J7_fill_53178_8 (yz_l y) g ap fp v1 K h)) (fun _ => rfl) (fun u => hm u) (fun u h => kk u h)
/-! J7_fill_53178 _40 -/
abbrev rm_J7_fill_53178_40 : Room := { frames := 0, cells := 0, slots := 0, locals := 0 }
def S_J7_fill_53178_40_5 (v1 : Int32) (x3 : Int32) (K : (Nat → Int32) → Prop) (R5 : Int32 → (Nat → Int32) → Prop) (x2 : Int32) (fp : Nat → Int32) : Prop := ((x3 ≤ x2 → K fp) ∧ (¬ (x3 ≤ x2) → (vp_in x2 40 ∧ R5 (x2 + 1) (upd fp x2.toNatClampNeg v1))))
set_option maxHeartbeats 4000000 in
set_option maxRecDepth 100000 in
theorem t_J7_fill_53178_40_5 {y : nz_Y} {g : nz_G} (F : nz_F y g cJ7_fill_53178 4 wsJ7_fill_53178 RJ7 none rm_J7_fill_53178_40) {wc0 : va_W} {sz : Nat} {K : (Nat → Int32) → Prop} (ap : Nat) (v1 : Int32) (x3 : Int32) (hQ : yz_A y = va_A wc0 sz ∧ yz_Q y = MQ (yz_b y) ((nz_Qv g wc0 (fun (u : (Nat → Int32)) => K u) (fun u => [(ap, .inl (nz_cI g, 40, .inl u))])) sz) (yz_a y) (yz_s y) 0 0 (va_A wc0 sz)) : ∀ (n1 : Nat) (x2 : Int32) (fp : Nat → Int32), nz_it (fun _ _ => False) (S_J7_fill_53178_40_5 v1 x3 K) n1 x2 fp → nz_V y g 0 0 [(ap, .inl (nz_cI g, 40, .inl fp))] 5 [(0, .ref ap), (1, .int v1), (2, .int x2), (3, .int x3)] [] := by
  intro n1
  induction n1 with
  | zero =>
    intro x2 fp h
    exact h.elim
  | succ n1 hR5 =>
    intro x2 fp h
    have h : S_J7_fill_53178_40_5 v1 x3 K (nz_it (fun _ _ => False) (S_J7_fill_53178_40_5 v1 x3 K) n1) x2 fp := h
    unfold S_J7_fill_53178_40_5 at h
    refine nz_iload_n F dJ7_fill_53178_5 rfl 2 rfl ?_
    refine nz_iload_n F dJ7_fill_53178_6 rfl 3 rfl ?_
    refine nz_icmp_ge (tgt := 20) F dJ7_fill_53178_7 (by decide) (fun c1 => ?_) (fun c1 => ?_)
    · have h := h.1 c1
      exact nz_vret F hQ fp h rfl dJ7_fill_53178_20
    · have h := h.2 c1
      refine nz_aload_n F dJ7_fill_53178_10 rfl 0 rfl ?_
      refine nz_iload_n F dJ7_fill_53178_11 rfl 2 rfl ?_
      refine nz_iload_n F dJ7_fill_53178_12 rfl 1 rfl ?_
      obtain ⟨i2, h⟩ := h
      refine nz_iast (ws' := [(ap, .inl (nz_cI g, 40, .inl (upd fp x2.toNatClampNeg v1)))]) F 0 rfl i2 dJ7_fill_53178_13 rfl ?_
      refine nz_iinc (v := (x2 + 1)) (j := 2) (lv' := [(2, .int (x2 + 1)), (0, .ref ap), (1, .int v1), (3, .int x3)]) F dJ7_fill_53178_14 rfl rfl (by decide) rfl ?_
      refine nz_goto (tgt := 5) F dJ7_fill_53178_17 (by decide) ?_
      refine nz_ls (lv' := [(0, .ref ap), (1, .int v1), (2, .int (x2 + 1)), (3, .int x3)]) [1, 2, 0, 3] rfl ?_
      exact hR5 (x2 + 1) (upd fp x2.toNatClampNeg v1) h
def wp_J7_fill_53178_40 (fp : Nat → Int32) (v1 : Int32) (K : (Nat → Int32) → Prop) : Prop := (∃ n, nz_it (fun _ _ => False) (S_J7_fill_53178_40_5 v1 40 K) n 0 fp)
set_option maxHeartbeats 4000000 in
set_option maxRecDepth 100000 in
theorem c_J7_fill_53178_40 (l : Launch) (g : nz_G) (ap : Nat) (fp : Nat → Int32) (v1 : Int32) (K : (Nat → Int32) → Prop) (h : wp_J7_fill_53178_40 fp v1 K) : nz_M l yJ7_fill_53178 wsJ7_fill_53178 rm_J7_fill_53178_40 g [.ref ap, .int v1] [(ap, .inl (nz_cI g, 40, .inl fp))] (nz_Qv g [(ap, .inl (nz_cI g, 40, .inl fp))] (fun (u : (Nat → Int32)) => K u) (fun u => [(ap, .inl (nz_cI g, 40, .inl u))])) := by
  refine nz_M.of (bytes := cJ7_fill_53178) (nL := 4) (ret := none) (own := RJ7) (by decide) rfl rfl ⟨rfl, rfl⟩ rfl ?_
  intro y F hl hQ
  obtain ⟨sz, hQ⟩ := hQ
  refine nz_ent (lv' := [(0, .ref ap), (1, .int v1)]) rfl ?_
  unfold wp_J7_fill_53178_40 at h
  refine nz_iconst (v := 0) F dJ7_fill_53178_0 (by decide) ?_
  refine nz_istore_n (lv' := [(2, .int 0), (0, .ref ap), (1, .int v1)]) F dJ7_fill_53178_1 rfl (by decide) rfl ?_
  refine nz_aload_n F dJ7_fill_53178_2 rfl 1 rfl ?_
  refine nz_alen (v := 40) F 0 0 rfl rfl rfl dJ7_fill_53178_3 ?_
  refine nz_istore_n (lv' := [(3, .int 40), (2, .int 0), (0, .ref ap), (1, .int v1)]) F dJ7_fill_53178_4 rfl (by decide) rfl ?_
  refine nz_ls (lv' := [(0, .ref ap), (1, .int v1), (2, .int 0), (3, .int 40)]) [2, 3, 1, 0] rfl ?_
  obtain ⟨n1, h⟩ := h
  exact t_J7_fill_53178_40_5 F ap v1 40 hQ n1 0 fp h
theorem k_J7_fill_53178_40 {y : nz_Y} {g : nz_G} {k n : Nat} {ws : va_W} {pc : Nat} {ls : List (Nat × Value)} {st rest : List Value} {av : Array Value} {isC : List Nat} {K : (Nat → Int32) → Prop} (ap : Nat) (fp : Nat → Int32) (v1 : Int32) (run : nz_M (yz_l y) yJ7_fill_53178 wsJ7_fill_53178 rm_J7_fill_53178_40 g [.ref ap, .int v1] [(ap, .inl (nz_cI g, 40, .inl fp))] (nz_Qv g [(ap, .inl (nz_cI g, 40, .inl fp))] (fun (u : (Nat → Int32)) => K u) (fun u => [(ap, .inl (nz_cI g, 40, .inl u))])) → nz_C y g k n ws pc ls st rest [(ap, .inl (nz_cI g, 40, .inl fp))] (nz_Qv g [(ap, .inl (nz_cI g, 40, .inl fp))] (fun (u : (Nat → Int32)) => K u) (fun u => [(ap, .inl (nz_cI g, 40, .inl u))])) av isC) (h : wp_J7_fill_53178_40 fp v1 K) (ws' : (Nat → Int32) → va_W) (hm : ∀ (m0 : (Nat → Int32)), nz_mrg ws isC [(ap, .inl (nz_cI g, 40, .inl m0))] = ws' m0) (kk : ∀ (m0 : (Nat → Int32)), K m0 → nz_V y g k n (ws' m0) (pc + 3) ls (rest)) : nz_V y g k n ws pc ls st :=
  nz_cv (ws' := fun u => ws' u) (run (c_J7_fill_53178_40 (yz_l y) g ap fp v1 K h)) (fun _ => rfl) (fun u => hm u) (fun u h => kk u h)
theorem dX6_isRow_0 : decode cX6_isRow 0 = .ok (.iload_n 0, 1) := by decide +kernel
theorem dX6_isRow_1 : decode cX6_isRow 1 = .ok (.ifCond .lt 13, 3) := by decide +kernel
theorem dX6_isRow_4 : decode cX6_isRow 4 = .ok (.iload_n 0, 1) := by decide +kernel
theorem dX6_isRow_5 : decode cX6_isRow 5 = .ok (.bipush 8, 2) := by decide +kernel
theorem dX6_isRow_7 : decode cX6_isRow 7 = .ok (.if_icmp .ge 7, 3) := by decide +kernel
theorem dX6_isRow_10 : decode cX6_isRow 10 = .ok (.iconst 1, 1) := by decide +kernel
theorem dX6_isRow_11 : decode cX6_isRow 11 = .ok (.goto 4, 3) := by decide +kernel
theorem dX6_isRow_14 : decode cX6_isRow 14 = .ok (.iconst 0, 1) := by decide +kernel
theorem dX6_isRow_15 : decode cX6_isRow 15 = .ok (.ireturn, 1) := by decide +kernel
/-! X6_isRow -/
abbrev rm_X6_isRow : Room := { frames := 0, cells := 0, slots := 0, locals := 0 }
def wp_X6_isRow (v0 : Int32) (K : Int32 → Prop) : Prop := ((v0 < 0 → K 0) ∧ (¬ (v0 < 0) → ((8 ≤ v0 → K 0) ∧ (¬ (8 ≤ v0) → K 1))))
set_option maxHeartbeats 4000000 in
set_option maxRecDepth 100000 in
theorem c_X6_isRow (l : Launch) (g : nz_G) (v0 : Int32) (K : Int32 → Prop) (h : wp_X6_isRow v0 K) : nz_M l yX6_isRow wsX6_isRow rm_X6_isRow g [.int v0] [] (nz_Qi g [] (fun r (u : Unit) => K r) (fun u => [])) := by
  refine nz_M.of (bytes := cX6_isRow) (nL := 1) (ret := (some .boolean)) (own := RX6) (by decide) rfl rfl ⟨rfl, rfl⟩ rfl ?_
  intro y F hl hQ
  obtain ⟨sz, hQ⟩ := hQ
  refine nz_ent (lv' := [(0, .int v0)]) rfl ?_
  unfold wp_X6_isRow at h
  refine nz_iload_n F dX6_isRow_0 rfl 0 rfl ?_
  refine nz_if_lt (tgt := 14) F dX6_isRow_1 (by decide) (fun c1 => ?_) (fun c1 => ?_)
  · have h := h.1 c1
    refine nz_iconst (v := 0) F dX6_isRow_14 (by decide) ?_
    exact nz_zret F hQ () h rfl (by decide) dX6_isRow_15
  · have h := h.2 c1
    refine nz_iload_n F dX6_isRow_4 rfl 0 rfl ?_
    refine nz_bipush (v := 8) F dX6_isRow_5 (by decide) ?_
    refine nz_icmp_ge (tgt := 14) F dX6_isRow_7 (by decide) (fun c2 => ?_) (fun c2 => ?_)
    · have h := h.1 c2
      refine nz_iconst (v := 0) F dX6_isRow_14 (by decide) ?_
      exact nz_zret F hQ () h rfl (by decide) dX6_isRow_15
    · have h := h.2 c2
      refine nz_iconst (v := 1) F dX6_isRow_10 (by decide) ?_
      refine nz_goto (tgt := 15) F dX6_isRow_11 (by decide) ?_
      exact nz_zret F hQ () h rfl (by decide) dX6_isRow_15
theorem k_X6_isRow {y : nz_Y} {g : nz_G} {k n : Nat} {ws : va_W} {pc : Nat} {ls : List (Nat × Value)} {st rest : List Value} {av : Array Value} {isC : List Nat} {K : Int32 → Prop} (v0 : Int32) (run : nz_M (yz_l y) yX6_isRow wsX6_isRow rm_X6_isRow g [.int v0] [] (nz_Qi g [] (fun r (u : Unit) => K r) (fun u => [])) → nz_C y g k n ws pc ls st rest [] (nz_Qi g [] (fun r (u : Unit) => K r) (fun u => [])) av isC) (h : wp_X6_isRow v0 K) (ws' : va_W) (hm : nz_mrg ws isC [] = ws' ) (kk : ∀ (r : Int32), K r → nz_V y g k n ws' (pc + 3) ls (.int r :: rest)) : nz_V y g k n ws pc ls st :=
  nz_ci (ws' := fun _ => ws') (run (c_X6_isRow (yz_l y) g v0 K h)) (fun _ => rfl) (fun _ => hm) (fun r u h => kk r h)
theorem dX6_isMissing_0 : decode cX6_isMissing 0 = .ok (.aload_n 0, 1) := by decide +kernel
theorem dX6_isMissing_1 : decode cX6_isMissing 1 = .ok (.getfield 16, 3) := by decide +kernel
theorem dX6_isMissing_4 : decode cX6_isMissing 4 = .ok (.iload_n 1, 1) := by decide +kernel
theorem dX6_isMissing_5 : decode cX6_isMissing 5 = .ok (.iaload, 1) := by decide +kernel
theorem dX6_isMissing_6 : decode cX6_isMissing 6 = .ok (.iconst (-1), 1) := by decide +kernel
theorem dX6_isMissing_7 : decode cX6_isMissing 7 = .ok (.if_icmp .ne 7, 3) := by decide +kernel
theorem dX6_isMissing_10 : decode cX6_isMissing 10 = .ok (.iconst 1, 1) := by decide +kernel
theorem dX6_isMissing_11 : decode cX6_isMissing 11 = .ok (.goto 4, 3) := by decide +kernel
theorem dX6_isMissing_14 : decode cX6_isMissing 14 = .ok (.iconst 0, 1) := by decide +kernel
theorem dX6_isMissing_15 : decode cX6_isMissing 15 = .ok (.ireturn, 1) := by decide +kernel
/-! X6_isMissing -/
abbrev rm_X6_isMissing : Room := { frames := 0, cells := 0, slots := 0, locals := 0 }
theorem iw_X6_isMissing_6 : ∀ w ∈ wsX60, w ∈ wsX6_isMissing := fun _ h => List.mem_cons_of_mem _ (List.mem_append_right _ h)
theorem fl_X6_isMissing_16 : Cond.fieldLink RX6 16 "NightStones$Rows" "lanes" "[I" ∈ wsX6_isMissing := List.mem_of_getElem? (i := 1) rfl
def wp_X6_isMissing (f1 : Nat → Int32) (v1 : Int32) (K : Int32 → Prop) : Prop := (vp_in v1 8 ∧ ((¬ (f1 v1.toNatClampNeg) = (-1 : Int32) → K 0) ∧ ((f1 v1.toNatClampNeg) = (-1 : Int32) → K 1)))
set_option maxHeartbeats 4000000 in
set_option maxRecDepth 100000 in
theorem c_X6_isMissing (l : Launch) (g : nz_G) (o : Nat) (ai : Nat) (a1 : Nat) (a2 : Nat) (bi : Nat → Nat) (f1 : Nat → Int32) (f2 : Nat → Int32) (it : Nat → Nat → Int32) (v1 : Int32) (K : Int32 → Prop) (h : wp_X6_isMissing f1 v1 K) : nz_M l yX6_isMissing wsX6_isMissing rm_X6_isMissing g [.ref o, .int v1] ([(o, .inr (6, [.ref ai, .ref a1, .ref a2])), (a1, .inl (nz_cI g, 8, .inl f1)), (a2, .inl (nz_cI g, 8, .inl f2)), (ai, .inl (nz_cA g, 8, .inr (.inr (.inr (.inr (fun j => some (bi j)))))))] ++ nz_pool g bi it) (nz_Qi g ([(o, .inr (6, [.ref ai, .ref a1, .ref a2])), (a1, .inl (nz_cI g, 8, .inl f1)), (a2, .inl (nz_cI g, 8, .inl f2)), (ai, .inl (nz_cA g, 8, .inr (.inr (.inr (.inr (fun j => some (bi j)))))))] ++ nz_pool g bi it) (fun r (u : Unit) => K r) (fun u => ([(o, .inr (6, [.ref ai, .ref a1, .ref a2])), (a1, .inl (nz_cI g, 8, .inl f1)), (a2, .inl (nz_cI g, 8, .inl f2)), (ai, .inl (nz_cA g, 8, .inr (.inr (.inr (.inr (fun j => some (bi j)))))))] ++ nz_pool g bi it))) := by
  refine nz_M.of (bytes := cX6_isMissing) (nL := 2) (ret := (some .boolean)) (own := RX6) (by decide) rfl rfl ⟨rfl, rfl⟩ rfl ?_
  intro y F hl hQ
  obtain ⟨sz, hQ⟩ := hQ
  refine nz_ent (lv' := [(0, .ref o), (1, .int v1)]) rfl ?_
  unfold wp_X6_isMissing at h
  refine nz_aload_n F dX6_isMissing_0 rfl 0 rfl ?_
  refine nz_get F iw_X6_isMissing_6 0 rfl rfl 1 (by decide) rfl fl_X6_isMissing_16 rfl dX6_isMissing_1 ?_
  refine nz_iload_n F dX6_isMissing_4 rfl 1 rfl ?_
  obtain ⟨i1, h⟩ := h
  refine nz_iald F 1 rfl i1 dX6_isMissing_5 ?_
  refine nz_iconst (v := (-1 : Int32)) F dX6_isMissing_6 (by decide) ?_
  refine nz_icmp_ne (tgt := 14) F dX6_isMissing_7 (by decide) (fun c2 => ?_) (fun c2 => ?_)
  · have h := h.1 c2
    refine nz_iconst (v := 0) F dX6_isMissing_14 (by decide) ?_
    exact nz_zret F hQ () h rfl (by decide) dX6_isMissing_15
  · have h := h.2 c2
    refine nz_iconst (v := 1) F dX6_isMissing_10 (by decide) ?_
    refine nz_goto (tgt := 15) F dX6_isMissing_11 (by decide) ?_
    exact nz_zret F hQ () h rfl (by decide) dX6_isMissing_15
theorem k_X6_isMissing {y : nz_Y} {g : nz_G} {k n : Nat} {ws : va_W} {pc : Nat} {ls : List (Nat × Value)} {st rest : List Value} {av : Array Value} {isC : List Nat} {K : Int32 → Prop} (o : Nat) (ai : Nat) (a1 : Nat) (a2 : Nat) (bi : Nat → Nat) (f1 : Nat → Int32) (f2 : Nat → Int32) (it : Nat → Nat → Int32) (v1 : Int32) (run : nz_M (yz_l y) yX6_isMissing wsX6_isMissing rm_X6_isMissing g [.ref o, .int v1] ([(o, .inr (6, [.ref ai, .ref a1, .ref a2])), (a1, .inl (nz_cI g, 8, .inl f1)), (a2, .inl (nz_cI g, 8, .inl f2)), (ai, .inl (nz_cA g, 8, .inr (.inr (.inr (.inr (fun j => some (bi j)))))))] ++ nz_pool g bi it) (nz_Qi g ([(o, .inr (6, [.ref ai, .ref a1, .ref a2])), (a1, .inl (nz_cI g, 8, .inl f1)), (a2, .inl (nz_cI g, 8, .inl f2)), (ai, .inl (nz_cA g, 8, .inr (.inr (.inr (.inr (fun j => some (bi j)))))))] ++ nz_pool g bi it) (fun r (u : Unit) => K r) (fun u => ([(o, .inr (6, [.ref ai, .ref a1, .ref a2])), (a1, .inl (nz_cI g, 8, .inl f1)), (a2, .inl (nz_cI g, 8, .inl f2)), (ai, .inl (nz_cA g, 8, .inr (.inr (.inr (.inr (fun j => some (bi j)))))))] ++ nz_pool g bi it))) → nz_C y g k n ws pc ls st rest ([(o, .inr (6, [.ref ai, .ref a1, .ref a2])), (a1, .inl (nz_cI g, 8, .inl f1)), (a2, .inl (nz_cI g, 8, .inl f2)), (ai, .inl (nz_cA g, 8, .inr (.inr (.inr (.inr (fun j => some (bi j)))))))] ++ nz_pool g bi it) (nz_Qi g ([(o, .inr (6, [.ref ai, .ref a1, .ref a2])), (a1, .inl (nz_cI g, 8, .inl f1)), (a2, .inl (nz_cI g, 8, .inl f2)), (ai, .inl (nz_cA g, 8, .inr (.inr (.inr (.inr (fun j => some (bi j)))))))] ++ nz_pool g bi it) (fun r (u : Unit) => K r) (fun u => ([(o, .inr (6, [.ref ai, .ref a1, .ref a2])), (a1, .inl (nz_cI g, 8, .inl f1)), (a2, .inl (nz_cI g, 8, .inl f2)), (ai, .inl (nz_cA g, 8, .inr (.inr (.inr (.inr (fun j => some (bi j)))))))] ++ nz_pool g bi it))) av isC) (h : wp_X6_isMissing f1 v1 K) (ws' : va_W) (hm : nz_mrg ws isC ([(o, .inr (6, [.ref ai, .ref a1, .ref a2])), (a1, .inl (nz_cI g, 8, .inl f1)), (a2, .inl (nz_cI g, 8, .inl f2)), (ai, .inl (nz_cA g, 8, .inr (.inr (.inr (.inr (fun j => some (bi j)))))))] ++ nz_pool g bi it) = ws' ) (kk : ∀ (r : Int32), K r → nz_V y g k n ws' (pc + 3) ls (.int r :: rest)) : nz_V y g k n ws pc ls st :=
  nz_ci (ws' := fun _ => ws') (run (c_X6_isMissing (yz_l y) g o ai a1 a2 bi f1 f2 it v1 K h)) (fun _ => rfl) (fun _ => hm) (fun r u h => kk r h)
theorem dX6_make_0 : decode cX6_make 0 = .ok (.aload_n 0, 1) := by decide +kernel
theorem dX6_make_1 : decode cX6_make 1 = .ok (.getfield 16, 3) := by decide +kernel
theorem dX6_make_4 : decode cX6_make 4 = .ok (.iload_n 1, 1) := by decide +kernel
theorem dX6_make_5 : decode cX6_make 5 = .ok (.iload_n 2, 1) := by decide +kernel
theorem dX6_make_6 : decode cX6_make 6 = .ok (.iastore, 1) := by decide +kernel
theorem dX6_make_7 : decode cX6_make 7 = .ok (.aload_n 0, 1) := by decide +kernel
theorem dX6_make_8 : decode cX6_make 8 = .ok (.getfield 20, 3) := by decide +kernel
theorem dX6_make_11 : decode cX6_make 11 = .ok (.iload_n 1, 1) := by decide +kernel
theorem dX6_make_12 : decode cX6_make 12 = .ok (.iload_n 3, 1) := by decide +kernel
theorem dX6_make_13 : decode cX6_make 13 = .ok (.iastore, 1) := by decide +kernel
theorem dX6_make_14 : decode cX6_make 14 = .ok (.aload_n 0, 1) := by decide +kernel
theorem dX6_make_15 : decode cX6_make 15 = .ok (.getfield 13, 3) := by decide +kernel
theorem dX6_make_18 : decode cX6_make 18 = .ok (.iload_n 1, 1) := by decide +kernel
theorem dX6_make_19 : decode cX6_make 19 = .ok (.aaload, 1) := by decide +kernel
theorem dX6_make_20 : decode cX6_make 20 = .ok (.iconst 0, 1) := by decide +kernel
theorem dX6_make_21 : decode cX6_make 21 = .ok (.invokestatic 23, 3) := by decide +kernel
theorem dX6_make_24 : decode cX6_make 24 = .ok (.return_, 1) := by decide +kernel
set_option maxRecDepth 20000 in
theorem ggX6_make_J7_fill_53178 : GoodIn wsX6_make wsJ7_fill_53178 := goodIn_r _ [7] rfl (by decide +kernel)
set_option maxRecDepth 20000 in
theorem gX6_make_J7_fill_53178 : GoodIn wsX6_make (va_wsS RX6 23 yJ7_fill_53178 wsJ7_fill_53178) := goodIn_app (goodIn_r _ [4, 5, 6] rfl (by decide +kernel)) ggX6_make_J7_fill_53178
theorem hd_J7_fill_53178 : yJ7_fill_53178.cls = RJ7 ∧ yJ7_fill_53178.cls ≠ "java/lang/invoke/MethodHandle" ∧ yJ7_fill_53178.cls ≠ "java/lang/invoke/VarHandle" ∧ (parseMethodDescriptor yJ7_fill_53178.desc).map (fun d => d.parameters.length) = some 2 := by decide +kernel
/-! X6_make -/
abbrev rm_X6_make : Room := { frames := 1, cells := 0, slots := 0, locals := 23 }
theorem iw_X6_make_6 : ∀ w ∈ wsX60, w ∈ wsX6_make := fun _ h => List.mem_cons_of_mem _ (List.mem_append_right _ h)
theorem fl_X6_make_16 : Cond.fieldLink RX6 16 "NightStones$Rows" "lanes" "[I" ∈ wsX6_make := List.mem_of_getElem? (i := 1) rfl
theorem fl_X6_make_20 : Cond.fieldLink RX6 20 "NightStones$Rows" "sizes" "[I" ∈ wsX6_make := List.mem_of_getElem? (i := 2) rfl
theorem fl_X6_make_13 : Cond.fieldLink RX6 13 "NightStones$Rows" "items" "[[I" ∈ wsX6_make := List.mem_of_getElem? (i := 3) rfl
def wp_X6_make (f1 : Nat → Int32) (f2 : Nat → Int32) (it : Nat → Nat → Int32) (v1 : Int32) (v2 : Int32) (v3 : Int32) (K : (Nat → Int32) → (Nat → Int32) → (Nat → Nat → Int32) → Prop) : Prop := (vp_in v1 8 ∧ (vp_in v1 8 ∧ (vp_in v1 8 ∧ wp_J7_fill_53178_40 (it v1.toNatClampNeg) 0 (fun m4 => K (upd f1 v1.toNatClampNeg v2) (upd f2 v1.toNatClampNeg v3) (va_up it v1.toNatClampNeg m4)))))
set_option maxHeartbeats 4000000 in
set_option maxRecDepth 100000 in
theorem c_X6_make (l : Launch) (g : nz_G) (o : Nat) (ai : Nat) (a1 : Nat) (a2 : Nat) (bi : Nat → Nat) (f1 : Nat → Int32) (f2 : Nat → Int32) (it : Nat → Nat → Int32) (v1 : Int32) (v2 : Int32) (v3 : Int32) (K : (Nat → Int32) → (Nat → Int32) → (Nat → Nat → Int32) → Prop) (h : wp_X6_make f1 f2 it v1 v2 v3 K) : nz_M l yX6_make wsX6_make rm_X6_make g [.ref o, .int v1, .int v2, .int v3] ([(o, .inr (6, [.ref ai, .ref a1, .ref a2])), (a1, .inl (nz_cI g, 8, .inl f1)), (a2, .inl (nz_cI g, 8, .inl f2)), (ai, .inl (nz_cA g, 8, .inr (.inr (.inr (.inr (fun j => some (bi j)))))))] ++ nz_pool g bi it) (nz_Qv g ([(o, .inr (6, [.ref ai, .ref a1, .ref a2])), (a1, .inl (nz_cI g, 8, .inl f1)), (a2, .inl (nz_cI g, 8, .inl f2)), (ai, .inl (nz_cA g, 8, .inr (.inr (.inr (.inr (fun j => some (bi j)))))))] ++ nz_pool g bi it) (fun (u : (Nat → Int32) × (Nat → Int32) × (Nat → Nat → Int32)) => K u.1 u.2.1 u.2.2) (fun u => ([(o, .inr (6, [.ref ai, .ref a1, .ref a2])), (a1, .inl (nz_cI g, 8, .inl u.1)), (a2, .inl (nz_cI g, 8, .inl u.2.1)), (ai, .inl (nz_cA g, 8, .inr (.inr (.inr (.inr (fun j => some (bi j)))))))] ++ nz_pool g bi u.2.2))) := by
  refine nz_M.of (bytes := cX6_make) (nL := 4) (ret := none) (own := RX6) (by decide) rfl rfl ⟨rfl, rfl⟩ rfl ?_
  intro y F hl hQ
  obtain ⟨sz, hQ⟩ := hQ
  refine nz_ent (lv' := [(0, .ref o), (1, .int v1), (2, .int v2), (3, .int v3)]) rfl ?_
  unfold wp_X6_make at h
  refine nz_aload_n F dX6_make_0 rfl 0 rfl ?_
  refine nz_get F iw_X6_make_6 0 rfl rfl 1 (by decide) rfl fl_X6_make_16 rfl dX6_make_1 ?_
  refine nz_iload_n F dX6_make_4 rfl 1 rfl ?_
  refine nz_iload_n F dX6_make_5 rfl 2 rfl ?_
  obtain ⟨i1, h⟩ := h
  refine nz_iast (ws' := ([(o, .inr (6, [.ref ai, .ref a1, .ref a2])), (a1, .inl (nz_cI g, 8, .inl (upd f1 v1.toNatClampNeg v2))), (a2, .inl (nz_cI g, 8, .inl f2)), (ai, .inl (nz_cA g, 8, .inr (.inr (.inr (.inr (fun j => some (bi j)))))))] ++ nz_pool g bi it)) F 1 rfl i1 dX6_make_6 rfl ?_
  refine nz_aload_n F dX6_make_7 rfl 0 rfl ?_
  refine nz_get F iw_X6_make_6 0 rfl rfl 2 (by decide) rfl fl_X6_make_20 rfl dX6_make_8 ?_
  refine nz_iload_n F dX6_make_11 rfl 1 rfl ?_
  refine nz_iload_n F dX6_make_12 rfl 3 rfl ?_
  obtain ⟨i2, h⟩ := h
  refine nz_iast (ws' := ([(o, .inr (6, [.ref ai, .ref a1, .ref a2])), (a1, .inl (nz_cI g, 8, .inl (upd f1 v1.toNatClampNeg v2))), (a2, .inl (nz_cI g, 8, .inl (upd f2 v1.toNatClampNeg v3))), (ai, .inl (nz_cA g, 8, .inr (.inr (.inr (.inr (fun j => some (bi j)))))))] ++ nz_pool g bi it)) F 2 rfl i2 dX6_make_13 rfl ?_
  refine nz_aload_n F dX6_make_14 rfl 0 rfl ?_
  refine nz_get F iw_X6_make_6 0 rfl rfl 0 (by decide) rfl fl_X6_make_13 rfl dX6_make_15 ?_
  refine nz_iload_n F dX6_make_18 rfl 1 rfl ?_
  obtain ⟨i3, h⟩ := h
  refine nz_paald (b := (bi v1.toNatClampNeg)) F 3 rfl i3 rfl dX6_make_19 ?_
  refine nz_iconst (v := 0) F dX6_make_20 (by decide) ?_
  refine k_J7_fill_53178_40 (bi v1.toNatClampNeg) (it v1.toNatClampNeg) 0 (fun hM => nz_runS F gX6_make_J7_fill_53178 rfl hd_J7_fill_53178.2 rfl hM dX6_make_21 [4 + v1.toNatClampNeg] (nz_pone (pre := [(o, .inr (6, [.ref ai, .ref a1, .ref a2])), (a1, .inl (nz_cI g, 8, .inl (upd f1 v1.toNatClampNeg v2))), (a2, .inl (nz_cI g, 8, .inl (upd f2 v1.toNatClampNeg v3))), (ai, .inl (nz_cA g, 8, .inr (.inr (.inr (.inr (fun j => some (bi j)))))))]) rfl (nz_pin i3)) nz_pnd rfl (Nat.le_of_ble_eq_true rfl) rfl) h (fun m4 => ([(o, .inr (6, [.ref ai, .ref a1, .ref a2])), (a1, .inl (nz_cI g, 8, .inl (upd f1 v1.toNatClampNeg v2))), (a2, .inl (nz_cI g, 8, .inl (upd f2 v1.toNatClampNeg v3))), (ai, .inl (nz_cA g, 8, .inr (.inr (.inr (.inr (fun j => some (bi j)))))))] ++ nz_pool g bi (va_up it v1.toNatClampNeg m4))) (fun _ => nz_pmrg (pre := [(o, .inr (6, [.ref ai, .ref a1, .ref a2])), (a1, .inl (nz_cI g, 8, .inl (upd f1 v1.toNatClampNeg v2))), (a2, .inl (nz_cI g, 8, .inl (upd f2 v1.toNatClampNeg v3))), (ai, .inl (nz_cA g, 8, .inr (.inr (.inr (.inr (fun j => some (bi j)))))))]) rfl (nz_pin i3)) (fun m4 h => ?_)
  exact nz_vret F hQ ((upd f1 v1.toNatClampNeg v2), (upd f2 v1.toNatClampNeg v3), (va_up it v1.toNatClampNeg m4)) h rfl dX6_make_24
theorem k_X6_make {y : nz_Y} {g : nz_G} {k n : Nat} {ws : va_W} {pc : Nat} {ls : List (Nat × Value)} {st rest : List Value} {av : Array Value} {isC : List Nat} {K : (Nat → Int32) → (Nat → Int32) → (Nat → Nat → Int32) → Prop} (o : Nat) (ai : Nat) (a1 : Nat) (a2 : Nat) (bi : Nat → Nat) (f1 : Nat → Int32) (f2 : Nat → Int32) (it : Nat → Nat → Int32) (v1 : Int32) (v2 : Int32) (v3 : Int32) (run : nz_M (yz_l y) yX6_make wsX6_make rm_X6_make g [.ref o, .int v1, .int v2, .int v3] ([(o, .inr (6, [.ref ai, .ref a1, .ref a2])), (a1, .inl (nz_cI g, 8, .inl f1)), (a2, .inl (nz_cI g, 8, .inl f2)), (ai, .inl (nz_cA g, 8, .inr (.inr (.inr (.inr (fun j => some (bi j)))))))] ++ nz_pool g bi it) (nz_Qv g ([(o, .inr (6, [.ref ai, .ref a1, .ref a2])), (a1, .inl (nz_cI g, 8, .inl f1)), (a2, .inl (nz_cI g, 8, .inl f2)), (ai, .inl (nz_cA g, 8, .inr (.inr (.inr (.inr (fun j => some (bi j)))))))] ++ nz_pool g bi it) (fun (u : (Nat → Int32) × (Nat → Int32) × (Nat → Nat → Int32)) => K u.1 u.2.1 u.2.2) (fun u => ([(o, .inr (6, [.ref ai, .ref a1, .ref a2])), (a1, .inl (nz_cI g, 8, .inl u.1)), (a2, .inl (nz_cI g, 8, .inl u.2.1)), (ai, .inl (nz_cA g, 8, .inr (.inr (.inr (.inr (fun j => some (bi j)))))))] ++ nz_pool g bi u.2.2))) → nz_C y g k n ws pc ls st rest ([(o, .inr (6, [.ref ai, .ref a1, .ref a2])), (a1, .inl (nz_cI g, 8, .inl f1)), (a2, .inl (nz_cI g, 8, .inl f2)), (ai, .inl (nz_cA g, 8, .inr (.inr (.inr (.inr (fun j => some (bi j)))))))] ++ nz_pool g bi it) (nz_Qv g ([(o, .inr (6, [.ref ai, .ref a1, .ref a2])), (a1, .inl (nz_cI g, 8, .inl f1)), (a2, .inl (nz_cI g, 8, .inl f2)), (ai, .inl (nz_cA g, 8, .inr (.inr (.inr (.inr (fun j => some (bi j)))))))] ++ nz_pool g bi it) (fun (u : (Nat → Int32) × (Nat → Int32) × (Nat → Nat → Int32)) => K u.1 u.2.1 u.2.2) (fun u => ([(o, .inr (6, [.ref ai, .ref a1, .ref a2])), (a1, .inl (nz_cI g, 8, .inl u.1)), (a2, .inl (nz_cI g, 8, .inl u.2.1)), (ai, .inl (nz_cA g, 8, .inr (.inr (.inr (.inr (fun j => some (bi j)))))))] ++ nz_pool g bi u.2.2))) av isC) (h : wp_X6_make f1 f2 it v1 v2 v3 K) (ws' : (Nat → Int32) → (Nat → Int32) → (Nat → Nat → Int32) → va_W) (hm : ∀ (m0 : (Nat → Int32)) (m1 : (Nat → Int32)) (m2 : (Nat → Nat → Int32)), nz_mrg ws isC ([(o, .inr (6, [.ref ai, .ref a1, .ref a2])), (a1, .inl (nz_cI g, 8, .inl m0)), (a2, .inl (nz_cI g, 8, .inl m1)), (ai, .inl (nz_cA g, 8, .inr (.inr (.inr (.inr (fun j => some (bi j)))))))] ++ nz_pool g bi m2) = ws' m0 m1 m2) (kk : ∀ (m0 : (Nat → Int32)) (m1 : (Nat → Int32)) (m2 : (Nat → Nat → Int32)), K m0 m1 m2 → nz_V y g k n (ws' m0 m1 m2) (pc + 3) ls (rest)) : nz_V y g k n ws pc ls st :=
  nz_cv (ws' := fun u => ws' u.1 u.2.1 u.2.2) (run (c_X6_make (yz_l y) g o ai a1 a2 bi f1 f2 it v1 v2 v3 K h)) (fun _ => rfl) (fun u => hm u.1 u.2.1 u.2.2) (fun u h => kk u.1 u.2.1 u.2.2 h)
theorem dX6_remove_0 : decode cX6_remove 0 = .ok (.aload_n 0, 1) := by decide +kernel
theorem dX6_remove_1 : decode cX6_remove 1 = .ok (.getfield 16, 3) := by decide +kernel
theorem dX6_remove_4 : decode cX6_remove 4 = .ok (.iload_n 1, 1) := by decide +kernel
theorem dX6_remove_5 : decode cX6_remove 5 = .ok (.iconst (-1), 1) := by decide +kernel
theorem dX6_remove_6 : decode cX6_remove 6 = .ok (.iastore, 1) := by decide +kernel
theorem dX6_remove_7 : decode cX6_remove 7 = .ok (.aload_n 0, 1) := by decide +kernel
theorem dX6_remove_8 : decode cX6_remove 8 = .ok (.getfield 20, 3) := by decide +kernel
theorem dX6_remove_11 : decode cX6_remove 11 = .ok (.iload_n 1, 1) := by decide +kernel
theorem dX6_remove_12 : decode cX6_remove 12 = .ok (.iaload, 1) := by decide +kernel
theorem dX6_remove_13 : decode cX6_remove 13 = .ok (.ireturn, 1) := by decide +kernel
/-! X6_remove -/
abbrev rm_X6_remove : Room := { frames := 0, cells := 0, slots := 0, locals := 0 }
theorem iw_X6_remove_6 : ∀ w ∈ wsX60, w ∈ wsX6_remove := fun _ h => List.mem_cons_of_mem _ (List.mem_append_right _ h)
theorem fl_X6_remove_16 : Cond.fieldLink RX6 16 "NightStones$Rows" "lanes" "[I" ∈ wsX6_remove := List.mem_of_getElem? (i := 1) rfl
theorem fl_X6_remove_20 : Cond.fieldLink RX6 20 "NightStones$Rows" "sizes" "[I" ∈ wsX6_remove := List.mem_of_getElem? (i := 2) rfl
def wp_X6_remove (f1 : Nat → Int32) (f2 : Nat → Int32) (v1 : Int32) (K : Int32 → (Nat → Int32) → Prop) : Prop := (vp_in v1 8 ∧ (vp_in v1 8 ∧ K (f2 v1.toNatClampNeg) (upd f1 v1.toNatClampNeg (-1 : Int32))))
set_option maxHeartbeats 4000000 in
set_option maxRecDepth 100000 in
theorem c_X6_remove (l : Launch) (g : nz_G) (o : Nat) (ai : Nat) (a1 : Nat) (a2 : Nat) (bi : Nat → Nat) (f1 : Nat → Int32) (f2 : Nat → Int32) (it : Nat → Nat → Int32) (v1 : Int32) (K : Int32 → (Nat → Int32) → Prop) (h : wp_X6_remove f1 f2 v1 K) : nz_M l yX6_remove wsX6_remove rm_X6_remove g [.ref o, .int v1] ([(o, .inr (6, [.ref ai, .ref a1, .ref a2])), (a1, .inl (nz_cI g, 8, .inl f1)), (a2, .inl (nz_cI g, 8, .inl f2)), (ai, .inl (nz_cA g, 8, .inr (.inr (.inr (.inr (fun j => some (bi j)))))))] ++ nz_pool g bi it) (nz_Qi g ([(o, .inr (6, [.ref ai, .ref a1, .ref a2])), (a1, .inl (nz_cI g, 8, .inl f1)), (a2, .inl (nz_cI g, 8, .inl f2)), (ai, .inl (nz_cA g, 8, .inr (.inr (.inr (.inr (fun j => some (bi j)))))))] ++ nz_pool g bi it) (fun r (u : (Nat → Int32)) => K r u) (fun u => ([(o, .inr (6, [.ref ai, .ref a1, .ref a2])), (a1, .inl (nz_cI g, 8, .inl u)), (a2, .inl (nz_cI g, 8, .inl f2)), (ai, .inl (nz_cA g, 8, .inr (.inr (.inr (.inr (fun j => some (bi j)))))))] ++ nz_pool g bi it))) := by
  refine nz_M.of (bytes := cX6_remove) (nL := 2) (ret := (some .int)) (own := RX6) (by decide) rfl rfl ⟨rfl, rfl⟩ rfl ?_
  intro y F hl hQ
  obtain ⟨sz, hQ⟩ := hQ
  refine nz_ent (lv' := [(0, .ref o), (1, .int v1)]) rfl ?_
  unfold wp_X6_remove at h
  refine nz_aload_n F dX6_remove_0 rfl 0 rfl ?_
  refine nz_get F iw_X6_remove_6 0 rfl rfl 1 (by decide) rfl fl_X6_remove_16 rfl dX6_remove_1 ?_
  refine nz_iload_n F dX6_remove_4 rfl 1 rfl ?_
  refine nz_iconst (v := (-1 : Int32)) F dX6_remove_5 (by decide) ?_
  obtain ⟨i1, h⟩ := h
  refine nz_iast (ws' := ([(o, .inr (6, [.ref ai, .ref a1, .ref a2])), (a1, .inl (nz_cI g, 8, .inl (upd f1 v1.toNatClampNeg (-1 : Int32)))), (a2, .inl (nz_cI g, 8, .inl f2)), (ai, .inl (nz_cA g, 8, .inr (.inr (.inr (.inr (fun j => some (bi j)))))))] ++ nz_pool g bi it)) F 1 rfl i1 dX6_remove_6 rfl ?_
  refine nz_aload_n F dX6_remove_7 rfl 0 rfl ?_
  refine nz_get F iw_X6_remove_6 0 rfl rfl 2 (by decide) rfl fl_X6_remove_20 rfl dX6_remove_8 ?_
  refine nz_iload_n F dX6_remove_11 rfl 1 rfl ?_
  obtain ⟨i2, h⟩ := h
  refine nz_iald F 2 rfl i2 dX6_remove_12 ?_
  exact nz_iret F hQ (upd f1 v1.toNatClampNeg (-1 : Int32)) h rfl dX6_remove_13
theorem k_X6_remove {y : nz_Y} {g : nz_G} {k n : Nat} {ws : va_W} {pc : Nat} {ls : List (Nat × Value)} {st rest : List Value} {av : Array Value} {isC : List Nat} {K : Int32 → (Nat → Int32) → Prop} (o : Nat) (ai : Nat) (a1 : Nat) (a2 : Nat) (bi : Nat → Nat) (f1 : Nat → Int32) (f2 : Nat → Int32) (it : Nat → Nat → Int32) (v1 : Int32) (run : nz_M (yz_l y) yX6_remove wsX6_remove rm_X6_remove g [.ref o, .int v1] ([(o, .inr (6, [.ref ai, .ref a1, .ref a2])), (a1, .inl (nz_cI g, 8, .inl f1)), (a2, .inl (nz_cI g, 8, .inl f2)), (ai, .inl (nz_cA g, 8, .inr (.inr (.inr (.inr (fun j => some (bi j)))))))] ++ nz_pool g bi it) (nz_Qi g ([(o, .inr (6, [.ref ai, .ref a1, .ref a2])), (a1, .inl (nz_cI g, 8, .inl f1)), (a2, .inl (nz_cI g, 8, .inl f2)), (ai, .inl (nz_cA g, 8, .inr (.inr (.inr (.inr (fun j => some (bi j)))))))] ++ nz_pool g bi it) (fun r (u : (Nat → Int32)) => K r u) (fun u => ([(o, .inr (6, [.ref ai, .ref a1, .ref a2])), (a1, .inl (nz_cI g, 8, .inl u)), (a2, .inl (nz_cI g, 8, .inl f2)), (ai, .inl (nz_cA g, 8, .inr (.inr (.inr (.inr (fun j => some (bi j)))))))] ++ nz_pool g bi it))) → nz_C y g k n ws pc ls st rest ([(o, .inr (6, [.ref ai, .ref a1, .ref a2])), (a1, .inl (nz_cI g, 8, .inl f1)), (a2, .inl (nz_cI g, 8, .inl f2)), (ai, .inl (nz_cA g, 8, .inr (.inr (.inr (.inr (fun j => some (bi j)))))))] ++ nz_pool g bi it) (nz_Qi g ([(o, .inr (6, [.ref ai, .ref a1, .ref a2])), (a1, .inl (nz_cI g, 8, .inl f1)), (a2, .inl (nz_cI g, 8, .inl f2)), (ai, .inl (nz_cA g, 8, .inr (.inr (.inr (.inr (fun j => some (bi j)))))))] ++ nz_pool g bi it) (fun r (u : (Nat → Int32)) => K r u) (fun u => ([(o, .inr (6, [.ref ai, .ref a1, .ref a2])), (a1, .inl (nz_cI g, 8, .inl u)), (a2, .inl (nz_cI g, 8, .inl f2)), (ai, .inl (nz_cA g, 8, .inr (.inr (.inr (.inr (fun j => some (bi j)))))))] ++ nz_pool g bi it))) av isC) (h : wp_X6_remove f1 f2 v1 K) (ws' : (Nat → Int32) → va_W) (hm : ∀ (m0 : (Nat → Int32)), nz_mrg ws isC ([(o, .inr (6, [.ref ai, .ref a1, .ref a2])), (a1, .inl (nz_cI g, 8, .inl m0)), (a2, .inl (nz_cI g, 8, .inl f2)), (ai, .inl (nz_cA g, 8, .inr (.inr (.inr (.inr (fun j => some (bi j)))))))] ++ nz_pool g bi it) = ws' m0) (kk : ∀ (r : Int32) (m0 : (Nat → Int32)), K r m0 → nz_V y g k n (ws' m0) (pc + 3) ls (.int r :: rest)) : nz_V y g k n ws pc ls st :=
  nz_ci (ws' := fun u => ws' u) (run (c_X6_remove (yz_l y) g o ai a1 a2 bi f1 f2 it v1 K h)) (fun _ => rfl) (fun u => hm u) (fun r u h => kk r u h)
theorem dX6_present_0 : decode cX6_present 0 = .ok (.iconst 0, 1) := by decide +kernel
theorem dX6_present_1 : decode cX6_present 1 = .ok (.istore_n 1, 1) := by decide +kernel
theorem dX6_present_2 : decode cX6_present 2 = .ok (.iconst 0, 1) := by decide +kernel
theorem dX6_present_3 : decode cX6_present 3 = .ok (.istore_n 2, 1) := by decide +kernel
theorem dX6_present_4 : decode cX6_present 4 = .ok (.iload_n 2, 1) := by decide +kernel
theorem dX6_present_5 : decode cX6_present 5 = .ok (.bipush 8, 2) := by decide +kernel
theorem dX6_present_7 : decode cX6_present 7 = .ok (.if_icmp .ge 20, 3) := by decide +kernel
theorem dX6_present_10 : decode cX6_present 10 = .ok (.aload_n 0, 1) := by decide +kernel
theorem dX6_present_11 : decode cX6_present 11 = .ok (.iload_n 2, 1) := by decide +kernel
theorem dX6_present_12 : decode cX6_present 12 = .ok (.invokevirtual 29, 3) := by decide +kernel
theorem dX6_present_15 : decode cX6_present 15 = .ok (.ifCond .ne 6, 3) := by decide +kernel
theorem dX6_present_18 : decode cX6_present 18 = .ok (.iinc 1 1, 3) := by decide +kernel
theorem dX6_present_21 : decode cX6_present 21 = .ok (.iinc 2 1, 3) := by decide +kernel
theorem dX6_present_24 : decode cX6_present 24 = .ok (.goto (-20), 3) := by decide +kernel
theorem dX6_present_27 : decode cX6_present 27 = .ok (.iload_n 1, 1) := by decide +kernel
theorem dX6_present_28 : decode cX6_present 28 = .ok (.ireturn, 1) := by decide +kernel
set_option maxRecDepth 20000 in
theorem ggX6_present_X6_isMissing : GoodIn wsX6_present wsX6_isMissing := goodIn_r _ [5, 6, 7, 8, 9] rfl (by decide +kernel)
set_option maxRecDepth 20000 in
theorem gX6_present_X6_isMissing : GoodIn wsX6_present (wsV RX6 29 RX6 yX6_isMissing wsX6_isMissing) := goodIn_app (goodIn_r _ [1, 2, 3, 4] rfl (by decide +kernel)) ggX6_present_X6_isMissing
theorem hd_X6_isMissing : yX6_isMissing.cls = RX6 ∧ yX6_isMissing.cls ≠ "java/lang/invoke/MethodHandle" ∧ yX6_isMissing.cls ≠ "java/lang/invoke/VarHandle" ∧ (parseMethodDescriptor yX6_isMissing.desc).map (fun d => d.parameters.length) = some 1 := by decide +kernel
/-! X6_present -/
abbrev rm_X6_present : Room := { frames := 1, cells := 0, slots := 0, locals := 21 }
def S_X6_present_4 (f1 : Nat → Int32) (K : Int32 → Prop) (R4 : Int32 → Int32 → Prop) (x1 : Int32) (x2 : Int32) : Prop := ((8 ≤ x2 → K x1) ∧ (¬ (8 ≤ x2) → wp_X6_isMissing f1 x2 (fun q2 => ((¬ q2 = 0 → R4 x1 (x2 + 1)) ∧ (q2 = 0 → R4 (x1 + 1) (x2 + 1))))))
set_option maxHeartbeats 4000000 in
set_option maxRecDepth 100000 in
theorem t_X6_present_4 {y : nz_Y} {g : nz_G} (F : nz_F y g cX6_present 3 wsX6_present RX6 (some .int) rm_X6_present) {wc0 : va_W} {sz : Nat} {K : Int32 → Prop} (o : Nat) (ai : Nat) (a1 : Nat) (a2 : Nat) (bi : Nat → Nat) (f1 : Nat → Int32) (f2 : Nat → Int32) (it : Nat → Nat → Int32) (hQ : yz_A y = va_A wc0 sz ∧ yz_Q y = MQ (yz_b y) ((nz_Qi g wc0 (fun r (u : Unit) => K r) (fun u => ([(o, .inr (6, [.ref ai, .ref a1, .ref a2])), (a1, .inl (nz_cI g, 8, .inl f1)), (a2, .inl (nz_cI g, 8, .inl f2)), (ai, .inl (nz_cA g, 8, .inr (.inr (.inr (.inr (fun j => some (bi j)))))))] ++ nz_pool g bi it))) sz) (yz_a y) (yz_s y) 0 0 (va_A wc0 sz)) : ∀ (n1 : Nat) (x1 : Int32) (x2 : Int32), nz_it (fun _ _ => False) (S_X6_present_4 f1 K) n1 x1 x2 → nz_V y g 0 0 ([(o, .inr (6, [.ref ai, .ref a1, .ref a2])), (a1, .inl (nz_cI g, 8, .inl f1)), (a2, .inl (nz_cI g, 8, .inl f2)), (ai, .inl (nz_cA g, 8, .inr (.inr (.inr (.inr (fun j => some (bi j)))))))] ++ nz_pool g bi it) 4 [(0, .ref o), (1, .int x1), (2, .int x2)] [] := by
  intro n1
  induction n1 with
  | zero =>
    intro x1 x2 h
    exact h.elim
  | succ n1 hR4 =>
    intro x1 x2 h
    have h : S_X6_present_4 f1 K (nz_it (fun _ _ => False) (S_X6_present_4 f1 K) n1) x1 x2 := h
    unfold S_X6_present_4 at h
    refine nz_iload_n F dX6_present_4 rfl 2 rfl ?_
    refine nz_bipush (v := 8) F dX6_present_5 (by decide) ?_
    refine nz_icmp_ge (tgt := 27) F dX6_present_7 (by decide) (fun c1 => ?_) (fun c1 => ?_)
    · have h := h.1 c1
      refine nz_iload_n F dX6_present_27 rfl 1 rfl ?_
      exact nz_iret F hQ () h rfl dX6_present_28
    · have h := h.2 c1
      refine nz_aload_n F dX6_present_10 rfl 0 rfl ?_
      refine nz_iload_n F dX6_present_11 rfl 2 rfl ?_
      refine k_X6_isMissing o ai a1 a2 bi f1 f2 it x2 (fun hM => nz_runV F gX6_present_X6_isMissing rfl hd_X6_isMissing rfl hM dX6_present_12 [0, 1, 2, 3, 4, 5, 6, 7, 8, 9, 10, 11] rfl rfl 0 rfl rfl rfl (Nat.le_of_ble_eq_true rfl) rfl) h (([(o, .inr (6, [.ref ai, .ref a1, .ref a2])), (a1, .inl (nz_cI g, 8, .inl f1)), (a2, .inl (nz_cI g, 8, .inl f2)), (ai, .inl (nz_cA g, 8, .inr (.inr (.inr (.inr (fun j => some (bi j)))))))] ++ nz_pool g bi it)) (rfl) (fun q2 h => ?_)
      refine nz_if_ne (tgt := 21) F dX6_present_15 (by decide) (fun c3 => ?_) (fun c3 => ?_)
      · have h := h.1 c3
        refine nz_iinc (v := (x2 + 1)) (j := 2) (lv' := [(2, .int (x2 + 1)), (0, .ref o), (1, .int x1)]) F dX6_present_21 rfl rfl (by decide) rfl ?_
        refine nz_goto (tgt := 4) F dX6_present_24 (by decide) ?_
        refine nz_ls (lv' := [(0, .ref o), (1, .int x1), (2, .int (x2 + 1))]) [1, 2, 0] rfl ?_
        exact hR4 x1 (x2 + 1) h
      · have h := h.2 c3
        refine nz_iinc (v := (x1 + 1)) (j := 1) (lv' := [(1, .int (x1 + 1)), (0, .ref o), (2, .int x2)]) F dX6_present_18 rfl rfl (by decide) rfl ?_
        refine nz_iinc (v := (x2 + 1)) (j := 2) (lv' := [(2, .int (x2 + 1)), (1, .int (x1 + 1)), (0, .ref o)]) F dX6_present_21 rfl rfl (by decide) rfl ?_
        refine nz_goto (tgt := 4) F dX6_present_24 (by decide) ?_
        refine nz_ls (lv' := [(0, .ref o), (1, .int (x1 + 1)), (2, .int (x2 + 1))]) [2, 1, 0] rfl ?_
        exact hR4 (x1 + 1) (x2 + 1) h
def wp_X6_present (f1 : Nat → Int32) (K : Int32 → Prop) : Prop := (∃ n, nz_it (fun _ _ => False) (S_X6_present_4 f1 K) n 0 0)
set_option maxHeartbeats 4000000 in
set_option maxRecDepth 100000 in
theorem c_X6_present (l : Launch) (g : nz_G) (o : Nat) (ai : Nat) (a1 : Nat) (a2 : Nat) (bi : Nat → Nat) (f1 : Nat → Int32) (f2 : Nat → Int32) (it : Nat → Nat → Int32) (K : Int32 → Prop) (h : wp_X6_present f1 K) : nz_M l yX6_present wsX6_present rm_X6_present g [.ref o] ([(o, .inr (6, [.ref ai, .ref a1, .ref a2])), (a1, .inl (nz_cI g, 8, .inl f1)), (a2, .inl (nz_cI g, 8, .inl f2)), (ai, .inl (nz_cA g, 8, .inr (.inr (.inr (.inr (fun j => some (bi j)))))))] ++ nz_pool g bi it) (nz_Qi g ([(o, .inr (6, [.ref ai, .ref a1, .ref a2])), (a1, .inl (nz_cI g, 8, .inl f1)), (a2, .inl (nz_cI g, 8, .inl f2)), (ai, .inl (nz_cA g, 8, .inr (.inr (.inr (.inr (fun j => some (bi j)))))))] ++ nz_pool g bi it) (fun r (u : Unit) => K r) (fun u => ([(o, .inr (6, [.ref ai, .ref a1, .ref a2])), (a1, .inl (nz_cI g, 8, .inl f1)), (a2, .inl (nz_cI g, 8, .inl f2)), (ai, .inl (nz_cA g, 8, .inr (.inr (.inr (.inr (fun j => some (bi j)))))))] ++ nz_pool g bi it))) := by
  refine nz_M.of (bytes := cX6_present) (nL := 3) (ret := (some .int)) (own := RX6) (by decide) rfl rfl ⟨rfl, rfl⟩ rfl ?_
  intro y F hl hQ
  obtain ⟨sz, hQ⟩ := hQ
  refine nz_ent (lv' := [(0, .ref o)]) rfl ?_
  unfold wp_X6_present at h
  refine nz_iconst (v := 0) F dX6_present_0 (by decide) ?_
  refine nz_istore_n (lv' := [(1, .int 0), (0, .ref o)]) F dX6_present_1 rfl (by decide) rfl ?_
  refine nz_iconst (v := 0) F dX6_present_2 (by decide) ?_
  refine nz_istore_n (lv' := [(2, .int 0), (1, .int 0), (0, .ref o)]) F dX6_present_3 rfl (by decide) rfl ?_
  refine nz_ls (lv' := [(0, .ref o), (1, .int 0), (2, .int 0)]) [2, 1, 0] rfl ?_
  obtain ⟨n1, h⟩ := h
  exact t_X6_present_4 F o ai a1 a2 bi f1 f2 it hQ n1 0 0 h
theorem k_X6_present {y : nz_Y} {g : nz_G} {k n : Nat} {ws : va_W} {pc : Nat} {ls : List (Nat × Value)} {st rest : List Value} {av : Array Value} {isC : List Nat} {K : Int32 → Prop} (o : Nat) (ai : Nat) (a1 : Nat) (a2 : Nat) (bi : Nat → Nat) (f1 : Nat → Int32) (f2 : Nat → Int32) (it : Nat → Nat → Int32) (run : nz_M (yz_l y) yX6_present wsX6_present rm_X6_present g [.ref o] ([(o, .inr (6, [.ref ai, .ref a1, .ref a2])), (a1, .inl (nz_cI g, 8, .inl f1)), (a2, .inl (nz_cI g, 8, .inl f2)), (ai, .inl (nz_cA g, 8, .inr (.inr (.inr (.inr (fun j => some (bi j)))))))] ++ nz_pool g bi it) (nz_Qi g ([(o, .inr (6, [.ref ai, .ref a1, .ref a2])), (a1, .inl (nz_cI g, 8, .inl f1)), (a2, .inl (nz_cI g, 8, .inl f2)), (ai, .inl (nz_cA g, 8, .inr (.inr (.inr (.inr (fun j => some (bi j)))))))] ++ nz_pool g bi it) (fun r (u : Unit) => K r) (fun u => ([(o, .inr (6, [.ref ai, .ref a1, .ref a2])), (a1, .inl (nz_cI g, 8, .inl f1)), (a2, .inl (nz_cI g, 8, .inl f2)), (ai, .inl (nz_cA g, 8, .inr (.inr (.inr (.inr (fun j => some (bi j)))))))] ++ nz_pool g bi it))) → nz_C y g k n ws pc ls st rest ([(o, .inr (6, [.ref ai, .ref a1, .ref a2])), (a1, .inl (nz_cI g, 8, .inl f1)), (a2, .inl (nz_cI g, 8, .inl f2)), (ai, .inl (nz_cA g, 8, .inr (.inr (.inr (.inr (fun j => some (bi j)))))))] ++ nz_pool g bi it) (nz_Qi g ([(o, .inr (6, [.ref ai, .ref a1, .ref a2])), (a1, .inl (nz_cI g, 8, .inl f1)), (a2, .inl (nz_cI g, 8, .inl f2)), (ai, .inl (nz_cA g, 8, .inr (.inr (.inr (.inr (fun j => some (bi j)))))))] ++ nz_pool g bi it) (fun r (u : Unit) => K r) (fun u => ([(o, .inr (6, [.ref ai, .ref a1, .ref a2])), (a1, .inl (nz_cI g, 8, .inl f1)), (a2, .inl (nz_cI g, 8, .inl f2)), (ai, .inl (nz_cA g, 8, .inr (.inr (.inr (.inr (fun j => some (bi j)))))))] ++ nz_pool g bi it))) av isC) (h : wp_X6_present f1 K) (ws' : va_W) (hm : nz_mrg ws isC ([(o, .inr (6, [.ref ai, .ref a1, .ref a2])), (a1, .inl (nz_cI g, 8, .inl f1)), (a2, .inl (nz_cI g, 8, .inl f2)), (ai, .inl (nz_cA g, 8, .inr (.inr (.inr (.inr (fun j => some (bi j)))))))] ++ nz_pool g bi it) = ws' ) (kk : ∀ (r : Int32), K r → nz_V y g k n ws' (pc + 3) ls (.int r :: rest)) : nz_V y g k n ws pc ls st :=
  nz_ci (ws' := fun _ => ws') (run (c_X6_present (yz_l y) g o ai a1 a2 bi f1 f2 it K h)) (fun _ => rfl) (fun _ => hm) (fun r u h => kk r h)
theorem dX6_holds_0 : decode cX6_holds 0 = .ok (.iload_n 2, 1) := by decide +kernel
theorem dX6_holds_1 : decode cX6_holds 1 = .ok (.ifCond .lt 33, 3) := by decide +kernel
theorem dX6_holds_4 : decode cX6_holds 4 = .ok (.iload_n 3, 1) := by decide +kernel
theorem dX6_holds_5 : decode cX6_holds 5 = .ok (.ifCond .lt 29, 3) := by decide +kernel
theorem dX6_holds_8 : decode cX6_holds 8 = .ok (.iload_n 3, 1) := by decide +kernel
theorem dX6_holds_9 : decode cX6_holds 9 = .ok (.aload_n 0, 1) := by decide +kernel
theorem dX6_holds_10 : decode cX6_holds 10 = .ok (.getfield 20, 3) := by decide +kernel
theorem dX6_holds_13 : decode cX6_holds 13 = .ok (.iload_n 1, 1) := by decide +kernel
theorem dX6_holds_14 : decode cX6_holds 14 = .ok (.iaload, 1) := by decide +kernel
theorem dX6_holds_15 : decode cX6_holds 15 = .ok (.if_icmp .gt 19, 3) := by decide +kernel
theorem dX6_holds_18 : decode cX6_holds 18 = .ok (.iload_n 2, 1) := by decide +kernel
theorem dX6_holds_19 : decode cX6_holds 19 = .ok (.aload_n 0, 1) := by decide +kernel
theorem dX6_holds_20 : decode cX6_holds 20 = .ok (.getfield 20, 3) := by decide +kernel
theorem dX6_holds_23 : decode cX6_holds 23 = .ok (.iload_n 1, 1) := by decide +kernel
theorem dX6_holds_24 : decode cX6_holds 24 = .ok (.iaload, 1) := by decide +kernel
theorem dX6_holds_25 : decode cX6_holds 25 = .ok (.iload_n 3, 1) := by decide +kernel
theorem dX6_holds_26 : decode cX6_holds 26 = .ok (.isub, 1) := by decide +kernel
theorem dX6_holds_27 : decode cX6_holds 27 = .ok (.if_icmp .gt 7, 3) := by decide +kernel
theorem dX6_holds_30 : decode cX6_holds 30 = .ok (.iconst 1, 1) := by decide +kernel
theorem dX6_holds_31 : decode cX6_holds 31 = .ok (.goto 4, 3) := by decide +kernel
theorem dX6_holds_34 : decode cX6_holds 34 = .ok (.iconst 0, 1) := by decide +kernel
theorem dX6_holds_35 : decode cX6_holds 35 = .ok (.ireturn, 1) := by decide +kernel
/-! X6_holds -/
abbrev rm_X6_holds : Room := { frames := 0, cells := 0, slots := 0, locals := 0 }
theorem iw_X6_holds_6 : ∀ w ∈ wsX60, w ∈ wsX6_holds := fun _ h => List.mem_cons_of_mem _ (List.mem_append_right _ h)
theorem fl_X6_holds_20 : Cond.fieldLink RX6 20 "NightStones$Rows" "sizes" "[I" ∈ wsX6_holds := List.mem_of_getElem? (i := 1) rfl
def wp_X6_holds (f2 : Nat → Int32) (v1 : Int32) (v2 : Int32) (v3 : Int32) (K : Int32 → Prop) : Prop := ((v2 < 0 → K 0) ∧ (¬ (v2 < 0) → ((v3 < 0 → K 0) ∧ (¬ (v3 < 0) → (vp_in v1 8 ∧ (((f2 v1.toNatClampNeg) < v3 → K 0) ∧ (¬ ((f2 v1.toNatClampNeg) < v3) → (vp_in v1 8 ∧ ((((f2 v1.toNatClampNeg) - v3) < v2 → K 0) ∧ (¬ (((f2 v1.toNatClampNeg) - v3) < v2) → K 1))))))))))
set_option maxHeartbeats 4000000 in
set_option maxRecDepth 100000 in
theorem c_X6_holds (l : Launch) (g : nz_G) (o : Nat) (ai : Nat) (a1 : Nat) (a2 : Nat) (bi : Nat → Nat) (f1 : Nat → Int32) (f2 : Nat → Int32) (it : Nat → Nat → Int32) (v1 : Int32) (v2 : Int32) (v3 : Int32) (K : Int32 → Prop) (h : wp_X6_holds f2 v1 v2 v3 K) : nz_M l yX6_holds wsX6_holds rm_X6_holds g [.ref o, .int v1, .int v2, .int v3] ([(o, .inr (6, [.ref ai, .ref a1, .ref a2])), (a1, .inl (nz_cI g, 8, .inl f1)), (a2, .inl (nz_cI g, 8, .inl f2)), (ai, .inl (nz_cA g, 8, .inr (.inr (.inr (.inr (fun j => some (bi j)))))))] ++ nz_pool g bi it) (nz_Qi g ([(o, .inr (6, [.ref ai, .ref a1, .ref a2])), (a1, .inl (nz_cI g, 8, .inl f1)), (a2, .inl (nz_cI g, 8, .inl f2)), (ai, .inl (nz_cA g, 8, .inr (.inr (.inr (.inr (fun j => some (bi j)))))))] ++ nz_pool g bi it) (fun r (u : Unit) => K r) (fun u => ([(o, .inr (6, [.ref ai, .ref a1, .ref a2])), (a1, .inl (nz_cI g, 8, .inl f1)), (a2, .inl (nz_cI g, 8, .inl f2)), (ai, .inl (nz_cA g, 8, .inr (.inr (.inr (.inr (fun j => some (bi j)))))))] ++ nz_pool g bi it))) := by
  refine nz_M.of (bytes := cX6_holds) (nL := 4) (ret := (some .boolean)) (own := RX6) (by decide) rfl rfl ⟨rfl, rfl⟩ rfl ?_
  intro y F hl hQ
  obtain ⟨sz, hQ⟩ := hQ
  refine nz_ent (lv' := [(0, .ref o), (1, .int v1), (2, .int v2), (3, .int v3)]) rfl ?_
  unfold wp_X6_holds at h
  refine nz_iload_n F dX6_holds_0 rfl 2 rfl ?_
  refine nz_if_lt (tgt := 34) F dX6_holds_1 (by decide) (fun c1 => ?_) (fun c1 => ?_)
  · have h := h.1 c1
    refine nz_iconst (v := 0) F dX6_holds_34 (by decide) ?_
    exact nz_zret F hQ () h rfl (by decide) dX6_holds_35
  · have h := h.2 c1
    refine nz_iload_n F dX6_holds_4 rfl 3 rfl ?_
    refine nz_if_lt (tgt := 34) F dX6_holds_5 (by decide) (fun c2 => ?_) (fun c2 => ?_)
    · have h := h.1 c2
      refine nz_iconst (v := 0) F dX6_holds_34 (by decide) ?_
      exact nz_zret F hQ () h rfl (by decide) dX6_holds_35
    · have h := h.2 c2
      refine nz_iload_n F dX6_holds_8 rfl 3 rfl ?_
      refine nz_aload_n F dX6_holds_9 rfl 0 rfl ?_
      refine nz_get F iw_X6_holds_6 0 rfl rfl 2 (by decide) rfl fl_X6_holds_20 rfl dX6_holds_10 ?_
      refine nz_iload_n F dX6_holds_13 rfl 1 rfl ?_
      obtain ⟨i3, h⟩ := h
      refine nz_iald F 2 rfl i3 dX6_holds_14 ?_
      refine nz_icmp_gt (tgt := 34) F dX6_holds_15 (by decide) (fun c4 => ?_) (fun c4 => ?_)
      · have h := h.1 c4
        refine nz_iconst (v := 0) F dX6_holds_34 (by decide) ?_
        exact nz_zret F hQ () h rfl (by decide) dX6_holds_35
      · have h := h.2 c4
        refine nz_iload_n F dX6_holds_18 rfl 2 rfl ?_
        refine nz_aload_n F dX6_holds_19 rfl 0 rfl ?_
        refine nz_get F iw_X6_holds_6 0 rfl rfl 2 (by decide) rfl fl_X6_holds_20 rfl dX6_holds_20 ?_
        refine nz_iload_n F dX6_holds_23 rfl 1 rfl ?_
        obtain ⟨i5, h⟩ := h
        refine nz_iald F 2 rfl i5 dX6_holds_24 ?_
        refine nz_iload_n F dX6_holds_25 rfl 3 rfl ?_
        refine nz_isub F dX6_holds_26 ?_
        refine nz_icmp_gt (tgt := 34) F dX6_holds_27 (by decide) (fun c6 => ?_) (fun c6 => ?_)
        · have h := h.1 c6
          refine nz_iconst (v := 0) F dX6_holds_34 (by decide) ?_
          exact nz_zret F hQ () h rfl (by decide) dX6_holds_35
        · have h := h.2 c6
          refine nz_iconst (v := 1) F dX6_holds_30 (by decide) ?_
          refine nz_goto (tgt := 35) F dX6_holds_31 (by decide) ?_
          exact nz_zret F hQ () h rfl (by decide) dX6_holds_35
theorem k_X6_holds {y : nz_Y} {g : nz_G} {k n : Nat} {ws : va_W} {pc : Nat} {ls : List (Nat × Value)} {st rest : List Value} {av : Array Value} {isC : List Nat} {K : Int32 → Prop} (o : Nat) (ai : Nat) (a1 : Nat) (a2 : Nat) (bi : Nat → Nat) (f1 : Nat → Int32) (f2 : Nat → Int32) (it : Nat → Nat → Int32) (v1 : Int32) (v2 : Int32) (v3 : Int32) (run : nz_M (yz_l y) yX6_holds wsX6_holds rm_X6_holds g [.ref o, .int v1, .int v2, .int v3] ([(o, .inr (6, [.ref ai, .ref a1, .ref a2])), (a1, .inl (nz_cI g, 8, .inl f1)), (a2, .inl (nz_cI g, 8, .inl f2)), (ai, .inl (nz_cA g, 8, .inr (.inr (.inr (.inr (fun j => some (bi j)))))))] ++ nz_pool g bi it) (nz_Qi g ([(o, .inr (6, [.ref ai, .ref a1, .ref a2])), (a1, .inl (nz_cI g, 8, .inl f1)), (a2, .inl (nz_cI g, 8, .inl f2)), (ai, .inl (nz_cA g, 8, .inr (.inr (.inr (.inr (fun j => some (bi j)))))))] ++ nz_pool g bi it) (fun r (u : Unit) => K r) (fun u => ([(o, .inr (6, [.ref ai, .ref a1, .ref a2])), (a1, .inl (nz_cI g, 8, .inl f1)), (a2, .inl (nz_cI g, 8, .inl f2)), (ai, .inl (nz_cA g, 8, .inr (.inr (.inr (.inr (fun j => some (bi j)))))))] ++ nz_pool g bi it))) → nz_C y g k n ws pc ls st rest ([(o, .inr (6, [.ref ai, .ref a1, .ref a2])), (a1, .inl (nz_cI g, 8, .inl f1)), (a2, .inl (nz_cI g, 8, .inl f2)), (ai, .inl (nz_cA g, 8, .inr (.inr (.inr (.inr (fun j => some (bi j)))))))] ++ nz_pool g bi it) (nz_Qi g ([(o, .inr (6, [.ref ai, .ref a1, .ref a2])), (a1, .inl (nz_cI g, 8, .inl f1)), (a2, .inl (nz_cI g, 8, .inl f2)), (ai, .inl (nz_cA g, 8, .inr (.inr (.inr (.inr (fun j => some (bi j)))))))] ++ nz_pool g bi it) (fun r (u : Unit) => K r) (fun u => ([(o, .inr (6, [.ref ai, .ref a1, .ref a2])), (a1, .inl (nz_cI g, 8, .inl f1)), (a2, .inl (nz_cI g, 8, .inl f2)), (ai, .inl (nz_cA g, 8, .inr (.inr (.inr (.inr (fun j => some (bi j)))))))] ++ nz_pool g bi it))) av isC) (h : wp_X6_holds f2 v1 v2 v3 K) (ws' : va_W) (hm : nz_mrg ws isC ([(o, .inr (6, [.ref ai, .ref a1, .ref a2])), (a1, .inl (nz_cI g, 8, .inl f1)), (a2, .inl (nz_cI g, 8, .inl f2)), (ai, .inl (nz_cA g, 8, .inr (.inr (.inr (.inr (fun j => some (bi j)))))))] ++ nz_pool g bi it) = ws' ) (kk : ∀ (r : Int32), K r → nz_V y g k n ws' (pc + 3) ls (.int r :: rest)) : nz_V y g k n ws pc ls st :=
  nz_ci (ws' := fun _ => ws') (run (c_X6_holds (yz_l y) g o ai a1 a2 bi f1 f2 it v1 v2 v3 K h)) (fun _ => rfl) (fun _ => hm) (fun r u h => kk r h)
theorem dX6_findingAt_0 : decode cX6_findingAt 0 = .ok (.aload_n 0, 1) := by decide +kernel
theorem dX6_findingAt_1 : decode cX6_findingAt 1 = .ok (.iload_n 1, 1) := by decide +kernel
theorem dX6_findingAt_2 : decode cX6_findingAt 2 = .ok (.invokevirtual 29, 3) := by decide +kernel
theorem dX6_findingAt_5 : decode cX6_findingAt 5 = .ok (.ifCond .eq 5, 3) := by decide +kernel
theorem dX6_findingAt_8 : decode cX6_findingAt 8 = .ok (.iconst 1, 1) := by decide +kernel
theorem dX6_findingAt_9 : decode cX6_findingAt 9 = .ok (.ireturn, 1) := by decide +kernel
theorem dX6_findingAt_10 : decode cX6_findingAt 10 = .ok (.aload_n 0, 1) := by decide +kernel
theorem dX6_findingAt_11 : decode cX6_findingAt 11 = .ok (.iload_n 1, 1) := by decide +kernel
theorem dX6_findingAt_12 : decode cX6_findingAt 12 = .ok (.iload_n 2, 1) := by decide +kernel
theorem dX6_findingAt_13 : decode cX6_findingAt 13 = .ok (.iload_n 3, 1) := by decide +kernel
theorem dX6_findingAt_14 : decode cX6_findingAt 14 = .ok (.invokevirtual 33, 3) := by decide +kernel
theorem dX6_findingAt_17 : decode cX6_findingAt 17 = .ok (.ifCond .eq 7, 3) := by decide +kernel
theorem dX6_findingAt_20 : decode cX6_findingAt 20 = .ok (.iconst 0, 1) := by decide +kernel
theorem dX6_findingAt_21 : decode cX6_findingAt 21 = .ok (.goto 4, 3) := by decide +kernel
theorem dX6_findingAt_24 : decode cX6_findingAt 24 = .ok (.iconst 2, 1) := by decide +kernel
theorem dX6_findingAt_25 : decode cX6_findingAt 25 = .ok (.ireturn, 1) := by decide +kernel
set_option maxRecDepth 20000 in
theorem ggX6_findingAt_X6_holds : GoodIn wsX6_findingAt wsX6_holds := goodIn_r _ [10, 11, 12, 13, 14] rfl (by decide +kernel)
set_option maxRecDepth 20000 in
theorem gX6_findingAt_X6_holds : GoodIn wsX6_findingAt (wsV RX6 33 RX6 yX6_holds wsX6_holds) := goodIn_app (goodIn_r _ [7, 8, 9, 4] rfl (by decide +kernel)) ggX6_findingAt_X6_holds
set_option maxRecDepth 20000 in
theorem ggX6_findingAt_X6_isMissing : GoodIn wsX6_findingAt wsX6_isMissing := goodIn_r _ [5, 6, 12, 13, 14] rfl (by decide +kernel)
set_option maxRecDepth 20000 in
theorem gX6_findingAt_X6_isMissing : GoodIn wsX6_findingAt (wsV RX6 29 RX6 yX6_isMissing wsX6_isMissing) := goodIn_app (goodIn_r _ [1, 2, 3, 4] rfl (by decide +kernel)) ggX6_findingAt_X6_isMissing
theorem hd_X6_holds : yX6_holds.cls = RX6 ∧ yX6_holds.cls ≠ "java/lang/invoke/MethodHandle" ∧ yX6_holds.cls ≠ "java/lang/invoke/VarHandle" ∧ (parseMethodDescriptor yX6_holds.desc).map (fun d => d.parameters.length) = some 3 := by decide +kernel
/-! X6_findingAt -/
abbrev rm_X6_findingAt : Room := { frames := 1, cells := 0, slots := 0, locals := 23 }
def wp_X6_findingAt (f1 : Nat → Int32) (f2 : Nat → Int32) (v1 : Int32) (v2 : Int32) (v3 : Int32) (K : Int32 → Prop) : Prop := wp_X6_isMissing f1 v1 (fun q1 => ((q1 = 0 → wp_X6_holds f2 v1 v2 v3 (fun q3 => ((q3 = 0 → K 2) ∧ (¬ (q3 = 0) → K 0)))) ∧ (¬ (q1 = 0) → K 1)))
set_option maxHeartbeats 4000000 in
set_option maxRecDepth 100000 in
theorem c_X6_findingAt (l : Launch) (g : nz_G) (o : Nat) (ai : Nat) (a1 : Nat) (a2 : Nat) (bi : Nat → Nat) (f1 : Nat → Int32) (f2 : Nat → Int32) (it : Nat → Nat → Int32) (v1 : Int32) (v2 : Int32) (v3 : Int32) (K : Int32 → Prop) (h : wp_X6_findingAt f1 f2 v1 v2 v3 K) : nz_M l yX6_findingAt wsX6_findingAt rm_X6_findingAt g [.ref o, .int v1, .int v2, .int v3] ([(o, .inr (6, [.ref ai, .ref a1, .ref a2])), (a1, .inl (nz_cI g, 8, .inl f1)), (a2, .inl (nz_cI g, 8, .inl f2)), (ai, .inl (nz_cA g, 8, .inr (.inr (.inr (.inr (fun j => some (bi j)))))))] ++ nz_pool g bi it) (nz_Qi g ([(o, .inr (6, [.ref ai, .ref a1, .ref a2])), (a1, .inl (nz_cI g, 8, .inl f1)), (a2, .inl (nz_cI g, 8, .inl f2)), (ai, .inl (nz_cA g, 8, .inr (.inr (.inr (.inr (fun j => some (bi j)))))))] ++ nz_pool g bi it) (fun r (u : Unit) => K r) (fun u => ([(o, .inr (6, [.ref ai, .ref a1, .ref a2])), (a1, .inl (nz_cI g, 8, .inl f1)), (a2, .inl (nz_cI g, 8, .inl f2)), (ai, .inl (nz_cA g, 8, .inr (.inr (.inr (.inr (fun j => some (bi j)))))))] ++ nz_pool g bi it))) := by
  refine nz_M.of (bytes := cX6_findingAt) (nL := 4) (ret := (some .int)) (own := RX6) (by decide) rfl rfl ⟨rfl, rfl⟩ rfl ?_
  intro y F hl hQ
  obtain ⟨sz, hQ⟩ := hQ
  refine nz_ent (lv' := [(0, .ref o), (1, .int v1), (2, .int v2), (3, .int v3)]) rfl ?_
  unfold wp_X6_findingAt at h
  refine nz_aload_n F dX6_findingAt_0 rfl 0 rfl ?_
  refine nz_iload_n F dX6_findingAt_1 rfl 1 rfl ?_
  refine k_X6_isMissing o ai a1 a2 bi f1 f2 it v1 (fun hM => nz_runV F gX6_findingAt_X6_isMissing rfl hd_X6_isMissing rfl hM dX6_findingAt_2 [0, 1, 2, 3, 4, 5, 6, 7, 8, 9, 10, 11] rfl rfl 0 rfl rfl rfl (Nat.le_of_ble_eq_true rfl) rfl) h (([(o, .inr (6, [.ref ai, .ref a1, .ref a2])), (a1, .inl (nz_cI g, 8, .inl f1)), (a2, .inl (nz_cI g, 8, .inl f2)), (ai, .inl (nz_cA g, 8, .inr (.inr (.inr (.inr (fun j => some (bi j)))))))] ++ nz_pool g bi it)) (rfl) (fun q1 h => ?_)
  refine nz_if_eq (tgt := 10) F dX6_findingAt_5 (by decide) (fun c2 => ?_) (fun c2 => ?_)
  · have h := h.1 c2
    refine nz_aload_n F dX6_findingAt_10 rfl 0 rfl ?_
    refine nz_iload_n F dX6_findingAt_11 rfl 1 rfl ?_
    refine nz_iload_n F dX6_findingAt_12 rfl 2 rfl ?_
    refine nz_iload_n F dX6_findingAt_13 rfl 3 rfl ?_
    refine k_X6_holds o ai a1 a2 bi f1 f2 it v1 v2 v3 (fun hM => nz_runV F gX6_findingAt_X6_holds rfl hd_X6_holds rfl hM dX6_findingAt_14 [0, 1, 2, 3, 4, 5, 6, 7, 8, 9, 10, 11] rfl rfl 0 rfl rfl rfl (Nat.le_of_ble_eq_true rfl) rfl) h (([(o, .inr (6, [.ref ai, .ref a1, .ref a2])), (a1, .inl (nz_cI g, 8, .inl f1)), (a2, .inl (nz_cI g, 8, .inl f2)), (ai, .inl (nz_cA g, 8, .inr (.inr (.inr (.inr (fun j => some (bi j)))))))] ++ nz_pool g bi it)) (rfl) (fun q3 h => ?_)
    refine nz_if_eq (tgt := 24) F dX6_findingAt_17 (by decide) (fun c4 => ?_) (fun c4 => ?_)
    · have h := h.1 c4
      refine nz_iconst (v := 2) F dX6_findingAt_24 (by decide) ?_
      exact nz_iret F hQ () h rfl dX6_findingAt_25
    · have h := h.2 c4
      refine nz_iconst (v := 0) F dX6_findingAt_20 (by decide) ?_
      refine nz_goto (tgt := 25) F dX6_findingAt_21 (by decide) ?_
      exact nz_iret F hQ () h rfl dX6_findingAt_25
  · have h := h.2 c2
    refine nz_iconst (v := 1) F dX6_findingAt_8 (by decide) ?_
    exact nz_iret F hQ () h rfl dX6_findingAt_9
theorem k_X6_findingAt {y : nz_Y} {g : nz_G} {k n : Nat} {ws : va_W} {pc : Nat} {ls : List (Nat × Value)} {st rest : List Value} {av : Array Value} {isC : List Nat} {K : Int32 → Prop} (o : Nat) (ai : Nat) (a1 : Nat) (a2 : Nat) (bi : Nat → Nat) (f1 : Nat → Int32) (f2 : Nat → Int32) (it : Nat → Nat → Int32) (v1 : Int32) (v2 : Int32) (v3 : Int32) (run : nz_M (yz_l y) yX6_findingAt wsX6_findingAt rm_X6_findingAt g [.ref o, .int v1, .int v2, .int v3] ([(o, .inr (6, [.ref ai, .ref a1, .ref a2])), (a1, .inl (nz_cI g, 8, .inl f1)), (a2, .inl (nz_cI g, 8, .inl f2)), (ai, .inl (nz_cA g, 8, .inr (.inr (.inr (.inr (fun j => some (bi j)))))))] ++ nz_pool g bi it) (nz_Qi g ([(o, .inr (6, [.ref ai, .ref a1, .ref a2])), (a1, .inl (nz_cI g, 8, .inl f1)), (a2, .inl (nz_cI g, 8, .inl f2)), (ai, .inl (nz_cA g, 8, .inr (.inr (.inr (.inr (fun j => some (bi j)))))))] ++ nz_pool g bi it) (fun r (u : Unit) => K r) (fun u => ([(o, .inr (6, [.ref ai, .ref a1, .ref a2])), (a1, .inl (nz_cI g, 8, .inl f1)), (a2, .inl (nz_cI g, 8, .inl f2)), (ai, .inl (nz_cA g, 8, .inr (.inr (.inr (.inr (fun j => some (bi j)))))))] ++ nz_pool g bi it))) → nz_C y g k n ws pc ls st rest ([(o, .inr (6, [.ref ai, .ref a1, .ref a2])), (a1, .inl (nz_cI g, 8, .inl f1)), (a2, .inl (nz_cI g, 8, .inl f2)), (ai, .inl (nz_cA g, 8, .inr (.inr (.inr (.inr (fun j => some (bi j)))))))] ++ nz_pool g bi it) (nz_Qi g ([(o, .inr (6, [.ref ai, .ref a1, .ref a2])), (a1, .inl (nz_cI g, 8, .inl f1)), (a2, .inl (nz_cI g, 8, .inl f2)), (ai, .inl (nz_cA g, 8, .inr (.inr (.inr (.inr (fun j => some (bi j)))))))] ++ nz_pool g bi it) (fun r (u : Unit) => K r) (fun u => ([(o, .inr (6, [.ref ai, .ref a1, .ref a2])), (a1, .inl (nz_cI g, 8, .inl f1)), (a2, .inl (nz_cI g, 8, .inl f2)), (ai, .inl (nz_cA g, 8, .inr (.inr (.inr (.inr (fun j => some (bi j)))))))] ++ nz_pool g bi it))) av isC) (h : wp_X6_findingAt f1 f2 v1 v2 v3 K) (ws' : va_W) (hm : nz_mrg ws isC ([(o, .inr (6, [.ref ai, .ref a1, .ref a2])), (a1, .inl (nz_cI g, 8, .inl f1)), (a2, .inl (nz_cI g, 8, .inl f2)), (ai, .inl (nz_cA g, 8, .inr (.inr (.inr (.inr (fun j => some (bi j)))))))] ++ nz_pool g bi it) = ws' ) (kk : ∀ (r : Int32), K r → nz_V y g k n ws' (pc + 3) ls (.int r :: rest)) : nz_V y g k n ws pc ls st :=
  nz_ci (ws' := fun _ => ws') (run (c_X6_findingAt (yz_l y) g o ai a1 a2 bi f1 f2 it v1 v2 v3 K h)) (fun _ => rfl) (fun _ => hm) (fun r u h => kk r h)
theorem dX6_findingBetween_0 : decode cX6_findingBetween 0 = .ok (.aload_n 0, 1) := by decide +kernel
theorem dX6_findingBetween_1 : decode cX6_findingBetween 1 = .ok (.iload_n 1, 1) := by decide +kernel
theorem dX6_findingBetween_2 : decode cX6_findingBetween 2 = .ok (.invokevirtual 29, 3) := by decide +kernel
theorem dX6_findingBetween_5 : decode cX6_findingBetween 5 = .ok (.ifCond .ne 11, 3) := by decide +kernel
theorem dX6_findingBetween_8 : decode cX6_findingBetween 8 = .ok (.aload_n 0, 1) := by decide +kernel
theorem dX6_findingBetween_9 : decode cX6_findingBetween 9 = .ok (.iload_n 3, 1) := by decide +kernel
theorem dX6_findingBetween_10 : decode cX6_findingBetween 10 = .ok (.invokevirtual 29, 3) := by decide +kernel
theorem dX6_findingBetween_13 : decode cX6_findingBetween 13 = .ok (.ifCond .eq 5, 3) := by decide +kernel
theorem dX6_findingBetween_16 : decode cX6_findingBetween 16 = .ok (.iconst 1, 1) := by decide +kernel
theorem dX6_findingBetween_17 : decode cX6_findingBetween 17 = .ok (.ireturn, 1) := by decide +kernel
theorem dX6_findingBetween_18 : decode cX6_findingBetween 18 = .ok (.aload_n 0, 1) := by decide +kernel
theorem dX6_findingBetween_19 : decode cX6_findingBetween 19 = .ok (.getfield 16, 3) := by decide +kernel
theorem dX6_findingBetween_22 : decode cX6_findingBetween 22 = .ok (.iload_n 1, 1) := by decide +kernel
theorem dX6_findingBetween_23 : decode cX6_findingBetween 23 = .ok (.iaload, 1) := by decide +kernel
theorem dX6_findingBetween_24 : decode cX6_findingBetween 24 = .ok (.aload_n 0, 1) := by decide +kernel
theorem dX6_findingBetween_25 : decode cX6_findingBetween 25 = .ok (.getfield 16, 3) := by decide +kernel
theorem dX6_findingBetween_28 : decode cX6_findingBetween 28 = .ok (.iload_n 3, 1) := by decide +kernel
theorem dX6_findingBetween_29 : decode cX6_findingBetween 29 = .ok (.iaload, 1) := by decide +kernel
theorem dX6_findingBetween_30 : decode cX6_findingBetween 30 = .ok (.if_icmp .eq 5, 3) := by decide +kernel
theorem dX6_findingBetween_33 : decode cX6_findingBetween 33 = .ok (.iconst 5, 1) := by decide +kernel
theorem dX6_findingBetween_34 : decode cX6_findingBetween 34 = .ok (.ireturn, 1) := by decide +kernel
theorem dX6_findingBetween_35 : decode cX6_findingBetween 35 = .ok (.aload_n 0, 1) := by decide +kernel
theorem dX6_findingBetween_36 : decode cX6_findingBetween 36 = .ok (.iload_n 1, 1) := by decide +kernel
theorem dX6_findingBetween_37 : decode cX6_findingBetween 37 = .ok (.iload_n 2, 1) := by decide +kernel
theorem dX6_findingBetween_38 : decode cX6_findingBetween 38 = .ok (.iload 5, 2) := by decide +kernel
theorem dX6_findingBetween_40 : decode cX6_findingBetween 40 = .ok (.invokevirtual 33, 3) := by decide +kernel
theorem dX6_findingBetween_43 : decode cX6_findingBetween 43 = .ok (.ifCond .eq 19, 3) := by decide +kernel
theorem dX6_findingBetween_46 : decode cX6_findingBetween 46 = .ok (.aload_n 0, 1) := by decide +kernel
theorem dX6_findingBetween_47 : decode cX6_findingBetween 47 = .ok (.iload_n 3, 1) := by decide +kernel
theorem dX6_findingBetween_48 : decode cX6_findingBetween 48 = .ok (.iload 4, 2) := by decide +kernel
theorem dX6_findingBetween_50 : decode cX6_findingBetween 50 = .ok (.iload 5, 2) := by decide +kernel
theorem dX6_findingBetween_52 : decode cX6_findingBetween 52 = .ok (.invokevirtual 33, 3) := by decide +kernel
theorem dX6_findingBetween_55 : decode cX6_findingBetween 55 = .ok (.ifCond .eq 7, 3) := by decide +kernel
theorem dX6_findingBetween_58 : decode cX6_findingBetween 58 = .ok (.iconst 0, 1) := by decide +kernel
theorem dX6_findingBetween_59 : decode cX6_findingBetween 59 = .ok (.goto 4, 3) := by decide +kernel
theorem dX6_findingBetween_62 : decode cX6_findingBetween 62 = .ok (.iconst 2, 1) := by decide +kernel
theorem dX6_findingBetween_63 : decode cX6_findingBetween 63 = .ok (.ireturn, 1) := by decide +kernel
set_option maxRecDepth 20000 in
theorem ggX6_findingBetween_X6_holds : GoodIn wsX6_findingBetween wsX6_holds := goodIn_r _ [10, 11, 12, 13, 14] rfl (by decide +kernel)
set_option maxRecDepth 20000 in
theorem gX6_findingBetween_X6_holds : GoodIn wsX6_findingBetween (wsV RX6 33 RX6 yX6_holds wsX6_holds) := goodIn_app (goodIn_r _ [7, 8, 9, 5] rfl (by decide +kernel)) ggX6_findingBetween_X6_holds
set_option maxRecDepth 20000 in
theorem ggX6_findingBetween_X6_isMissing : GoodIn wsX6_findingBetween wsX6_isMissing := goodIn_r _ [6, 1, 12, 13, 14] rfl (by decide +kernel)
set_option maxRecDepth 20000 in
theorem gX6_findingBetween_X6_isMissing : GoodIn wsX6_findingBetween (wsV RX6 29 RX6 yX6_isMissing wsX6_isMissing) := goodIn_app (goodIn_r _ [2, 3, 4, 5] rfl (by decide +kernel)) ggX6_findingBetween_X6_isMissing
/-! X6_findingBetween -/
abbrev rm_X6_findingBetween : Room := { frames := 1, cells := 0, slots := 0, locals := 23 }
theorem iw_X6_findingBetween_6 : ∀ w ∈ wsX60, w ∈ wsX6_findingBetween := fun _ h => List.mem_cons_of_mem _ (List.mem_append_right _ h)
theorem fl_X6_findingBetween_16 : Cond.fieldLink RX6 16 "NightStones$Rows" "lanes" "[I" ∈ wsX6_findingBetween := List.mem_of_getElem? (i := 1) rfl
def wp_X6_findingBetween (f1 : Nat → Int32) (f2 : Nat → Int32) (v1 : Int32) (v2 : Int32) (v3 : Int32) (v4 : Int32) (v5 : Int32) (K : Int32 → Prop) : Prop := wp_X6_isMissing f1 v1 (fun q1 => ((¬ q1 = 0 → K 1) ∧ (q1 = 0 → wp_X6_isMissing f1 v3 (fun q3 => ((q3 = 0 → (vp_in v1 8 ∧ (vp_in v3 8 ∧ (((f1 v1.toNatClampNeg) = (f1 v3.toNatClampNeg) → wp_X6_holds f2 v1 v2 v5 (fun q8 => ((q8 = 0 → K 2) ∧ (¬ (q8 = 0) → wp_X6_holds f2 v3 v4 v5 (fun q10 => ((q10 = 0 → K 2) ∧ (¬ (q10 = 0) → K 0))))))) ∧ (¬ ((f1 v1.toNatClampNeg) = (f1 v3.toNatClampNeg)) → K 5))))) ∧ (¬ (q3 = 0) → K 1))))))
set_option maxHeartbeats 4000000 in
set_option maxRecDepth 100000 in
theorem c_X6_findingBetween (l : Launch) (g : nz_G) (o : Nat) (ai : Nat) (a1 : Nat) (a2 : Nat) (bi : Nat → Nat) (f1 : Nat → Int32) (f2 : Nat → Int32) (it : Nat → Nat → Int32) (v1 : Int32) (v2 : Int32) (v3 : Int32) (v4 : Int32) (v5 : Int32) (K : Int32 → Prop) (h : wp_X6_findingBetween f1 f2 v1 v2 v3 v4 v5 K) : nz_M l yX6_findingBetween wsX6_findingBetween rm_X6_findingBetween g [.ref o, .int v1, .int v2, .int v3, .int v4, .int v5] ([(o, .inr (6, [.ref ai, .ref a1, .ref a2])), (a1, .inl (nz_cI g, 8, .inl f1)), (a2, .inl (nz_cI g, 8, .inl f2)), (ai, .inl (nz_cA g, 8, .inr (.inr (.inr (.inr (fun j => some (bi j)))))))] ++ nz_pool g bi it) (nz_Qi g ([(o, .inr (6, [.ref ai, .ref a1, .ref a2])), (a1, .inl (nz_cI g, 8, .inl f1)), (a2, .inl (nz_cI g, 8, .inl f2)), (ai, .inl (nz_cA g, 8, .inr (.inr (.inr (.inr (fun j => some (bi j)))))))] ++ nz_pool g bi it) (fun r (u : Unit) => K r) (fun u => ([(o, .inr (6, [.ref ai, .ref a1, .ref a2])), (a1, .inl (nz_cI g, 8, .inl f1)), (a2, .inl (nz_cI g, 8, .inl f2)), (ai, .inl (nz_cA g, 8, .inr (.inr (.inr (.inr (fun j => some (bi j)))))))] ++ nz_pool g bi it))) := by
  refine nz_M.of (bytes := cX6_findingBetween) (nL := 6) (ret := (some .int)) (own := RX6) (by decide) rfl rfl ⟨rfl, rfl⟩ rfl ?_
  intro y F hl hQ
  obtain ⟨sz, hQ⟩ := hQ
  refine nz_ent (lv' := [(0, .ref o), (1, .int v1), (2, .int v2), (3, .int v3), (4, .int v4), (5, .int v5)]) rfl ?_
  unfold wp_X6_findingBetween at h
  refine nz_aload_n F dX6_findingBetween_0 rfl 0 rfl ?_
  refine nz_iload_n F dX6_findingBetween_1 rfl 1 rfl ?_
  refine k_X6_isMissing o ai a1 a2 bi f1 f2 it v1 (fun hM => nz_runV F gX6_findingBetween_X6_isMissing rfl hd_X6_isMissing rfl hM dX6_findingBetween_2 [0, 1, 2, 3, 4, 5, 6, 7, 8, 9, 10, 11] rfl rfl 0 rfl rfl rfl (Nat.le_of_ble_eq_true rfl) rfl) h (([(o, .inr (6, [.ref ai, .ref a1, .ref a2])), (a1, .inl (nz_cI g, 8, .inl f1)), (a2, .inl (nz_cI g, 8, .inl f2)), (ai, .inl (nz_cA g, 8, .inr (.inr (.inr (.inr (fun j => some (bi j)))))))] ++ nz_pool g bi it)) (rfl) (fun q1 h => ?_)
  refine nz_if_ne (tgt := 16) F dX6_findingBetween_5 (by decide) (fun c2 => ?_) (fun c2 => ?_)
  · have h := h.1 c2
    refine nz_iconst (v := 1) F dX6_findingBetween_16 (by decide) ?_
    exact nz_iret F hQ () h rfl dX6_findingBetween_17
  · have h := h.2 c2
    refine nz_aload_n F dX6_findingBetween_8 rfl 0 rfl ?_
    refine nz_iload_n F dX6_findingBetween_9 rfl 3 rfl ?_
    refine k_X6_isMissing o ai a1 a2 bi f1 f2 it v3 (fun hM => nz_runV F gX6_findingBetween_X6_isMissing rfl hd_X6_isMissing rfl hM dX6_findingBetween_10 [0, 1, 2, 3, 4, 5, 6, 7, 8, 9, 10, 11] rfl rfl 0 rfl rfl rfl (Nat.le_of_ble_eq_true rfl) rfl) h (([(o, .inr (6, [.ref ai, .ref a1, .ref a2])), (a1, .inl (nz_cI g, 8, .inl f1)), (a2, .inl (nz_cI g, 8, .inl f2)), (ai, .inl (nz_cA g, 8, .inr (.inr (.inr (.inr (fun j => some (bi j)))))))] ++ nz_pool g bi it)) (rfl) (fun q3 h => ?_)
    refine nz_if_eq (tgt := 18) F dX6_findingBetween_13 (by decide) (fun c4 => ?_) (fun c4 => ?_)
    · have h := h.1 c4
      refine nz_aload_n F dX6_findingBetween_18 rfl 0 rfl ?_
      refine nz_get F iw_X6_findingBetween_6 0 rfl rfl 1 (by decide) rfl fl_X6_findingBetween_16 rfl dX6_findingBetween_19 ?_
      refine nz_iload_n F dX6_findingBetween_22 rfl 1 rfl ?_
      obtain ⟨i5, h⟩ := h
      refine nz_iald F 1 rfl i5 dX6_findingBetween_23 ?_
      refine nz_aload_n F dX6_findingBetween_24 rfl 0 rfl ?_
      refine nz_get F iw_X6_findingBetween_6 0 rfl rfl 1 (by decide) rfl fl_X6_findingBetween_16 rfl dX6_findingBetween_25 ?_
      refine nz_iload_n F dX6_findingBetween_28 rfl 3 rfl ?_
      obtain ⟨i6, h⟩ := h
      refine nz_iald F 1 rfl i6 dX6_findingBetween_29 ?_
      refine nz_icmp_eq (tgt := 35) F dX6_findingBetween_30 (by decide) (fun c7 => ?_) (fun c7 => ?_)
      · have h := h.1 c7
        refine nz_aload_n F dX6_findingBetween_35 rfl 0 rfl ?_
        refine nz_iload_n F dX6_findingBetween_36 rfl 1 rfl ?_
        refine nz_iload_n F dX6_findingBetween_37 rfl 2 rfl ?_
        refine nz_iload F dX6_findingBetween_38 5 rfl ?_
        refine k_X6_holds o ai a1 a2 bi f1 f2 it v1 v2 v5 (fun hM => nz_runV F gX6_findingBetween_X6_holds rfl hd_X6_holds rfl hM dX6_findingBetween_40 [0, 1, 2, 3, 4, 5, 6, 7, 8, 9, 10, 11] rfl rfl 0 rfl rfl rfl (Nat.le_of_ble_eq_true rfl) rfl) h (([(o, .inr (6, [.ref ai, .ref a1, .ref a2])), (a1, .inl (nz_cI g, 8, .inl f1)), (a2, .inl (nz_cI g, 8, .inl f2)), (ai, .inl (nz_cA g, 8, .inr (.inr (.inr (.inr (fun j => some (bi j)))))))] ++ nz_pool g bi it)) (rfl) (fun q8 h => ?_)
        refine nz_if_eq (tgt := 62) F dX6_findingBetween_43 (by decide) (fun c9 => ?_) (fun c9 => ?_)
        · have h := h.1 c9
          refine nz_iconst (v := 2) F dX6_findingBetween_62 (by decide) ?_
          exact nz_iret F hQ () h rfl dX6_findingBetween_63
        · have h := h.2 c9
          refine nz_aload_n F dX6_findingBetween_46 rfl 0 rfl ?_
          refine nz_iload_n F dX6_findingBetween_47 rfl 3 rfl ?_
          refine nz_iload F dX6_findingBetween_48 4 rfl ?_
          refine nz_iload F dX6_findingBetween_50 5 rfl ?_
          refine k_X6_holds o ai a1 a2 bi f1 f2 it v3 v4 v5 (fun hM => nz_runV F gX6_findingBetween_X6_holds rfl hd_X6_holds rfl hM dX6_findingBetween_52 [0, 1, 2, 3, 4, 5, 6, 7, 8, 9, 10, 11] rfl rfl 0 rfl rfl rfl (Nat.le_of_ble_eq_true rfl) rfl) h (([(o, .inr (6, [.ref ai, .ref a1, .ref a2])), (a1, .inl (nz_cI g, 8, .inl f1)), (a2, .inl (nz_cI g, 8, .inl f2)), (ai, .inl (nz_cA g, 8, .inr (.inr (.inr (.inr (fun j => some (bi j)))))))] ++ nz_pool g bi it)) (rfl) (fun q10 h => ?_)
          refine nz_if_eq (tgt := 62) F dX6_findingBetween_55 (by decide) (fun c11 => ?_) (fun c11 => ?_)
          · have h := h.1 c11
            refine nz_iconst (v := 2) F dX6_findingBetween_62 (by decide) ?_
            exact nz_iret F hQ () h rfl dX6_findingBetween_63
          · have h := h.2 c11
            refine nz_iconst (v := 0) F dX6_findingBetween_58 (by decide) ?_
            refine nz_goto (tgt := 63) F dX6_findingBetween_59 (by decide) ?_
            exact nz_iret F hQ () h rfl dX6_findingBetween_63
      · have h := h.2 c7
        refine nz_iconst (v := 5) F dX6_findingBetween_33 (by decide) ?_
        exact nz_iret F hQ () h rfl dX6_findingBetween_34
    · have h := h.2 c4
      refine nz_iconst (v := 1) F dX6_findingBetween_16 (by decide) ?_
      exact nz_iret F hQ () h rfl dX6_findingBetween_17
theorem k_X6_findingBetween {y : nz_Y} {g : nz_G} {k n : Nat} {ws : va_W} {pc : Nat} {ls : List (Nat × Value)} {st rest : List Value} {av : Array Value} {isC : List Nat} {K : Int32 → Prop} (o : Nat) (ai : Nat) (a1 : Nat) (a2 : Nat) (bi : Nat → Nat) (f1 : Nat → Int32) (f2 : Nat → Int32) (it : Nat → Nat → Int32) (v1 : Int32) (v2 : Int32) (v3 : Int32) (v4 : Int32) (v5 : Int32) (run : nz_M (yz_l y) yX6_findingBetween wsX6_findingBetween rm_X6_findingBetween g [.ref o, .int v1, .int v2, .int v3, .int v4, .int v5] ([(o, .inr (6, [.ref ai, .ref a1, .ref a2])), (a1, .inl (nz_cI g, 8, .inl f1)), (a2, .inl (nz_cI g, 8, .inl f2)), (ai, .inl (nz_cA g, 8, .inr (.inr (.inr (.inr (fun j => some (bi j)))))))] ++ nz_pool g bi it) (nz_Qi g ([(o, .inr (6, [.ref ai, .ref a1, .ref a2])), (a1, .inl (nz_cI g, 8, .inl f1)), (a2, .inl (nz_cI g, 8, .inl f2)), (ai, .inl (nz_cA g, 8, .inr (.inr (.inr (.inr (fun j => some (bi j)))))))] ++ nz_pool g bi it) (fun r (u : Unit) => K r) (fun u => ([(o, .inr (6, [.ref ai, .ref a1, .ref a2])), (a1, .inl (nz_cI g, 8, .inl f1)), (a2, .inl (nz_cI g, 8, .inl f2)), (ai, .inl (nz_cA g, 8, .inr (.inr (.inr (.inr (fun j => some (bi j)))))))] ++ nz_pool g bi it))) → nz_C y g k n ws pc ls st rest ([(o, .inr (6, [.ref ai, .ref a1, .ref a2])), (a1, .inl (nz_cI g, 8, .inl f1)), (a2, .inl (nz_cI g, 8, .inl f2)), (ai, .inl (nz_cA g, 8, .inr (.inr (.inr (.inr (fun j => some (bi j)))))))] ++ nz_pool g bi it) (nz_Qi g ([(o, .inr (6, [.ref ai, .ref a1, .ref a2])), (a1, .inl (nz_cI g, 8, .inl f1)), (a2, .inl (nz_cI g, 8, .inl f2)), (ai, .inl (nz_cA g, 8, .inr (.inr (.inr (.inr (fun j => some (bi j)))))))] ++ nz_pool g bi it) (fun r (u : Unit) => K r) (fun u => ([(o, .inr (6, [.ref ai, .ref a1, .ref a2])), (a1, .inl (nz_cI g, 8, .inl f1)), (a2, .inl (nz_cI g, 8, .inl f2)), (ai, .inl (nz_cA g, 8, .inr (.inr (.inr (.inr (fun j => some (bi j)))))))] ++ nz_pool g bi it))) av isC) (h : wp_X6_findingBetween f1 f2 v1 v2 v3 v4 v5 K) (ws' : va_W) (hm : nz_mrg ws isC ([(o, .inr (6, [.ref ai, .ref a1, .ref a2])), (a1, .inl (nz_cI g, 8, .inl f1)), (a2, .inl (nz_cI g, 8, .inl f2)), (ai, .inl (nz_cA g, 8, .inr (.inr (.inr (.inr (fun j => some (bi j)))))))] ++ nz_pool g bi it) = ws' ) (kk : ∀ (r : Int32), K r → nz_V y g k n ws' (pc + 3) ls (.int r :: rest)) : nz_V y g k n ws pc ls st :=
  nz_ci (ws' := fun _ => ws') (run (c_X6_findingBetween (yz_l y) g o ai a1 a2 bi f1 f2 it v1 v2 v3 v4 v5 K h)) (fun _ => rfl) (fun _ => hm) (fun r u h => kk r h)
theorem dX6_item_0 : decode cX6_item 0 = .ok (.aload_n 0, 1) := by decide +kernel
theorem dX6_item_1 : decode cX6_item 1 = .ok (.getfield 13, 3) := by decide +kernel
theorem dX6_item_4 : decode cX6_item 4 = .ok (.iload_n 1, 1) := by decide +kernel
theorem dX6_item_5 : decode cX6_item 5 = .ok (.aaload, 1) := by decide +kernel
theorem dX6_item_6 : decode cX6_item 6 = .ok (.iload_n 2, 1) := by decide +kernel
theorem dX6_item_7 : decode cX6_item 7 = .ok (.iaload, 1) := by decide +kernel
theorem dX6_item_8 : decode cX6_item 8 = .ok (.ireturn, 1) := by decide +kernel
/-! X6_item -/
abbrev rm_X6_item : Room := { frames := 0, cells := 0, slots := 0, locals := 0 }
theorem iw_X6_item_6 : ∀ w ∈ wsX60, w ∈ wsX6_item := fun _ h => List.mem_cons_of_mem _ (List.mem_append_right _ h)
theorem fl_X6_item_13 : Cond.fieldLink RX6 13 "NightStones$Rows" "items" "[[I" ∈ wsX6_item := List.mem_of_getElem? (i := 1) rfl
def wp_X6_item (it : Nat → Nat → Int32) (v1 : Int32) (v2 : Int32) (K : Int32 → Prop) : Prop := (vp_in v1 8 ∧ (vp_in v2 40 ∧ K (it v1.toNatClampNeg v2.toNatClampNeg)))
set_option maxHeartbeats 4000000 in
set_option maxRecDepth 100000 in
theorem c_X6_item (l : Launch) (g : nz_G) (o : Nat) (ai : Nat) (a1 : Nat) (a2 : Nat) (bi : Nat → Nat) (f1 : Nat → Int32) (f2 : Nat → Int32) (it : Nat → Nat → Int32) (v1 : Int32) (v2 : Int32) (K : Int32 → Prop) (h : wp_X6_item it v1 v2 K) : nz_M l yX6_item wsX6_item rm_X6_item g [.ref o, .int v1, .int v2] ([(o, .inr (6, [.ref ai, .ref a1, .ref a2])), (a1, .inl (nz_cI g, 8, .inl f1)), (a2, .inl (nz_cI g, 8, .inl f2)), (ai, .inl (nz_cA g, 8, .inr (.inr (.inr (.inr (fun j => some (bi j)))))))] ++ nz_pool g bi it) (nz_Qi g ([(o, .inr (6, [.ref ai, .ref a1, .ref a2])), (a1, .inl (nz_cI g, 8, .inl f1)), (a2, .inl (nz_cI g, 8, .inl f2)), (ai, .inl (nz_cA g, 8, .inr (.inr (.inr (.inr (fun j => some (bi j)))))))] ++ nz_pool g bi it) (fun r (u : Unit) => K r) (fun u => ([(o, .inr (6, [.ref ai, .ref a1, .ref a2])), (a1, .inl (nz_cI g, 8, .inl f1)), (a2, .inl (nz_cI g, 8, .inl f2)), (ai, .inl (nz_cA g, 8, .inr (.inr (.inr (.inr (fun j => some (bi j)))))))] ++ nz_pool g bi it))) := by
  refine nz_M.of (bytes := cX6_item) (nL := 3) (ret := (some .int)) (own := RX6) (by decide) rfl rfl ⟨rfl, rfl⟩ rfl ?_
  intro y F hl hQ
  obtain ⟨sz, hQ⟩ := hQ
  refine nz_ent (lv' := [(0, .ref o), (1, .int v1), (2, .int v2)]) rfl ?_
  unfold wp_X6_item at h
  refine nz_aload_n F dX6_item_0 rfl 0 rfl ?_
  refine nz_get F iw_X6_item_6 0 rfl rfl 0 (by decide) rfl fl_X6_item_13 rfl dX6_item_1 ?_
  refine nz_iload_n F dX6_item_4 rfl 1 rfl ?_
  obtain ⟨i1, h⟩ := h
  refine nz_paald (b := (bi v1.toNatClampNeg)) F 3 rfl i1 rfl dX6_item_5 ?_
  refine nz_iload_n F dX6_item_6 rfl 2 rfl ?_
  obtain ⟨i2, h⟩ := h
  refine nz_piald F [(o, .inr (6, [.ref ai, .ref a1, .ref a2])), (a1, .inl (nz_cI g, 8, .inl f1)), (a2, .inl (nz_cI g, 8, .inl f2)), (ai, .inl (nz_cA g, 8, .inr (.inr (.inr (.inr (fun j => some (bi j)))))))] rfl (nz_pin i1) i2 dX6_item_7 ?_
  exact nz_iret F hQ () h rfl dX6_item_8
theorem k_X6_item {y : nz_Y} {g : nz_G} {k n : Nat} {ws : va_W} {pc : Nat} {ls : List (Nat × Value)} {st rest : List Value} {av : Array Value} {isC : List Nat} {K : Int32 → Prop} (o : Nat) (ai : Nat) (a1 : Nat) (a2 : Nat) (bi : Nat → Nat) (f1 : Nat → Int32) (f2 : Nat → Int32) (it : Nat → Nat → Int32) (v1 : Int32) (v2 : Int32) (run : nz_M (yz_l y) yX6_item wsX6_item rm_X6_item g [.ref o, .int v1, .int v2] ([(o, .inr (6, [.ref ai, .ref a1, .ref a2])), (a1, .inl (nz_cI g, 8, .inl f1)), (a2, .inl (nz_cI g, 8, .inl f2)), (ai, .inl (nz_cA g, 8, .inr (.inr (.inr (.inr (fun j => some (bi j)))))))] ++ nz_pool g bi it) (nz_Qi g ([(o, .inr (6, [.ref ai, .ref a1, .ref a2])), (a1, .inl (nz_cI g, 8, .inl f1)), (a2, .inl (nz_cI g, 8, .inl f2)), (ai, .inl (nz_cA g, 8, .inr (.inr (.inr (.inr (fun j => some (bi j)))))))] ++ nz_pool g bi it) (fun r (u : Unit) => K r) (fun u => ([(o, .inr (6, [.ref ai, .ref a1, .ref a2])), (a1, .inl (nz_cI g, 8, .inl f1)), (a2, .inl (nz_cI g, 8, .inl f2)), (ai, .inl (nz_cA g, 8, .inr (.inr (.inr (.inr (fun j => some (bi j)))))))] ++ nz_pool g bi it))) → nz_C y g k n ws pc ls st rest ([(o, .inr (6, [.ref ai, .ref a1, .ref a2])), (a1, .inl (nz_cI g, 8, .inl f1)), (a2, .inl (nz_cI g, 8, .inl f2)), (ai, .inl (nz_cA g, 8, .inr (.inr (.inr (.inr (fun j => some (bi j)))))))] ++ nz_pool g bi it) (nz_Qi g ([(o, .inr (6, [.ref ai, .ref a1, .ref a2])), (a1, .inl (nz_cI g, 8, .inl f1)), (a2, .inl (nz_cI g, 8, .inl f2)), (ai, .inl (nz_cA g, 8, .inr (.inr (.inr (.inr (fun j => some (bi j)))))))] ++ nz_pool g bi it) (fun r (u : Unit) => K r) (fun u => ([(o, .inr (6, [.ref ai, .ref a1, .ref a2])), (a1, .inl (nz_cI g, 8, .inl f1)), (a2, .inl (nz_cI g, 8, .inl f2)), (ai, .inl (nz_cA g, 8, .inr (.inr (.inr (.inr (fun j => some (bi j)))))))] ++ nz_pool g bi it))) av isC) (h : wp_X6_item it v1 v2 K) (ws' : va_W) (hm : nz_mrg ws isC ([(o, .inr (6, [.ref ai, .ref a1, .ref a2])), (a1, .inl (nz_cI g, 8, .inl f1)), (a2, .inl (nz_cI g, 8, .inl f2)), (ai, .inl (nz_cA g, 8, .inr (.inr (.inr (.inr (fun j => some (bi j)))))))] ++ nz_pool g bi it) = ws' ) (kk : ∀ (r : Int32), K r → nz_V y g k n ws' (pc + 3) ls (.int r :: rest)) : nz_V y g k n ws pc ls st :=
  nz_ci (ws' := fun _ => ws') (run (c_X6_item (yz_l y) g o ai a1 a2 bi f1 f2 it v1 v2 K h)) (fun _ => rfl) (fun _ => hm) (fun r u h => kk r h)
theorem dX6_put_0 : decode cX6_put 0 = .ok (.iload_n 3, 1) := by decide +kernel
theorem dX6_put_1 : decode cX6_put 1 = .ok (.istore 4, 2) := by decide +kernel
theorem dX6_put_3 : decode cX6_put 3 = .ok (.aload_n 0, 1) := by decide +kernel
theorem dX6_put_4 : decode cX6_put 4 = .ok (.getfield 16, 3) := by decide +kernel
theorem dX6_put_7 : decode cX6_put 7 = .ok (.iload_n 1, 1) := by decide +kernel
theorem dX6_put_8 : decode cX6_put 8 = .ok (.iaload, 1) := by decide +kernel
theorem dX6_put_9 : decode cX6_put 9 = .ok (.ifCond .ne 10, 3) := by decide +kernel
theorem dX6_put_12 : decode cX6_put 12 = .ok (.iload_n 3, 1) := by decide +kernel
theorem dX6_put_13 : decode cX6_put 13 = .ok (.i2b, 1) := by decide +kernel
theorem dX6_put_14 : decode cX6_put 14 = .ok (.istore 4, 2) := by decide +kernel
theorem dX6_put_16 : decode cX6_put 16 = .ok (.goto 17, 3) := by decide +kernel
theorem dX6_put_19 : decode cX6_put 19 = .ok (.aload_n 0, 1) := by decide +kernel
theorem dX6_put_20 : decode cX6_put 20 = .ok (.getfield 16, 3) := by decide +kernel
theorem dX6_put_23 : decode cX6_put 23 = .ok (.iload_n 1, 1) := by decide +kernel
theorem dX6_put_24 : decode cX6_put 24 = .ok (.iaload, 1) := by decide +kernel
theorem dX6_put_25 : decode cX6_put 25 = .ok (.iconst 1, 1) := by decide +kernel
theorem dX6_put_26 : decode cX6_put 26 = .ok (.if_icmp .ne 7, 3) := by decide +kernel
theorem dX6_put_29 : decode cX6_put 29 = .ok (.iload_n 3, 1) := by decide +kernel
theorem dX6_put_30 : decode cX6_put 30 = .ok (.i2s, 1) := by decide +kernel
theorem dX6_put_31 : decode cX6_put 31 = .ok (.istore 4, 2) := by decide +kernel
theorem dX6_put_33 : decode cX6_put 33 = .ok (.aload_n 0, 1) := by decide +kernel
theorem dX6_put_34 : decode cX6_put 34 = .ok (.getfield 13, 3) := by decide +kernel
theorem dX6_put_37 : decode cX6_put 37 = .ok (.iload_n 1, 1) := by decide +kernel
theorem dX6_put_38 : decode cX6_put 38 = .ok (.aaload, 1) := by decide +kernel
theorem dX6_put_39 : decode cX6_put 39 = .ok (.iload_n 2, 1) := by decide +kernel
theorem dX6_put_40 : decode cX6_put 40 = .ok (.iload 4, 2) := by decide +kernel
theorem dX6_put_42 : decode cX6_put 42 = .ok (.iastore, 1) := by decide +kernel
theorem dX6_put_43 : decode cX6_put 43 = .ok (.iload 4, 2) := by decide +kernel
theorem dX6_put_45 : decode cX6_put 45 = .ok (.ireturn, 1) := by decide +kernel
/-! X6_put -/
abbrev rm_X6_put : Room := { frames := 0, cells := 0, slots := 0, locals := 0 }
theorem iw_X6_put_6 : ∀ w ∈ wsX60, w ∈ wsX6_put := fun _ h => List.mem_cons_of_mem _ (List.mem_append_right _ h)
theorem fl_X6_put_16 : Cond.fieldLink RX6 16 "NightStones$Rows" "lanes" "[I" ∈ wsX6_put := List.mem_of_getElem? (i := 1) rfl
theorem fl_X6_put_13 : Cond.fieldLink RX6 13 "NightStones$Rows" "items" "[[I" ∈ wsX6_put := List.mem_of_getElem? (i := 2) rfl
def S_X6_put_33 (v1 : Int32) (v2 : Int32) (x4 : Int32) (it : Nat → Nat → Int32) (K : Int32 → (Nat → Nat → Int32) → Prop) : Prop := (vp_in v1 8 ∧ (vp_in v2 40 ∧ K x4 (va_up it v1.toNatClampNeg (upd (it v1.toNatClampNeg) v2.toNatClampNeg x4))))
set_option maxHeartbeats 4000000 in
set_option maxRecDepth 100000 in
theorem t_X6_put_33 {y : nz_Y} {g : nz_G} (F : nz_F y g cX6_put 5 wsX6_put RX6 (some .int) rm_X6_put) {wc0 : va_W} {sz : Nat} {K : Int32 → (Nat → Nat → Int32) → Prop} (o : Nat) (ai : Nat) (a1 : Nat) (a2 : Nat) (bi : Nat → Nat) (f1 : Nat → Int32) (f2 : Nat → Int32) (v1 : Int32) (v2 : Int32) (v3 : Int32) (x4 : Int32) (it : Nat → Nat → Int32) (hQ : yz_A y = va_A wc0 sz ∧ yz_Q y = MQ (yz_b y) ((nz_Qi g wc0 (fun r (u : (Nat → Nat → Int32)) => K r u) (fun u => ([(o, .inr (6, [.ref ai, .ref a1, .ref a2])), (a1, .inl (nz_cI g, 8, .inl f1)), (a2, .inl (nz_cI g, 8, .inl f2)), (ai, .inl (nz_cA g, 8, .inr (.inr (.inr (.inr (fun j => some (bi j)))))))] ++ nz_pool g bi u))) sz) (yz_a y) (yz_s y) 0 0 (va_A wc0 sz)) : S_X6_put_33 v1 v2 x4 it K → nz_V y g 0 0 ([(o, .inr (6, [.ref ai, .ref a1, .ref a2])), (a1, .inl (nz_cI g, 8, .inl f1)), (a2, .inl (nz_cI g, 8, .inl f2)), (ai, .inl (nz_cA g, 8, .inr (.inr (.inr (.inr (fun j => some (bi j)))))))] ++ nz_pool g bi it) 33 [(0, .ref o), (1, .int v1), (2, .int v2), (4, .int x4)] [] := by
  intro h
  unfold S_X6_put_33 at h
  refine nz_aload_n F dX6_put_33 rfl 0 rfl ?_
  refine nz_get F iw_X6_put_6 0 rfl rfl 0 (by decide) rfl fl_X6_put_13 rfl dX6_put_34 ?_
  refine nz_iload_n F dX6_put_37 rfl 1 rfl ?_
  obtain ⟨i5, h⟩ := h
  refine nz_paald (b := (bi v1.toNatClampNeg)) F 3 rfl i5 rfl dX6_put_38 ?_
  refine nz_iload_n F dX6_put_39 rfl 2 rfl ?_
  refine nz_iload F dX6_put_40 3 rfl ?_
  obtain ⟨i6, h⟩ := h
  refine nz_piast F [(o, .inr (6, [.ref ai, .ref a1, .ref a2])), (a1, .inl (nz_cI g, 8, .inl f1)), (a2, .inl (nz_cI g, 8, .inl f2)), (ai, .inl (nz_cA g, 8, .inr (.inr (.inr (.inr (fun j => some (bi j)))))))] rfl (nz_pin i5) i6 dX6_put_42 ?_
  refine nz_iload F dX6_put_43 3 rfl ?_
  exact nz_iret F hQ (va_up it v1.toNatClampNeg (upd (it v1.toNatClampNeg) v2.toNatClampNeg x4)) h rfl dX6_put_45
def wp_X6_put (f1 : Nat → Int32) (it : Nat → Nat → Int32) (v1 : Int32) (v2 : Int32) (v3 : Int32) (K : Int32 → (Nat → Nat → Int32) → Prop) : Prop := (vp_in v1 8 ∧ ((¬ (f1 v1.toNatClampNeg) = 0 → (vp_in v1 8 ∧ ((¬ (f1 v1.toNatClampNeg) = 1 → S_X6_put_33 v1 v2 v3 it K) ∧ ((f1 v1.toNatClampNeg) = 1 → S_X6_put_33 v1 v2 ((v3 : Int32).toInt16.toInt32) it K)))) ∧ ((f1 v1.toNatClampNeg) = 0 → S_X6_put_33 v1 v2 ((v3 : Int32).toInt8.toInt32) it K)))
set_option maxHeartbeats 4000000 in
set_option maxRecDepth 100000 in
theorem c_X6_put (l : Launch) (g : nz_G) (o : Nat) (ai : Nat) (a1 : Nat) (a2 : Nat) (bi : Nat → Nat) (f1 : Nat → Int32) (f2 : Nat → Int32) (it : Nat → Nat → Int32) (v1 : Int32) (v2 : Int32) (v3 : Int32) (K : Int32 → (Nat → Nat → Int32) → Prop) (h : wp_X6_put f1 it v1 v2 v3 K) : nz_M l yX6_put wsX6_put rm_X6_put g [.ref o, .int v1, .int v2, .int v3] ([(o, .inr (6, [.ref ai, .ref a1, .ref a2])), (a1, .inl (nz_cI g, 8, .inl f1)), (a2, .inl (nz_cI g, 8, .inl f2)), (ai, .inl (nz_cA g, 8, .inr (.inr (.inr (.inr (fun j => some (bi j)))))))] ++ nz_pool g bi it) (nz_Qi g ([(o, .inr (6, [.ref ai, .ref a1, .ref a2])), (a1, .inl (nz_cI g, 8, .inl f1)), (a2, .inl (nz_cI g, 8, .inl f2)), (ai, .inl (nz_cA g, 8, .inr (.inr (.inr (.inr (fun j => some (bi j)))))))] ++ nz_pool g bi it) (fun r (u : (Nat → Nat → Int32)) => K r u) (fun u => ([(o, .inr (6, [.ref ai, .ref a1, .ref a2])), (a1, .inl (nz_cI g, 8, .inl f1)), (a2, .inl (nz_cI g, 8, .inl f2)), (ai, .inl (nz_cA g, 8, .inr (.inr (.inr (.inr (fun j => some (bi j)))))))] ++ nz_pool g bi u))) := by
  refine nz_M.of (bytes := cX6_put) (nL := 5) (ret := (some .int)) (own := RX6) (by decide) rfl rfl ⟨rfl, rfl⟩ rfl ?_
  intro y F hl hQ
  obtain ⟨sz, hQ⟩ := hQ
  refine nz_ent (lv' := [(0, .ref o), (1, .int v1), (2, .int v2), (3, .int v3)]) rfl ?_
  unfold wp_X6_put at h
  refine nz_iload_n F dX6_put_0 rfl 3 rfl ?_
  refine nz_istore (lv' := [(4, .int v3), (0, .ref o), (1, .int v1), (2, .int v2), (3, .int v3)]) F dX6_put_1 (by decide) rfl ?_
  refine nz_aload_n F dX6_put_3 rfl 1 rfl ?_
  refine nz_get F iw_X6_put_6 0 rfl rfl 1 (by decide) rfl fl_X6_put_16 rfl dX6_put_4 ?_
  refine nz_iload_n F dX6_put_7 rfl 2 rfl ?_
  obtain ⟨i1, h⟩ := h
  refine nz_iald F 1 rfl i1 dX6_put_8 ?_
  refine nz_if_ne (tgt := 19) F dX6_put_9 (by decide) (fun c2 => ?_) (fun c2 => ?_)
  · have h := h.1 c2
    refine nz_aload_n F dX6_put_19 rfl 1 rfl ?_
    refine nz_get F iw_X6_put_6 0 rfl rfl 1 (by decide) rfl fl_X6_put_16 rfl dX6_put_20 ?_
    refine nz_iload_n F dX6_put_23 rfl 2 rfl ?_
    obtain ⟨i3, h⟩ := h
    refine nz_iald F 1 rfl i3 dX6_put_24 ?_
    refine nz_iconst (v := 1) F dX6_put_25 (by decide) ?_
    refine nz_icmp_ne (tgt := 33) F dX6_put_26 (by decide) (fun c4 => ?_) (fun c4 => ?_)
    · have h := h.1 c4
      refine nz_ls (lv' := [(0, .ref o), (1, .int v1), (2, .int v2), (4, .int v3)]) [1, 2, 3, 0] rfl ?_
      exact t_X6_put_33 F o ai a1 a2 bi f1 f2 v1 v2 v3 v3 it hQ h
    · have h := h.2 c4
      refine nz_iload_n F dX6_put_29 rfl 4 rfl ?_
      refine nz_i2s (v := ((v3 : Int32).toInt16.toInt32)) F dX6_put_30 rfl ?_
      refine nz_istore (lv' := [(4, .int ((v3 : Int32).toInt16.toInt32)), (0, .ref o), (1, .int v1), (2, .int v2), (3, .int v3)]) F dX6_put_31 (by decide) rfl ?_
      refine nz_ls (lv' := [(0, .ref o), (1, .int v1), (2, .int v2), (4, .int ((v3 : Int32).toInt16.toInt32))]) [1, 2, 3, 0] rfl ?_
      exact t_X6_put_33 F o ai a1 a2 bi f1 f2 v1 v2 v3 ((v3 : Int32).toInt16.toInt32) it hQ h
  · have h := h.2 c2
    refine nz_iload_n F dX6_put_12 rfl 4 rfl ?_
    refine nz_i2b (v := ((v3 : Int32).toInt8.toInt32)) F dX6_put_13 rfl ?_
    refine nz_istore (lv' := [(4, .int ((v3 : Int32).toInt8.toInt32)), (0, .ref o), (1, .int v1), (2, .int v2), (3, .int v3)]) F dX6_put_14 (by decide) rfl ?_
    refine nz_goto (tgt := 33) F dX6_put_16 (by decide) ?_
    refine nz_ls (lv' := [(0, .ref o), (1, .int v1), (2, .int v2), (4, .int ((v3 : Int32).toInt8.toInt32))]) [1, 2, 3, 0] rfl ?_
    exact t_X6_put_33 F o ai a1 a2 bi f1 f2 v1 v2 v3 ((v3 : Int32).toInt8.toInt32) it hQ h
theorem k_X6_put {y : nz_Y} {g : nz_G} {k n : Nat} {ws : va_W} {pc : Nat} {ls : List (Nat × Value)} {st rest : List Value} {av : Array Value} {isC : List Nat} {K : Int32 → (Nat → Nat → Int32) → Prop} (o : Nat) (ai : Nat) (a1 : Nat) (a2 : Nat) (bi : Nat → Nat) (f1 : Nat → Int32) (f2 : Nat → Int32) (it : Nat → Nat → Int32) (v1 : Int32) (v2 : Int32) (v3 : Int32) (run : nz_M (yz_l y) yX6_put wsX6_put rm_X6_put g [.ref o, .int v1, .int v2, .int v3] ([(o, .inr (6, [.ref ai, .ref a1, .ref a2])), (a1, .inl (nz_cI g, 8, .inl f1)), (a2, .inl (nz_cI g, 8, .inl f2)), (ai, .inl (nz_cA g, 8, .inr (.inr (.inr (.inr (fun j => some (bi j)))))))] ++ nz_pool g bi it) (nz_Qi g ([(o, .inr (6, [.ref ai, .ref a1, .ref a2])), (a1, .inl (nz_cI g, 8, .inl f1)), (a2, .inl (nz_cI g, 8, .inl f2)), (ai, .inl (nz_cA g, 8, .inr (.inr (.inr (.inr (fun j => some (bi j)))))))] ++ nz_pool g bi it) (fun r (u : (Nat → Nat → Int32)) => K r u) (fun u => ([(o, .inr (6, [.ref ai, .ref a1, .ref a2])), (a1, .inl (nz_cI g, 8, .inl f1)), (a2, .inl (nz_cI g, 8, .inl f2)), (ai, .inl (nz_cA g, 8, .inr (.inr (.inr (.inr (fun j => some (bi j)))))))] ++ nz_pool g bi u))) → nz_C y g k n ws pc ls st rest ([(o, .inr (6, [.ref ai, .ref a1, .ref a2])), (a1, .inl (nz_cI g, 8, .inl f1)), (a2, .inl (nz_cI g, 8, .inl f2)), (ai, .inl (nz_cA g, 8, .inr (.inr (.inr (.inr (fun j => some (bi j)))))))] ++ nz_pool g bi it) (nz_Qi g ([(o, .inr (6, [.ref ai, .ref a1, .ref a2])), (a1, .inl (nz_cI g, 8, .inl f1)), (a2, .inl (nz_cI g, 8, .inl f2)), (ai, .inl (nz_cA g, 8, .inr (.inr (.inr (.inr (fun j => some (bi j)))))))] ++ nz_pool g bi it) (fun r (u : (Nat → Nat → Int32)) => K r u) (fun u => ([(o, .inr (6, [.ref ai, .ref a1, .ref a2])), (a1, .inl (nz_cI g, 8, .inl f1)), (a2, .inl (nz_cI g, 8, .inl f2)), (ai, .inl (nz_cA g, 8, .inr (.inr (.inr (.inr (fun j => some (bi j)))))))] ++ nz_pool g bi u))) av isC) (h : wp_X6_put f1 it v1 v2 v3 K) (ws' : (Nat → Nat → Int32) → va_W) (hm : ∀ (m0 : (Nat → Nat → Int32)), nz_mrg ws isC ([(o, .inr (6, [.ref ai, .ref a1, .ref a2])), (a1, .inl (nz_cI g, 8, .inl f1)), (a2, .inl (nz_cI g, 8, .inl f2)), (ai, .inl (nz_cA g, 8, .inr (.inr (.inr (.inr (fun j => some (bi j)))))))] ++ nz_pool g bi m0) = ws' m0) (kk : ∀ (r : Int32) (m0 : (Nat → Nat → Int32)), K r m0 → nz_V y g k n (ws' m0) (pc + 3) ls (.int r :: rest)) : nz_V y g k n ws pc ls st :=
  nz_ci (ws' := fun u => ws' u) (run (c_X6_put (yz_l y) g o ai a1 a2 bi f1 f2 it v1 v2 v3 K h)) (fun _ => rfl) (fun u => hm u) (fun r u h => kk r u h)
theorem dX6_carryOver_0 : decode cX6_carryOver 0 = .ok (.aload_n 0, 1) := by decide +kernel
theorem dX6_carryOver_1 : decode cX6_carryOver 1 = .ok (.getfield 13, 3) := by decide +kernel
theorem dX6_carryOver_4 : decode cX6_carryOver 4 = .ok (.iload_n 1, 1) := by decide +kernel
theorem dX6_carryOver_5 : decode cX6_carryOver 5 = .ok (.aaload, 1) := by decide +kernel
theorem dX6_carryOver_6 : decode cX6_carryOver 6 = .ok (.iload_n 2, 1) := by decide +kernel
theorem dX6_carryOver_7 : decode cX6_carryOver 7 = .ok (.aload_n 0, 1) := by decide +kernel
theorem dX6_carryOver_8 : decode cX6_carryOver 8 = .ok (.getfield 13, 3) := by decide +kernel
theorem dX6_carryOver_11 : decode cX6_carryOver 11 = .ok (.iload_n 3, 1) := by decide +kernel
theorem dX6_carryOver_12 : decode cX6_carryOver 12 = .ok (.aaload, 1) := by decide +kernel
theorem dX6_carryOver_13 : decode cX6_carryOver 13 = .ok (.iload 4, 2) := by decide +kernel
theorem dX6_carryOver_15 : decode cX6_carryOver 15 = .ok (.iload 5, 2) := by decide +kernel
theorem dX6_carryOver_17 : decode cX6_carryOver 17 = .ok (.invokestatic 37, 3) := by decide +kernel
theorem dX6_carryOver_20 : decode cX6_carryOver 20 = .ok (.return_, 1) := by decide +kernel
/-! X6_carryOver -/
abbrev rm_X6_carryOver : Room := { frames := 1, cells := 0, slots := 0, locals := 26 }
theorem iw_X6_carryOver_6 : ∀ w ∈ wsX60, w ∈ wsX6_carryOver := fun _ h => List.mem_cons_of_mem _ (List.mem_append_right _ h)
theorem fl_X6_carryOver_13 : Cond.fieldLink RX6 13 "NightStones$Rows" "items" "[[I" ∈ wsX6_carryOver := List.mem_of_getElem? (i := 1) rfl
theorem wd_X6_carryOver_cp0_37 : Cond.methodLink RX6 37 arraycopyName ∈ wsX6_carryOver := List.mem_of_getElem? (i := 2) rfl
theorem wd_X6_carryOver_cp1 : Cond.native arraycopyName ∈ wsX6_carryOver := List.mem_of_getElem? (i := 3) rfl
theorem wd_X6_carryOver_cp2 : Cond.static arraycopyName ∈ wsX6_carryOver := List.mem_of_getElem? (i := 4) rfl
theorem wd_X6_carryOver_cp3 : Cond.initialized "java/lang/System" ∈ wsX6_carryOver := List.mem_of_getElem? (i := 5) rfl
def wp_X6_carryOver (it : Nat → Nat → Int32) (v1 : Int32) (v2 : Int32) (v3 : Int32) (v4 : Int32) (v5 : Int32) (K : (Nat → Nat → Int32) → Prop) : Prop := (vp_in v1 8 ∧ (vp_in v3 8 ∧ ((¬ v2 < 0 ∧ ¬ v4 < 0 ∧ ¬ v5 < 0 ∧ v2.toNatClampNeg + v5.toNatClampNeg ≤ 40 ∧ v4.toNatClampNeg + v5.toNatClampNeg ≤ 40) ∧ K (va_up it v3.toNatClampNeg (va_cpy (it v1.toNatClampNeg) (it v3.toNatClampNeg) v2.toNatClampNeg v4.toNatClampNeg v5.toNatClampNeg)))))
set_option maxHeartbeats 4000000 in
set_option maxRecDepth 100000 in
theorem c_X6_carryOver (l : Launch) (g : nz_G) (o : Nat) (ai : Nat) (a1 : Nat) (a2 : Nat) (bi : Nat → Nat) (f1 : Nat → Int32) (f2 : Nat → Int32) (it : Nat → Nat → Int32) (v1 : Int32) (v2 : Int32) (v3 : Int32) (v4 : Int32) (v5 : Int32) (K : (Nat → Nat → Int32) → Prop) (h : wp_X6_carryOver it v1 v2 v3 v4 v5 K) : nz_M l yX6_carryOver wsX6_carryOver rm_X6_carryOver g [.ref o, .int v1, .int v2, .int v3, .int v4, .int v5] ([(o, .inr (6, [.ref ai, .ref a1, .ref a2])), (a1, .inl (nz_cI g, 8, .inl f1)), (a2, .inl (nz_cI g, 8, .inl f2)), (ai, .inl (nz_cA g, 8, .inr (.inr (.inr (.inr (fun j => some (bi j)))))))] ++ nz_pool g bi it) (nz_Qv g ([(o, .inr (6, [.ref ai, .ref a1, .ref a2])), (a1, .inl (nz_cI g, 8, .inl f1)), (a2, .inl (nz_cI g, 8, .inl f2)), (ai, .inl (nz_cA g, 8, .inr (.inr (.inr (.inr (fun j => some (bi j)))))))] ++ nz_pool g bi it) (fun (u : (Nat → Nat → Int32)) => K u) (fun u => ([(o, .inr (6, [.ref ai, .ref a1, .ref a2])), (a1, .inl (nz_cI g, 8, .inl f1)), (a2, .inl (nz_cI g, 8, .inl f2)), (ai, .inl (nz_cA g, 8, .inr (.inr (.inr (.inr (fun j => some (bi j)))))))] ++ nz_pool g bi u))) := by
  refine nz_M.of (bytes := cX6_carryOver) (nL := 6) (ret := none) (own := RX6) (by decide) rfl rfl ⟨rfl, rfl⟩ rfl ?_
  intro y F hl hQ
  obtain ⟨sz, hQ⟩ := hQ
  refine nz_ent (lv' := [(0, .ref o), (1, .int v1), (2, .int v2), (3, .int v3), (4, .int v4), (5, .int v5)]) rfl ?_
  unfold wp_X6_carryOver at h
  refine nz_aload_n F dX6_carryOver_0 rfl 0 rfl ?_
  refine nz_get F iw_X6_carryOver_6 0 rfl rfl 0 (by decide) rfl fl_X6_carryOver_13 rfl dX6_carryOver_1 ?_
  refine nz_iload_n F dX6_carryOver_4 rfl 1 rfl ?_
  obtain ⟨i1, h⟩ := h
  refine nz_paald (b := (bi v1.toNatClampNeg)) F 3 rfl i1 rfl dX6_carryOver_5 ?_
  refine nz_iload_n F dX6_carryOver_6 rfl 2 rfl ?_
  refine nz_aload_n F dX6_carryOver_7 rfl 0 rfl ?_
  refine nz_get F iw_X6_carryOver_6 0 rfl rfl 0 (by decide) rfl fl_X6_carryOver_13 rfl dX6_carryOver_8 ?_
  refine nz_iload_n F dX6_carryOver_11 rfl 3 rfl ?_
  obtain ⟨i2, h⟩ := h
  refine nz_paald (b := (bi v3.toNatClampNeg)) F 3 rfl i2 rfl dX6_carryOver_12 ?_
  refine nz_iload F dX6_carryOver_13 4 rfl ?_
  refine nz_iload F dX6_carryOver_15 5 rfl ?_
  obtain ⟨⟨k31, k32, k33, k34, k35⟩, h⟩ := h
  refine nz_pcopy F [(o, .inr (6, [.ref ai, .ref a1, .ref a2])), (a1, .inl (nz_cI g, 8, .inl f1)), (a2, .inl (nz_cI g, 8, .inl f2)), (ai, .inl (nz_cA g, 8, .inr (.inr (.inr (.inr (fun j => some (bi j)))))))] rfl wd_X6_carryOver_cp0_37 wd_X6_carryOver_cp1 wd_X6_carryOver_cp2 wd_X6_carryOver_cp3 (nz_pin i1) (nz_pin i2) k31 k32 k33 k34 k35 rfl (Nat.le_of_ble_eq_true rfl) dX6_carryOver_17 ?_
  exact nz_vret F hQ (va_up it v3.toNatClampNeg (va_cpy (it v1.toNatClampNeg) (it v3.toNatClampNeg) v2.toNatClampNeg v4.toNatClampNeg v5.toNatClampNeg)) h rfl dX6_carryOver_20
theorem k_X6_carryOver {y : nz_Y} {g : nz_G} {k n : Nat} {ws : va_W} {pc : Nat} {ls : List (Nat × Value)} {st rest : List Value} {av : Array Value} {isC : List Nat} {K : (Nat → Nat → Int32) → Prop} (o : Nat) (ai : Nat) (a1 : Nat) (a2 : Nat) (bi : Nat → Nat) (f1 : Nat → Int32) (f2 : Nat → Int32) (it : Nat → Nat → Int32) (v1 : Int32) (v2 : Int32) (v3 : Int32) (v4 : Int32) (v5 : Int32) (run : nz_M (yz_l y) yX6_carryOver wsX6_carryOver rm_X6_carryOver g [.ref o, .int v1, .int v2, .int v3, .int v4, .int v5] ([(o, .inr (6, [.ref ai, .ref a1, .ref a2])), (a1, .inl (nz_cI g, 8, .inl f1)), (a2, .inl (nz_cI g, 8, .inl f2)), (ai, .inl (nz_cA g, 8, .inr (.inr (.inr (.inr (fun j => some (bi j)))))))] ++ nz_pool g bi it) (nz_Qv g ([(o, .inr (6, [.ref ai, .ref a1, .ref a2])), (a1, .inl (nz_cI g, 8, .inl f1)), (a2, .inl (nz_cI g, 8, .inl f2)), (ai, .inl (nz_cA g, 8, .inr (.inr (.inr (.inr (fun j => some (bi j)))))))] ++ nz_pool g bi it) (fun (u : (Nat → Nat → Int32)) => K u) (fun u => ([(o, .inr (6, [.ref ai, .ref a1, .ref a2])), (a1, .inl (nz_cI g, 8, .inl f1)), (a2, .inl (nz_cI g, 8, .inl f2)), (ai, .inl (nz_cA g, 8, .inr (.inr (.inr (.inr (fun j => some (bi j)))))))] ++ nz_pool g bi u))) → nz_C y g k n ws pc ls st rest ([(o, .inr (6, [.ref ai, .ref a1, .ref a2])), (a1, .inl (nz_cI g, 8, .inl f1)), (a2, .inl (nz_cI g, 8, .inl f2)), (ai, .inl (nz_cA g, 8, .inr (.inr (.inr (.inr (fun j => some (bi j)))))))] ++ nz_pool g bi it) (nz_Qv g ([(o, .inr (6, [.ref ai, .ref a1, .ref a2])), (a1, .inl (nz_cI g, 8, .inl f1)), (a2, .inl (nz_cI g, 8, .inl f2)), (ai, .inl (nz_cA g, 8, .inr (.inr (.inr (.inr (fun j => some (bi j)))))))] ++ nz_pool g bi it) (fun (u : (Nat → Nat → Int32)) => K u) (fun u => ([(o, .inr (6, [.ref ai, .ref a1, .ref a2])), (a1, .inl (nz_cI g, 8, .inl f1)), (a2, .inl (nz_cI g, 8, .inl f2)), (ai, .inl (nz_cA g, 8, .inr (.inr (.inr (.inr (fun j => some (bi j)))))))] ++ nz_pool g bi u))) av isC) (h : wp_X6_carryOver it v1 v2 v3 v4 v5 K) (ws' : (Nat → Nat → Int32) → va_W) (hm : ∀ (m0 : (Nat → Nat → Int32)), nz_mrg ws isC ([(o, .inr (6, [.ref ai, .ref a1, .ref a2])), (a1, .inl (nz_cI g, 8, .inl f1)), (a2, .inl (nz_cI g, 8, .inl f2)), (ai, .inl (nz_cA g, 8, .inr (.inr (.inr (.inr (fun j => some (bi j)))))))] ++ nz_pool g bi m0) = ws' m0) (kk : ∀ (m0 : (Nat → Nat → Int32)), K m0 → nz_V y g k n (ws' m0) (pc + 3) ls (rest)) : nz_V y g k n ws pc ls st :=
  nz_cv (ws' := fun u => ws' u) (run (c_X6_carryOver (yz_l y) g o ai a1 a2 bi f1 f2 it v1 v2 v3 v4 v5 K h)) (fun _ => rfl) (fun u => hm u) (fun u h => kk u h)
