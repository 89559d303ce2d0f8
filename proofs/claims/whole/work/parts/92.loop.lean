/-! THE CLAIM OUT OF ONE WALK OF THE LAW'S BODY. Your part is whole_start (and what it stands on); all else here is the same for every law, but numbers. -/
def R_law : String := "NightStonesLaw"
def lw_P (b : Addr) (xs : List Int32) (args : Array Value) (s : State) : Prop := args = #[.ref b] ∧ s.IntsAt b xs ∧ xs.length ≤ 3072 ∧ (Jvm.Cond.and given_1 narrow_1).before args s = true
def lw_Q (_ : Array Value) (s : State) (o : Outcome) (t : State) : Prop := o = .returned (some (.int 1)) ∧ Framed s o t [] 600000 7302249
def lw_Z (below : List Frame) (a : Array Value) (s : State) : State → Prop := fun t => ∃ o, t.status = .running ∧ Ended t below o ∧ lw_Q a s o t
/-- the law's own end, with 1 on the stack, nothing written that was there before, its room as the claim has it -/
theorem lw_ret {p : Program} {l : Launch} {e : Env} {s : State} {m : MethodId} {below : List Frame} {meth : Method} {c : Code} {b : Nat} (hx : p.tables.exec = Jvm.exec) (hb : c.code = code) (hr : meth.sig.returnType = ret) (hlocks : meth.locks = false) {pc : Nat} {H : Heap} {ls : Array Slot} (hdg : decode code pc = .ok (.ireturn, 1)) : W p l e room_1 s m #[Value.ref b] below meth c H [] 600000 7302249 (lw_Z below #[Value.ref b] s) (F0 m pc ls [.int 1]) := by
  intro T hT X
  obtain ⟨fs, hret, hrun, hended, hW, hframe⟩ := X.leave (v := some (.int 1)) (hlocks := hlocks) (fun h => by rw [hr] at h; cases h)
  have hmeth' : T.vm.method? m = some meth := X.method'
  refine ⟨T.setFrames fs, ?_, .returned (some (.int 1)), hrun, hended, rfl, ⟨_, rfl⟩, hW, hframe⟩
  jvm_step X.here [X.here.top, hx, hb, hdg, hmeth', hr, ret, narrow_b1]
  (try refine ⟨rfl, ?_⟩); (try refine ⟨rfl, ?_⟩)
  first | (intro acts; rw [hret _ acts rfl rfl rfl]) | rw [hret _ _ rfl rfl rfl]
  exact Steps.refl _
/-- what holds at the law's entry: the machine, the code, the tables' words (any of lw_tbl by 'hts w (by decide +kernel)'), the script of L ints xs at the cell b, what the Statement gives of the start (any of its parts by flat_of_before) -/
def lw_At (p : Program) (s : State) (m : MethodId) (meth : Method) (c : Code) (b L : Nat) (xs : Nat → Int32) : Prop :=
  p.tables.exec = Jvm.exec ∧ c.code = code ∧ meth.sig.returnType = ret ∧ c.maxLocals = 4 ∧ s.vm.findClass R_law = some m.cls ∧ (∀ w ∈ lw_tbl, w.before #[Value.ref b] s = true) ∧ va_X b L xs s s.heap ∧ b < s.heap.size ∧ meth.locks = false ∧ (Jvm.Cond.and given_1 narrow_1).before #[Value.ref b] s = true
theorem nz_lawle {L i : Nat} (hL : L ≤ 3072) (hi : i ≤ 3072) (h : ¬ nI L - 6 < nI i) : i + 6 ≤ L := by
  rcases Nat.lt_or_ge L (i + 6) with q | q
  · refine absurd ?_ h
    rw [Int32.lt_iff_toInt_lt]
    have e : (nI L - (6 : Int32)).toInt = (L : Int) - 6 := pk_sub_toInt (b := 6) (by omega) (by omega)
    rw [e, nI_toInt (by omega)]
    omega
  · exact q
theorem nz_widen {y : nz_Y} {g : nz_G} {k n k1 n1 : Nat} {ws : va_W} {pc : Nat} {ls : List (Nat × Value)} {st : List Value} (h1 : k ≤ k1) (h2 : n ≤ n1) (h : nz_V y g k1 n1 ws pc ls st) : nz_V y g k n ws pc ls st := fun H locs la hP hD hS hL => W.widen h1 h2 (h H locs la hP hD hS hL)
theorem nz_lend {y : nz_Y} {g : nz_G} {b : Addr} {ws : va_W} {ls : List (Nat × Value)} (F : nz_F y g cL_law 4 wsL_law RL ret room_1) (hA : yz_A y = fun q : Nat => (yz_s y).heap.size ≤ q) (ha : yz_a y = #[Value.ref b]) (hQ : yz_Q y = lw_Z (yz_b y) #[Value.ref b] (yz_s y)) {pc : Nat} (d : decode cL_law pc = .ok (.ireturn, 1)) : nz_V y g 76 2804 ws pc ls [.int 1] := by
  intro H locs la hP hD hS hL
  have hS2 : ∀ q ∈ locs, (yz_s y).heap.size ≤ q.base := fun q hq => by
    have h1 := hS.2.2 q hq
    rw [hA] at h1
    exact h1
  rw [hQ, ha, F.2.2.2.2.2.2.2.2.2.2.2]
  refine va_forget hS2 ?_
  refine W.widen (k := 600000) (n := 7302249) (Nat.le_of_ble_eq_true rfl) (Nat.le_of_ble_eq_true rfl) ?_
  exact lw_ret F.1 F.2.1 F.2.2.2.2.2.2.1 F.2.2.2.2.2.2.2.1 d
set_option maxHeartbeats 4000000 in
set_option maxRecDepth 100000 in
theorem nz_law_loop {y : nz_Y} {g : nz_G} {b : Addr} (F : nz_F y g cL_law 4 wsL_law RL ret room_1) (hA : yz_A y = fun q : Nat => (yz_s y).heap.size ≤ q) (ha : yz_a y = #[Value.ref b]) (hQ : yz_Q y = lw_Z (yz_b y) #[Value.ref b] (yz_s y)) {L : Nat} (hLn : L ≤ 3072) {xs : Nat → Int32} (hX : va_X b L xs (yz_s y) (yz_s y).heap) (hbl : b < (yz_s y).heap.size) {a c : Nat → Nat} : ∀ (n i : Nat) (x3 : Int32), x3 = nI i → L + 1 ≤ i + n → i ≤ L → ∀ X M : Nat → Nat → Int32, nz_Rel X M → nz_V y g 76 2804 (nz_wX g a X ++ nz_wM g c M) 18 [(3, .int x3), (2, .ref (c 0)), (1, .ref (a 0)), (0, .ref b)] [] := by
  have hbA : ¬ yz_A y b := by
    rw [hA]
    exact Nat.not_le.mpr hbl
  intro n
  induction n with
  | zero =>
    intro i x3 _ h1 h2
    exact absurd h1 (by omega)
  | succ n ih =>
    intro i x3 ex h1 h2 X M hR
    refine nz_iload_n F dL_law_18 rfl 0 rfl ?_
    refine nz_aload_n F dL_law_19 rfl 3 rfl ?_
    refine nz_slen F hX hbl hbA dL_law_20 ?_
    refine nz_bipush (v := 6) F dL_law_21 (by decide) ?_
    refine nz_isub F dL_law_23 ?_
    refine nz_icmp_gt (tgt := 1044) F dL_law_24 (by decide) (fun q => ?_) (fun q => ?_)
    · refine nz_iconst (v := 1) F dL_law_1044 (by decide) ?_
      exact nz_lend F hA ha hQ dL_law_1045
    · have hi : i + 6 ≤ L := nz_lawle hLn (by omega) (by rw [← ex]; exact q)
      have hin : ∀ j : Int32, 0 ≤ j → j ≤ 5 → vp_in (x3 + j) L := by
        intro j h3 h4
        obtain ⟨k, hk, rfl⟩ := nI_of2 (M := 5) (n := 5) (by decide) (Int32.not_lt.mpr h3) h4
        rw [ex, nI_add]
        exact vp_in_nI (by omega) (by omega)
      have back : ∀ X1 M1, nz_Rel X1 M1 → nz_V y g 76 2804 (nz_wX g a X1 ++ nz_wM g c M1) 1038 [(3, .int x3), (2, .ref (c 0)), (1, .ref (a 0)), (0, .ref b)] [] := by
        intro X1 M1 hR1
        refine nz_iinc (v := x3 + 6) (j := 0) (lv' := [(3, .int (x3 + 6)), (2, .ref (c 0)), (1, .ref (a 0)), (0, .ref b)]) F dL_law_1038 rfl rfl (by decide) rfl ?_
        refine nz_goto (tgt := 18) F dL_law_1041 (by decide) ?_
        exact ih (i + 6) (x3 + 6) (by rw [ex]; exact nI_add i 6) (by omega) hi X1 M1 hR1
      refine nz_aload_n F dL_law_27 rfl 3 rfl ?_
      refine nz_iload_n F dL_law_28 rfl 0 rfl ?_
      refine nz_sld F hX hbl hbA (by rw [ex]; exact vp_in_nI (by omega) (by omega)) dL_law_29 ?_
      refine nz_bipush (v := 31) F dL_law_30 (by decide) ?_
      refine nz_iand F dL_law_32 ?_
      refine nz_topi (fun v ev => ?_)
      by_cases e0 : v = 0
      · refine nz_tin (tgt := 168) (off := 135) F dL_law_33 (by rw [e0]; decide) (by rw [e0]; decide) (by rw [e0]; rfl) (by decide) ?_
        exact lc_row F hX hbl hbA hR hin back
      by_cases e1 : v = 1
      · refine nz_tin (tgt := 211) (off := 178) F dL_law_33 (by rw [e1]; decide) (by rw [e1]; decide) (by rw [e1]; rfl) (by decide) ?_
        exact lc_set F hX hbl hbA hR hin back
      by_cases e2 : v = 2
      · refine nz_tin (tgt := 254) (off := 221) F dL_law_33 (by rw [e2]; decide) (by rw [e2]; decide) (by rw [e2]; rfl) (by decide) ?_
        exact lc_copy F hX hbl hbA hR hin back
      by_cases e3 : v = 3
      · refine nz_tin (tgt := 317) (off := 284) F dL_law_33 (by rw [e3]; decide) (by rw [e3]; decide) (by rw [e3]; rfl) (by decide) ?_
        exact lc_drop F hX hbl hbA hR hin back
      by_cases e4 : v = 4
      · refine nz_tin (tgt := 340) (off := 307) F dL_law_33 (by rw [e4]; decide) (by rw [e4]; decide) (by rw [e4]; rfl) (by decide) ?_
        exact lc_feed F hX hbl hbA hR hin back
      by_cases e5 : v = 5
      · refine nz_tin (tgt := 403) (off := 370) F dL_law_33 (by rw [e5]; decide) (by rw [e5]; decide) (by rw [e5]; rfl) (by decide) ?_
        exact lc_road F hX hbl hbA hR hin back
      by_cases e6 : v = 6
      · refine nz_tin (tgt := 416) (off := 383) F dL_law_33 (by rw [e6]; decide) (by rw [e6]; decide) (by rw [e6]; rfl) (by decide) ?_
        exact lc_fault F hX hbl hbA hR hin back
      by_cases e7 : v = 7
      · refine nz_tin (tgt := 429) (off := 396) F dL_law_33 (by rw [e7]; decide) (by rw [e7]; decide) (by rw [e7]; rfl) (by decide) ?_
        exact lc_night F hX hbl hbA hR hin back
      by_cases e8 : v = 8
      · refine nz_tin (tgt := 442) (off := 409) F dL_law_33 (by rw [e8]; decide) (by rw [e8]; decide) (by rw [e8]; rfl) (by decide) ?_
        exact lc_prove F hX hbl hbA hR hin back
      by_cases e9 : v = 9
      · refine nz_tin (tgt := 465) (off := 432) F dL_law_33 (by rw [e9]; decide) (by rw [e9]; decide) (by rw [e9]; rfl) (by decide) ?_
        exact lc_undo F hX hbl hbA hR hin back
      by_cases e10 : v = 10
      · refine nz_tin (tgt := 478) (off := 445) F dL_law_33 (by rw [e10]; decide) (by rw [e10]; decide) (by rw [e10]; rfl) (by decide) ?_
        exact lc_stone F hX hbl hbA hR hin back
      by_cases e11 : v = 11
      · refine nz_tin (tgt := 511) (off := 478) F dL_law_33 (by rw [e11]; decide) (by rw [e11]; decide) (by rw [e11]; rfl) (by decide) ?_
        exact lc_carry F hX hbl hbA hR hin back
      by_cases e12 : v = 12
      · refine nz_tin (tgt := 554) (off := 521) F dL_law_33 (by rw [e12]; decide) (by rw [e12]; decide) (by rw [e12]; rfl) (by decide) ?_
        exact lc_time F hX hbl hbA hR hin back
      by_cases e13 : v = 13
      · refine nz_tin (tgt := 607) (off := 574) F dL_law_33 (by rw [e13]; decide) (by rw [e13]; decide) (by rw [e13]; rfl) (by decide) ?_
        exact lc_times F hX hbl hbA hR hin back
      by_cases e14 : v = 14
      · refine nz_tin (tgt := 650) (off := 617) F dL_law_33 (by rw [e14]; decide) (by rw [e14]; decide) (by rw [e14]; rfl) (by decide) ?_
        exact lc_forget F hX hbl hbA hR hin back
      by_cases e15 : v = 15
      · refine nz_tin (tgt := 663) (off := 630) F dL_law_33 (by rw [e15]; decide) (by rw [e15]; decide) (by rw [e15]; rfl) (by decide) ?_
        exact lc_ends F hX hbl hbA hR hin back
      by_cases e16 : v = 16
      · refine nz_tin (tgt := 706) (off := 673) F dL_law_33 (by rw [e16]; decide) (by rw [e16]; decide) (by rw [e16]; rfl) (by decide) ?_
        exact lc_widest F hX hbl hbA hR hin back
      by_cases e17 : v = 17
      · refine nz_tin (tgt := 719) (off := 686) F dL_law_33 (by rw [e17]; decide) (by rw [e17]; decide) (by rw [e17]; rfl) (by decide) ?_
        exact lc_rest F hX hbl hbA hR hin back
      by_cases e18 : v = 18
      · refine nz_tin (tgt := 732) (off := 699) F dL_law_33 (by rw [e18]; decide) (by rw [e18]; decide) (by rw [e18]; rfl) (by decide) ?_
        exact lc_moved F hX hbl hbA hR hin back
      by_cases e19 : v = 19
      · refine nz_tin (tgt := 755) (off := 722) F dL_law_33 (by rw [e19]; decide) (by rw [e19]; decide) (by rw [e19]; rfl) (by decide) ?_
        exact lc_who F hX hbl hbA hR hin back
      by_cases e20 : v = 20
      · refine nz_tin (tgt := 788) (off := 755) F dL_law_33 (by rw [e20]; decide) (by rw [e20]; decide) (by rw [e20]; rfl) (by decide) ?_
        exact lc_dare F hX hbl hbA hR hin back
      by_cases e21 : v = 21
      · refine nz_tin (tgt := 821) (off := 788) F dL_law_33 (by rw [e21]; decide) (by rw [e21]; decide) (by rw [e21]; rfl) (by decide) ?_
        exact lc_best F hX hbl hbA hR hin back
      by_cases e22 : v = 22
      · refine nz_tin (tgt := 844) (off := 811) F dL_law_33 (by rw [e22]; decide) (by rw [e22]; decide) (by rw [e22]; rfl) (by decide) ?_
        exact lc_image F hX hbl hbA hR hin back
      by_cases e23 : v = 23
      · refine nz_tin (tgt := 867) (off := 834) F dL_law_33 (by rw [e23]; decide) (by rw [e23]; decide) (by rw [e23]; rfl) (by decide) ?_
        exact lc_restore F hX hbl hbA hR hin back
      by_cases e24 : v = 24
      · refine nz_tin (tgt := 890) (off := 857) F dL_law_33 (by rw [e24]; decide) (by rw [e24]; decide) (by rw [e24]; rfl) (by decide) ?_
        exact lc_kind F hX hbl hbA hR hin back
      by_cases e25 : v = 25
      · refine nz_tin (tgt := 913) (off := 880) F dL_law_33 (by rw [e25]; decide) (by rw [e25]; decide) (by rw [e25]; rfl) (by decide) ?_
        exact lc_as F hX hbl hbA hR hin back
      by_cases e26 : v = 26
      · refine nz_tin (tgt := 946) (off := 913) F dL_law_33 (by rw [e26]; decide) (by rw [e26]; decide) (by rw [e26]; rfl) (by decide) ?_
        exact lc_ask F hX hbl hbA hR hin back
      by_cases e27 : v = 27
      · refine nz_tin (tgt := 979) (off := 946) F dL_law_33 (by rw [e27]; decide) (by rw [e27]; decide) (by rw [e27]; rfl) (by decide) ?_
        exact lc_trace F hX hbl hbA hR hin back
      by_cases e28 : v = 28
      · refine nz_tin (tgt := 1002) (off := 969) F dL_law_33 (by rw [e28]; decide) (by rw [e28]; decide) (by rw [e28]; rfl) (by decide) ?_
        exact lc_count F hX hbl hbA hR hin back
      by_cases e29 : v = 29
      · refine nz_tin (tgt := 1025) (off := 992) F dL_law_33 (by rw [e29]; decide) (by rw [e29]; decide) (by rw [e29]; rfl) (by decide) ?_
        exact lc_status F hX hbl hbA hR hin back
      refine nz_tout (tgt := 1038) F dL_law_33 (nz_osw (lo := 0) (hi := 29) (fun j h1 h2 => by have f0 : ¬ (v : Int32).toInt = (0 : Int) := nz_nq e0; have f1 : ¬ (v : Int32).toInt = (1 : Int) := nz_nq e1; have f2 : ¬ (v : Int32).toInt = (2 : Int) := nz_nq e2; have f3 : ¬ (v : Int32).toInt = (3 : Int) := nz_nq e3; have f4 : ¬ (v : Int32).toInt = (4 : Int) := nz_nq e4; have f5 : ¬ (v : Int32).toInt = (5 : Int) := nz_nq e5; have f6 : ¬ (v : Int32).toInt = (6 : Int) := nz_nq e6; have f7 : ¬ (v : Int32).toInt = (7 : Int) := nz_nq e7; have f8 : ¬ (v : Int32).toInt = (8 : Int) := nz_nq e8; have f9 : ¬ (v : Int32).toInt = (9 : Int) := nz_nq e9; have f10 : ¬ (v : Int32).toInt = (10 : Int) := nz_nq e10; have f11 : ¬ (v : Int32).toInt = (11 : Int) := nz_nq e11; have f12 : ¬ (v : Int32).toInt = (12 : Int) := nz_nq e12; have f13 : ¬ (v : Int32).toInt = (13 : Int) := nz_nq e13; have f14 : ¬ (v : Int32).toInt = (14 : Int) := nz_nq e14; have f15 : ¬ (v : Int32).toInt = (15 : Int) := nz_nq e15; have f16 : ¬ (v : Int32).toInt = (16 : Int) := nz_nq e16; have f17 : ¬ (v : Int32).toInt = (17 : Int) := nz_nq e17; have f18 : ¬ (v : Int32).toInt = (18 : Int) := nz_nq e18; have f19 : ¬ (v : Int32).toInt = (19 : Int) := nz_nq e19; have f20 : ¬ (v : Int32).toInt = (20 : Int) := nz_nq e20; have f21 : ¬ (v : Int32).toInt = (21 : Int) := nz_nq e21; have f22 : ¬ (v : Int32).toInt = (22 : Int) := nz_nq e22; have f23 : ¬ (v : Int32).toInt = (23 : Int) := nz_nq e23; have f24 : ¬ (v : Int32).toInt = (24 : Int) := nz_nq e24; have f25 : ¬ (v : Int32).toInt = (25 : Int) := nz_nq e25; have f26 : ¬ (v : Int32).toInt = (26 : Int) := nz_nq e26; have f27 : ¬ (v : Int32).toInt = (27 : Int) := nz_nq e27; have f28 : ¬ (v : Int32).toInt = (28 : Int) := nz_nq e28; have f29 : ¬ (v : Int32).toInt = (29 : Int) := nz_nq e29; omega)) (by decide) ?_
      exact back X M hR
set_option maxHeartbeats 4000000 in
set_option maxRecDepth 100000 in
theorem whole_start {p : Program} {e : Env} {s : State} {m : MethodId} {below : List Frame} {meth : Method} {c : Code} (l : Launch) (hflags : l.flags = flags0) {b L : Nat} {xs : Nat → Int32} (hL : L ≤ 3072) (C0 : lw_At p s m meth c b L xs) : W p l e room_1 s m #[Value.ref b] below meth c s.heap [] 0 0 (lw_Z below #[Value.ref b] s) (entryFrame m ([Value.ref b] : List Value).toArray 4) := by
  obtain ⟨hx, hb, hr, hml, hown, hts, hX, hbl, hlocks, hgv⟩ := C0
  obtain ⟨g, hK, hE, hO⟩ := nz_begin hts hgv
  obtain ⟨y, hy⟩ : ∃ y : nz_Y, y = (p, l, e, room_1, s, m, #[Value.ref b], below, meth, c, lw_Z below #[Value.ref b] s, fun q : Nat => s.heap.size ≤ q, 4) := ⟨_, rfl⟩
  have F : nz_F y g cL_law 4 wsL_law RL ret room_1 := by
    rw [hy]
    exact ⟨hx, hb, hml, rfl, hown, fun w hw => hts w (wsL_law_in w hw), hr, hlocks, fun q h => h, hK, hE, rfl⟩
  have hA : yz_A y = fun q : Nat => (yz_s y).heap.size ≤ q := by rw [hy]
  have ha : yz_a y = #[Value.ref b] := by rw [hy]
  have hQ : yz_Q y = lw_Z (yz_b y) #[Value.ref b] (yz_s y) := by rw [hy]
  have hX' : va_X b L xs (yz_s y) (yz_s y).heap := by rw [hy]; exact hX
  have hbl' : b < (yz_s y).heap.size := by rw [hy]; exact hbl
  have hO' : nz_O (yz_s y) := by rw [hy]; exact hO
  have hl' := lv_entry ([.ref b]) (n := 4) (Nat.le_of_ble_eq_true rfl)
  rw [lg_entry_eq]
  have key : nz_V y g 0 0 [] 0 [(0, .ref b)] [] := by
    refine nz_new (ci := 7) (fs := [.null, .null, .null, .null, .null, .null, .null, .null, .int 0, .int 0]) F inlX7 tyX7 tyX7_ok (List.mem_of_getElem? (i := 0) rfl) (List.mem_of_getElem? (i := 1) rfl) (List.mem_of_getElem? (i := 2) rfl) rfl (by decide) ⟨rfl, rfl⟩ dL_law_0 (fun o1 => ?_)
    refine nz_ws (ws' := [(o1, .inr (7, [.null, .null, .null, .null, .null, .null, .null, .null, .int 0, .int 0]))]) rfl ?_
    refine nz_dup F dL_law_3 rfl ?_
    refine nz_cJ (wr := []) (nz_runI F hO' gL_law_X7_init rfl (List.mem_of_getElem? (i := 7) rfl) (List.mem_of_getElem? (i := 2) rfl) (List.mem_of_getElem? (i := 8) rfl) rfl hd_X7_init.2 rfl (c_X7_init (yz_l y) g o1 (fun X => nz_Rel X nz_M0) nz_start_rel) dL_law_4 [0] rfl rfl rfl (Nat.le_of_ble_eq_true rfl) rfl) [] rfl rfl (by decide) (fun u h => ?_)
    obtain ⟨a, X⟩ := u
    obtain ⟨ea, h⟩ := h
    refine nz_ws (ws' := nz_wX g a X) rfl ?_
    have ea : a 0 = o1 := ea
    have h : nz_Rel X nz_M0 := h
    rw [← ea]
    refine nz_astore_n (lv' := [(1, .ref (a 0)), (0, .ref b)]) F dL_law_7 rfl (by decide) rfl ?_
    refine nz_new (ci := 8) (fs := [.int 0, .int 0, .null, .null, .null, .null, .null, .null, .int 0, .null, .int 0, .int 0, .int 0, .int 0, .int 0, .int 0, .int 0, .int 0, .int 0, .null, .null, .null, .null, .null, .null, .int 0]) F inlX8 tyX8 tyX8_ok (List.mem_of_getElem? (i := 3) rfl) (List.mem_of_getElem? (i := 4) rfl) (List.mem_of_getElem? (i := 5) rfl) rfl (by decide) ⟨rfl, rfl⟩ dL_law_8 (fun o2 => ?_)
    refine nz_dup F dL_law_11 rfl ?_
    refine nz_cJ (wr := nz_wX g a X) (nz_runI F hO' gL_law_X8_init rfl (List.mem_of_getElem? (i := 89) rfl) (List.mem_of_getElem? (i := 5) rfl) (List.mem_of_getElem? (i := 90) rfl) rfl hd_X8_init.2 rfl (c_X8_init (yz_l y) g o2) dL_law_12 [62] rfl rfl rfl (Nat.le_of_ble_eq_true rfl) rfl) (List.range' 0 62) (nz_mapR (nz_wX g a X) [] _) nd_0_62 (by decide) (fun c2 ec => ?_)
    refine nz_ws (ws' := nz_wX g a X ++ nz_wM g c2 nz_M0) rfl ?_
    have ec : c2 0 = o2 := ec
    rw [← ec]
    refine nz_astore_n (lv' := [(2, .ref (c2 0)), (1, .ref (a 0)), (0, .ref b)]) F dL_law_15 rfl (by decide) rfl ?_
    refine nz_iconst (v := 0) F dL_law_16 (by decide) ?_
    refine nz_istore_n (lv' := [(3, .int 0), (2, .ref (c2 0)), (1, .ref (a 0)), (0, .ref b)]) F dL_law_17 rfl (by decide) rfl ?_
    exact nz_law_loop F hA ha hQ hL hX' hbl' (L + 1) 0 0 nI_0.symm (by omega) (Nat.zero_le _) X nz_M0 h
  have k1 := key s.heap [] _ (fun k q h => by simp at h) ⟨fun i j p q h => by simp at h, fun k q h => by simp at h⟩ (by rw [hy]; exact va_S.rf) (by rw [hy]; exact hl')
  rw [hy] at k1
  exact k1
set_option maxHeartbeats 4000000 in
theorem lw_walk (l : Launch) (hflags : l.flags = flags0) (b : Addr) (xs : List Int32) : MetFree l x (headSpec (Jvm.Cond.code x code maxLocals ret :: tables_1) room_1) (lw_P b xs) (fun _ _ _ _ _ => True) lw_Q := by
  refine MetFree.of_bodyS (code := code) (maxLocals := maxLocals) (ret := ret) (by decide) ?_ ?_
  · intro args s m h hn
    obtain ⟨meth, c, h1, h2, h3, h4, h5, h6, -, -⟩ := Cond.code_spec hn (atoms_spec (ws := Jvm.Cond.code x code maxLocals ret :: tables_1) h _ List.mem_cons_self)
    exact ⟨meth, c, h1, h2, h3, h4, h5, h6⟩
  · intro p e s m args below meth c s₁ B hml0 hP _
    obtain ⟨rfl, hx, hbd, hgv⟩ := hP
    obtain ⟨scr, harrAt, hlist, hof, hsmall⟩ := hx
    obtain ⟨hcb, hkn, -, -⟩ := State.arrayAt?_spec harrAt
    have hown : s.vm.findClass R_law = some m.cls := findClass_of_methodNamed B.named
    have hts0 : ∀ c ∈ (Jvm.Cond.code x code maxLocals ret :: tables_1), c.before #[Value.ref b] s = true := atoms_spec (ws := Jvm.Cond.code x code maxLocals ret :: tables_1) B.pre
    have hts : ∀ w ∈ lw_tbl, w.before #[Value.ref b] s = true := k2_hts_sels lw_privs (fun w hw => hts0 w (List.mem_cons_of_mem _ hw)) lw_privs_ok
    have hml : c.maxLocals = 4 := B.maxLocals_eq (hts0 _ List.mem_cons_self)
    have X₀ : Stand p l e room_1 s m #[Value.ref b] below meth c s₁ [] 0 0 := Stand.of_body B
    have hh0 : s₁.heap = s.heap := by rw [B.state]; rfl
    have hsz : scr.slots.size = xs.length := by rw [← Array.length_toList, hlist, List.length_map]
    have hval : ∀ j : Nat, j < xs.length → scr.slots[j]? = some (.int (xs.getD j 0)) := fun j hj => by
      rw [← Array.getElem?_toList, hlist]
      simp [hj]
    have hbl : b < s.heap.size := (Array.getElem?_eq_some_iff.mp hcb).1
    have hX : va_X b xs.length (fun j => xs.getD j 0) s s.heap := ⟨scr, hcb, hof, hkn, hsz, hval⟩
    have K : W p l e room_1 s m #[Value.ref b] below meth c s₁.heap [] 0 0 (lw_Z below #[Value.ref b] s) (entryFrame m ([Value.ref b] : List Value).toArray 4) := by
      rw [hh0]
      exact whole_start l hflags hbd ⟨B.exec, B.bytes, B.returns, hml, hown, hts, hX, hbl, B.notSynchronized, hgv⟩
    obtain ⟨t, a1, o, b1, b2, b3⟩ := K s₁ rfl X₀
    exact ⟨t, o, a1, b1, b2, b3⟩
theorem lw_pre_spec {args : Array Value} {s : State} (h : (Jvm.Cond.and given_1 narrow_1).before args s = true) (hr : rest_1_c.before args s = true) : ∃ (b : Addr) (xs : List Int32), lw_P b xs args s := by
  have hs := flat_of_before _ h
  have hq := flat_of_before _ hr
  have hc : (Cond.count 1).before args s = true := hs _ (by decide +kernel)
  have harr : (Cond.arrayOf (.arg 0) .int).before args s = true := hs _ (by decide +kernel)
  have hle : (Cond.le (.length (.arg 0)) (.int 3072)).before args s = true := hs _ (by decide +kernel)
  have hlen : (Cond.isInt (.length (.arg 0))).before args s = true := hq _ (by decide +kernel)
  have hall : (Cond.all (.arg 0) (.isInt (.elem (.arg 0) (.index 0)))).before args s = true := hq _ (by decide +kernel)
  obtain ⟨b, xs, hb, hx⟩ := State.ints_of_pre rfl harr hlen hall
  have hsm : xs.length < 2 ^ 31 := hx.choose_spec.2.2.2
  have hev : (Term.length (.arg 0)).eval args s none [] s = some (.int xs.length.toInt32) := hx.length_eval hb
  have hv := Cond.le_ints hev (show (Term.int 3072).eval args s none [] s = some (.int 3072) from rfl)
  have hd : xs.length.toInt32 ≤ 3072 := by
    simpa [Cond.before, Cond.holds, hv] using hle
  have hN : xs.length ≤ 3072 := (Int32.ofNat_le_ofNat hsm (by decide)).mp (show Int32.ofNat xs.length ≤ Int32.ofNat 3072 from hd)
  exact ⟨b, xs, Cond.one_arg hc (show args[0]? = some (.ref b) from hb), hx, hN, h⟩
theorem lw_comes (l : Launch) (hflags : l.flags = flags0) : Comes l x (Jvm.Cond.code x code maxLocals ret :: tables_1) room_1 (fun tb e args s => Calls_1 tb e args s ∧ rest_1 tb e args s ∧ Pre_1 tb e args s)
    (fun _ _ args s o t => lw_Q args s o t) := by
  intro p e ha hc hk s m args below hf hfit hheap happ hpre
  obtain ⟨b, xs, hP⟩ := lw_pre_spec hpre.2.2 hpre.2.1
  obtain ⟨k, o, h1, h2, h3, hQ⟩ := lw_walk l hflags b xs p e ha hc hk s m args below hf ((Spec.applies_iff_loose hf).mp happ).1 hP trivial
  exact ⟨k, o, h1, h2, h3, hQ⟩
theorem lw_frame {s t : State} {o : Outcome} {args : Array Value} (h : Framed s o t [] 600000 7302249) :
    Framed s o t (fieldLocs frame_1_writes args s ++ arrayLocs frame_1_arrays args s ++ staticLocs frame_1_statics s) 600000 7302249 := h
theorem lw_limb (L : Cond) (hL : ∀ (args : Array Value) (s t : State), L.after args s (.returned (some (.int 1))) t = true) :
    ArmFor flags0 classFile x code maxLocals ret World_1 tables_1 room_1 Calls_1 rest_1 Pre_1
      (fun tb e a s o t => postC L tb e a s o t ∧ Framed s o t (fieldLocs frame_1_writes a s ++ arrayLocs frame_1_arrays a s ++ staticLocs frame_1_statics s) 600000 7302249) := by
  intro l hflags _ _ p e ha hc hk s m args below hf hfit hheap happ hpre
  obtain ⟨k, o, h1, h2, h3, rfl, hF⟩ := lw_comes l hflags p e ha hc hk s m args below hf hfit hheap happ hpre
  exact ⟨k, _, h1, h2, h3, hL args s _, lw_frame hF⟩
theorem i_vc : Claimed_1_1 ∧ Claimed_1_2 := ⟨lw_limb limb_1_1 (fun args s t => by simp [limb_1_1, Cond.after, Cond.holds, Cond.value]), lw_limb limb_1_2 (fun args s t => Cond.after_iff.mpr (by
  first | (rw [show limb_1_2 = Cond.eq .result (.int 1) from rfl, Cond.eq_ints (x := 1) (y := 1) rfl rfl]; simp; done) | (simp [limb_1_2, Cond.value, Term.eval]; done)))⟩
