theorem dX7_found_0 : decode cX7_found 0 = .ok (.aload_n 0, 1) := by decide +kernel
theorem dX7_found_1 : decode cX7_found 1 = .ok (.iload_n 1, 1) := by decide +kernel
theorem dX7_found_2 : decode cX7_found 2 = .ok (.putfield 282, 3) := by decide +kernel
theorem dX7_found_5 : decode cX7_found 5 = .ok (.ldc_w 285, 3) := by decide +kernel
theorem dX7_found_8 : decode cX7_found 8 = .ok (.iload_n 1, 1) := by decide +kernel
theorem dX7_found_9 : decode cX7_found 9 = .ok (.isub, 1) := by decide +kernel
theorem dX7_found_10 : decode cX7_found 10 = .ok (.ireturn, 1) := by decide +kernel
/-! X7_found -/
abbrev rm_X7_found : Room := { frames := 0, cells := 0, slots := 0, locals := 0 }
theorem iw_X7_found_7 : ∀ w ∈ wsX70, w ∈ wsX7_found := fun _ h => List.mem_cons_of_mem _ (List.mem_append_right _ h)
theorem fl_X7_found_282 : Cond.fieldLink RX7 282 "NightStones" "latestFinding" "I" ∈ wsX7_found := List.mem_of_getElem? (i := 1) rfl
theorem wd_X7_found_c285 : Cond.constant RX7 285 (-1000010) ∈ wsX7_found := List.mem_of_getElem? (i := 2) rfl
def wp_X7_found (v1 : Int32) (K : Int32 → Int32 → Prop) : Prop := K ((-1000010 : Int32) - v1) v1
set_option maxHeartbeats 4000000 in
set_option maxRecDepth 100000 in
theorem c_X7_found (l : Launch) (g : nz_G) (xo : Nat) (xrows : Nat) (xreader : Nat) (xnow : Nat) (ximages : Nat) (xacts : Nat) (xlengths : Nat) (xfore : Nat) (xasker : Nat) (xr8 : Int32) (xr9 : Int32) (v1 : Int32) (K : Int32 → Int32 → Prop) (h : wp_X7_found v1 K) : nz_M l yX7_found wsX7_found rm_X7_found g [.ref xo, .int v1] [(xo, .inr (7, [.ref xrows, .ref xreader, .ref xnow, .ref ximages, .ref xacts, .ref xlengths, .ref xfore, .ref xasker, .int xr8, .int xr9]))] (nz_Qi g [(xo, .inr (7, [.ref xrows, .ref xreader, .ref xnow, .ref ximages, .ref xacts, .ref xlengths, .ref xfore, .ref xasker, .int xr8, .int xr9]))] (fun r (u : Int32) => K r u) (fun u => [(xo, .inr (7, [.ref xrows, .ref xreader, .ref xnow, .ref ximages, .ref xacts, .ref xlengths, .ref xfore, .ref xasker, .int xr8, .int u]))])) := by
  refine nz_M.of (bytes := cX7_found) (nL := 2) (ret := (some .int)) (own := RX7) (by decide) rfl rfl ⟨rfl, rfl⟩ rfl ?_
  intro y F hl hQ
  obtain ⟨sz, hQ⟩ := hQ
  refine nz_ent (lv' := [(0, .ref xo), (1, .int v1)]) rfl ?_
  unfold wp_X7_found at h
  refine nz_aload_n F dX7_found_0 rfl 0 rfl ?_
  refine nz_iload_n F dX7_found_1 rfl 1 rfl ?_
  refine nz_put (ws' := [(xo, .inr (7, [.ref xrows, .ref xreader, .ref xnow, .ref ximages, .ref xacts, .ref xlengths, .ref xfore, .ref xasker, .int xr8, .int v1]))]) F iw_X7_found_7 tyX7 tyX7_ok nmX7 0 rfl rfl 9 (by decide) rfl fl_X7_found_282 rfl rfl (Nat.le_of_ble_eq_true rfl) dX7_found_2 rfl ?_
  refine nz_ldcw (v := (-1000010 : Int32)) F wd_X7_found_c285 dX7_found_5 ?_
  refine nz_iload_n F dX7_found_8 rfl 1 rfl ?_
  refine nz_isub F dX7_found_9 ?_
  exact nz_iret F hQ v1 h rfl dX7_found_10
theorem k_X7_found {y : nz_Y} {g : nz_G} {k n : Nat} {ws : va_W} {pc : Nat} {ls : List (Nat × Value)} {st rest : List Value} {av : Array Value} {isC : List Nat} {K : Int32 → Int32 → Prop} (xo : Nat) (xrows : Nat) (xreader : Nat) (xnow : Nat) (ximages : Nat) (xacts : Nat) (xlengths : Nat) (xfore : Nat) (xasker : Nat) (xr8 : Int32) (xr9 : Int32) (v1 : Int32) (run : nz_M (yz_l y) yX7_found wsX7_found rm_X7_found g [.ref xo, .int v1] [(xo, .inr (7, [.ref xrows, .ref xreader, .ref xnow, .ref ximages, .ref xacts, .ref xlengths, .ref xfore, .ref xasker, .int xr8, .int xr9]))] (nz_Qi g [(xo, .inr (7, [.ref xrows, .ref xreader, .ref xnow, .ref ximages, .ref xacts, .ref xlengths, .ref xfore, .ref xasker, .int xr8, .int xr9]))] (fun r (u : Int32) => K r u) (fun u => [(xo, .inr (7, [.ref xrows, .ref xreader, .ref xnow, .ref ximages, .ref xacts, .ref xlengths, .ref xfore, .ref xasker, .int xr8, .int u]))])) → nz_C y g k n ws pc ls st rest [(xo, .inr (7, [.ref xrows, .ref xreader, .ref xnow, .ref ximages, .ref xacts, .ref xlengths, .ref xfore, .ref xasker, .int xr8, .int xr9]))] (nz_Qi g [(xo, .inr (7, [.ref xrows, .ref xreader, .ref xnow, .ref ximages, .ref xacts, .ref xlengths, .ref xfore, .ref xasker, .int xr8, .int xr9]))] (fun r (u : Int32) => K r u) (fun u => [(xo, .inr (7, [.ref xrows, .ref xreader, .ref xnow, .ref ximages, .ref xacts, .ref xlengths, .ref xfore, .ref xasker, .int xr8, .int u]))])) av isC) (h : wp_X7_found v1 K) (ws' : Int32 → va_W) (hm : ∀ (m0 : Int32), nz_mrg ws isC [(xo, .inr (7, [.ref xrows, .ref xreader, .ref xnow, .ref ximages, .ref xacts, .ref xlengths, .ref xfore, .ref xasker, .int xr8, .int m0]))] = ws' m0) (kk : ∀ (r : Int32) (m0 : Int32), K r m0 → nz_V y g k n (ws' m0) (pc + 3) ls (.int r :: rest)) : nz_V y g k n ws pc ls st :=
  nz_ci (ws' := fun u => ws' u) (run (c_X7_found (yz_l y) g xo xrows xreader xnow ximages xacts xlengths xfore xasker xr8 xr9 v1 K h)) (fun _ => rfl) (fun u => hm u) (fun r u h => kk r u h)
theorem dX7_well_0 : decode cX7_well 0 = .ok (.aload_n 0, 1) := by decide +kernel
theorem dX7_well_1 : decode cX7_well 1 = .ok (.iconst 0, 1) := by decide +kernel
theorem dX7_well_2 : decode cX7_well 2 = .ok (.putfield 282, 3) := by decide +kernel
theorem dX7_well_5 : decode cX7_well 5 = .ok (.iload_n 1, 1) := by decide +kernel
theorem dX7_well_6 : decode cX7_well 6 = .ok (.ireturn, 1) := by decide +kernel
/-! X7_well -/
abbrev rm_X7_well : Room := { frames := 0, cells := 0, slots := 0, locals := 0 }
theorem iw_X7_well_7 : ∀ w ∈ wsX70, w ∈ wsX7_well := fun _ h => List.mem_cons_of_mem _ (List.mem_append_right _ h)
theorem fl_X7_well_282 : Cond.fieldLink RX7 282 "NightStones" "latestFinding" "I" ∈ wsX7_well := List.mem_of_getElem? (i := 1) rfl
def wp_X7_well (v1 : Int32) (K : Int32 → Int32 → Prop) : Prop := K v1 0
set_option maxHeartbeats 4000000 in
set_option maxRecDepth 100000 in
theorem c_X7_well (l : Launch) (g : nz_G) (xo : Nat) (xrows : Nat) (xreader : Nat) (xnow : Nat) (ximages : Nat) (xacts : Nat) (xlengths : Nat) (xfore : Nat) (xasker : Nat) (xr8 : Int32) (xr9 : Int32) (v1 : Int32) (K : Int32 → Int32 → Prop) (h : wp_X7_well v1 K) : nz_M l yX7_well wsX7_well rm_X7_well g [.ref xo, .int v1] [(xo, .inr (7, [.ref xrows, .ref xreader, .ref xnow, .ref ximages, .ref xacts, .ref xlengths, .ref xfore, .ref xasker, .int xr8, .int xr9]))] (nz_Qi g [(xo, .inr (7, [.ref xrows, .ref xreader, .ref xnow, .ref ximages, .ref xacts, .ref xlengths, .ref xfore, .ref xasker, .int xr8, .int xr9]))] (fun r (u : Int32) => K r u) (fun u => [(xo, .inr (7, [.ref xrows, .ref xreader, .ref xnow, .ref ximages, .ref xacts, .ref xlengths, .ref xfore, .ref xasker, .int xr8, .int u]))])) := by
  refine nz_M.of (bytes := cX7_well) (nL := 2) (ret := (some .int)) (own := RX7) (by decide) rfl rfl ⟨rfl, rfl⟩ rfl ?_
  intro y F hl hQ
  obtain ⟨sz, hQ⟩ := hQ
  refine nz_ent (lv' := [(0, .ref xo), (1, .int v1)]) rfl ?_
  unfold wp_X7_well at h
  refine nz_aload_n F dX7_well_0 rfl 0 rfl ?_
  refine nz_iconst (v := 0) F dX7_well_1 (by decide) ?_
  refine nz_put (ws' := [(xo, .inr (7, [.ref xrows, .ref xreader, .ref xnow, .ref ximages, .ref xacts, .ref xlengths, .ref xfore, .ref xasker, .int xr8, .int 0]))]) F iw_X7_well_7 tyX7 tyX7_ok nmX7 0 rfl rfl 9 (by decide) rfl fl_X7_well_282 rfl rfl (Nat.le_of_ble_eq_true rfl) dX7_well_2 rfl ?_
  refine nz_iload_n F dX7_well_5 rfl 1 rfl ?_
  exact nz_iret F hQ 0 h rfl dX7_well_6
theorem k_X7_well {y : nz_Y} {g : nz_G} {k n : Nat} {ws : va_W} {pc : Nat} {ls : List (Nat × Value)} {st rest : List Value} {av : Array Value} {isC : List Nat} {K : Int32 → Int32 → Prop} (xo : Nat) (xrows : Nat) (xreader : Nat) (xnow : Nat) (ximages : Nat) (xacts : Nat) (xlengths : Nat) (xfore : Nat) (xasker : Nat) (xr8 : Int32) (xr9 : Int32) (v1 : Int32) (run : nz_M (yz_l y) yX7_well wsX7_well rm_X7_well g [.ref xo, .int v1] [(xo, .inr (7, [.ref xrows, .ref xreader, .ref xnow, .ref ximages, .ref xacts, .ref xlengths, .ref xfore, .ref xasker, .int xr8, .int xr9]))] (nz_Qi g [(xo, .inr (7, [.ref xrows, .ref xreader, .ref xnow, .ref ximages, .ref xacts, .ref xlengths, .ref xfore, .ref xasker, .int xr8, .int xr9]))] (fun r (u : Int32) => K r u) (fun u => [(xo, .inr (7, [.ref xrows, .ref xreader, .ref xnow, .ref ximages, .ref xacts, .ref xlengths, .ref xfore, .ref xasker, .int xr8, .int u]))])) → nz_C y g k n ws pc ls st rest [(xo, .inr (7, [.ref xrows, .ref xreader, .ref xnow, .ref ximages, .ref xacts, .ref xlengths, .ref xfore, .ref xasker, .int xr8, .int xr9]))] (nz_Qi g [(xo, .inr (7, [.ref xrows, .ref xreader, .ref xnow, .ref ximages, .ref xacts, .ref xlengths, .ref xfore, .ref xasker, .int xr8, .int xr9]))] (fun r (u : Int32) => K r u) (fun u => [(xo, .inr (7, [.ref xrows, .ref xreader, .ref xnow, .ref ximages, .ref xacts, .ref xlengths, .ref xfore, .ref xasker, .int xr8, .int u]))])) av isC) (h : wp_X7_well v1 K) (ws' : Int32 → va_W) (hm : ∀ (m0 : Int32), nz_mrg ws isC [(xo, .inr (7, [.ref xrows, .ref xreader, .ref xnow, .ref ximages, .ref xacts, .ref xlengths, .ref xfore, .ref xasker, .int xr8, .int m0]))] = ws' m0) (kk : ∀ (r : Int32) (m0 : Int32), K r m0 → nz_V y g k n (ws' m0) (pc + 3) ls (.int r :: rest)) : nz_V y g k n ws pc ls st :=
  nz_ci (ws' := fun u => ws' u) (run (c_X7_well (yz_l y) g xo xrows xreader xnow ximages xacts xlengths xfore xasker xr8 xr9 v1 K h)) (fun _ => rfl) (fun u => hm u) (fun r u h => kk r u h)
/-! the class's world: 62 cells, told by one bundle -/
def nz_img (a b : Nat) : Nat → Option Nat := fun j => if j = 0 then some a else some b
def nz_mk (a : Nat → Nat) (X : Nat → Nat → Int32) : Nat → List ((Nat → Int32) → va_E) → va_W
  | _, [] => []
  | i, c :: cs => (a i, c (X i)) :: nz_mk a X (i + 1) cs
theorem nz_mk_at (a : Nat → Nat) (X : Nat → Nat → Int32) : ∀ (cs : List ((Nat → Int32) → va_E)) (i k : Nat), (nz_mk a X i cs)[k]? = (cs[k]?).map (fun c => (a (i + k), c (X (i + k))))
  | [], i, k => by simp [nz_mk]
  | c :: cs, i, 0 => by simp [nz_mk]
  | c :: cs, i, k + 1 => by
    have e : i + 1 + k = i + (k + 1) := by omega
    rw [nz_mk, List.getElem?_cons_succ, List.getElem?_cons_succ, nz_mk_at a X cs (i + 1) k, e]
theorem nz_mk_len (a : Nat → Nat) (X : Nat → Nat → Int32) : ∀ (cs : List ((Nat → Int32) → va_E)) (i : Nat), (nz_mk a X i cs).length = cs.length
  | [], i => rfl
  | c :: cs, i => by rw [nz_mk, List.length_cons, List.length_cons, nz_mk_len a X cs (i + 1)]
def nz_cls (g : nz_G) (a : Nat → Nat) : List ((Nat → Int32) → va_E) := [fun f => .inr (7, [.ref (a 1), .ref (a 5), .ref (a 16), .ref (a 25), .ref (a 44), .ref (a 47), .ref (a 49), .ref (a 52), .int (f 8), .int (f 9)]), fun f => .inr (6, [.ref (a 4), .ref (a 2), .ref (a 3)]), fun f => .inl (nz_cI g, 8, .inl f), fun f => .inl (nz_cI g, 8, .inl f), fun _ => .inl (nz_cA g, 8, .inr (.inr (.inr (.inr (fun j => some (a (54 + j))))))), fun f => .inr (4, [.ref (a 6), .ref (a 7), .int (f 2), .int (f 3), .int (f 4), .int (f 5), .int (f 6), .int (f 7)]), fun f => .inl (nz_cI g, 400, .inl f), fun f => .inr (5, [.int (f 0), .int (f 1), .int (f 2), .int (f 3), .int (f 4), .int (f 5), .int (f 6), .int (f 7), .int (f 8), .ref (a 8), .ref (a 9), .ref (a 10), .ref (a 11), .ref (a 12), .ref (a 13), .ref (a 14), .ref (a 15)]), fun f => .inl (nz_cI g, 6, .inl f), fun f => .inl (nz_cI g, 6, .inl f), fun f => .inl (nz_cI g, 6, .inl f), fun f => .inl (nz_cI g, 5, .inl f), fun f => .inl (nz_cI g, 5, .inl f), fun f => .inl (nz_cI g, 5, .inl f), fun f => .inl (nz_cI g, 5, .inl f), fun f => .inl (nz_cI g, 48, .inl f), fun f => .inr (5, [.int (f 0), .int (f 1), .int (f 2), .int (f 3), .int (f 4), .int (f 5), .int (f 6), .int (f 7), .int (f 8), .ref (a 17), .ref (a 18), .ref (a 19), .ref (a 20), .ref (a 21), .ref (a 22), .ref (a 23), .ref (a 24)]), fun f => .inl (nz_cI g, 6, .inl f), fun f => .inl (nz_cI g, 6, .inl f), fun f => .inl (nz_cI g, 6, .inl f), fun f => .inl (nz_cI g, 5, .inl f), fun f => .inl (nz_cI g, 5, .inl f), fun f => .inl (nz_cI g, 5, .inl f), fun f => .inl (nz_cI g, 5, .inl f), fun f => .inl (nz_cI g, 48, .inl f), fun _ => .inl (nz_cR g, 2, .inr (.inr (.inr (.inr (nz_img (a 26) (a 35)))))), fun f => .inr (5, [.int (f 0), .int (f 1), .int (f 2), .int (f 3), .int (f 4), .int (f 5), .int (f 6), .int (f 7), .int (f 8), .ref (a 27), .ref (a 28), .ref (a 29), .ref (a 30), .ref (a 31), .ref (a 32), .ref (a 33), .ref (a 34)]), fun f => .inl (nz_cI g, 6, .inl f), fun f => .inl (nz_cI g, 6, .inl f), fun f => .inl (nz_cI g, 6, .inl f), fun f => .inl (nz_cI g, 5, .inl f), fun f => .inl (nz_cI g, 5, .inl f), fun f => .inl (nz_cI g, 5, .inl f), fun f => .inl (nz_cI g, 5, .inl f), fun f => .inl (nz_cI g, 48, .inl f), fun f => .inr (5, [.int (f 0), .int (f 1), .int (f 2), .int (f 3), .int (f 4), .int (f 5), .int (f 6), .int (f 7), .int (f 8), .ref (a 36), .ref (a 37), .ref (a 38), .ref (a 39), .ref (a 40), .ref (a 41), .ref (a 42), .ref (a 43)]), fun f => .inl (nz_cI g, 6, .inl f), fun f => .inl (nz_cI g, 6, .inl f), fun f => .inl (nz_cI g, 6, .inl f), fun f => .inl (nz_cI g, 5, .inl f), fun f => .inl (nz_cI g, 5, .inl f), fun f => .inl (nz_cI g, 5, .inl f), fun f => .inl (nz_cI g, 5, .inl f), fun f => .inl (nz_cI g, 48, .inl f), fun f => .inr (0, [.ref (a 45), .ref (a 46), .int (f 2)]), fun f => .inl (nz_cI g, 144, .inl f), fun f => .inl (nz_cI g, 24, .inl f), fun f => .inr (3, [.ref (a 48)]), fun f => .inl (nz_cI g, 36, .inl f), fun f => .inr (2, [.ref (a 50), .ref (a 51)]), fun f => .inl (nz_cI g, 6, .inl f), fun f => .inl (nz_cI g, 6, .inl f), fun f => .inr (1, [.ref (a 53), .int (f 1)]), fun f => .inl (nz_cI g, 16, .inl f), fun f => .inl (nz_cI g, 40, .inl f), fun f => .inl (nz_cI g, 40, .inl f), fun f => .inl (nz_cI g, 40, .inl f), fun f => .inl (nz_cI g, 40, .inl f), fun f => .inl (nz_cI g, 40, .inl f), fun f => .inl (nz_cI g, 40, .inl f), fun f => .inl (nz_cI g, 40, .inl f), fun f => .inl (nz_cI g, 40, .inl f)]
def nz_wX (g : nz_G) (a : Nat → Nat) (X : Nat → Nat → Int32) : va_W := nz_mk a X 0 (nz_cls g a)
def nz_ag (is : List Nat) (Y X : Nat → Nat → Int32) : Prop := ∀ j : Nat, is.contains j = false → Y j = X j
theorem nz_ag.refl {is : List Nat} {X : Nat → Nat → Int32} : nz_ag is X X := fun _ _ => rfl
theorem nz_ag.up {is : List Nat} {Y X : Nat → Nat → Int32} {i : Nat} {f : Nat → Int32} (h : nz_ag is Y X) (hi : is.contains i = true) : nz_ag is (va_up Y i f) X := by
  intro j hj
  by_cases q : j = i
  · rw [q, hi] at hj
    cases hj
  · show (if j = i then f else Y j) = X j
    rw [if_neg q]
    exact h j hj
theorem nz_ag.pool {is : List Nat} {Y X : Nat → Nat → Int32} {it : Nat → Nat → Int32} (h : nz_ag is Y X) (hi : (List.range' 54 8).all (fun i => is.contains i) = true) : nz_ag is (nz_putp Y it) X := by
  have q : ∀ i : Nat, 54 ≤ i → i < 62 → is.contains i = true := fun i h1 h2 => List.all_eq_true.mp hi i (List.mem_range'_1.mpr ⟨h1, h2⟩)
  unfold nz_putp
  exact ((((((((h.up (q 54 (by decide) (by decide))).up (q 55 (by decide) (by decide))).up (q 56 (by decide) (by decide))).up (q 57 (by decide) (by decide))).up (q 58 (by decide) (by decide))).up (q 59 (by decide) (by decide))).up (q 60 (by decide) (by decide))).up (q 61 (by decide) (by decide)))
theorem nz_mrg_to : ∀ (is : List Nat) (ws wd we : va_W), ws.length = we.length → (∀ j : Nat, is.contains j = false → ws[j]? = we[j]?) → is.map (fun i => we[i]?) = wd.map some → nz_mrg ws is wd = we
  | [], ws, wd, we, hl, h, hd => by
    rw [nz_mrg]
    exact List.ext_getElem? fun j => h j rfl
  | i :: is, ws, [], we, hl, h, hd => by simp at hd
  | i :: is, ws, q :: qs, we, hl, h, hd => by
    rw [List.map_cons, List.map_cons, List.cons.injEq] at hd
    obtain ⟨hd1, hd2⟩ := hd
    show nz_mrg (ws.set i q) is qs = we
    refine nz_mrg_to is (ws.set i q) qs we (by rw [List.length_set]; exact hl) (fun j hj => ?_) hd2
    by_cases e : j = i
    · subst e
      have hlt : j < we.length := (List.getElem?_eq_some_iff.mp hd1).1
      rw [List.getElem?_set_self (by rw [hl]; exact hlt)]
      exact hd1.symm
    · rw [List.getElem?_set_ne (fun z => e z.symm)]
      refine h j ?_
      rw [List.contains_cons, hj]
      simp [e]
theorem nz_xm {g : nz_G} {a : Nat → Nat} {X Y : Nat → Nat → Int32} {is : List Nat} {wd : va_W} (hC : is.map (fun i => (nz_wX g a Y)[i]?) = wd.map some) (h : nz_ag is Y X) : nz_mrg (nz_wX g a X) is wd = nz_wX g a Y := by
  refine nz_mrg_to is _ wd _ (by unfold nz_wX; rw [nz_mk_len, nz_mk_len]) (fun j hj => ?_) hC
  unfold nz_wX
  rw [nz_mk_at, nz_mk_at, Nat.zero_add, h j hj]
theorem nz_xput {g : nz_G} {a : Nat → Nat} {X : Nat → Nat → Int32} {q : Nat} {f : Nat → Int32} {e : Nat × va_E} (he : (nz_wX g a (va_up X q f))[q]? = some e) : (nz_wX g a X).set q e = nz_wX g a (va_up X q f) :=
  nz_xm (X := X) (Y := va_up X q f) (is := [q]) (wd := [e]) (by rw [List.map_cons, List.map_nil, he]; rfl) (nz_ag.up nz_ag.refl (by simp))
