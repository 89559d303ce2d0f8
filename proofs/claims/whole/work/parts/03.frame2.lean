/-! MY FRAME, second part: small facts of the rows -/
theorem nz_inC {i : Int32} {n : Nat} (h : (decide (0 ≤ i.toInt) && decide (i.toInt < n)) = true) : vp_in i n := by
  simp only [Bool.and_eq_true, decide_eq_true_eq] at h
  exact vp_in_iff.mpr h
theorem nz_nq {x v : Int32} (h : ¬ x = v) : ¬ x.toInt = v.toInt := fun q => h (Int32.toInt_inj.mp q)
theorem nz_osw {x : Int32} {lo hi : Int} (h : ∀ j : Int, x.toInt = j → lo ≤ j → j ≤ hi → False) : x.toInt < lo ∨ hi < x.toInt := by
  rcases Int.lt_or_le x.toInt lo with q | q
  · exact Or.inl q
  · rcases Int.lt_or_le hi x.toInt with r | r
    · exact Or.inr r
    · exact absurd (h _ rfl q r) (fun z => z)
theorem nz_nar {v : Int32} (h : fits .boolean (.int v) = true) : narrow .boolean (.int v) = .int v := by
  simp only [fits, Bool.or_eq_true, beq_iff_eq] at h
  rcases h with rfl | rfl <;> rfl
theorem nz_ldcS {y : nz_Y} {g : nz_G} {k n : Nat} {ws : va_W} {pc : Nat} {ls : List (Nat × Value)} {st : List Value} {cc : ByteArray} {nL : Nat} {Ts : List Cond} {ret : Option FieldType} {rm : Room} {i idx : Nat} {tx : String} (F : nz_F y g cc nL Ts RX4 ret rm) (hi : nz_txt[i]? = some (idx, tx)) (d : decode cc pc = .ok (.ldc idx, 2)) (h : nz_V y g k n ws (pc + 2) ls (.ref (nz_aK g i) :: st)) : nz_V y g k n ws pc ls st := fun H locs la hP hD hS hL => va_ldcS F.1 F.2.1 F.2.2.2.2.1 (F.2.2.2.2.2.2.2.2.2.2.1.1.2 i _ hi) d (h H locs la hP hD hS hL)
/-- n turns of a step, from a last goal on -/
def nz_it {P : Type} (bot : P) (f : P → P) : Nat → P
  | 0 => bot
  | n + 1 => f (nz_it bot f n)
/-! rows of a grid int[8][40]: eight cells side by side at the world's end, told by one function -/
abbrev nz_pool (g : nz_G) (bi : Nat → Nat) (it : Nat → Nat → Int32) : va_W := [(bi 0, .inl (nz_cI g, 40, .inl (it 0))), (bi 1, .inl (nz_cI g, 40, .inl (it 1))), (bi 2, .inl (nz_cI g, 40, .inl (it 2))), (bi 3, .inl (nz_cI g, 40, .inl (it 3))), (bi 4, .inl (nz_cI g, 40, .inl (it 4))), (bi 5, .inl (nz_cI g, 40, .inl (it 5))), (bi 6, .inl (nz_cI g, 40, .inl (it 6))), (bi 7, .inl (nz_cI g, 40, .inl (it 7)))]
theorem nz_8 {P : Nat → Prop} (h0 : P 0) (h1 : P 1) (h2 : P 2) (h3 : P 3) (h4 : P 4) (h5 : P 5) (h6 : P 6) (h7 : P 7) : ∀ j : Nat, j < 8 → P j
  | 0, _ => h0 | 1, _ => h1 | 2, _ => h2 | 3, _ => h3 | 4, _ => h4 | 5, _ => h5 | 6, _ => h6 | 7, _ => h7
  | j + 8, h => absurd h (by omega)
theorem nz_pool_at {g : nz_G} {bi : Nat → Nat} {it : Nat → Nat → Int32} : ∀ j : Nat, j < 8 → (nz_pool g bi it)[j]? = some (bi j, .inl (nz_cI g, 40, .inl (it j))) := nz_8 rfl rfl rfl rfl rfl rfl rfl rfl
theorem nz_pool_set {g : nz_G} {bi : Nat → Nat} {it : Nat → Nat → Int32} {f : Nat → Int32} : ∀ j : Nat, j < 8 → (nz_pool g bi it).set j (bi j, .inl (nz_cI g, 40, .inl f)) = nz_pool g bi (va_up it j f) := nz_8 rfl rfl rfl rfl rfl rfl rfl rfl
theorem nz_pp_at {g : nz_G} {bi : Nat → Nat} {it : Nat → Nat → Int32} {pre ws : va_W} (hw : ws = pre ++ nz_pool g bi it) {j : Nat} (hj : j < 8) : ws[pre.length + j]? = some (bi j, .inl (nz_cI g, 40, .inl (it j))) := by
  rw [hw, List.getElem?_append_right (Nat.le_add_right _ _), Nat.add_sub_cancel_left]
  exact nz_pool_at j hj
theorem nz_pp_set {g : nz_G} {bi : Nat → Nat} {it : Nat → Nat → Int32} {pre ws : va_W} (hw : ws = pre ++ nz_pool g bi it) {j : Nat} (hj : j < 8) {f : Nat → Int32} : ws.set (pre.length + j) (bi j, .inl (nz_cI g, 40, .inl f)) = pre ++ nz_pool g bi (va_up it j f) := by
  rw [hw, List.set_append_right _ _ (Nat.le_add_right _ _), Nat.add_sub_cancel_left, nz_pool_set j hj]
theorem nz_pin {i : Int32} (h : vp_in i 8) : i.toNatClampNeg < 8 := Nat.not_le.mp fun q => h (Or.inr q)
section NZP
variable {y : nz_Y} {g : nz_G} {k n : Nat} {ws ws' : va_W} {pc : Nat} {ls lv' : List (Nat × Value)} {st rest : List Value} {cc : ByteArray} {nL : Nat} {Ts : List Cond} {own : String} {ret : Option FieldType} {rm : Room} {bi : Nat → Nat} {it : Nat → Nat → Int32}
theorem nz_paald (F : nz_F y g cc nL Ts own ret rm) (q0 : Nat) {a len : Nat} {f : Nat → Option Nat} {i : Int32} {b : Nat} (ha : ws[q0]? = some (a, .inl (nz_cA g, len, .inr (.inr (.inr (.inr f)))))) (hin : vp_in i len) (hb : f i.toNatClampNeg = some b) (d : decode cc pc = .ok (.aaload, 1)) (h : nz_V y g k n ws (pc + 1) ls (.ref b :: st)) : nz_V y g k n ws pc ls (.int i :: .ref a :: st) := by
  intro H locs la hP hD hS hL
  have hlt : i.toNatClampNeg < len := Nat.not_le.mp fun q => hin (Or.inr q)
  refine W.aald (v := va_rf (f i.toNatClampNeg)) (ty := .array .int) F.1 F.2.1 (hP q0 _ ha) ((F.2.2.2.2.2.2.2.2.2.1.2 3 _ rfl).1 len (fun j => va_rf (f j))) rfl (fun q => by cases q) (by show ¬ (i < 0 ∨ (arrV _ _ _).slots.size ≤ _); rw [arrV_size]; exact hin) (by show (arrV _ _ _).slots[_]? = _; rw [arrV_read _ _ hlt]) rfl rfl d ?_
  rw [hb]
  exact h H locs la hP hD hS hL
theorem nz_piald (F : nz_F y g cc nL Ts own ret rm) (pre : va_W) (hw : ws = pre ++ nz_pool g bi it) {j : Nat} (hj : j < 8) {i : Int32} (hin : vp_in i 40) (d : decode cc pc = .ok (.iaload, 1)) (h : nz_V y g k n ws (pc + 1) ls (.int (it j i.toNatClampNeg) :: st)) : nz_V y g k n ws pc ls (.int i :: .ref (bi j) :: st) :=
  nz_iald F (pre.length + j) (nz_pp_at hw hj) hin d h
theorem nz_piast (F : nz_F y g cc nL Ts own ret rm) (pre : va_W) (hw : ws = pre ++ nz_pool g bi it) {j : Nat} (hj : j < 8) {i x : Int32} (hin : vp_in i 40) (d : decode cc pc = .ok (.iastore, 1)) (h : nz_V y g k n (pre ++ nz_pool g bi (va_up it j (upd (it j) i.toNatClampNeg x))) (pc + 1) ls st) : nz_V y g k n ws pc ls (.int x :: .int i :: .ref (bi j) :: st) :=
  nz_iast F (pre.length + j) (nz_pp_at hw hj) hin d (nz_pp_set hw hj) h
theorem nz_pcopy (F : nz_F y g cc nL Ts own ret rm) (pre : va_W) (hw : ws = pre ++ nz_pool g bi it) {idx : Nat} (hl1 : Cond.methodLink own idx arraycopyName ∈ Ts) (hl2 : Cond.native arraycopyName ∈ Ts) (hl3 : Cond.static arraycopyName ∈ Ts) (hl4 : Cond.initialized "java/lang/System" ∈ Ts) {j0 j1 : Nat} (hj0 : j0 < 8) (hj1 : j1 < 8) {sp dp z : Int32} (h1 : ¬ sp < 0) (h2 : ¬ dp < 0) (h3 : ¬ z < 0) (h4 : sp.toNatClampNeg + z.toNatClampNeg ≤ 40) (h5 : dp.toNatClampNeg + z.toNatClampNeg ≤ 40) (hfr : Nat.ble 1 rm.frames = true) (hlo : (rest.map fun v => v.category).sum + (nativeFrameWords "java/lang/System" "arraycopy" 5 + 11) ≤ rm.locals) (d : decode cc pc = .ok (.invokestatic idx, 3)) (h : nz_V y g k n (pre ++ nz_pool g bi (va_up it j1 (va_cpy (it j0) (it j1) sp.toNatClampNeg dp.toNatClampNeg z.toNatClampNeg))) (pc + 3) ls rest) : nz_V y g k n ws pc ls (.int z :: .int dp :: .ref (bi j1) :: .int sp :: .ref (bi j0) :: rest) :=
  nz_copy F hl1 hl2 hl3 hl4 (pre.length + j0) (pre.length + j1) (nz_pp_at hw hj0) (nz_pp_at hw hj1) h1 h2 h3 h4 h5 hfr hlo d (nz_pp_set hw hj1) h
theorem nz_pone {pre : va_W} (hw : ws = pre ++ nz_pool g bi it) {j : Nat} (hj : j < 8) : [pre.length + j].map (fun i => ws[i]?) = [(bi j, (.inl (nz_cI g, 40, .inl (it j)) : va_E))].map some := by
  simp only [List.map_cons, List.map_nil, nz_pp_at hw hj]
theorem nz_pnd {a : Nat} : va_nd [a] = true := by simp [va_nd]
theorem nz_pmrg {pre : va_W} (hw : ws = pre ++ nz_pool g bi it) {j : Nat} (hj : j < 8) {f : Nat → Int32} : nz_mrg ws [pre.length + j] [(bi j, (.inl (nz_cI g, 40, .inl f) : va_E))] = pre ++ nz_pool g bi (va_up it j f) := nz_pp_set hw hj
end NZP
def nz_putp (X : Nat → Nat → Int32) (it : Nat → Nat → Int32) : Nat → Nat → Int32 := va_up (va_up (va_up (va_up (va_up (va_up (va_up (va_up X 54 (it 0)) 55 (it 1)) 56 (it 2)) 57 (it 3)) 58 (it 4)) 59 (it 5)) 60 (it 6)) 61 (it 7)
