/-! cells that are made: rows, constructors. The block of va_mna is the printed one of claim/NAMES.whole (its word AOA is written here: neither kit nor library has it) -/
def nz_AOA (ty : FieldType) (U : State) : Prop := (Cond.arrayOver (.array ty)).before #[] U = true
theorem nz_AOA.use {ty : FieldType} {A : Array Value} {U : State} (h : nz_AOA ty U) : (Cond.arrayOver (.array ty)).before A U = true := h
theorem nz_AOA.moved {ty : FieldType} {u U : State} (hvm : u.vm.Alike U.vm) (h : nz_AOA ty u) : nz_AOA ty U := arrayOver_alikeB hvm h
/-! ===== BEGIN new T[n][m]: the outer array a place, the inner ones among the pooled ===== -/
/-- f, but v at every address of l -/
def vr_up {α : Type} (f : Nat → α) (l : List Nat) (v : α) : Nat → α := fun a => if a ∈ l then v else f a
theorem vr_up_in {α : Type} {f : Nat → α} {l : List Nat} {v : α} {a : Nat} (h : a ∈ l) : vr_up f l v a = v := if_pos h
theorem vr_up_ne {α : Type} {f : Nat → α} {l : List Nat} {v : α} {a : Nat} (h : a ∉ l) : vr_up f l v a = f a := if_neg h
theorem vr_rows {L l : List Nat} {f : Nat → va_E} {e : va_E} (h : ∀ a, a ∈ l → a ∉ L) : va_pl L f ++ l.map (fun a => (a, e)) = va_pl (L ++ l) (vr_up f l e) := by
  unfold va_pl
  rw [List.map_append]
  congr 1
  · apply List.map_congr_left
    intro a ha
    rw [vr_up_ne (fun q => h a q ha)]
  · apply List.map_congr_left
    intro a ha
    rw [vr_up_in ha]
theorem vr_lay {X rows : va_W} {x : Nat × va_E} {pl : va_W} {D : va_G} {cl : List vw_C} {H : Heap} (hP : va_P D cl (((X ++ pl) ++ [x]) ++ rows) H) : va_P D cl ((X ++ [x]) ++ (pl ++ rows)) H := by
  rw [List.append_assoc (X ++ pl)] at hP
  have h := va_P.swap hP
  rw [← List.append_assoc X] at h
  have h2 := va_P.swap h
  rw [List.append_assoc (X ++ [x])] at h2
  exact h2
theorem vr_layD {X rows : va_W} {x : Nat × va_E} {pl : va_W} {A : Nat → Prop} (hD : va_D A (((X ++ pl) ++ [x]) ++ rows)) : va_D A ((X ++ [x]) ++ (pl ++ rows)) := by
  rw [List.append_assoc (X ++ pl)] at hD
  have h := va_D.swap hD
  rw [← List.append_assoc X] at h
  have h2 := va_D.swap h
  rw [List.append_assoc (X ++ [x])] at h2
  exact h2
theorem vr_outer (c : ClassId) (N h0 : Nat) : ∀ i : Nat, Jvm.Free.Multi.outerC c N h0 i = arrV c N (fun j => va_rf (if j < i then some (h0 + 1 + j) else none))
  | 0 => by
    show ({ cls := c, slots := Array.replicate N .null, vm := .none } : Cell) = _
    rw [arrV_new]
    refine congrArg (arrV c N) (funext fun j => ?_)
    simp [va_rf]
  | i + 1 => by
    show (Jvm.Free.Multi.outerC c N h0 i).setSlot i (.ref (h0 + 1 + i)) = _
    rw [vr_outer c N h0 i, arrV_store]
    refine congrArg (arrV c N) (funext fun j => ?_)
    by_cases e : j = i
    · subst e
      simp [updV, va_rf]
    · by_cases h : j < i
      · simp [updV, e, h, Nat.lt_succ_of_lt h]
      · simp [updV, e, h, show ¬ j < i + 1 by omega]
section VGM
variable {p : Program} {l : Launch} {e : Env} {R : Room} {s : State} {m : MethodId} {args : Array Value} {below : List Frame} {meth : Method} {c : Code} {H : Heap} {locs : List Loc} {cells slots : Nat} {Q : State → Prop}
variable {cc : ByteArray} {pc : Nat} {ls : Array Slot} {rest : List Value} {D : va_G} {cl : List vw_C} {A : Nat → Prop} {a : Nat} {tys : List (ClassId × FieldType)} {ws : va_W} {H0 : Heap}
theorem va_mna {X : va_W} {L : List Nat} {f : Nat → va_E} {cc : ByteArray} (hexec : p.tables.exec = Jvm.exec) (hb : c.code = cc) {own : String} {index : Nat} {ty : FieldType} {cy : ClassId} (hown : s.vm.findClass own = some m.cls) (hclink : (Cond.classLink own index ("[" ++ (FieldType.array ty).toString)).before args s = true) (hover : nz_AOA ty s) (harr : (Cond.arrayClass ty).before args s = true) (hcy : s.vm.findClass (FieldType.array ty).toString = some cy)
    (hK : va_K D cl tys s) (hP : va_P D cl (X ++ va_pl L f) H) (hD : va_D A (X ++ va_pl L f)) (hS : va_S A H0 H locs) (hA : ∀ q, H0.size ≤ q → A q) {n k : Int32} {N' K' : Nat} {z : vp_A} (hn : ¬ n < 0) (hk : ¬ k < 0) (hN : n.toNatClampNeg = N') (hM : k.toNatClampNeg = K')
    (hb1 : N' * 4 ≤ 536870912) (hb2 : K' * componentBytes ty ≤ 536870912) (hb3 : K' ≤ 536870912) (hdf : fits ty (defaultValue ty) = true) (hdd : (defaultValue ty).isDefault = true) (hcells : cells + (1 + N') ≤ R.cells) (hslots : slots + (N' + N' * K') ≤ R.slots) (hz : ∀ c : ClassId, Jvm.Free.Multi.innerC c K' (defaultValue ty) = vp_cell c z) (hdg : decode cc pc = .ok (.multianewarray index 2, 4))
    (kk : ∀ (q : Nat) (r : Nat → Nat) (cA : ClassId) (H1 : Heap), (∀ i j : Nat, i < N' → j < N' → r i = r j → i = j) → (∀ i : Nat, i < N' → r i ∉ L) → va_K D cl (tys ++ [(cA, .array ty)]) s →
      va_P D cl ((X ++ [(q, .inl (cA, N', .inr (.inr (.inr (.inr (fun i => if i < N' then some (r i) else none))))))]) ++ va_pl (L ++ (List.range N').map r) (vr_up f ((List.range N').map r) (.inl (cy, z)))) H1 → va_D A ((X ++ [(q, .inl (cA, N', .inr (.inr (.inr (.inr (fun i => if i < N' then some (r i) else none))))))]) ++ va_pl (L ++ (List.range N').map r) (vr_up f ((List.range N').map r) (.inl (cy, z)))) → va_S A H0 H1 locs →
      W p l e R s m args below meth c H1 locs (cells + 1 + N') (slots + N' + N' * K') Q (F0 m (pc + 4) ls (.ref q :: rest))) : W p l e R s m args below meth c H locs cells slots Q (F0 m pc ls (.int k :: .int n :: rest)) := by
  subst hN
  subst hM
  intro T hT Xs
  obtain ⟨vm₁, cA, comp, -, fA, fC, hO, -, X', step⟩ := Xs.multianewarray2F hexec hown hclink (nz_AOA.use hover) harr (g := F0 m pc ls (.int k :: .int n :: rest)) rfl (by rw [hb]; exact hdg) rfl hn hk hb1 hb2 hb3 hdf hdd hcells hslots
  have ec : some cy = some comp := hcy.symm.trans fC
  cases ec
  generalize hF : Jvm.Free.Multi.fill (T.setVm vm₁) cA cy n.toNatClampNeg k.toNatClampNeg (defaultValue ty) n.toNatClampNeg = F at X' step
  have hTh : (T.setVm vm₁).heap = H := hT
  obtain ⟨f1, f2, -, -⟩ := Jvm.Free.Multi.fill_facts (T.setVm vm₁) cA cy n.toNatClampNeg k.toNatClampNeg (defaultValue ty) n.toNatClampNeg
  rw [hF, hTh] at f1 f2
  have hold : ∀ x : Nat, x < H.size → F.heap[x]? = H[x]? := fun x hx => by
    have := Jvm.Free.Multi.fill_old (T.setVm vm₁) cA cy n.toNatClampNeg k.toNatClampNeg (defaultValue ty) (a := x) (by rw [hTh]; exact hx) n.toNatClampNeg
    rw [hF, hTh] at this
    exact this
  have hrow : ∀ j : Nat, j < n.toNatClampNeg → F.heap[H.size + 1 + j]? = some (vp_cell cy z) := fun j hj => by
    have := Jvm.Free.Multi.fill_inner (T.setVm vm₁) cA cy n.toNatClampNeg k.toNatClampNeg (defaultValue ty) n.toNatClampNeg j hj
    rw [hF, hTh, hz] at this
    exact this
  have hout : Jvm.Free.Multi.outerC cA n.toNatClampNeg H.size n.toNatClampNeg = vp_cell cA (n.toNatClampNeg, .inr (.inr (.inr (.inr (fun i => if i < n.toNatClampNeg then some (H.size + 1 + i) else none))))) := by
    rw [vp_cell_q]
    exact vr_outer cA n.toNatClampNeg H.size n.toNatClampNeg
  rw [hout] at f2
  have hlt : ∀ a, a ∈ L → a < H.size := fun a ha => by
    obtain ⟨k9, hk9⟩ := va_pl_get (X := X) (f := f) ha
    exact (hP k9 _ hk9).lt
  have hnl : ∀ i : Nat, i < n.toNatClampNeg → H.size + 1 + i ∉ L := fun i _ h => by
    have := hlt _ h
    omega
  have hnm : ∀ a, a ∈ (List.range n.toNatClampNeg).map (fun i => H.size + 1 + i) → a ∉ L := fun a ha h => by
    obtain ⟨i, -, rfl⟩ := List.mem_map.mp ha
    have := hlt _ h
    omega
  have hP0 : va_P D cl (X ++ va_pl L f) F.heap := hP.kept (fun k9 x hx => hold x.1 ((hP k9 x hx).lt))
  have hP1 : va_P D cl ((X ++ va_pl L f) ++ [(H.size, .inl (cA, n.toNatClampNeg, .inr (.inr (.inr (.inr (fun i => if i < n.toNatClampNeg then some (H.size + 1 + i) else none))))))]) F.heap := hP0.app (fun k9 x hx => by
    have h0 : k9 < 1 := (List.getElem?_eq_some_iff.mp hx).1
    rw [show k9 = 0 by omega] at hx
    cases hx
    exact f2)
  have hP2 : va_P D cl (((X ++ va_pl L f) ++ [(H.size, .inl (cA, n.toNatClampNeg, .inr (.inr (.inr (.inr (fun i => if i < n.toNatClampNeg then some (H.size + 1 + i) else none))))))]) ++ ((List.range n.toNatClampNeg).map (fun i => H.size + 1 + i)).map (fun a => (a, .inl (cy, z)))) F.heap := hP1.app (fun k9 x hx => by
    obtain ⟨a, ha, rfl⟩ := List.mem_map.mp (List.mem_of_getElem? hx)
    obtain ⟨i, hi, rfl⟩ := List.mem_map.mp ha
    exact hrow i (List.mem_range.mp hi))
  have hD2 : va_D A (((X ++ va_pl L f) ++ [(H.size, .inl (cA, n.toNatClampNeg, .inr (.inr (.inr (.inr (fun i => if i < n.toNatClampNeg then some (H.size + 1 + i) else none))))))]) ++ ((List.range n.toNatClampNeg).map (fun i => H.size + 1 + i)).map (fun a => (a, .inl (cy, z)))) := by
    have hD1 := hD.push (e := .inl (cA, n.toNatClampNeg, .inr (.inr (.inr (.inr (fun i => if i < n.toNatClampNeg then some (H.size + 1 + i) else none)))))) hP rfl (hA _ hS.1)
    generalize hW1 : (X ++ va_pl L f) ++ [(H.size, .inl (cA, n.toNatClampNeg, .inr (.inr (.inr (.inr (fun i => if i < n.toNatClampNeg then some (H.size + 1 + i) else none))))))] = W1 at hD1 hP1 ⊢
    have hle : ∀ (k9 : Nat) (x : Nat × va_E), W1[k9]? = some x → x.1 ≤ H.size := fun k9 x hx => by
      rw [← hW1] at hx
      by_cases hl : k9 < (X ++ va_pl L f).length
      · rw [List.getElem?_append_left hl] at hx
        exact Nat.le_of_lt ((hP k9 x hx).lt)
      · rw [List.getElem?_append_right (by omega)] at hx
        have h0 : k9 - (X ++ va_pl L f).length < 1 := (List.getElem?_eq_some_iff.mp hx).1
        rw [show k9 - (X ++ va_pl L f).length = 0 by omega] at hx
        cases hx
        exact Nat.le_refl _
    have hr : ∀ (k9 : Nat) (x : Nat × va_E), (((List.range n.toNatClampNeg).map (fun i => H.size + 1 + i)).map (fun a => ((a, .inl (cy, z)) : Nat × va_E)))[k9]? = some x → x.1 = H.size + 1 + k9 := fun k9 x hx => by
      rw [List.getElem?_map, List.getElem?_map] at hx
      by_cases h9 : k9 < n.toNatClampNeg
      · rw [List.getElem?_range h9] at hx
        cases hx
        rfl
      · have hn0 : (List.range n.toNatClampNeg)[k9]? = none := List.getElem?_eq_none (by rw [List.length_range]; omega)
        rw [hn0] at hx
        cases hx
    refine ⟨fun i j x y hi hj hxy => ?_, fun k9 x hx => ?_⟩
    · by_cases h1 : i < W1.length <;> by_cases h2 : j < W1.length
      · rw [List.getElem?_append_left h1] at hi
        rw [List.getElem?_append_left h2] at hj
        exact hD1.1 i j x y hi hj hxy
      · rw [List.getElem?_append_left h1] at hi
        rw [List.getElem?_append_right (by omega)] at hj
        have := hle _ _ hi
        have := hr _ _ hj
        omega
      · rw [List.getElem?_append_right (by omega)] at hi
        rw [List.getElem?_append_left h2] at hj
        have := hle _ _ hj
        have := hr _ _ hi
        omega
      · rw [List.getElem?_append_right (by omega)] at hi hj
        have := hr _ _ hi
        have := hr _ _ hj
        omega
    · by_cases h1 : k9 < W1.length
      · rw [List.getElem?_append_left h1] at hx
        exact hD1.2 k9 x hx
      · rw [List.getElem?_append_right (by omega)] at hx
        have := hr _ _ hx
        exact hA _ (by have := hS.1; omega)
  have hAr : ArrOfT s cA (.array ty) := fun N9 z9 => by
    obtain ⟨-, k9, hk9, cm9, hkk9⟩ := (hO 0 0 0).1
    exact ⟨(fun q hq => by cases hq), k9, hk9, cm9, hkk9⟩
  have hK2 : va_K D cl (tys ++ [(cA, .array ty)]) s := ⟨hK.1, fun k9 x hx => by
    by_cases hl : k9 < tys.length
    · rw [List.getElem?_append_left hl] at hx
      exact hK.2 k9 x hx
    · rw [List.getElem?_append_right (by omega)] at hx
      have h0 : k9 - tys.length < 1 := (List.getElem?_eq_some_iff.mp hx).1
      rw [show k9 - tys.length = 0 by omega] at hx
      cases hx
      exact ⟨hAr, fA⟩⟩
  obtain ⟨t, a1, b1⟩ := kk H.size (fun i => H.size + 1 + i) cA F.heap (fun i j _ _ h => by have h9 : H.size + 1 + i = H.size + 1 + j := h; omega) hnl hK2 (by rw [← vr_rows hnm]; exact vr_lay hP2) (by rw [← vr_rows hnm]; exact vr_layD hD2) ⟨by rw [f1]; have := hS.1; omega, fun x h1 h2 => (hold x (Nat.lt_of_lt_of_le h1 hS.1)).trans (hS.2.1 x h1 h2), hS.2.2⟩ F rfl X'
  refine ⟨t, step t ?_, b1⟩
  have e : T.heap.size = H.size := by rw [hT]
  rw [e]
  exact a1
end VGM
/-! ===== END ===== -/


section NZC
variable {y : nz_Y} {g : nz_G} {k n : Nat} {ws ws' : va_W} {pc : Nat} {ls : List (Nat × Value)} {st rest : List Value} {cc : ByteArray} {nL : Nat} {Ts : List Cond} {own : String} {ret : Option FieldType} {rm : Room}
theorem nz_oinit (F : nz_F y g cc nL Ts own ret rm) {a idx : Nat} (h1 : Cond.methodLink own idx objectInit ∈ Ts) (h2 : Cond.instanceMethod objectInit ∈ Ts) (h3 : Cond.code objectInit ⟨#[0xb1]⟩ 1 none ∈ Ts) (hr : Nat.ble 1 rm.frames = true ∧ Nat.ble 20 rm.locals = true) (hcat : (rest.map fun v => v.category).sum ≤ 8) (d : decode cc pc = .ok (.invokespecial idx, 3)) (h : nz_V y g k n ws (pc + 3) ls rest) : nz_V y g k n ws pc ls (.ref a :: rest) := by
  intro H locs la hP hD hS hL
  have q1 := Nat.le_of_ble_eq_true hr.1
  have q2 := Nat.le_of_ble_eq_true hr.2
  refine W.objInit (rest := rest) F.1 F.2.1 F.2.2.2.2.1 (F.2.2.2.2.2.1 _ h1) (F.2.2.2.2.2.1 _ h2) (F.2.2.2.2.2.1 _ h3) rfl (hL.1.trans F.2.2.1.symm) rfl d (by rw [F.2.2.2.2.2.2.2.2.2.2.2]; exact q1) (by rw [F.2.2.2.2.2.2.2.2.2.2.2]; show 2 * 0 + _ + 12 ≤ _; omega) ?_
  exact h H locs la hP hD hS hL
theorem nz_new (F : nz_F y g cc nL Ts own ret rm) {C : String} {X : u_T} {N ci idx : Nat} {fs : List Value} (hin : ∀ w ∈ u_ws C X N, w ∈ Ts) (ty0 : Nat → FieldType) (hty : ∀ j, j < N → parseFieldDescriptor (X j).2.2.1 = some (ty0 j)) (hcl : Cond.classLink own idx C ∈ Ts) (hins : Cond.instantiable C N ∈ Ts) (hini : Cond.initialized C ∈ Ts) (hc : vwCl[ci]? = some (C, X, N)) (hfs : ∀ j, j < N → defaultValue (ty0 j) = vp_V fs j) (hr : Nat.ble (k + 1) rm.cells = true ∧ Nat.ble (n + N) rm.slots = true) (d : decode cc pc = .ok (.new idx, 3)) (h : ∀ q : Nat, nz_V y g (k + 1) (n + N) (ws ++ [(q, .inr (ci, fs))]) (pc + 3) ls (.ref q :: st)) : nz_V y g k n ws pc ls st := fun H locs la hP hD hS hL =>
  va_new F.1 F.2.1 F.2.2.2.2.2.1 hin ty0 hty F.2.2.2.2.1 (F.2.2.2.2.2.1 _ hcl) (F.2.2.2.2.2.1 _ hins) (F.2.2.2.2.2.1 _ hini) F.2.2.2.2.2.2.2.2.2.1 hP hD hS F.2.2.2.2.2.2.2.2.1 hc hfs (by rw [F.2.2.2.2.2.2.2.2.2.2.2]; exact Nat.le_of_ble_eq_true hr.1) (by rw [F.2.2.2.2.2.2.2.2.2.2.2]; exact Nat.le_of_ble_eq_true hr.2) d (fun q H1 hP1 hD1 hS1 => h q H1 locs la hP1 hD1 hS1 hL)
theorem nz_newa (F : nz_F y g cc nL Ts own ret rm) (harr : Cond.arrayClass .int ∈ Ts) {z : Int32} {N' : Nat} (hz : ¬ z < 0) (hN : z.toNatClampNeg = N') (hb : Nat.ble (N' * 4) 536870912 = true) (hr : Nat.ble (k + 1) rm.cells = true ∧ Nat.ble (n + N') rm.slots = true) (d : decode cc pc = .ok (.newarray .int, 2)) (h : ∀ q : Nat, nz_V y g (k + 1) (n + N') (ws ++ [(q, .inl (nz_cI g, N', .inl (fun _ => 0)))]) (pc + 2) ls (.ref q :: st)) : nz_V y g k n ws pc ls (.int z :: st) := by
  intro H locs la hP hD hS hL
  refine va_newa (atype := .int) (ty := .int) (a0 := (N', .inl (fun _ => 0))) F.1 F.2.1 (F.2.2.2.2.2.1 _ harr) rfl F.2.2.2.2.2.2.2.2.2.1 hP hD hS F.2.2.2.2.2.2.2.2.1 (fun cA => rfl) hz hN (Nat.le_of_ble_eq_true hb) (by rw [F.2.2.2.2.2.2.2.2.2.2.2]; exact Nat.le_of_ble_eq_true hr.1) (by rw [F.2.2.2.2.2.2.2.2.2.2.2]; exact Nat.le_of_ble_eq_true hr.2) d (fun q cA H1 hK1 hP1 hD1 hS1 => ?_)
  have e1 := (hK1.2 4 (cA, .int) rfl).2
  have e2 := (F.2.2.2.2.2.2.2.2.2.1.2 0 (nz_cI g, .int) rfl).2
  have e : cA = nz_cI g := Option.some.inj (e1.symm.trans e2)
  subst e
  exact h q H1 locs la hP1 hD1 hS1 hL
theorem nz_newz (F : nz_F y g cc nL Ts own ret rm) (harr : Cond.arrayClass .boolean ∈ Ts) {z : Int32} {N' : Nat} (hz : ¬ z < 0) (hN : z.toNatClampNeg = N') (hb : Nat.ble (N' * 1) 536870912 = true) (hr : Nat.ble (k + 1) rm.cells = true ∧ Nat.ble (n + N') rm.slots = true) (d : decode cc pc = .ok (.newarray .boolean, 2)) (h : ∀ q : Nat, nz_V y g (k + 1) (n + N') (ws ++ [(q, .inl (nz_cZ g, N', .inl (fun _ => 0)))]) (pc + 2) ls (.ref q :: st)) : nz_V y g k n ws pc ls (.int z :: st) := by
  intro H locs la hP hD hS hL
  refine va_newa (atype := .boolean) (ty := .boolean) (a0 := (N', .inl (fun _ => 0))) F.1 F.2.1 (F.2.2.2.2.2.1 _ harr) rfl F.2.2.2.2.2.2.2.2.2.1 hP hD hS F.2.2.2.2.2.2.2.2.1 (fun cA => rfl) hz hN (Nat.le_of_ble_eq_true hb) (by rw [F.2.2.2.2.2.2.2.2.2.2.2]; exact Nat.le_of_ble_eq_true hr.1) (by rw [F.2.2.2.2.2.2.2.2.2.2.2]; exact Nat.le_of_ble_eq_true hr.2) d (fun q cA H1 hK1 hP1 hD1 hS1 => ?_)
  have e1 := (hK1.2 4 (cA, .boolean) rfl).2
  have e2 := (F.2.2.2.2.2.2.2.2.2.1.2 1 (nz_cZ g, .boolean) rfl).2
  have e : cA = nz_cZ g := Option.some.inj (e1.symm.trans e2)
  subst e
  exact h q H1 locs la hP1 hD1 hS1 hL
theorem nz_newq (F : nz_F y g cc nL Ts own ret rm) {idx : Nat} (hO : va_AO "NightStones$Road" (yz_s y)) (hcl : Cond.classLink own idx "NightStones$Road" ∈ Ts) {z : Int32} {N' : Nat} (hz : ¬ z < 0) (hN : z.toNatClampNeg = N') (hb : Nat.ble (N' * 4) 536870912 = true) (hr : Nat.ble (k + 1) rm.cells = true ∧ Nat.ble (n + N') rm.slots = true) (d : decode cc pc = .ok (.anewarray idx, 3)) (h : ∀ q : Nat, nz_V y g (k + 1) (n + N') (ws ++ [(q, .inl (nz_cR g, N', .inr (.inr (.inr (.inr (fun _ => none))))))]) (pc + 3) ls (.ref q :: st)) : nz_V y g k n ws pc ls (.int z :: st) := by
  intro H locs la hP hD hS hL
  refine va_newq F.1 F.2.1 F.2.2.2.2.1 (F.2.2.2.2.2.1 _ hcl) hO F.2.2.2.2.2.2.2.2.2.1 hP hD hS F.2.2.2.2.2.2.2.2.1 hz hN (Nat.le_of_ble_eq_true hb) (by rw [F.2.2.2.2.2.2.2.2.2.2.2]; exact Nat.le_of_ble_eq_true hr.1) (by rw [F.2.2.2.2.2.2.2.2.2.2.2]; exact Nat.le_of_ble_eq_true hr.2) d (fun q cA H1 hK1 hP1 hD1 hS1 => ?_)
  obtain ⟨_, _, -, -, -, e1⟩ := (hK1.2 4 (cA, .object "NightStones$Road") rfl).2
  obtain ⟨_, _, -, -, -, e2⟩ := (F.2.2.2.2.2.2.2.2.2.1.2 2 (nz_cR g, .object "NightStones$Road") rfl).2
  have e : cA = nz_cR g := Option.some.inj (e1.symm.trans e2)
  subst e
  exact h q H1 locs la hP1 hD1 hS1 hL
theorem nz_recell {q0 a : Nat} {e e' : va_E} (ha : ws[q0]? = some (a, e)) (he : ∀ H : Heap, va_at (nz_D g) vwCl (a, e) H → va_at (nz_D g) vwCl (a, e') H) (hw : ws.set q0 (a, e') = ws') (h : nz_V y g k n ws' pc ls st) : nz_V y g k n ws pc ls st := by
  intro H locs la hP hD hS hL
  subst hw
  exact h H locs la (hP.set hD ha (he H (hP q0 _ ha)) (fun _ _ => rfl)) (hD.set ha) hS hL
theorem nz_arrV {c : ClassId} {N : Nat} {f f' : Nat → Value} (h : ∀ j, j < N → f j = f' j) : arrV c N f = arrV c N f' := by
  unfold arrV
  congr 1
  congr 1
  funext j
  exact h j.val j.isLt
theorem nz_refn {q0 a N : Nat} {c : ClassId} {f f' : Nat → Option Nat} (ha : ws[q0]? = some (a, .inl (c, N, .inr (.inr (.inr (.inr f)))))) (hf : ∀ j, j < N → f j = f' j) (hw : ws.set q0 (a, .inl (c, N, .inr (.inr (.inr (.inr f'))))) = ws') (h : nz_V y g k n ws' pc ls st) : nz_V y g k n ws pc ls st :=
  nz_recell ha (fun H q => by
    show H[a]? = some (arrV c N (fun j => va_rf (f' j)))
    rw [← nz_arrV (f := fun j => va_rf (f j)) (fun j hj => by rw [hf j hj])]
    exact q) hw h
theorem nz_perm (is : List Nat) (hs : is.map (fun i => ws[i]?) = ws'.map some) (hn : va_nd is = true) (h : nz_V y g k n ws' pc ls st) : nz_V y g k n ws pc ls st := fun H locs la hP hD hS hL => h H locs la (hP.sub is (nz_fm _ _ _ hs)) (hD.sub is hn hs) hS hL
theorem nz_mna (F : nz_F y g cc nL Ts own ret rm) {idx : Nat} (hO : nz_AOA .int (yz_s y)) (hcl : Cond.classLink own idx "[[I" ∈ Ts) (harr : Cond.arrayClass .int ∈ Ts) (hr : Nat.ble (k + 9) rm.cells = true ∧ Nat.ble (n + 328) rm.slots = true) (d : decode cc pc = .ok (.multianewarray idx 2, 4)) (h : ∀ (q : Nat) (r : Nat → Nat), nz_V y g (k + 1 + 8) (n + 8 + 8 * 40) ((ws ++ [(q, .inl (nz_cA g, 8, .inr (.inr (.inr (.inr (fun j => some (r j)))))))]) ++ nz_pool g r (fun _ _ => 0)) (pc + 4) ls (.ref q :: st)) : nz_V y g k n ws pc ls (.int 40 :: .int 8 :: st) := by
  intro H locs la hP hD hS hL
  have q1 := Nat.le_of_ble_eq_true hr.1
  have q2 := Nat.le_of_ble_eq_true hr.2
  have hcy := (F.2.2.2.2.2.2.2.2.2.1.2 0 (nz_cI g, .int) rfl).2
  refine va_mna (X := ws) (L := []) (f := fun _ => .inr (0, [])) (ty := .int) (cy := nz_cI g) (z := (40, .inl (fun _ => 0))) F.1 F.2.1 F.2.2.2.2.1 (F.2.2.2.2.2.1 _ hcl) hO (F.2.2.2.2.2.1 _ harr) hcy F.2.2.2.2.2.2.2.2.2.1 (by simpa [va_pl] using hP) (by simpa [va_pl] using hD) hS F.2.2.2.2.2.2.2.2.1 (n := 8) (k := 40) (N' := 8) (K' := 40) (by decide) (by decide) (by decide) (by decide) (by decide) (by decide) (by decide) rfl rfl (by rw [F.2.2.2.2.2.2.2.2.2.2.2]; omega) (by rw [F.2.2.2.2.2.2.2.2.2.2.2]; omega) (fun c => ?_) d (fun q r cA H1 hinj hnew hK1 hP1 hD1 hS1 => ?_)
  · show ({ cls := c, slots := Array.replicate 40 (.int 0), vm := .none } : Cell) = arrV c 40 (fun _ => .int 0)
    exact arrV_new c 40 (.int 0)
  · have e1 := (hK1.2 4 (cA, .array .int) rfl).2
    have e2 := (F.2.2.2.2.2.2.2.2.2.1.2 3 (nz_cA g, .array .int) rfl).2
    have e : cA = nz_cA g := Option.some.inj (e1.symm.trans e2)
    subst e
    have hpl : va_pl ([] ++ (List.range 8).map r) (vr_up (fun _ => .inr (0, [])) ((List.range 8).map r) (.inl (nz_cI g, 40, .inl (fun _ => 0)))) = nz_pool g r (fun _ _ => 0) := by
      have hin : ∀ j, j < 8 → r j ∈ (List.range 8).map r := fun j hj => List.mem_map.mpr ⟨j, List.mem_range.mpr hj, rfl⟩
      show [_, _, _, _, _, _, _, _] = _
      simp only [vr_up_in (hin 0 (by decide)), vr_up_in (hin 1 (by decide)), vr_up_in (hin 2 (by decide)), vr_up_in (hin 3 (by decide)), vr_up_in (hin 4 (by decide)), vr_up_in (hin 5 (by decide)), vr_up_in (hin 6 (by decide)), vr_up_in (hin 7 (by decide))]
    rw [hpl] at hP1 hD1
    have ha : ((ws ++ [(q, (.inl (nz_cA g, 8, .inr (.inr (.inr (.inr (fun i => if i < 8 then some (r i) else none))))) : va_E))]) ++ nz_pool g r (fun _ _ => 0))[ws.length]? = some (q, .inl (nz_cA g, 8, .inr (.inr (.inr (.inr (fun i => if i < 8 then some (r i) else none)))))) := by
      rw [List.getElem?_append_left (by simp), List.getElem?_append_right (Nat.le_refl _)]
      simp
    refine nz_refn (f' := fun j => some (r j)) ha (fun j hj => by rw [if_pos hj]) ?_ (h q r) H1 locs la hP1 hD1 hS1 hL
    rw [List.set_append_left _ _ (by simp), List.set_append_right _ _ (Nat.le_refl _)]
    simp
theorem nz_astq (F : nz_F y g cc nL Ts own ret rm) (q0 qk ci : Nat) {a len v : Nat} {vs : List Value} {f : Nat → Option Nat} {i : Int32} (ha : ws[q0]? = some (a, .inl (nz_cR g, len, .inr (.inr (.inr (.inr f)))))) (hv : ws[qk]? = some (v, .inr (ci, vs))) (hc : vwCl[ci]? = some (RX5, TX5, 17)) (hin : vp_in i len) (d : decode cc pc = .ok (.aastore, 1)) (hw : ws.set q0 (a, .inl (nz_cR g, len, .inr (.inr (.inr (.inr (va_up f i.toNatClampNeg (some v))))))) = ws') (h : nz_V y g k n ws' (pc + 1) ls st) : nz_V y g k n ws pc ls (.ref v :: .int i :: .ref a :: st) := fun H locs la hP hD hS hL =>
  va_astq F.1 F.2.1 F.2.2.2.2.2.2.2.2.2.1 hP hD hS q0 2 qk ci ha rfl hv hc hin d (fun H1 locs1 hP1 hD1 hS1 => h H1 locs1 la (hw ▸ hP1) (hw ▸ hD1) hS1 hL)
theorem nz_putF (F : nz_F y g cc nL Ts own ret rm) (hN : (yz_M y).name = "<init>") {nm ds : String} {X : u_T} {N ci idx : Nat} {a : Nat} (hin : ∀ w ∈ u_ws own X N, w ∈ Ts) (ty0 : Nat → FieldType) (hty : ∀ j, j < N → parseFieldDescriptor (X j).2.2.1 = some (ty0 j)) (hnm : ∀ a, a < N → ∀ b, b < N → a ≠ b → (X a).2.1 ≠ (X b).2.1) (q0 : Nat) {fs : List Value} (he : ws[q0]? = some (a, .inr (ci, fs))) (hc : vwCl[ci]? = some (own, X, N)) (j : Nat) (hj : j < N) (hX : X j = (own, nm, ds, true)) (hk : Cond.fieldLink own idx own nm ds ∈ Ts) {v : Nat} (hn : narrow (ty0 j) (.ref v) = .ref v) (hf : fits (ty0 j) (.ref v) = true) (hl : j < fs.length) (d : decode cc pc = .ok (.putfield idx, 3)) (hw : ws.set q0 (a, .inr (ci, fs.set j (.ref v))) = ws') (h : nz_V y g k n ws' (pc + 3) ls st) : nz_V y g k n ws pc ls (.ref v :: .ref a :: st) := fun H locs la hP hD hS hL =>
  va_putF (ref := own) (own := own) (C := own) (ty := ty0 j) F.1 F.2.1 F.2.2.2.2.2.1 hin ty0 hty hnm F.2.2.2.2.1 F.2.2.2.2.2.2.2.2.2.1 hP hD hS q0 he hc j hj (by rw [hX]; exact F.2.2.2.2.2.1 _ hk) (by rw [hX]; exact fun _ q => q) (by rw [hX]) hN (by rw [hX]) (hty j hj) hn hf hl d (fun H1 locs1 hP1 hD1 hS1 => h H1 locs1 la (hw ▸ hP1) (hw ▸ hD1) hS1 hL)
end NZC
def nz_O (U : State) : Prop := va_AO "NightStones$Road" U ∧ nz_AOA .int U
def nz_MC (l : Launch) (yy : MethodName) (Ts : List Cond) (rm : Room) (g : nz_G) (av : List Value) (wc : va_W) (mc ms : Nat) (Qc : Nat → Array Value → State → Outcome → State → Prop) : Prop := ∀ sz : Nat, Met l yy Ts rm (va_Pc av (fun U => nz_P g wc sz U ∧ nz_O U)) (Qc sz) mc ms (va_A wc sz)
theorem nz_MC.of {l : Launch} {yy : MethodName} {Ts ws' : List Cond} {rm : Room} {g : nz_G} {av : List Value} {wc : va_W} {mc ms : Nat} {Qc : Nat → Array Value → State → Outcome → State → Prop} {bytes : ByteArray} {nL : Nat} {ret : Option FieldType} {own : String}
    (hy : plainName yy.cls = true) (hcls : yy.cls = own) (hin : yy.name = "<init>") (hw : Ts = Cond.code yy bytes nL ret :: ws') (hl : Nat.ble (lg_sl av).length nL = true)
    (body : ∀ y : nz_Y, nz_F y g bytes nL Ts own ret rm → (yz_M y).name = "<init>" → nz_O (yz_s y) → (∃ sz : Nat, yz_A y = va_A wc sz ∧ yz_Q y = MQ (yz_b y) (Qc sz) (yz_a y) (yz_s y) mc ms (va_A wc sz)) → nz_V y g 0 0 wc 0 (lv_args 0 av) []) : nz_MC l yy Ts rm g av wc mc ms Qc := by
  intro sz
  refine Met.ofW (cc := bytes) (maxL := nL) (ret := ret) hy hw ?_
  intro p e s m args below meth c s₁ B hml hv
  obtain ⟨rfl, ⟨hsz, hP, hK, hD0, hE⟩, hO⟩ := hv
  subst hsz
  have hD := hD0.self (sz := s.heap.size)
  have hl' := lv_entry av (n := nL) (Nat.le_of_ble_eq_true hl)
  rw [lg_entry_eq]
  have hown : s.vm.findClass own = some m.cls := by rw [← hcls]; exact findClass_of_methodNamed B.named
  have hnm : meth.name = "<init>" := by rw [← hin]; exact (name_of_methodNamed B.named B.method).1
  exact body (p, l, e, (headSpec Ts rm).room, s, m, av.toArray, below, meth, c, MQ below (Qc s.heap.size) av.toArray s mc ms (va_A wc s.heap.size), va_A wc s.heap.size, nL)
    ⟨B.exec, B.bytes, hml, rfl, hown, atoms_spec (ws := Ts) B.pre, B.returns, B.notSynchronized, fun q h => Or.inr h, hK, hE, rfl⟩ hnm hO ⟨s.heap.size, rfl, rfl⟩ s.heap [] _ hP hD va_S.rf hl'
section NZC2
variable {y : nz_Y} {g : nz_G} {k n : Nat} {ws ws' : va_W} {pc : Nat} {ls : List (Nat × Value)} {st rest : List Value} {cc : ByteArray} {nL : Nat} {Ts : List Cond} {own : String} {ret : Option FieldType} {rm : Room}
def nz_CC (y : nz_Y) (g : nz_G) (k n mc ms : Nat) (ws : va_W) (pc : Nat) (ls : List (Nat × Value)) (st rest : List Value) (wc : va_W) (Qc : Nat → Array Value → State → Outcome → State → Prop) (av : Array Value) (isC : List Nat) : Prop :=
  isC.map (fun i => ws[i]?) = wc.map some ∧ (∀ q : Nat, (yz_s y).heap.size ≤ q → yz_A y q) ∧ ∀ (H : Heap) (locs : List Loc) (la : Array Slot), va_P (nz_D g) vwCl ws H → va_D (yz_A y) ws → va_S (yz_A y) (yz_s y).heap H locs → lv_has la (yz_n y) ls → va_Run (yz_p y) (yz_l y) (yz_e y) (yz_R y) (yz_s y) (yz_m y) (yz_a y) (yz_b y) (yz_M y) (yz_c y) H locs k n mc ms (F0 (yz_m y) pc la st) rest (Qc H.size av) (va_A wc H.size)
theorem nz_O.moved {u U : State} (hvm : u.vm.Alike U.vm) (h : nz_O u) : nz_O U := ⟨h.1.moved hvm, h.2.moved hvm⟩
theorem nz_bldC {wc : va_W} {sz : Nat} {av : List Value} : FrameBlind (va_Pc av (fun U => nz_P g wc sz U ∧ nz_O U)) := fun a U f mk q => by
  obtain ⟨q0, ⟨q1, q2, q3, q4, q5⟩, q6⟩ := q
  exact ⟨q0, ⟨q1, q2, va_K.moved (u := U) (U := U.calling f mk a) (Vm.Alike.refl U.vm) q3, q4, q5.blind⟩, nz_O.moved (u := U) (U := U.calling f mk a) (Vm.Alike.refl U.vm) q6⟩
theorem nz_cJ {S : Type} {wc wr : va_W} {mc ms : Nat} {post : S → Prop} {w1 : S → va_W} {av : Array Value} {isC : List Nat} (hc : nz_CC y g k n mc ms ws pc ls st rest wc (nz_Qv g wc post w1) av isC) (isR : List Nat) (hR : isR.map (fun i => ws[i]?) = wr.map some) (hn : va_nd isR = true) (hdis : ∀ i ∈ isR, i ∉ isC)
    (kk : ∀ u : S, post u → nz_V y g (k + mc) (n + ms) (wr ++ w1 u) (pc + 3) ls rest) : nz_V y g k n ws pc ls st := by
  intro H locs la hP hD hS hL
  obtain ⟨hC, hA, hrun⟩ := hc
  have hFc := va_free hD hS hA isC hC
  refine va_callv (hrun H locs la hP hD hS hL) hS (fun q _ h => hFc q h) hFc (fun u t H1 locs1 ht hvm hw hB hz1 hk1 hS1 => ?_)
  obtain ⟨hP1, hK1, hD1⟩ := hB
  rw [ht] at hP1
  obtain ⟨hP2, hD2⟩ := va_join hP hD isC isR hC hR hn hdis hk1 hFc hP1 hD1
  exact kk u hw H1 locs1 la hP2 hD2 hS1 hL
theorem nz_runIN (F : nz_F y g cc nL Ts own ret rm) {yy : MethodName} {bytes : ByteArray} {maxL nn idx mc ms : Nat} {wsy ws1 : List Cond} {rmy : Room} {As : List Value} {wc : va_W} {b : Nat} {Qc : Nat → Array Value → State → Outcome → State → Prop} {host : String} (hO : nz_O (yz_s y)) (hG : GoodIn Ts wsy) (hw : wsy = Cond.code yy bytes maxL none :: ws1) (hl : Cond.methodLinkNest own idx yy host ∈ nz_nest) (hini : Cond.initialized yy.cls ∈ Ts) (hx1 : Cond.instanceMethod yy ∈ Ts) (hy1 : yy.name = "<init>") (hd : yy.cls ≠ "java/lang/invoke/MethodHandle" ∧ yy.cls ≠ "java/lang/invoke/VarHandle" ∧ (parseMethodDescriptor yy.desc).map (fun d => d.parameters.length) = some nn) (hR : (Nat.ble (rmy.frames + 1) rm.frames && Nat.ble (8 + (maxL + 11) + rmy.locals) rm.locals && Nat.beq rmy.cells mc && Nat.beq rmy.slots ms && Nat.ble (k + mc) rm.cells && Nat.ble (n + ms) rm.slots) = true) (hM : nz_MC (yz_l y) yy wsy rmy g (.ref b :: As) wc mc ms Qc) (d : decode cc pc = .ok (.invokespecial idx, 3)) (isC : List Nat) (hC : isC.map (fun i => ws[i]?) = wc.map some) (hnd : va_nd isC = true) (hn : As.length = nn) (hcat : (rest.map fun v => v.category).sum ≤ 8) (hst : st = As.reverse ++ .ref b :: rest) : nz_CC y g k n mc ms ws pc ls st rest wc Qc (Value.ref b :: As).toArray isC := by
  simp only [Bool.and_eq_true] at hR
  obtain ⟨⟨⟨⟨⟨r1, r2⟩, r3⟩, r4⟩, r5⟩, r6⟩ := hR
  have r1 := Nat.le_of_ble_eq_true r1
  have r2 := Nat.le_of_ble_eq_true r2
  have r3 := Nat.eq_of_beq_eq_true r3
  have r4 := Nat.eq_of_beq_eq_true r4
  have r5 := Nat.le_of_ble_eq_true r5
  have r6 := Nat.le_of_ble_eq_true r6
  refine ⟨hC, F.2.2.2.2.2.2.2.2.1, fun H locs la hP hD hS hL => ?_⟩
  have hM1 := hM H.size
  obtain ⟨f1, f2, f3, f4, f5, f6, f7, f8, f9, f10, f11, f12⟩ := F
  have F : nz_F y g cc nL Ts own ret rm := ⟨f1, f2, f3, f4, f5, f6, f7, f8, f9, f10, f11, f12⟩
  subst f12
  subst hst
  exact va_runIN (As := As) (rest := rest) ⟨f1, f2, f3.trans f4, f5, f6⟩ hM1 ⟨va_cnB nn f6 hG hw r3 r4 (f11.1.1 _ hl) (f6 _ hini) hd ⟨r1, r2⟩, hy1, f6 _ hx1⟩ ⟨nz_bldC, fun U hU hW => ⟨rfl, nz_giv F hP hD hS hC hnd hU hW, hO.moved hW.alike⟩⟩ rfl hn (hL.1.trans f4) rfl (lv_room hcat) d ⟨r5, r6⟩
theorem nz_runI (F : nz_F y g cc nL Ts own ret rm) {yy : MethodName} {bytes : ByteArray} {maxL nn idx mc ms : Nat} {wsy ws1 : List Cond} {rmy : Room} {As : List Value} {wc : va_W} {b : Nat} {Qc : Nat → Array Value → State → Outcome → State → Prop} (hO : nz_O (yz_s y)) (hG : GoodIn Ts wsy) (hw : wsy = Cond.code yy bytes maxL none :: ws1) (hl : Cond.methodLink own idx yy ∈ Ts) (hini : Cond.initialized yy.cls ∈ Ts) (hx1 : Cond.instanceMethod yy ∈ Ts) (hy1 : yy.name = "<init>") (hd : yy.cls ≠ "java/lang/invoke/MethodHandle" ∧ yy.cls ≠ "java/lang/invoke/VarHandle" ∧ (parseMethodDescriptor yy.desc).map (fun d => d.parameters.length) = some nn) (hR : (Nat.ble (rmy.frames + 1) rm.frames && Nat.ble (8 + (maxL + 11) + rmy.locals) rm.locals && Nat.beq rmy.cells mc && Nat.beq rmy.slots ms && Nat.ble (k + mc) rm.cells && Nat.ble (n + ms) rm.slots) = true) (hM : nz_MC (yz_l y) yy wsy rmy g (.ref b :: As) wc mc ms Qc) (d : decode cc pc = .ok (.invokespecial idx, 3)) (isC : List Nat) (hC : isC.map (fun i => ws[i]?) = wc.map some) (hnd : va_nd isC = true) (hn : As.length = nn) (hcat : (rest.map fun v => v.category).sum ≤ 8) (hst : st = As.reverse ++ .ref b :: rest) : nz_CC y g k n mc ms ws pc ls st rest wc Qc (Value.ref b :: As).toArray isC := by
  simp only [Bool.and_eq_true] at hR
  obtain ⟨⟨⟨⟨⟨r1, r2⟩, r3⟩, r4⟩, r5⟩, r6⟩ := hR
  have r1 := Nat.le_of_ble_eq_true r1
  have r2 := Nat.le_of_ble_eq_true r2
  have r3 := Nat.eq_of_beq_eq_true r3
  have r4 := Nat.eq_of_beq_eq_true r4
  have r5 := Nat.le_of_ble_eq_true r5
  have r6 := Nat.le_of_ble_eq_true r6
  refine ⟨hC, F.2.2.2.2.2.2.2.2.1, fun H locs la hP hD hS hL => ?_⟩
  have hM1 := hM H.size
  obtain ⟨f1, f2, f3, f4, f5, f6, f7, f8, f9, f10, f11, f12⟩ := F
  have F : nz_F y g cc nL Ts own ret rm := ⟨f1, f2, f3, f4, f5, f6, f7, f8, f9, f10, f11, f12⟩
  subst f12
  subst hst
  exact va_runI (As := As) (rest := rest) ⟨f1, f2, f3.trans f4, f5, f6⟩ hM1 (cwI nn f6 hG hw r3 r4 (f6 _ hini) (f6 _ hl) (f6 _ hx1) hy1 hd ⟨r1, r2⟩) ⟨nz_bldC, fun U hU hW => ⟨rfl, nz_giv F hP hD hS hC hnd hU hW, hO.moved hW.alike⟩⟩ rfl hn (hL.1.trans f4) rfl (lv_room hcat) d ⟨r5, r6⟩
end NZC2
theorem dX5_init_0 : decode cX5_init 0 = .ok (.aload_n 0, 1) := by decide +kernel
theorem dX5_init_1 : decode cX5_init 1 = .ok (.invokespecial 3, 3) := by decide +kernel
theorem dX5_init_4 : decode cX5_init 4 = .ok (.aload_n 0, 1) := by decide +kernel
theorem dX5_init_5 : decode cX5_init 5 = .ok (.bipush 6, 2) := by decide +kernel
theorem dX5_init_7 : decode cX5_init 7 = .ok (.newarray .int, 2) := by decide +kernel
theorem dX5_init_9 : decode cX5_init 9 = .ok (.putfield 11, 3) := by decide +kernel
theorem dX5_init_12 : decode cX5_init 12 = .ok (.aload_n 0, 1) := by decide +kernel
theorem dX5_init_13 : decode cX5_init 13 = .ok (.bipush 6, 2) := by decide +kernel
theorem dX5_init_15 : decode cX5_init 15 = .ok (.newarray .int, 2) := by decide +kernel
theorem dX5_init_17 : decode cX5_init 17 = .ok (.putfield 15, 3) := by decide +kernel
theorem dX5_init_20 : decode cX5_init 20 = .ok (.aload_n 0, 1) := by decide +kernel
theorem dX5_init_21 : decode cX5_init 21 = .ok (.bipush 6, 2) := by decide +kernel
theorem dX5_init_23 : decode cX5_init 23 = .ok (.newarray .int, 2) := by decide +kernel
theorem dX5_init_25 : decode cX5_init 25 = .ok (.putfield 18, 3) := by decide +kernel
theorem dX5_init_28 : decode cX5_init 28 = .ok (.aload_n 0, 1) := by decide +kernel
theorem dX5_init_29 : decode cX5_init 29 = .ok (.iconst 5, 1) := by decide +kernel
theorem dX5_init_30 : decode cX5_init 30 = .ok (.newarray .int, 2) := by decide +kernel
theorem dX5_init_32 : decode cX5_init 32 = .ok (.putfield 21, 3) := by decide +kernel
theorem dX5_init_35 : decode cX5_init 35 = .ok (.aload_n 0, 1) := by decide +kernel
theorem dX5_init_36 : decode cX5_init 36 = .ok (.iconst 5, 1) := by decide +kernel
theorem dX5_init_37 : decode cX5_init 37 = .ok (.newarray .int, 2) := by decide +kernel
theorem dX5_init_39 : decode cX5_init 39 = .ok (.putfield 24, 3) := by decide +kernel
theorem dX5_init_42 : decode cX5_init 42 = .ok (.aload_n 0, 1) := by decide +kernel
theorem dX5_init_43 : decode cX5_init 43 = .ok (.iconst 5, 1) := by decide +kernel
theorem dX5_init_44 : decode cX5_init 44 = .ok (.newarray .int, 2) := by decide +kernel
theorem dX5_init_46 : decode cX5_init 46 = .ok (.putfield 27, 3) := by decide +kernel
theorem dX5_init_49 : decode cX5_init 49 = .ok (.aload_n 0, 1) := by decide +kernel
theorem dX5_init_50 : decode cX5_init 50 = .ok (.iconst 5, 1) := by decide +kernel
theorem dX5_init_51 : decode cX5_init 51 = .ok (.newarray .int, 2) := by decide +kernel
theorem dX5_init_53 : decode cX5_init 53 = .ok (.putfield 30, 3) := by decide +kernel
theorem dX5_init_56 : decode cX5_init 56 = .ok (.aload_n 0, 1) := by decide +kernel
theorem dX5_init_57 : decode cX5_init 57 = .ok (.bipush 48, 2) := by decide +kernel
theorem dX5_init_59 : decode cX5_init 59 = .ok (.newarray .int, 2) := by decide +kernel
theorem dX5_init_61 : decode cX5_init 61 = .ok (.putfield 33, 3) := by decide +kernel
theorem dX5_init_64 : decode cX5_init 64 = .ok (.return_, 1) := by decide +kernel
theorem wc_X5_init_oi3 : Cond.methodLink RX5 3 objectInit ∈ wsX5_init := List.mem_of_getElem? (i := 1) rfl
theorem wc_X5_init_om : Cond.instanceMethod objectInit ∈ wsX5_init := List.mem_of_getElem? (i := 2) rfl
theorem wc_X5_init_oc : Cond.code objectInit ⟨#[0xb1]⟩ 1 none ∈ wsX5_init := List.mem_of_getElem? (i := 3) rfl
theorem wc_X5_init_ac_int : Cond.arrayClass .int ∈ wsX5_init := List.mem_of_getElem? (i := 4) rfl
theorem iw_X5_init_5 : ∀ w ∈ wsX50, w ∈ wsX5_init := fun _ h => List.mem_cons_of_mem _ (List.mem_append_right _ h)
theorem wc_X5_init_fl11 : Cond.fieldLink RX5 11 "NightStones$Road" "says" "[I" ∈ wsX5_init := List.mem_of_getElem? (i := 5) rfl
theorem wc_X5_init_fl15 : Cond.fieldLink RX5 15 "NightStones$Road" "at" "[I" ∈ wsX5_init := List.mem_of_getElem? (i := 6) rfl
theorem wc_X5_init_fl18 : Cond.fieldLink RX5 18 "NightStones$Road" "home" "[I" ∈ wsX5_init := List.mem_of_getElem? (i := 7) rfl
theorem wc_X5_init_fl21 : Cond.fieldLink RX5 21 "NightStones$Road" "kinds" "[I" ∈ wsX5_init := List.mem_of_getElem? (i := 8) rfl
theorem wc_X5_init_fl24 : Cond.fieldLink RX5 24 "NightStones$Road" "pushed" "[I" ∈ wsX5_init := List.mem_of_getElem? (i := 9) rfl
theorem wc_X5_init_fl27 : Cond.fieldLink RX5 27 "NightStones$Road" "ways" "[I" ∈ wsX5_init := List.mem_of_getElem? (i := 10) rfl
theorem wc_X5_init_fl30 : Cond.fieldLink RX5 30 "NightStones$Road" "reach" "[I" ∈ wsX5_init := List.mem_of_getElem? (i := 11) rfl
theorem wc_X5_init_fl33 : Cond.fieldLink RX5 33 "NightStones$Road" "heardOf" "[I" ∈ wsX5_init := List.mem_of_getElem? (i := 12) rfl
abbrev rm_X5_init : Room := { frames := 1, cells := 8, slots := 86, locals := 20 }
set_option maxHeartbeats 4000000 in
set_option maxRecDepth 100000 in
theorem c_X5_init (l : Launch) (g : nz_G) (o : Nat) : nz_MC l yX5_init wsX5_init rm_X5_init g [.ref o] [(o, .inr (5, [.int 0, .int 0, .int 0, .int 0, .int 0, .int 0, .int 0, .int 0, .int 0, .null, .null, .null, .null, .null, .null, .null, .null]))] 8 86 (nz_Qv g [(o, .inr (5, [.int 0, .int 0, .int 0, .int 0, .int 0, .int 0, .int 0, .int 0, .int 0, .null, .null, .null, .null, .null, .null, .null, .null]))] (fun (u : Nat × Nat × Nat × Nat × Nat × Nat × Nat × Nat) => True) (fun u => [(o, .inr (5, [.int 0, .int 0, .int 0, .int 0, .int 0, .int 0, .int 0, .int 0, .int 0, .ref u.1, .ref u.2.1, .ref u.2.2.1, .ref u.2.2.2.1, .ref u.2.2.2.2.1, .ref u.2.2.2.2.2.1, .ref u.2.2.2.2.2.2.1, .ref u.2.2.2.2.2.2.2])), (u.1, .inl (nz_cI g, 6, .inl (fun _ => 0))), (u.2.1, .inl (nz_cI g, 6, .inl (fun _ => 0))), (u.2.2.1, .inl (nz_cI g, 6, .inl (fun _ => 0))), (u.2.2.2.1, .inl (nz_cI g, 5, .inl (fun _ => 0))), (u.2.2.2.2.1, .inl (nz_cI g, 5, .inl (fun _ => 0))), (u.2.2.2.2.2.1, .inl (nz_cI g, 5, .inl (fun _ => 0))), (u.2.2.2.2.2.2.1, .inl (nz_cI g, 5, .inl (fun _ => 0))), (u.2.2.2.2.2.2.2, .inl (nz_cI g, 48, .inl (fun _ => 0)))])) := by
  refine nz_MC.of (bytes := cX5_init) (nL := 1) (ret := none) (own := RX5) (by decide) rfl rfl rfl rfl ?_
  intro y F hN hO hQ
  obtain ⟨sz, hQ⟩ := hQ
  refine nz_ent (lv' := [(0, .ref o)]) rfl ?_
  refine nz_aload_n F dX5_init_0 rfl 0 rfl ?_
  refine nz_oinit F wc_X5_init_oi3 wc_X5_init_om wc_X5_init_oc ⟨rfl, rfl⟩ (Nat.le_of_ble_eq_true rfl) dX5_init_1 ?_
  refine nz_aload_n F dX5_init_4 rfl 0 rfl ?_
  refine nz_bipush (v := 6) F dX5_init_5 (by decide) ?_
  refine nz_newa (N' := 6) F wc_X5_init_ac_int (by decide) (by decide) rfl ⟨rfl, rfl⟩ dX5_init_7 (fun q1 => ?_)
  refine nz_ws (ws' := [(o, .inr (5, [.int 0, .int 0, .int 0, .int 0, .int 0, .int 0, .int 0, .int 0, .int 0, .null, .null, .null, .null, .null, .null, .null, .null])), (q1, .inl (nz_cI g, 6, .inl (fun _ => 0)))]) rfl ?_
  refine nz_putF (ws' := [(o, .inr (5, [.int 0, .int 0, .int 0, .int 0, .int 0, .int 0, .int 0, .int 0, .int 0, .ref q1, .null, .null, .null, .null, .null, .null, .null])), (q1, .inl (nz_cI g, 6, .inl (fun _ => 0)))]) F hN iw_X5_init_5 tyX5 tyX5_ok nmX5 0 rfl rfl 9 (by decide) rfl wc_X5_init_fl11 rfl rfl (Nat.le_of_ble_eq_true rfl) dX5_init_9 rfl ?_
  refine nz_aload_n F dX5_init_12 rfl 0 rfl ?_
  refine nz_bipush (v := 6) F dX5_init_13 (by decide) ?_
  refine nz_newa (N' := 6) F wc_X5_init_ac_int (by decide) (by decide) rfl ⟨rfl, rfl⟩ dX5_init_15 (fun q2 => ?_)
  refine nz_ws (ws' := [(o, .inr (5, [.int 0, .int 0, .int 0, .int 0, .int 0, .int 0, .int 0, .int 0, .int 0, .ref q1, .null, .null, .null, .null, .null, .null, .null])), (q1, .inl (nz_cI g, 6, .inl (fun _ => 0))), (q2, .inl (nz_cI g, 6, .inl (fun _ => 0)))]) rfl ?_
  refine nz_putF (ws' := [(o, .inr (5, [.int 0, .int 0, .int 0, .int 0, .int 0, .int 0, .int 0, .int 0, .int 0, .ref q1, .ref q2, .null, .null, .null, .null, .null, .null])), (q1, .inl (nz_cI g, 6, .inl (fun _ => 0))), (q2, .inl (nz_cI g, 6, .inl (fun _ => 0)))]) F hN iw_X5_init_5 tyX5 tyX5_ok nmX5 0 rfl rfl 10 (by decide) rfl wc_X5_init_fl15 rfl rfl (Nat.le_of_ble_eq_true rfl) dX5_init_17 rfl ?_
  refine nz_aload_n F dX5_init_20 rfl 0 rfl ?_
  refine nz_bipush (v := 6) F dX5_init_21 (by decide) ?_
  refine nz_newa (N' := 6) F wc_X5_init_ac_int (by decide) (by decide) rfl ⟨rfl, rfl⟩ dX5_init_23 (fun q3 => ?_)
  refine nz_ws (ws' := [(o, .inr (5, [.int 0, .int 0, .int 0, .int 0, .int 0, .int 0, .int 0, .int 0, .int 0, .ref q1, .ref q2, .null, .null, .null, .null, .null, .null])), (q1, .inl (nz_cI g, 6, .inl (fun _ => 0))), (q2, .inl (nz_cI g, 6, .inl (fun _ => 0))), (q3, .inl (nz_cI g, 6, .inl (fun _ => 0)))]) rfl ?_
  refine nz_putF (ws' := [(o, .inr (5, [.int 0, .int 0, .int 0, .int 0, .int 0, .int 0, .int 0, .int 0, .int 0, .ref q1, .ref q2, .ref q3, .null, .null, .null, .null, .null])), (q1, .inl (nz_cI g, 6, .inl (fun _ => 0))), (q2, .inl (nz_cI g, 6, .inl (fun _ => 0))), (q3, .inl (nz_cI g, 6, .inl (fun _ => 0)))]) F hN iw_X5_init_5 tyX5 tyX5_ok nmX5 0 rfl rfl 11 (by decide) rfl wc_X5_init_fl18 rfl rfl (Nat.le_of_ble_eq_true rfl) dX5_init_25 rfl ?_
  refine nz_aload_n F dX5_init_28 rfl 0 rfl ?_
  refine nz_iconst (v := 5) F dX5_init_29 (by decide) ?_
  refine nz_newa (N' := 5) F wc_X5_init_ac_int (by decide) (by decide) rfl ⟨rfl, rfl⟩ dX5_init_30 (fun q4 => ?_)
  refine nz_ws (ws' := [(o, .inr (5, [.int 0, .int 0, .int 0, .int 0, .int 0, .int 0, .int 0, .int 0, .int 0, .ref q1, .ref q2, .ref q3, .null, .null, .null, .null, .null])), (q1, .inl (nz_cI g, 6, .inl (fun _ => 0))), (q2, .inl (nz_cI g, 6, .inl (fun _ => 0))), (q3, .inl (nz_cI g, 6, .inl (fun _ => 0))), (q4, .inl (nz_cI g, 5, .inl (fun _ => 0)))]) rfl ?_
  refine nz_putF (ws' := [(o, .inr (5, [.int 0, .int 0, .int 0, .int 0, .int 0, .int 0, .int 0, .int 0, .int 0, .ref q1, .ref q2, .ref q3, .ref q4, .null, .null, .null, .null])), (q1, .inl (nz_cI g, 6, .inl (fun _ => 0))), (q2, .inl (nz_cI g, 6, .inl (fun _ => 0))), (q3, .inl (nz_cI g, 6, .inl (fun _ => 0))), (q4, .inl (nz_cI g, 5, .inl (fun _ => 0)))]) F hN iw_X5_init_5 tyX5 tyX5_ok nmX5 0 rfl rfl 12 (by decide) rfl wc_X5_init_fl21 rfl rfl (Nat.le_of_ble_eq_true rfl) dX5_init_32 rfl ?_
  refine nz_aload_n F dX5_init_35 rfl 0 rfl ?_
  refine nz_iconst (v := 5) F dX5_init_36 (by decide) ?_
  refine nz_newa (N' := 5) F wc_X5_init_ac_int (by decide) (by decide) rfl ⟨rfl, rfl⟩ dX5_init_37 (fun q5 => ?_)
  refine nz_ws (ws' := [(o, .inr (5, [.int 0, .int 0, .int 0, .int 0, .int 0, .int 0, .int 0, .int 0, .int 0, .ref q1, .ref q2, .ref q3, .ref q4, .null, .null, .null, .null])), (q1, .inl (nz_cI g, 6, .inl (fun _ => 0))), (q2, .inl (nz_cI g, 6, .inl (fun _ => 0))), (q3, .inl (nz_cI g, 6, .inl (fun _ => 0))), (q4, .inl (nz_cI g, 5, .inl (fun _ => 0))), (q5, .inl (nz_cI g, 5, .inl (fun _ => 0)))]) rfl ?_
  refine nz_putF (ws' := [(o, .inr (5, [.int 0, .int 0, .int 0, .int 0, .int 0, .int 0, .int 0, .int 0, .int 0, .ref q1, .ref q2, .ref q3, .ref q4, .ref q5, .null, .null, .null])), (q1, .inl (nz_cI g, 6, .inl (fun _ => 0))), (q2, .inl (nz_cI g, 6, .inl (fun _ => 0))), (q3, .inl (nz_cI g, 6, .inl (fun _ => 0))), (q4, .inl (nz_cI g, 5, .inl (fun _ => 0))), (q5, .inl (nz_cI g, 5, .inl (fun _ => 0)))]) F hN iw_X5_init_5 tyX5 tyX5_ok nmX5 0 rfl rfl 13 (by decide) rfl wc_X5_init_fl24 rfl rfl (Nat.le_of_ble_eq_true rfl) dX5_init_39 rfl ?_
  refine nz_aload_n F dX5_init_42 rfl 0 rfl ?_
  refine nz_iconst (v := 5) F dX5_init_43 (by decide) ?_
  refine nz_newa (N' := 5) F wc_X5_init_ac_int (by decide) (by decide) rfl ⟨rfl, rfl⟩ dX5_init_44 (fun q6 => ?_)
  refine nz_ws (ws' := [(o, .inr (5, [.int 0, .int 0, .int 0, .int 0, .int 0, .int 0, .int 0, .int 0, .int 0, .ref q1, .ref q2, .ref q3, .ref q4, .ref q5, .null, .null, .null])), (q1, .inl (nz_cI g, 6, .inl (fun _ => 0))), (q2, .inl (nz_cI g, 6, .inl (fun _ => 0))), (q3, .inl (nz_cI g, 6, .inl (fun _ => 0))), (q4, .inl (nz_cI g, 5, .inl (fun _ => 0))), (q5, .inl (nz_cI g, 5, .inl (fun _ => 0))), (q6, .inl (nz_cI g, 5, .inl (fun _ => 0)))]) rfl ?_
  refine nz_putF (ws' := [(o, .inr (5, [.int 0, .int 0, .int 0, .int 0, .int 0, .int 0, .int 0, .int 0, .int 0, .ref q1, .ref q2, .ref q3, .ref q4, .ref q5, .ref q6, .null, .null])), (q1, .inl (nz_cI g, 6, .inl (fun _ => 0))), (q2, .inl (nz_cI g, 6, .inl (fun _ => 0))), (q3, .inl (nz_cI g, 6, .inl (fun _ => 0))), (q4, .inl (nz_cI g, 5, .inl (fun _ => 0))), (q5, .inl (nz_cI g, 5, .inl (fun _ => 0))), (q6, .inl (nz_cI g, 5, .inl (fun _ => 0)))]) F hN iw_X5_init_5 tyX5 tyX5_ok nmX5 0 rfl rfl 14 (by decide) rfl wc_X5_init_fl27 rfl rfl (Nat.le_of_ble_eq_true rfl) dX5_init_46 rfl ?_
  refine nz_aload_n F dX5_init_49 rfl 0 rfl ?_
  refine nz_iconst (v := 5) F dX5_init_50 (by decide) ?_
  refine nz_newa (N' := 5) F wc_X5_init_ac_int (by decide) (by decide) rfl ⟨rfl, rfl⟩ dX5_init_51 (fun q7 => ?_)
  refine nz_ws (ws' := [(o, .inr (5, [.int 0, .int 0, .int 0, .int 0, .int 0, .int 0, .int 0, .int 0, .int 0, .ref q1, .ref q2, .ref q3, .ref q4, .ref q5, .ref q6, .null, .null])), (q1, .inl (nz_cI g, 6, .inl (fun _ => 0))), (q2, .inl (nz_cI g, 6, .inl (fun _ => 0))), (q3, .inl (nz_cI g, 6, .inl (fun _ => 0))), (q4, .inl (nz_cI g, 5, .inl (fun _ => 0))), (q5, .inl (nz_cI g, 5, .inl (fun _ => 0))), (q6, .inl (nz_cI g, 5, .inl (fun _ => 0))), (q7, .inl (nz_cI g, 5, .inl (fun _ => 0)))]) rfl ?_
  refine nz_putF (ws' := [(o, .inr (5, [.int 0, .int 0, .int 0, .int 0, .int 0, .int 0, .int 0, .int 0, .int 0, .ref q1, .ref q2, .ref q3, .ref q4, .ref q5, .ref q6, .ref q7, .null])), (q1, .inl (nz_cI g, 6, .inl (fun _ => 0))), (q2, .inl (nz_cI g, 6, .inl (fun _ => 0))), (q3, .inl (nz_cI g, 6, .inl (fun _ => 0))), (q4, .inl (nz_cI g, 5, .inl (fun _ => 0))), (q5, .inl (nz_cI g, 5, .inl (fun _ => 0))), (q6, .inl (nz_cI g, 5, .inl (fun _ => 0))), (q7, .inl (nz_cI g, 5, .inl (fun _ => 0)))]) F hN iw_X5_init_5 tyX5 tyX5_ok nmX5 0 rfl rfl 15 (by decide) rfl wc_X5_init_fl30 rfl rfl (Nat.le_of_ble_eq_true rfl) dX5_init_53 rfl ?_
  refine nz_aload_n F dX5_init_56 rfl 0 rfl ?_
  refine nz_bipush (v := 48) F dX5_init_57 (by decide) ?_
  refine nz_newa (N' := 48) F wc_X5_init_ac_int (by decide) (by decide) rfl ⟨rfl, rfl⟩ dX5_init_59 (fun q8 => ?_)
  refine nz_ws (ws' := [(o, .inr (5, [.int 0, .int 0, .int 0, .int 0, .int 0, .int 0, .int 0, .int 0, .int 0, .ref q1, .ref q2, .ref q3, .ref q4, .ref q5, .ref q6, .ref q7, .null])), (q1, .inl (nz_cI g, 6, .inl (fun _ => 0))), (q2, .inl (nz_cI g, 6, .inl (fun _ => 0))), (q3, .inl (nz_cI g, 6, .inl (fun _ => 0))), (q4, .inl (nz_cI g, 5, .inl (fun _ => 0))), (q5, .inl (nz_cI g, 5, .inl (fun _ => 0))), (q6, .inl (nz_cI g, 5, .inl (fun _ => 0))), (q7, .inl (nz_cI g, 5, .inl (fun _ => 0))), (q8, .inl (nz_cI g, 48, .inl (fun _ => 0)))]) rfl ?_
  refine nz_putF (ws' := [(o, .inr (5, [.int 0, .int 0, .int 0, .int 0, .int 0, .int 0, .int 0, .int 0, .int 0, .ref q1, .ref q2, .ref q3, .ref q4, .ref q5, .ref q6, .ref q7, .ref q8])), (q1, .inl (nz_cI g, 6, .inl (fun _ => 0))), (q2, .inl (nz_cI g, 6, .inl (fun _ => 0))), (q3, .inl (nz_cI g, 6, .inl (fun _ => 0))), (q4, .inl (nz_cI g, 5, .inl (fun _ => 0))), (q5, .inl (nz_cI g, 5, .inl (fun _ => 0))), (q6, .inl (nz_cI g, 5, .inl (fun _ => 0))), (q7, .inl (nz_cI g, 5, .inl (fun _ => 0))), (q8, .inl (nz_cI g, 48, .inl (fun _ => 0)))]) F hN iw_X5_init_5 tyX5 tyX5_ok nmX5 0 rfl rfl 16 (by decide) rfl wc_X5_init_fl33 rfl rfl (Nat.le_of_ble_eq_true rfl) dX5_init_61 rfl ?_
  exact nz_vret F hQ (q1, q2, q3, q4, q5, q6, q7, q8) trivial rfl dX5_init_64
theorem dX0_init_0 : decode cX0_init 0 = .ok (.aload_n 0, 1) := by decide +kernel
theorem dX0_init_1 : decode cX0_init 1 = .ok (.invokespecial 1, 3) := by decide +kernel
theorem dX0_init_4 : decode cX0_init 4 = .ok (.aload_n 0, 1) := by decide +kernel
theorem dX0_init_5 : decode cX0_init 5 = .ok (.sipush 144, 3) := by decide +kernel
theorem dX0_init_8 : decode cX0_init 8 = .ok (.newarray .int, 2) := by decide +kernel
theorem dX0_init_10 : decode cX0_init 10 = .ok (.putfield 11, 3) := by decide +kernel
theorem dX0_init_13 : decode cX0_init 13 = .ok (.aload_n 0, 1) := by decide +kernel
theorem dX0_init_14 : decode cX0_init 14 = .ok (.bipush 24, 2) := by decide +kernel
theorem dX0_init_16 : decode cX0_init 16 = .ok (.newarray .int, 2) := by decide +kernel
theorem dX0_init_18 : decode cX0_init 18 = .ok (.putfield 15, 3) := by decide +kernel
theorem dX0_init_21 : decode cX0_init 21 = .ok (.return_, 1) := by decide +kernel
theorem wc_X0_init_oi1 : Cond.methodLink RX0 1 objectInit ∈ wsX0_init := List.mem_of_getElem? (i := 1) rfl
theorem wc_X0_init_om : Cond.instanceMethod objectInit ∈ wsX0_init := List.mem_of_getElem? (i := 2) rfl
theorem wc_X0_init_oc : Cond.code objectInit ⟨#[0xb1]⟩ 1 none ∈ wsX0_init := List.mem_of_getElem? (i := 3) rfl
theorem wc_X0_init_ac_int : Cond.arrayClass .int ∈ wsX0_init := List.mem_of_getElem? (i := 4) rfl
theorem iw_X0_init_0 : ∀ w ∈ wsX00, w ∈ wsX0_init := fun _ h => List.mem_cons_of_mem _ (List.mem_append_right _ h)
theorem wc_X0_init_fl11 : Cond.fieldLink RX0 11 "NightStones$Acts" "places" "[I" ∈ wsX0_init := List.mem_of_getElem? (i := 5) rfl
theorem wc_X0_init_fl15 : Cond.fieldLink RX0 15 "NightStones$Acts" "nights" "[I" ∈ wsX0_init := List.mem_of_getElem? (i := 6) rfl
abbrev rm_X0_init : Room := { frames := 1, cells := 2, slots := 168, locals := 20 }
set_option maxHeartbeats 4000000 in
set_option maxRecDepth 100000 in
theorem c_X0_init (l : Launch) (g : nz_G) (o : Nat) : nz_MC l yX0_init wsX0_init rm_X0_init g [.ref o] [(o, .inr (0, [.null, .null, .int 0]))] 2 168 (nz_Qv g [(o, .inr (0, [.null, .null, .int 0]))] (fun (u : Nat × Nat) => True) (fun u => [(o, .inr (0, [.ref u.1, .ref u.2, .int 0])), (u.1, .inl (nz_cI g, 144, .inl (fun _ => 0))), (u.2, .inl (nz_cI g, 24, .inl (fun _ => 0)))])) := by
  refine nz_MC.of (bytes := cX0_init) (nL := 1) (ret := none) (own := RX0) (by decide) rfl rfl rfl rfl ?_
  intro y F hN hO hQ
  obtain ⟨sz, hQ⟩ := hQ
  refine nz_ent (lv' := [(0, .ref o)]) rfl ?_
  refine nz_aload_n F dX0_init_0 rfl 0 rfl ?_
  refine nz_oinit F wc_X0_init_oi1 wc_X0_init_om wc_X0_init_oc ⟨rfl, rfl⟩ (Nat.le_of_ble_eq_true rfl) dX0_init_1 ?_
  refine nz_aload_n F dX0_init_4 rfl 0 rfl ?_
  refine nz_sipush (v := 144) F dX0_init_5 (by decide) ?_
  refine nz_newa (N' := 144) F wc_X0_init_ac_int (by decide) (by decide) rfl ⟨rfl, rfl⟩ dX0_init_8 (fun q1 => ?_)
  refine nz_ws (ws' := [(o, .inr (0, [.null, .null, .int 0])), (q1, .inl (nz_cI g, 144, .inl (fun _ => 0)))]) rfl ?_
  refine nz_putF (ws' := [(o, .inr (0, [.ref q1, .null, .int 0])), (q1, .inl (nz_cI g, 144, .inl (fun _ => 0)))]) F hN iw_X0_init_0 tyX0 tyX0_ok nmX0 0 rfl rfl 0 (by decide) rfl wc_X0_init_fl11 rfl rfl (Nat.le_of_ble_eq_true rfl) dX0_init_10 rfl ?_
  refine nz_aload_n F dX0_init_13 rfl 0 rfl ?_
  refine nz_bipush (v := 24) F dX0_init_14 (by decide) ?_
  refine nz_newa (N' := 24) F wc_X0_init_ac_int (by decide) (by decide) rfl ⟨rfl, rfl⟩ dX0_init_16 (fun q2 => ?_)
  refine nz_ws (ws' := [(o, .inr (0, [.ref q1, .null, .int 0])), (q1, .inl (nz_cI g, 144, .inl (fun _ => 0))), (q2, .inl (nz_cI g, 24, .inl (fun _ => 0)))]) rfl ?_
  refine nz_putF (ws' := [(o, .inr (0, [.ref q1, .ref q2, .int 0])), (q1, .inl (nz_cI g, 144, .inl (fun _ => 0))), (q2, .inl (nz_cI g, 24, .inl (fun _ => 0)))]) F hN iw_X0_init_0 tyX0 tyX0_ok nmX0 0 rfl rfl 1 (by decide) rfl wc_X0_init_fl15 rfl rfl (Nat.le_of_ble_eq_true rfl) dX0_init_18 rfl ?_
  exact nz_vret F hQ (q1, q2) trivial rfl dX0_init_21
theorem dX1_init_0 : decode cX1_init 0 = .ok (.aload_n 0, 1) := by decide +kernel
theorem dX1_init_1 : decode cX1_init 1 = .ok (.invokespecial 3, 3) := by decide +kernel
theorem dX1_init_4 : decode cX1_init 4 = .ok (.aload_n 0, 1) := by decide +kernel
theorem dX1_init_5 : decode cX1_init 5 = .ok (.bipush 16, 2) := by decide +kernel
theorem dX1_init_7 : decode cX1_init 7 = .ok (.newarray .int, 2) := by decide +kernel
theorem dX1_init_9 : decode cX1_init 9 = .ok (.putfield 11, 3) := by decide +kernel
theorem dX1_init_12 : decode cX1_init 12 = .ok (.return_, 1) := by decide +kernel
theorem wc_X1_init_oi3 : Cond.methodLink RX1 3 objectInit ∈ wsX1_init := List.mem_of_getElem? (i := 1) rfl
theorem wc_X1_init_om : Cond.instanceMethod objectInit ∈ wsX1_init := List.mem_of_getElem? (i := 2) rfl
theorem wc_X1_init_oc : Cond.code objectInit ⟨#[0xb1]⟩ 1 none ∈ wsX1_init := List.mem_of_getElem? (i := 3) rfl
theorem wc_X1_init_ac_int : Cond.arrayClass .int ∈ wsX1_init := List.mem_of_getElem? (i := 4) rfl
theorem iw_X1_init_1 : ∀ w ∈ wsX10, w ∈ wsX1_init := fun _ h => List.mem_cons_of_mem _ (List.mem_append_right _ h)
theorem wc_X1_init_fl11 : Cond.fieldLink RX1 11 "NightStones$Asker" "begun" "[I" ∈ wsX1_init := List.mem_of_getElem? (i := 5) rfl
abbrev rm_X1_init : Room := { frames := 1, cells := 1, slots := 16, locals := 20 }
set_option maxHeartbeats 4000000 in
set_option maxRecDepth 100000 in
theorem c_X1_init (l : Launch) (g : nz_G) (o : Nat) : nz_MC l yX1_init wsX1_init rm_X1_init g [.ref o] [(o, .inr (1, [.null, .int 0]))] 1 16 (nz_Qv g [(o, .inr (1, [.null, .int 0]))] (fun (u : Nat) => True) (fun u => [(o, .inr (1, [.ref u, .int 0])), (u, .inl (nz_cI g, 16, .inl (fun _ => 0)))])) := by
  refine nz_MC.of (bytes := cX1_init) (nL := 1) (ret := none) (own := RX1) (by decide) rfl rfl rfl rfl ?_
  intro y F hN hO hQ
  obtain ⟨sz, hQ⟩ := hQ
  refine nz_ent (lv' := [(0, .ref o)]) rfl ?_
  refine nz_aload_n F dX1_init_0 rfl 0 rfl ?_
  refine nz_oinit F wc_X1_init_oi3 wc_X1_init_om wc_X1_init_oc ⟨rfl, rfl⟩ (Nat.le_of_ble_eq_true rfl) dX1_init_1 ?_
  refine nz_aload_n F dX1_init_4 rfl 0 rfl ?_
  refine nz_bipush (v := 16) F dX1_init_5 (by decide) ?_
  refine nz_newa (N' := 16) F wc_X1_init_ac_int (by decide) (by decide) rfl ⟨rfl, rfl⟩ dX1_init_7 (fun q1 => ?_)
  refine nz_ws (ws' := [(o, .inr (1, [.null, .int 0])), (q1, .inl (nz_cI g, 16, .inl (fun _ => 0)))]) rfl ?_
  refine nz_putF (ws' := [(o, .inr (1, [.ref q1, .int 0])), (q1, .inl (nz_cI g, 16, .inl (fun _ => 0)))]) F hN iw_X1_init_1 tyX1 tyX1_ok nmX1 0 rfl rfl 0 (by decide) rfl wc_X1_init_fl11 rfl rfl (Nat.le_of_ble_eq_true rfl) dX1_init_9 rfl ?_
  exact nz_vret F hQ (q1) trivial rfl dX1_init_12
theorem dX2_init_0 : decode cX2_init 0 = .ok (.aload_n 0, 1) := by decide +kernel
theorem dX2_init_1 : decode cX2_init 1 = .ok (.invokespecial 3, 3) := by decide +kernel
theorem dX2_init_4 : decode cX2_init 4 = .ok (.aload_n 0, 1) := by decide +kernel
theorem dX2_init_5 : decode cX2_init 5 = .ok (.bipush 6, 2) := by decide +kernel
theorem dX2_init_7 : decode cX2_init 7 = .ok (.newarray .int, 2) := by decide +kernel
theorem dX2_init_9 : decode cX2_init 9 = .ok (.putfield 11, 3) := by decide +kernel
theorem dX2_init_12 : decode cX2_init 12 = .ok (.aload_n 0, 1) := by decide +kernel
theorem dX2_init_13 : decode cX2_init 13 = .ok (.bipush 6, 2) := by decide +kernel
theorem dX2_init_15 : decode cX2_init 15 = .ok (.newarray .int, 2) := by decide +kernel
theorem dX2_init_17 : decode cX2_init 17 = .ok (.putfield 17, 3) := by decide +kernel
theorem dX2_init_20 : decode cX2_init 20 = .ok (.return_, 1) := by decide +kernel
theorem wc_X2_init_oi3 : Cond.methodLink RX2 3 objectInit ∈ wsX2_init := List.mem_of_getElem? (i := 1) rfl
theorem wc_X2_init_om : Cond.instanceMethod objectInit ∈ wsX2_init := List.mem_of_getElem? (i := 2) rfl
theorem wc_X2_init_oc : Cond.code objectInit ⟨#[0xb1]⟩ 1 none ∈ wsX2_init := List.mem_of_getElem? (i := 3) rfl
theorem wc_X2_init_ac_int : Cond.arrayClass .int ∈ wsX2_init := List.mem_of_getElem? (i := 4) rfl
theorem iw_X2_init_2 : ∀ w ∈ wsX20, w ∈ wsX2_init := fun _ h => List.mem_cons_of_mem _ (List.mem_append_right _ h)
theorem wc_X2_init_fl11 : Cond.fieldLink RX2 11 "NightStones$Foreteller" "places" "[I" ∈ wsX2_init := List.mem_of_getElem? (i := 5) rfl
theorem wc_X2_init_fl17 : Cond.fieldLink RX2 17 "NightStones$Foreteller" "ahead" "[I" ∈ wsX2_init := List.mem_of_getElem? (i := 6) rfl
abbrev rm_X2_init : Room := { frames := 1, cells := 2, slots := 12, locals := 20 }
set_option maxHeartbeats 4000000 in
set_option maxRecDepth 100000 in
theorem c_X2_init (l : Launch) (g : nz_G) (o : Nat) : nz_MC l yX2_init wsX2_init rm_X2_init g [.ref o] [(o, .inr (2, [.null, .null]))] 2 12 (nz_Qv g [(o, .inr (2, [.null, .null]))] (fun (u : Nat × Nat) => True) (fun u => [(o, .inr (2, [.ref u.1, .ref u.2])), (u.1, .inl (nz_cI g, 6, .inl (fun _ => 0))), (u.2, .inl (nz_cI g, 6, .inl (fun _ => 0)))])) := by
  refine nz_MC.of (bytes := cX2_init) (nL := 1) (ret := none) (own := RX2) (by decide) rfl rfl rfl rfl ?_
  intro y F hN hO hQ
  obtain ⟨sz, hQ⟩ := hQ
  refine nz_ent (lv' := [(0, .ref o)]) rfl ?_
  refine nz_aload_n F dX2_init_0 rfl 0 rfl ?_
  refine nz_oinit F wc_X2_init_oi3 wc_X2_init_om wc_X2_init_oc ⟨rfl, rfl⟩ (Nat.le_of_ble_eq_true rfl) dX2_init_1 ?_
  refine nz_aload_n F dX2_init_4 rfl 0 rfl ?_
  refine nz_bipush (v := 6) F dX2_init_5 (by decide) ?_
  refine nz_newa (N' := 6) F wc_X2_init_ac_int (by decide) (by decide) rfl ⟨rfl, rfl⟩ dX2_init_7 (fun q1 => ?_)
  refine nz_ws (ws' := [(o, .inr (2, [.null, .null])), (q1, .inl (nz_cI g, 6, .inl (fun _ => 0)))]) rfl ?_
  refine nz_putF (ws' := [(o, .inr (2, [.ref q1, .null])), (q1, .inl (nz_cI g, 6, .inl (fun _ => 0)))]) F hN iw_X2_init_2 tyX2 tyX2_ok nmX2 0 rfl rfl 0 (by decide) rfl wc_X2_init_fl11 rfl rfl (Nat.le_of_ble_eq_true rfl) dX2_init_9 rfl ?_
  refine nz_aload_n F dX2_init_12 rfl 0 rfl ?_
  refine nz_bipush (v := 6) F dX2_init_13 (by decide) ?_
  refine nz_newa (N' := 6) F wc_X2_init_ac_int (by decide) (by decide) rfl ⟨rfl, rfl⟩ dX2_init_15 (fun q2 => ?_)
  refine nz_ws (ws' := [(o, .inr (2, [.ref q1, .null])), (q1, .inl (nz_cI g, 6, .inl (fun _ => 0))), (q2, .inl (nz_cI g, 6, .inl (fun _ => 0)))]) rfl ?_
  refine nz_putF (ws' := [(o, .inr (2, [.ref q1, .ref q2])), (q1, .inl (nz_cI g, 6, .inl (fun _ => 0))), (q2, .inl (nz_cI g, 6, .inl (fun _ => 0)))]) F hN iw_X2_init_2 tyX2 tyX2_ok nmX2 0 rfl rfl 1 (by decide) rfl wc_X2_init_fl17 rfl rfl (Nat.le_of_ble_eq_true rfl) dX2_init_17 rfl ?_
  exact nz_vret F hQ (q1, q2) trivial rfl dX2_init_20
theorem dX3_init_0 : decode cX3_init 0 = .ok (.aload_n 0, 1) := by decide +kernel
theorem dX3_init_1 : decode cX3_init 1 = .ok (.invokespecial 5, 3) := by decide +kernel
theorem dX3_init_4 : decode cX3_init 4 = .ok (.aload_n 0, 1) := by decide +kernel
theorem dX3_init_5 : decode cX3_init 5 = .ok (.bipush 36, 2) := by decide +kernel
theorem dX3_init_7 : decode cX3_init 7 = .ok (.newarray .int, 2) := by decide +kernel
theorem dX3_init_9 : decode cX3_init 9 = .ok (.putfield 13, 3) := by decide +kernel
theorem dX3_init_12 : decode cX3_init 12 = .ok (.return_, 1) := by decide +kernel
theorem wc_X3_init_oi5 : Cond.methodLink RX3 5 objectInit ∈ wsX3_init := List.mem_of_getElem? (i := 1) rfl
theorem wc_X3_init_om : Cond.instanceMethod objectInit ∈ wsX3_init := List.mem_of_getElem? (i := 2) rfl
theorem wc_X3_init_oc : Cond.code objectInit ⟨#[0xb1]⟩ 1 none ∈ wsX3_init := List.mem_of_getElem? (i := 3) rfl
theorem wc_X3_init_ac_int : Cond.arrayClass .int ∈ wsX3_init := List.mem_of_getElem? (i := 4) rfl
theorem iw_X3_init_3 : ∀ w ∈ wsX30, w ∈ wsX3_init := fun _ h => List.mem_cons_of_mem _ (List.mem_append_right _ h)
theorem wc_X3_init_fl13 : Cond.fieldLink RX3 13 "NightStones$Lengths" "bounds" "[I" ∈ wsX3_init := List.mem_of_getElem? (i := 5) rfl
abbrev rm_X3_init : Room := { frames := 1, cells := 1, slots := 36, locals := 20 }
set_option maxHeartbeats 4000000 in
set_option maxRecDepth 100000 in
theorem c_X3_init (l : Launch) (g : nz_G) (o : Nat) : nz_MC l yX3_init wsX3_init rm_X3_init g [.ref o] [(o, .inr (3, [.null]))] 1 36 (nz_Qv g [(o, .inr (3, [.null]))] (fun (u : Nat) => True) (fun u => [(o, .inr (3, [.ref u])), (u, .inl (nz_cI g, 36, .inl (fun _ => 0)))])) := by
  refine nz_MC.of (bytes := cX3_init) (nL := 1) (ret := none) (own := RX3) (by decide) rfl rfl rfl rfl ?_
  intro y F hN hO hQ
  obtain ⟨sz, hQ⟩ := hQ
  refine nz_ent (lv' := [(0, .ref o)]) rfl ?_
  refine nz_aload_n F dX3_init_0 rfl 0 rfl ?_
  refine nz_oinit F wc_X3_init_oi5 wc_X3_init_om wc_X3_init_oc ⟨rfl, rfl⟩ (Nat.le_of_ble_eq_true rfl) dX3_init_1 ?_
  refine nz_aload_n F dX3_init_4 rfl 0 rfl ?_
  refine nz_bipush (v := 36) F dX3_init_5 (by decide) ?_
  refine nz_newa (N' := 36) F wc_X3_init_ac_int (by decide) (by decide) rfl ⟨rfl, rfl⟩ dX3_init_7 (fun q1 => ?_)
  refine nz_ws (ws' := [(o, .inr (3, [.null])), (q1, .inl (nz_cI g, 36, .inl (fun _ => 0)))]) rfl ?_
  refine nz_putF (ws' := [(o, .inr (3, [.ref q1])), (q1, .inl (nz_cI g, 36, .inl (fun _ => 0)))]) F hN iw_X3_init_3 tyX3 tyX3_ok nmX3 0 rfl rfl 0 (by decide) rfl wc_X3_init_fl13 rfl rfl (Nat.le_of_ble_eq_true rfl) dX3_init_9 rfl ?_
  exact nz_vret F hQ (q1) trivial rfl dX3_init_12
theorem dX6_init_0 : decode cX6_init 0 = .ok (.aload_n 0, 1) := by decide +kernel
theorem dX6_init_1 : decode cX6_init 1 = .ok (.invokespecial 3, 3) := by decide +kernel
theorem dX6_init_4 : decode cX6_init 4 = .ok (.aload_n 0, 1) := by decide +kernel
theorem dX6_init_5 : decode cX6_init 5 = .ok (.bipush 8, 2) := by decide +kernel
theorem dX6_init_7 : decode cX6_init 7 = .ok (.bipush 40, 2) := by decide +kernel
theorem dX6_init_9 : decode cX6_init 9 = .ok (.multianewarray 11 2, 4) := by decide +kernel
theorem dX6_init_13 : decode cX6_init 13 = .ok (.putfield 13, 3) := by decide +kernel
theorem dX6_init_16 : decode cX6_init 16 = .ok (.aload_n 0, 1) := by decide +kernel
theorem dX6_init_17 : decode cX6_init 17 = .ok (.bipush 8, 2) := by decide +kernel
theorem dX6_init_19 : decode cX6_init 19 = .ok (.newarray .int, 2) := by decide +kernel
theorem dX6_init_21 : decode cX6_init 21 = .ok (.putfield 16, 3) := by decide +kernel
theorem dX6_init_24 : decode cX6_init 24 = .ok (.aload_n 0, 1) := by decide +kernel
theorem dX6_init_25 : decode cX6_init 25 = .ok (.bipush 8, 2) := by decide +kernel
theorem dX6_init_27 : decode cX6_init 27 = .ok (.newarray .int, 2) := by decide +kernel
theorem dX6_init_29 : decode cX6_init 29 = .ok (.putfield 20, 3) := by decide +kernel
theorem dX6_init_32 : decode cX6_init 32 = .ok (.aload_n 0, 1) := by decide +kernel
theorem dX6_init_33 : decode cX6_init 33 = .ok (.getfield 16, 3) := by decide +kernel
theorem dX6_init_36 : decode cX6_init 36 = .ok (.iconst (-1), 1) := by decide +kernel
theorem dX6_init_37 : decode cX6_init 37 = .ok (.invokestatic 23, 3) := by decide +kernel
theorem dX6_init_40 : decode cX6_init 40 = .ok (.return_, 1) := by decide +kernel
set_option maxRecDepth 20000 in
theorem ggX6_init_J7_fill_53178 : GoodIn wsX6_init wsJ7_fill_53178 := goodIn_r _ [12] rfl (by decide +kernel)
set_option maxRecDepth 20000 in
theorem gX6_init_J7_fill_53178 : GoodIn wsX6_init (va_wsS RX6 23 yJ7_fill_53178 wsJ7_fill_53178) := goodIn_app (goodIn_r _ [9, 10, 11] rfl (by decide +kernel)) ggX6_init_J7_fill_53178
theorem wc_X6_init_oi3 : Cond.methodLink RX6 3 objectInit ∈ wsX6_init := List.mem_of_getElem? (i := 1) rfl
theorem wc_X6_init_om : Cond.instanceMethod objectInit ∈ wsX6_init := List.mem_of_getElem? (i := 2) rfl
theorem wc_X6_init_oc : Cond.code objectInit ⟨#[0xb1]⟩ 1 none ∈ wsX6_init := List.mem_of_getElem? (i := 3) rfl
theorem wc_X6_init_cl11 : Cond.classLink RX6 11 "[[I" ∈ wsX6_init := List.mem_of_getElem? (i := 4) rfl
theorem wc_X6_init_ac_int : Cond.arrayClass .int ∈ wsX6_init := List.mem_of_getElem? (i := 5) rfl
theorem iw_X6_init_6 : ∀ w ∈ wsX60, w ∈ wsX6_init := fun _ h => List.mem_cons_of_mem _ (List.mem_append_right _ h)
theorem wc_X6_init_fl13 : Cond.fieldLink RX6 13 "NightStones$Rows" "items" "[[I" ∈ wsX6_init := List.mem_of_getElem? (i := 6) rfl
theorem wc_X6_init_fl16 : Cond.fieldLink RX6 16 "NightStones$Rows" "lanes" "[I" ∈ wsX6_init := List.mem_of_getElem? (i := 7) rfl
theorem wc_X6_init_fl20 : Cond.fieldLink RX6 20 "NightStones$Rows" "sizes" "[I" ∈ wsX6_init := List.mem_of_getElem? (i := 8) rfl
abbrev rm_X6_init : Room := { frames := 1, cells := 11, slots := 344, locals := 23 }
def wp_X6_init (K : (Nat → Int32) → Prop) : Prop := wp_J7_fill_53178_8 (fun _ => 0) (-1 : Int32) K
set_option maxHeartbeats 4000000 in
set_option maxRecDepth 100000 in
theorem c_X6_init (l : Launch) (g : nz_G) (o : Nat) (K : (Nat → Int32) → Prop) (h : wp_X6_init K) : nz_MC l yX6_init wsX6_init rm_X6_init g [.ref o] [(o, .inr (6, [.null, .null, .null]))] 11 344 (nz_Qv g [(o, .inr (6, [.null, .null, .null]))] (fun (u : Nat × (Nat → Nat) × Nat × Nat × (Nat → Int32)) => K u.2.2.2.2) (fun u => [(o, .inr (6, [.ref u.1, .ref u.2.2.1, .ref u.2.2.2.1])), (u.1, .inl (nz_cA g, 8, .inr (.inr (.inr (.inr (fun j => some (u.2.1 j))))))), (u.2.1 0, .inl (nz_cI g, 40, .inl ((fun _ _ => 0) 0))), (u.2.1 1, .inl (nz_cI g, 40, .inl ((fun _ _ => 0) 1))), (u.2.1 2, .inl (nz_cI g, 40, .inl ((fun _ _ => 0) 2))), (u.2.1 3, .inl (nz_cI g, 40, .inl ((fun _ _ => 0) 3))), (u.2.1 4, .inl (nz_cI g, 40, .inl ((fun _ _ => 0) 4))), (u.2.1 5, .inl (nz_cI g, 40, .inl ((fun _ _ => 0) 5))), (u.2.1 6, .inl (nz_cI g, 40, .inl ((fun _ _ => 0) 6))), (u.2.1 7, .inl (nz_cI g, 40, .inl ((fun _ _ => 0) 7))), (u.2.2.1, .inl (nz_cI g, 8, .inl u.2.2.2.2)), (u.2.2.2.1, .inl (nz_cI g, 8, .inl (fun _ => 0)))])) := by
  refine nz_MC.of (bytes := cX6_init) (nL := 1) (ret := none) (own := RX6) (by decide) rfl rfl rfl rfl ?_
  intro y F hN hO hQ
  obtain ⟨sz, hQ⟩ := hQ
  unfold wp_X6_init at h
  refine nz_ent (lv' := [(0, .ref o)]) rfl ?_
  refine nz_aload_n F dX6_init_0 rfl 0 rfl ?_
  refine nz_oinit F wc_X6_init_oi3 wc_X6_init_om wc_X6_init_oc ⟨rfl, rfl⟩ (Nat.le_of_ble_eq_true rfl) dX6_init_1 ?_
  refine nz_aload_n F dX6_init_4 rfl 0 rfl ?_
  refine nz_bipush (v := 8) F dX6_init_5 (by decide) ?_
  refine nz_bipush (v := 40) F dX6_init_7 (by decide) ?_
  refine nz_mna F hO.2 wc_X6_init_cl11 wc_X6_init_ac_int ⟨rfl, rfl⟩ dX6_init_9 (fun q1 rq => ?_)
  refine nz_ws (ws' := [(o, .inr (6, [.null, .null, .null])), (q1, .inl (nz_cA g, 8, .inr (.inr (.inr (.inr (fun j => some (rq j))))))), (rq 0, .inl (nz_cI g, 40, .inl ((fun _ _ => 0) 0))), (rq 1, .inl (nz_cI g, 40, .inl ((fun _ _ => 0) 1))), (rq 2, .inl (nz_cI g, 40, .inl ((fun _ _ => 0) 2))), (rq 3, .inl (nz_cI g, 40, .inl ((fun _ _ => 0) 3))), (rq 4, .inl (nz_cI g, 40, .inl ((fun _ _ => 0) 4))), (rq 5, .inl (nz_cI g, 40, .inl ((fun _ _ => 0) 5))), (rq 6, .inl (nz_cI g, 40, .inl ((fun _ _ => 0) 6))), (rq 7, .inl (nz_cI g, 40, .inl ((fun _ _ => 0) 7)))]) rfl ?_
  refine nz_putF (ws' := [(o, .inr (6, [.ref q1, .null, .null])), (q1, .inl (nz_cA g, 8, .inr (.inr (.inr (.inr (fun j => some (rq j))))))), (rq 0, .inl (nz_cI g, 40, .inl ((fun _ _ => 0) 0))), (rq 1, .inl (nz_cI g, 40, .inl ((fun _ _ => 0) 1))), (rq 2, .inl (nz_cI g, 40, .inl ((fun _ _ => 0) 2))), (rq 3, .inl (nz_cI g, 40, .inl ((fun _ _ => 0) 3))), (rq 4, .inl (nz_cI g, 40, .inl ((fun _ _ => 0) 4))), (rq 5, .inl (nz_cI g, 40, .inl ((fun _ _ => 0) 5))), (rq 6, .inl (nz_cI g, 40, .inl ((fun _ _ => 0) 6))), (rq 7, .inl (nz_cI g, 40, .inl ((fun _ _ => 0) 7)))]) F hN iw_X6_init_6 tyX6 tyX6_ok nmX6 0 rfl rfl 0 (by decide) rfl wc_X6_init_fl13 rfl rfl (Nat.le_of_ble_eq_true rfl) dX6_init_13 rfl ?_
  refine nz_aload_n F dX6_init_16 rfl 0 rfl ?_
  refine nz_bipush (v := 8) F dX6_init_17 (by decide) ?_
  refine nz_newa (N' := 8) F wc_X6_init_ac_int (by decide) (by decide) rfl ⟨rfl, rfl⟩ dX6_init_19 (fun q2 => ?_)
  refine nz_ws (ws' := [(o, .inr (6, [.ref q1, .null, .null])), (q1, .inl (nz_cA g, 8, .inr (.inr (.inr (.inr (fun j => some (rq j))))))), (rq 0, .inl (nz_cI g, 40, .inl ((fun _ _ => 0) 0))), (rq 1, .inl (nz_cI g, 40, .inl ((fun _ _ => 0) 1))), (rq 2, .inl (nz_cI g, 40, .inl ((fun _ _ => 0) 2))), (rq 3, .inl (nz_cI g, 40, .inl ((fun _ _ => 0) 3))), (rq 4, .inl (nz_cI g, 40, .inl ((fun _ _ => 0) 4))), (rq 5, .inl (nz_cI g, 40, .inl ((fun _ _ => 0) 5))), (rq 6, .inl (nz_cI g, 40, .inl ((fun _ _ => 0) 6))), (rq 7, .inl (nz_cI g, 40, .inl ((fun _ _ => 0) 7))), (q2, .inl (nz_cI g, 8, .inl (fun _ => 0)))]) rfl ?_
  refine nz_putF (ws' := [(o, .inr (6, [.ref q1, .ref q2, .null])), (q1, .inl (nz_cA g, 8, .inr (.inr (.inr (.inr (fun j => some (rq j))))))), (rq 0, .inl (nz_cI g, 40, .inl ((fun _ _ => 0) 0))), (rq 1, .inl (nz_cI g, 40, .inl ((fun _ _ => 0) 1))), (rq 2, .inl (nz_cI g, 40, .inl ((fun _ _ => 0) 2))), (rq 3, .inl (nz_cI g, 40, .inl ((fun _ _ => 0) 3))), (rq 4, .inl (nz_cI g, 40, .inl ((fun _ _ => 0) 4))), (rq 5, .inl (nz_cI g, 40, .inl ((fun _ _ => 0) 5))), (rq 6, .inl (nz_cI g, 40, .inl ((fun _ _ => 0) 6))), (rq 7, .inl (nz_cI g, 40, .inl ((fun _ _ => 0) 7))), (q2, .inl (nz_cI g, 8, .inl (fun _ => 0)))]) F hN iw_X6_init_6 tyX6 tyX6_ok nmX6 0 rfl rfl 1 (by decide) rfl wc_X6_init_fl16 rfl rfl (Nat.le_of_ble_eq_true rfl) dX6_init_21 rfl ?_
  refine nz_aload_n F dX6_init_24 rfl 0 rfl ?_
  refine nz_bipush (v := 8) F dX6_init_25 (by decide) ?_
  refine nz_newa (N' := 8) F wc_X6_init_ac_int (by decide) (by decide) rfl ⟨rfl, rfl⟩ dX6_init_27 (fun q3 => ?_)
  refine nz_ws (ws' := [(o, .inr (6, [.ref q1, .ref q2, .null])), (q1, .inl (nz_cA g, 8, .inr (.inr (.inr (.inr (fun j => some (rq j))))))), (rq 0, .inl (nz_cI g, 40, .inl ((fun _ _ => 0) 0))), (rq 1, .inl (nz_cI g, 40, .inl ((fun _ _ => 0) 1))), (rq 2, .inl (nz_cI g, 40, .inl ((fun _ _ => 0) 2))), (rq 3, .inl (nz_cI g, 40, .inl ((fun _ _ => 0) 3))), (rq 4, .inl (nz_cI g, 40, .inl ((fun _ _ => 0) 4))), (rq 5, .inl (nz_cI g, 40, .inl ((fun _ _ => 0) 5))), (rq 6, .inl (nz_cI g, 40, .inl ((fun _ _ => 0) 6))), (rq 7, .inl (nz_cI g, 40, .inl ((fun _ _ => 0) 7))), (q2, .inl (nz_cI g, 8, .inl (fun _ => 0))), (q3, .inl (nz_cI g, 8, .inl (fun _ => 0)))]) rfl ?_
  refine nz_putF (ws' := [(o, .inr (6, [.ref q1, .ref q2, .ref q3])), (q1, .inl (nz_cA g, 8, .inr (.inr (.inr (.inr (fun j => some (rq j))))))), (rq 0, .inl (nz_cI g, 40, .inl ((fun _ _ => 0) 0))), (rq 1, .inl (nz_cI g, 40, .inl ((fun _ _ => 0) 1))), (rq 2, .inl (nz_cI g, 40, .inl ((fun _ _ => 0) 2))), (rq 3, .inl (nz_cI g, 40, .inl ((fun _ _ => 0) 3))), (rq 4, .inl (nz_cI g, 40, .inl ((fun _ _ => 0) 4))), (rq 5, .inl (nz_cI g, 40, .inl ((fun _ _ => 0) 5))), (rq 6, .inl (nz_cI g, 40, .inl ((fun _ _ => 0) 6))), (rq 7, .inl (nz_cI g, 40, .inl ((fun _ _ => 0) 7))), (q2, .inl (nz_cI g, 8, .inl (fun _ => 0))), (q3, .inl (nz_cI g, 8, .inl (fun _ => 0)))]) F hN iw_X6_init_6 tyX6 tyX6_ok nmX6 0 rfl rfl 2 (by decide) rfl wc_X6_init_fl20 rfl rfl (Nat.le_of_ble_eq_true rfl) dX6_init_29 rfl ?_
  refine nz_aload_n F dX6_init_32 rfl 0 rfl ?_
  refine nz_get F iw_X6_init_6 0 rfl rfl 1 (by decide) rfl wc_X6_init_fl16 rfl dX6_init_33 ?_
  refine nz_iconst (v := (-1 : Int32)) F dX6_init_36 (by decide) ?_
  refine k_J7_fill_53178_8 q2 (fun _ => 0) (-1 : Int32) (fun hM => nz_runS F gX6_init_J7_fill_53178 rfl hd_J7_fill_53178.2 rfl hM dX6_init_37 [10] rfl rfl rfl (Nat.le_of_ble_eq_true rfl) rfl) h (fun m4 => [(o, .inr (6, [.ref q1, .ref q2, .ref q3])), (q1, .inl (nz_cA g, 8, .inr (.inr (.inr (.inr (fun j => some (rq j))))))), (rq 0, .inl (nz_cI g, 40, .inl ((fun _ _ => 0) 0))), (rq 1, .inl (nz_cI g, 40, .inl ((fun _ _ => 0) 1))), (rq 2, .inl (nz_cI g, 40, .inl ((fun _ _ => 0) 2))), (rq 3, .inl (nz_cI g, 40, .inl ((fun _ _ => 0) 3))), (rq 4, .inl (nz_cI g, 40, .inl ((fun _ _ => 0) 4))), (rq 5, .inl (nz_cI g, 40, .inl ((fun _ _ => 0) 5))), (rq 6, .inl (nz_cI g, 40, .inl ((fun _ _ => 0) 6))), (rq 7, .inl (nz_cI g, 40, .inl ((fun _ _ => 0) 7))), (q2, .inl (nz_cI g, 8, .inl m4)), (q3, .inl (nz_cI g, 8, .inl (fun _ => 0)))]) (fun _ => rfl) (fun m4 h => ?_)
  exact nz_vret F hQ (q1, rq, q2, q3, m4) h rfl dX6_init_40
theorem dX4_init_0 : decode cX4_init 0 = .ok (.aload_n 0, 1) := by decide +kernel
theorem dX4_init_1 : decode cX4_init 1 = .ok (.invokespecial 3, 3) := by decide +kernel
theorem dX4_init_4 : decode cX4_init 4 = .ok (.aload_n 0, 1) := by decide +kernel
theorem dX4_init_5 : decode cX4_init 5 = .ok (.sipush 400, 3) := by decide +kernel
theorem dX4_init_8 : decode cX4_init 8 = .ok (.newarray .int, 2) := by decide +kernel
theorem dX4_init_10 : decode cX4_init 10 = .ok (.putfield 11, 3) := by decide +kernel
theorem dX4_init_13 : decode cX4_init 13 = .ok (.aload_n 0, 1) := by decide +kernel
theorem dX4_init_14 : decode cX4_init 14 = .ok (.new 15, 3) := by decide +kernel
theorem dX4_init_17 : decode cX4_init 17 = .ok (.dup, 1) := by decide +kernel
theorem dX4_init_18 : decode cX4_init 18 = .ok (.invokespecial 17, 3) := by decide +kernel
theorem dX4_init_21 : decode cX4_init 21 = .ok (.putfield 18, 3) := by decide +kernel
theorem dX4_init_24 : decode cX4_init 24 = .ok (.return_, 1) := by decide +kernel
set_option maxRecDepth 20000 in
theorem ggX4_init_X5_init : GoodIn wsX4_init wsX5_init := goodIn_r _ [11, 12, 2, 3, 4, 13, 14, 15, 16, 17, 18, 19, 20, 29, 30, 31, 32, 33, 34, 35, 36, 37, 38, 39, 40, 41, 42, 43, 44, 45] rfl (by decide +kernel)
set_option maxRecDepth 20000 in
theorem gX4_init_X5_init_n17 : GoodIn wsX4_init (wsX5_init) := ggX4_init_X5_init
theorem hd_X5_init : yX5_init.cls = RX5 ∧ yX5_init.cls ≠ "java/lang/invoke/MethodHandle" ∧ yX5_init.cls ≠ "java/lang/invoke/VarHandle" ∧ (parseMethodDescriptor yX5_init.desc).map (fun d => d.parameters.length) = some 0 := by decide +kernel
theorem wc_X4_init_oi3 : Cond.methodLink RX4 3 objectInit ∈ wsX4_init := List.mem_of_getElem? (i := 1) rfl
theorem wc_X4_init_om : Cond.instanceMethod objectInit ∈ wsX4_init := List.mem_of_getElem? (i := 2) rfl
theorem wc_X4_init_oc : Cond.code objectInit ⟨#[0xb1]⟩ 1 none ∈ wsX4_init := List.mem_of_getElem? (i := 3) rfl
theorem wc_X4_init_ac_int : Cond.arrayClass .int ∈ wsX4_init := List.mem_of_getElem? (i := 4) rfl
theorem iw_X4_init_4 : ∀ w ∈ wsX40, w ∈ wsX4_init := fun _ h => List.mem_cons_of_mem _ (List.mem_append_left _ (List.mem_append_right _ h))
theorem wc_X4_init_fl11 : Cond.fieldLink RX4 11 "NightStones$Reader" "tape" "[I" ∈ wsX4_init := List.mem_of_getElem? (i := 5) rfl
theorem iw_X4_init_5 : ∀ w ∈ wsX50, w ∈ wsX4_init := fun _ h => List.mem_cons_of_mem _ (List.mem_append_right _ h)
theorem wc_X4_init_cl15 : Cond.classLink RX4 15 RX5 ∈ wsX4_init := List.mem_of_getElem? (i := 6) rfl
theorem wc_X4_init_is5 : Cond.instantiable RX5 17 ∈ wsX4_init := List.mem_of_getElem? (i := 7) rfl
theorem wc_X4_init_in5 : Cond.initialized RX5 ∈ wsX4_init := List.mem_of_getElem? (i := 8) rfl
theorem nt_X4_init_17 : Cond.methodLinkNest RX4 17 yX5_init RX7 ∈ nz_nest := List.mem_of_getElem? (i := 2) rfl
theorem wc_X4_init_im_X5_init : Cond.instanceMethod yX5_init ∈ wsX4_init := List.mem_of_getElem? (i := 10) rfl
theorem wc_X4_init_fl18 : Cond.fieldLink RX4 18 "NightStones$Reader" "draft" "LNightStones$Road;" ∈ wsX4_init := List.mem_of_getElem? (i := 9) rfl
abbrev rm_X4_init : Room := { frames := 2, cells := 10, slots := 503, locals := 40 }
set_option maxHeartbeats 4000000 in
set_option maxRecDepth 100000 in
theorem c_X4_init (l : Launch) (g : nz_G) (o : Nat) : nz_MC l yX4_init wsX4_init rm_X4_init g [.ref o] [(o, .inr (4, [.null, .null, .int 0, .int 0, .int 0, .int 0, .int 0, .int 0]))] 10 503 (nz_Qv g [(o, .inr (4, [.null, .null, .int 0, .int 0, .int 0, .int 0, .int 0, .int 0]))] (fun (u : Nat × Nat × Nat × Nat × Nat × Nat × Nat × Nat × Nat × Nat) => True) (fun u => [(o, .inr (4, [.ref u.1, .ref u.2.1, .int 0, .int 0, .int 0, .int 0, .int 0, .int 0])), (u.1, .inl (nz_cI g, 400, .inl (fun _ => 0))), (u.2.1, .inr (5, [.int 0, .int 0, .int 0, .int 0, .int 0, .int 0, .int 0, .int 0, .int 0, .ref u.2.2.1, .ref u.2.2.2.1, .ref u.2.2.2.2.1, .ref u.2.2.2.2.2.1, .ref u.2.2.2.2.2.2.1, .ref u.2.2.2.2.2.2.2.1, .ref u.2.2.2.2.2.2.2.2.1, .ref u.2.2.2.2.2.2.2.2.2])), (u.2.2.1, .inl (nz_cI g, 6, .inl (fun _ => 0))), (u.2.2.2.1, .inl (nz_cI g, 6, .inl (fun _ => 0))), (u.2.2.2.2.1, .inl (nz_cI g, 6, .inl (fun _ => 0))), (u.2.2.2.2.2.1, .inl (nz_cI g, 5, .inl (fun _ => 0))), (u.2.2.2.2.2.2.1, .inl (nz_cI g, 5, .inl (fun _ => 0))), (u.2.2.2.2.2.2.2.1, .inl (nz_cI g, 5, .inl (fun _ => 0))), (u.2.2.2.2.2.2.2.2.1, .inl (nz_cI g, 5, .inl (fun _ => 0))), (u.2.2.2.2.2.2.2.2.2, .inl (nz_cI g, 48, .inl (fun _ => 0)))])) := by
  refine nz_MC.of (bytes := cX4_init) (nL := 1) (ret := none) (own := RX4) (by decide) rfl rfl rfl rfl ?_
  intro y F hN hO hQ
  obtain ⟨sz, hQ⟩ := hQ
  refine nz_ent (lv' := [(0, .ref o)]) rfl ?_
  refine nz_aload_n F dX4_init_0 rfl 0 rfl ?_
  refine nz_oinit F wc_X4_init_oi3 wc_X4_init_om wc_X4_init_oc ⟨rfl, rfl⟩ (Nat.le_of_ble_eq_true rfl) dX4_init_1 ?_
  refine nz_aload_n F dX4_init_4 rfl 0 rfl ?_
  refine nz_sipush (v := 400) F dX4_init_5 (by decide) ?_
  refine nz_newa (N' := 400) F wc_X4_init_ac_int (by decide) (by decide) rfl ⟨rfl, rfl⟩ dX4_init_8 (fun q1 => ?_)
  refine nz_ws (ws' := [(o, .inr (4, [.null, .null, .int 0, .int 0, .int 0, .int 0, .int 0, .int 0])), (q1, .inl (nz_cI g, 400, .inl (fun _ => 0)))]) rfl ?_
  refine nz_putF (ws' := [(o, .inr (4, [.ref q1, .null, .int 0, .int 0, .int 0, .int 0, .int 0, .int 0])), (q1, .inl (nz_cI g, 400, .inl (fun _ => 0)))]) F hN iw_X4_init_4 tyX4 tyX4_ok nmX4 0 rfl rfl 0 (by decide) rfl wc_X4_init_fl11 rfl rfl (Nat.le_of_ble_eq_true rfl) dX4_init_10 rfl ?_
  refine nz_aload_n F dX4_init_13 rfl 0 rfl ?_
  refine nz_new (ci := 5) (fs := [.int 0, .int 0, .int 0, .int 0, .int 0, .int 0, .int 0, .int 0, .int 0, .null, .null, .null, .null, .null, .null, .null, .null]) F iw_X4_init_5 tyX5 tyX5_ok wc_X4_init_cl15 wc_X4_init_is5 wc_X4_init_in5 rfl (by decide) ⟨rfl, rfl⟩ dX4_init_14 (fun q2 => ?_)
  refine nz_ws (ws' := [(o, .inr (4, [.ref q1, .null, .int 0, .int 0, .int 0, .int 0, .int 0, .int 0])), (q1, .inl (nz_cI g, 400, .inl (fun _ => 0))), (q2, .inr (5, [.int 0, .int 0, .int 0, .int 0, .int 0, .int 0, .int 0, .int 0, .int 0, .null, .null, .null, .null, .null, .null, .null, .null]))]) rfl ?_
  refine nz_dup F dX4_init_17 rfl ?_
  refine nz_cJ (wr := [(o, .inr (4, [.ref q1, .null, .int 0, .int 0, .int 0, .int 0, .int 0, .int 0])), (q1, .inl (nz_cI g, 400, .inl (fun _ => 0)))]) (nz_runIN F hO gX4_init_X5_init_n17 rfl nt_X4_init_17 wc_X4_init_in5 wc_X4_init_im_X5_init rfl hd_X5_init.2 rfl (c_X5_init (yz_l y) g q2) dX4_init_18 [2] rfl rfl rfl (Nat.le_of_ble_eq_true rfl) rfl) [0, 1] rfl (by decide) (by decide) (fun u _ => ?_)
  obtain ⟨q3, q4, q5, q6, q7, q8, q9, q10⟩ := u
  refine nz_ws (ws' := [(o, .inr (4, [.ref q1, .null, .int 0, .int 0, .int 0, .int 0, .int 0, .int 0])), (q1, .inl (nz_cI g, 400, .inl (fun _ => 0))), (q2, .inr (5, [.int 0, .int 0, .int 0, .int 0, .int 0, .int 0, .int 0, .int 0, .int 0, .ref q3, .ref q4, .ref q5, .ref q6, .ref q7, .ref q8, .ref q9, .ref q10])), (q3, .inl (nz_cI g, 6, .inl (fun _ => 0))), (q4, .inl (nz_cI g, 6, .inl (fun _ => 0))), (q5, .inl (nz_cI g, 6, .inl (fun _ => 0))), (q6, .inl (nz_cI g, 5, .inl (fun _ => 0))), (q7, .inl (nz_cI g, 5, .inl (fun _ => 0))), (q8, .inl (nz_cI g, 5, .inl (fun _ => 0))), (q9, .inl (nz_cI g, 5, .inl (fun _ => 0))), (q10, .inl (nz_cI g, 48, .inl (fun _ => 0)))]) rfl ?_
  refine nz_putF (ws' := [(o, .inr (4, [.ref q1, .ref q2, .int 0, .int 0, .int 0, .int 0, .int 0, .int 0])), (q1, .inl (nz_cI g, 400, .inl (fun _ => 0))), (q2, .inr (5, [.int 0, .int 0, .int 0, .int 0, .int 0, .int 0, .int 0, .int 0, .int 0, .ref q3, .ref q4, .ref q5, .ref q6, .ref q7, .ref q8, .ref q9, .ref q10])), (q3, .inl (nz_cI g, 6, .inl (fun _ => 0))), (q4, .inl (nz_cI g, 6, .inl (fun _ => 0))), (q5, .inl (nz_cI g, 6, .inl (fun _ => 0))), (q6, .inl (nz_cI g, 5, .inl (fun _ => 0))), (q7, .inl (nz_cI g, 5, .inl (fun _ => 0))), (q8, .inl (nz_cI g, 5, .inl (fun _ => 0))), (q9, .inl (nz_cI g, 5, .inl (fun _ => 0))), (q10, .inl (nz_cI g, 48, .inl (fun _ => 0)))]) F hN iw_X4_init_4 tyX4 tyX4_ok nmX4 0 rfl rfl 1 (by decide) rfl wc_X4_init_fl18 rfl rfl (Nat.le_of_ble_eq_true rfl) dX4_init_21 rfl ?_
  exact nz_vret F hQ (q1, q2, q3, q4, q5, q6, q7, q8, q9, q10) trivial rfl dX4_init_24
