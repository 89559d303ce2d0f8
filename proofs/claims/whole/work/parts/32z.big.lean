/-! worlds of many cells, by their stretches -/
theorem nz_mapR : ∀ (w1 p w2 : va_W), (List.range' p.length w1.length).map (fun i => (p ++ (w1 ++ w2))[i]?) = w1.map some
  | [], p, w2 => rfl
  | c :: cs, p, w2 => by
    have h := nz_mapR cs (p ++ [c]) w2
    simp only [List.length_append, List.length_cons, List.length_nil, Nat.zero_add, List.append_assoc, List.cons_append, List.nil_append] at h
    rw [List.length_cons, List.range'_succ, List.map_cons, List.map_cons]
    congr 1
    simp
theorem nz_mrgR : ∀ (w1 w1' p w2 : va_W), w1'.length = w1.length → nz_mrg (p ++ (w1 ++ w2)) (List.range' p.length w1.length) w1' = p ++ (w1' ++ w2)
  | [], [], p, w2, _ => rfl
  | [], c' :: cs', p, w2, h => by simp at h
  | c :: cs, [], p, w2, h => by simp at h
  | c :: cs, c' :: cs', p, w2, h => by
    have h1 := nz_mrgR cs cs' (p ++ [c']) w2 (by simpa using h)
    rw [List.length_cons, List.range'_succ]
    show nz_mrg ((p ++ ((c :: cs) ++ w2)).set p.length c') _ cs' = _
    have e : (p ++ ((c :: cs) ++ w2)).set p.length c' = (p ++ [c']) ++ (cs ++ w2) := by
      rw [List.set_append_right _ _ (Nat.le_refl _), Nat.sub_self]
      simp
    rw [e]
    have e2 : (p ++ [c']).length = p.length + 1 := by simp
    rw [e2] at h1
    rw [h1]
    simp
theorem nz_mrg_app : ∀ (is : List Nat) (w1 : va_W) (ws : va_W) (is2 : List Nat) (w2 : va_W), is.length = w1.length → nz_mrg ws (is ++ is2) (w1 ++ w2) = nz_mrg (nz_mrg ws is w1) is2 w2
  | [], [], ws, is2, w2, _ => by rw [List.nil_append, List.nil_append, nz_mrg]
  | [], q :: qs, ws, is2, w2, h => by simp at h
  | i :: is, [], ws, is2, w2, h => by simp at h
  | i :: is, q :: qs, ws, is2, w2, h => by
    show nz_mrg (ws.set i q) (is ++ is2) (qs ++ w2) = nz_mrg (nz_mrg (ws.set i q) is qs) is2 w2
    exact nz_mrg_app is qs (ws.set i q) is2 w2 (by simpa using h)
theorem nz_hC1 {ws p c r wc : va_W} {s n : Nat} (hw : ws = p ++ (c ++ r)) (hs : p.length = s) (hn : c.length = n) (hc : c = wc := by rfl) : (List.range' s n).map (fun i => ws[i]?) = wc.map some := by
  subst hs hn hc hw
  exact nz_mapR c p r
theorem nz_hC2 {ws p c r p2 c2 r2 wc : va_W} {s n s2 n2 : Nat} (hw : ws = p ++ (c ++ r)) (hs : p.length = s) (hn : c.length = n) (hw2 : ws = p2 ++ (c2 ++ r2)) (hs2 : p2.length = s2) (hn2 : c2.length = n2) (hc : c ++ c2 = wc := by rfl) : (List.range' s n ++ List.range' s2 n2).map (fun i => ws[i]?) = wc.map some := by
  subst hc
  rw [List.map_append, List.map_append]
  exact congr (congrArg _ (nz_hC1 hw hs hn rfl)) (nz_hC1 hw2 hs2 hn2 rfl)
theorem nz_hm1 {ws p c r d ws' : va_W} {s n : Nat} (hw : ws = p ++ (c ++ r)) (hs : p.length = s) (hn : c.length = n) (hd : d.length = n) (hr : p ++ (d ++ r) = ws') : nz_mrg ws (List.range' s n) d = ws' := by
  subst hs hn hr hw
  exact nz_mrgR c d p r hd
theorem nz_hm2 {ws p c r d p2 c2 r2 d2 ws' : va_W} {s n s2 n2 : Nat} (hw : ws = p ++ (c ++ r)) (hs : p.length = s) (hn : c.length = n) (hd : d.length = n) (hw2 : p ++ (d ++ r) = p2 ++ (c2 ++ r2)) (hs2 : p2.length = s2) (hn2 : c2.length = n2) (hd2 : d2.length = n2) (hr : p2 ++ (d2 ++ r2) = ws') : nz_mrg ws (List.range' s n ++ List.range' s2 n2) (d ++ d2) = ws' := by
  rw [nz_mrg_app _ _ _ _ _ (by rw [List.length_range', hd]), nz_hm1 hw hs hn hd hw2]
  exact nz_hm1 rfl hs2 hn2 hd2 hr
theorem nd_0_62 : va_nd (List.range' 0 62) = true := by decide +kernel
theorem nd_62_14 : va_nd (List.range' 62 14) = true := by decide +kernel
