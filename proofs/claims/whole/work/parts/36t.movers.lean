noncomputable def zSo (B : Int → Int) (u : zU) : Int := @ite Int (zwm B u.1 u.2.1 u.2.2.1 3) (Classical.propDecidable _) 1 (@ite Int (zwm B u.1 u.2.1 u.2.2.1 4) (Classical.propDecidable _) 2 (@ite Int (zwm B u.1 u.2.1 u.2.2.1 5) (Classical.propDecidable _) 3 (@ite Int (zwm B u.1 u.2.1 u.2.2.1 6) (Classical.propDecidable _) 4 (@ite Int (zwm B u.1 u.2.1 u.2.2.1 7) (Classical.propDecidable _) 5 0))))
theorem zSo_rg {B : Int → Int} {u : zU} : 0 ≤ zSo B u ∧ zSo B u ≤ 5 := by
  unfold zSo
  split
  · decide
  · split
    · decide
    · split
      · decide
      · split
        · decide
        · split <;> decide
noncomputable def aSo (t : Int) (B : Int → Int) (u : zU) : zU := if zSo B u = 0 then aBl 1 u else aNx t B u
theorem zV.so {t : Int} {B : Int → Int} {ef0 f9 : Nat → Int32} {u : zU} (T : zTT t B ef0 f9) (h : zV t B u) : zV t B (aSo t B u) := by
  unfold aSo
  split
  · exact h.bl (by decide)
  · exact h.nx T
theorem aSo_ok {t : Int} {B : Int → Int} {u : zU} (h : (aSo t B u).2.2.2 = 0) : u.2.2.2 = 0 ∧ zSo B u ≠ 0 := by
  unfold aSo at h
  by_cases c : zSo B u = 0
  · rw [if_pos c] at h
    exact absurd h (aBl_q (by decide))
  · rw [if_neg c, aNx_q] at h
    exact ⟨h, c⟩
theorem x_so {t : Int} {B : Int → Int} {ef0 f9 : Nat → Int32} {u : zU} {a3 a4 a5 a6 a7 : Int32} {K : Int32 → Int32 → Int32 → Int32 → Int32 → Int32 → Prop} (T : zTT t B ef0 f9) (V : zV t B u) (R : zX4 B u a3 a4 a5 a6 a7) (hK : ∀ b3 b4 b5 b6 b7, zX4 B (aSo t B u) b3 b4 b5 b6 b7 → K (zi (zSo B u)) b3 b4 b5 b6 b7) : wp_X4_readSort (zi t) a3 a4 a5 a6 a7 ef0 K := by
  have nam : ∀ P : Int32 → Prop, P (zi (zSo B u)) → wp_X4_sortNamed (zi t) a3 a4 a5 ef0 P := by
    intro P hP
    unfold wp_X4_sortNamed
    unfold zSo at hP
    refine x_isWord T V R (by decide) (fun c => by1' ?_) (fun c => by0' ?_)
    · rw [if_pos c] at hP
      exact hP
    rw [if_neg c] at hP
    refine x_isWord T V R (by decide) (fun c => by1' ?_) (fun c => by0' ?_)
    · rw [if_pos c] at hP
      exact hP
    rw [if_neg c] at hP
    refine x_isWord T V R (by decide) (fun c => by1' ?_) (fun c => by0' ?_)
    · rw [if_pos c] at hP
      exact hP
    rw [if_neg c] at hP
    refine x_isWord T V R (by decide) (fun c => by1' ?_) (fun c => by0' ?_)
    · rw [if_pos c] at hP
      exact hP
    rw [if_neg c] at hP
    refine x_isWord T V R (by decide) (fun c => by1' ?_) (fun c => by0' ?_)
    · rw [if_pos c] at hP
      exact hP
    rw [if_neg c] at hP
    exact hP
  unfold wp_X4_readSort
  refine nam _ ?_
  have rs := zSo_rg (B := B) (u := u)
  unfold aSo at hK
  rw [show (zi (zSo B u) = 0) = (zSo B u = 0) from zi_eq (b := 0) (by omega) (by decide)]
  refine ⟨fun c => ?_, fun c => ?_⟩
  · rw [if_neg c] at hK
    exact x_nx T V R (fun b3 b4 b5 b6 h => hK _ _ _ _ _ h)
  · rw [if_pos c] at hK
    exact x_bl V R zq1 (fun b7 h => hK _ _ _ _ _ h)
theorem m_kindBy {t : Int} {B : Int → Int} {u : zU} {K : Int32 → Prop} (V : zV t B u) (hK : ∀ v : Int, ((u.2.2.2 = 0 ∧ zSo B u ≠ 0) → v = zSo B u) → (¬ (u.2.2.2 = 0 ∧ zSo B u ≠ 0) → v = -1000000) → K (zi v)) : wp_X8_kindBy (zl (zNV B u.1 u.2.1 u.2.2.1 u.2.2.2)) K := by
  unfold wp_X8_kindBy
  rw [zNV_cmp (w := 3) (c := 6909550) V (by decide) rfl, zNV_cmp (w := 4) (c := 109270183208306) V (by decide) rfl, zNV_cmp (w := 5) (c := 123563833652072) V (by decide) rfl, zNV_cmp (w := 6) (c := 499967944038) V (by decide) rfl, zNV_cmp (w := 7) (c := 123636696839028) V (by decide) rfl]
  by_cases q : u.2.2.2 = 0
  · unfold zSo at hK
    refine ⟨fun c3 => ?_, fun c3 => ?_⟩
    · have n3 : ¬ zwm B u.1 u.2.1 u.2.2.1 3 := fun z => c3 ⟨q, z⟩
      rw [if_neg n3] at hK
      refine ⟨fun c4 => ?_, fun c4 => ?_⟩
      · have n4 : ¬ zwm B u.1 u.2.1 u.2.2.1 4 := fun z => c4 ⟨q, z⟩
        rw [if_neg n4] at hK
        refine ⟨fun c5 => ?_, fun c5 => ?_⟩
        · have n5 : ¬ zwm B u.1 u.2.1 u.2.2.1 5 := fun z => c5 ⟨q, z⟩
          rw [if_neg n5] at hK
          refine ⟨fun c6 => ?_, fun c6 => ?_⟩
          · have n6 : ¬ zwm B u.1 u.2.1 u.2.2.1 6 := fun z => c6 ⟨q, z⟩
            rw [if_neg n6] at hK
            refine ⟨fun c7 => ?_, fun c7 => ?_⟩
            · have n7 : ¬ zwm B u.1 u.2.1 u.2.2.1 7 := fun z => c7 ⟨q, z⟩
              rw [if_neg n7] at hK
              exact hK (-1000000) (fun z => absurd rfl z.2) (fun _ => rfl)
            · rw [if_pos c7.2] at hK
              exact hK 5 (fun _ => rfl) (fun z => absurd ⟨q, by decide⟩ z)
          · rw [if_pos c6.2] at hK
            exact hK 4 (fun _ => rfl) (fun z => absurd ⟨q, by decide⟩ z)
        · rw [if_pos c5.2] at hK
          exact hK 3 (fun _ => rfl) (fun z => absurd ⟨q, by decide⟩ z)
      · rw [if_pos c4.2] at hK
        exact hK 2 (fun _ => rfl) (fun z => absurd ⟨q, by decide⟩ z)
    · rw [if_pos c3.2] at hK
      exact hK 1 (fun _ => rfl) (fun z => absurd ⟨q, by decide⟩ z)
  · have done : K (-1000000 : Int32) := hK (-1000000) (fun z => absurd z.1 q) (fun _ => rfl)
    exact ⟨fun _ => ⟨fun _ => ⟨fun _ => ⟨fun _ => ⟨fun _ => done, fun z => absurd z.1 q⟩, fun z => absurd z.1 q⟩, fun z => absurd z.1 q⟩, fun z => absurd z.1 q⟩, fun z => absurd z.1 q⟩
def zPM (g : Int → Int) (m : Int) : Prop := g 5 = m ∧ (0 ≤ m ∧ m ≤ 5) ∧ ∀ i : Int, 0 ≤ i ∧ i < m → (1 ≤ zkd g i ∧ zkd g i ≤ 5) ∧ (0 ≤ zwh g i ∧ zwh g i < g 4) ∧ (0 ≤ zwy g i ∧ zwy g i ≤ 1) ∧ (1 ≤ zre g i ∧ zre g i ≤ 5)
def zg2 (g : Int → Int) (m a b c d : Int) : Int → Int := iup (iup (iup (iup (iup g (26 + 4 * m) a) (26 + 4 * m + 1) b) (26 + 4 * m + 2) c) (26 + 4 * m + 3) d) 5 (m + 1)
theorem zg2_at {g : Int → Int} {m a b c d i : Int} (h : i ≠ 5) : zg2 g m a b c d i = if i = 26 + 4 * m + 3 then d else if i = 26 + 4 * m + 2 then c else if i = 26 + 4 * m + 1 then b else if i = 26 + 4 * m then a else g i := by
  show (if i = 5 then _ else _) = _
  rw [if_neg h]
  rfl
theorem zg2_lo {g : Int → Int} {m a b c d i : Int} (hm : 0 ≤ m) (h : i ≠ 5) (h8 : i < 26) : zg2 g m a b c d i = g i := by
  rw [zg2_at h, if_neg (by omega), if_neg (by omega), if_neg (by omega), if_neg (by omega)]
theorem zg2_mv {g : Int → Int} {m a b c d k : Int} (hm : 0 ≤ m) (hk : 0 ≤ k) : zkd (zg2 g m a b c d) k = (if k = m then a else zkd g k) ∧ zwh (zg2 g m a b c d) k = (if k = m then b else zwh g k) ∧ zwy (zg2 g m a b c d) k = (if k = m then c else zwy g k) ∧ zre (zg2 g m a b c d) k = (if k = m then d else zre g k) := by
  unfold zkd zwh zwy zre
  rw [zg2_at (by omega), zg2_at (by omega), zg2_at (by omega), zg2_at (by omega)]
  by_cases e : k = m
  · subst e
    simp
    omega
  · rw [if_neg e, if_neg e, if_neg e, if_neg e]
    refine ⟨?_, ?_, ?_, ?_⟩ <;> rw [if_neg (by omega), if_neg (by omega), if_neg (by omega), if_neg (by omega)]
theorem zPM.up {g : Int → Int} {m a b c d : Int} (h : zPM g m) (hm : m < 5) (ha : 1 ≤ a ∧ a ≤ 5) (hb : 0 ≤ b ∧ b < g 4) (hc : 0 ≤ c ∧ c ≤ 1) (hd : 1 ≤ d ∧ d ≤ 5) : zPM (zg2 g m a b c d) (m + 1) := by
  obtain ⟨h5, hr, hs⟩ := h
  refine ⟨iup_eq _ _ _, by omega, fun k hk => ?_⟩
  obtain ⟨e1, e2, e3, e4⟩ := zg2_mv (g := g) (m := m) (a := a) (b := b) (c := c) (d := d) (k := k) hr.1 hk.1
  rw [e1, e2, e3, e4, zg2_lo hr.1 (by decide) (by decide)]
  by_cases e : k = m
  · rw [if_pos e, if_pos e, if_pos e, if_pos e]
    exact ⟨ha, hb, hc, hd⟩
  · rw [if_neg e, if_neg e, if_neg e, if_neg e]
    exact hs k (by omega)
theorem zPV.mv {g : Int → Int} {n m a b c d : Int} (h : zPV g n) (hm : 0 ≤ m) : zPV (zg2 g m a b c d) n := by
  have lo := fun i (h5 : i ≠ 5) (h8 : i < 26) => zg2_lo (g := g) (m := m) (a := a) (b := b) (c := c) (d := d) (i := i) hm h5 h8
  obtain ⟨h0, h1, h2, h3, ⟨h4, h6, h7⟩, h5, hs, ht⟩ := h
  refine ⟨by rw [lo 0 (by decide) (by decide)]; exact h0, by rw [lo 1 (by decide) (by decide)]; exact h1, by rw [lo 2 (by decide) (by decide)]; exact h2, by rw [lo 3 (by decide) (by decide)]; exact h3, ⟨by rw [lo 4 (by decide) (by decide)]; exact h4, by rw [lo 6 (by decide) (by decide)]; exact h6, by rw [lo 7 (by decide) (by decide)]; exact h7⟩, h5, fun k hk => ?_, fun k hk => ?_⟩
  · have := hs k hk
    unfold zsay zat zho at *
    rw [lo (8 + 3 * k) (by omega) (by omega), lo (9 + 3 * k) (by omega) (by omega), lo (10 + 3 * k) (by omega) (by omega), lo 0 (by decide) (by decide)]
    exact this
  · have := ht k hk
    unfold zat at *
    rw [lo _ (by omega) (by omega), lo _ (by omega) (by omega)]
    exact this
theorem zg2_A {g : Int → Int} {m a b d e : Int} {c : Nat → Int32} (hm : 0 ≤ m ∧ m < 5) (h : zA 94 c g) (e5 : c 5 = zi m) : zA 94 (upd (upd (upd (upd (upd c (zi (26 + 4 * m)).toNatClampNeg (zi a)) (zi (26 + 4 * m + 1)).toNatClampNeg (zi b)) (zi (26 + 4 * m + 2)).toNatClampNeg (zi d)) (zi (26 + 4 * m + 3)).toNatClampNeg (zi e)) 5 ((upd (upd (upd (upd c (zi (26 + 4 * m)).toNatClampNeg (zi a)) (zi (26 + 4 * m + 1)).toNatClampNeg (zi b)) (zi (26 + 4 * m + 2)).toNatClampNeg (zi d)) (zi (26 + 4 * m + 3)).toNatClampNeg (zi e)) 5 + 1)) (zg2 g m a b d e) := by
  have h1 := (((h.up (i := 26 + 4 * m) (v := a) (by omega)).up (i := 26 + 4 * m + 1) (v := b) (by omega)).up (i := 26 + 4 * m + 2) (v := d) (by omega)).up (i := 26 + 4 * m + 3) (v := e) (by omega)
  have ee : (upd (upd (upd (upd c (zi (26 + 4 * m)).toNatClampNeg (zi a)) (zi (26 + 4 * m + 1)).toNatClampNeg (zi b)) (zi (26 + 4 * m + 2)).toNatClampNeg (zi d)) (zi (26 + 4 * m + 3)).toNatClampNeg (zi e)) 5 = zi m := by
    rw [zi_cl (by omega), zi_cl (by omega), zi_cl (by omega), zi_cl (by omega)]
    show (if 5 = (26 + 4 * m + 3).toNat then zi e else if 5 = (26 + 4 * m + 2).toNat then zi d else if 5 = (26 + 4 * m + 1).toNat then zi b else if 5 = (26 + 4 * m).toNat then zi a else c 5) = zi m
    rw [if_neg (by omega), if_neg (by omega), if_neg (by omega), if_neg (by omega)]
    exact e5
  rw [ee, zq1, zi_add]
  exact h1.up (i := 5) (v := m + 1) (by decide)
noncomputable def aM (t : Int) (B : Int → Int) (n : Int) (u : zU) : zU := aEn t B (aNu t B 1 5 (aNu t B 0 1 (aNu t B 0 (n - 1) (aSo t B u))))
theorem aM_ok {t : Int} {B : Int → Int} {n : Int} {u : zU} (h : (aM t B n u).2.2.2 = 0) : u.2.2.2 = 0 ∧ (1 ≤ zSo B u ∧ zSo B u ≤ 5) ∧ (0 ≤ zVal B (aSo t B u) ∧ zVal B (aSo t B u) < n) ∧ (0 ≤ zVal B (aNu t B 0 (n - 1) (aSo t B u)) ∧ zVal B (aNu t B 0 (n - 1) (aSo t B u)) ≤ 1) ∧ (1 ≤ zVal B (aNu t B 0 1 (aNu t B 0 (n - 1) (aSo t B u))) ∧ zVal B (aNu t B 0 1 (aNu t B 0 (n - 1) (aSo t B u))) ≤ 5) ∧ (aNu t B 0 (n - 1) (aSo t B u)).2.2.2 = 0 ∧ (aNu t B 0 1 (aNu t B 0 (n - 1) (aSo t B u))).2.2.2 = 0 ∧ (aNu t B 1 5 (aNu t B 0 1 (aNu t B 0 (n - 1) (aSo t B u)))).2.2.2 = 0 := by
  have z5 := aEn_ok h
  have z4 := aNu_ok z5
  have z3 := aNu_ok z4.1
  have z2 := aNu_ok z3.1
  have z1 := aSo_ok z2.1
  have r := zSo_rg (B := B) (u := u)
  exact ⟨z1.1, by omega, by omega, by omega, by omega, z3.1, z4.1, z5⟩
theorem m_readMover {t : Int} {B : Int → Int} {ef0 f9 c5 : Nat → Int32} {u : zU} {g : Int → Int} {n m : Int} {r13 r14 r15 r16 r17 r18 : Int32} {K : Int32 → Int32 → Int32 → Int32 → Int32 → Int32 → (Nat → Int32) → Prop} (T : zTT t B ef0 f9) (V : zV t B u) (R : zM8 u r13 r14 r15 r16 r17 r18) (hP : zPV g n) (hm : zPM g m) (hA : zA 94 c5 g) (hq : u.2.2.2 = 0) (h5 : m = 5 → ∀ c13 c14 c15 c16 c17 c18, zM8 (aBl 3 u) c13 c14 c15 c16 c17 c18 → K c13 c14 c15 c16 c17 c18 c5) (hn : m < 5 → ∀ c13 c14 c15 c16 c17 c18 s, zLM (aM t B n (aNx t B u)) (zg2 g m (zSo B (aNx t B u)) (zVal B (aSo t B (aNx t B u))) (zVal B (aNu t B 0 (n - 1) (aSo t B (aNx t B u)))) (zVal B (aNu t B 0 1 (aNu t B 0 (n - 1) (aSo t B (aNx t B u)))))) c13 c14 c15 c16 c17 c18 s → K c13 c14 c15 c16 c17 c18 s) : wp_X8_readMover (zi t) r13 r14 r15 r16 r17 r18 c5 f9 K := by
  have e4 : c5 4 = zi n := (zM4 hA (i := 4) (by decide)).trans (by rw [← hP.2.2.2.2.1.1]; rfl)
  have e5 : c5 5 = zi m := (zM4 hA (i := 5) (by decide)).trans (by rw [← hm.1]; rfl)
  have rn := hP.2.2.2.2.2.1
  have rm := hm.2.1
  have tail : ∀ (u2 : zU) (k : Int) (c13 c14 c15 c16 c17 c18 : Int32), zV t B u2 → zM8 u2 c13 c14 c15 c16 c17 c18 → (∀ d13 d14 d15 d16 d17 d18 s, zM8 (aEn t B (aNu t B 1 5 (aNu t B 0 1 (aNu t B 0 (n - 1) u2)))) d13 d14 d15 d16 d17 d18 → ((aEn t B (aNu t B 1 5 (aNu t B 0 1 (aNu t B 0 (n - 1) u2)))).2.2.2 = 0 → m < 5 → zA 94 s (zg2 g m k (zVal B u2) (zVal B (aNu t B 0 (n - 1) u2)) (zVal B (aNu t B 0 1 (aNu t B 0 (n - 1) u2))))) → (¬ (aEn t B (aNu t B 1 5 (aNu t B 0 1 (aNu t B 0 (n - 1) u2)))).2.2.2 = 0 → s = c5) → K d13 d14 d15 d16 d17 d18 s) → ((aEn t B (aNu t B 1 5 (aNu t B 0 1 (aNu t B 0 (n - 1) u2)))).2.2.2 = 0 → m < 5) → S_X8_readMover_36 (zi t) f9 (zi k) c13 c14 c15 c16 c17 c18 c5 K := by
    intro u2 k c13 c14 c15 c16 c17 c18 V2 h2 hK hm5
    unfold S_X8_readMover_36
    rw [e4, zq1, zi_sub]
    refine m_nu (lo := 0) (hi := n - 1) T V2 h2 (by decide) (by omega) (fun v3 c13 c14 c15 c16 c17 c18 h3 hv3 => ?_)
    have V3 := V2.nu (lo := 0) (hi := n - 1) T
    have ok3 := aNu_ok (t := t) (B := B) (lo := 0) (hi := n - 1) (u := u2)
    generalize aNu t B 0 (n - 1) u2 = u3 at *
    refine m_nu (lo := 0) (hi := 1) T V3 h3 (by decide) (by decide) (fun v4 c13 c14 c15 c16 c17 c18 h4 hv4 => ?_)
    have V4 := V3.nu (lo := 0) (hi := 1) T
    have ok4 := aNu_ok (t := t) (B := B) (lo := 0) (hi := 1) (u := u3)
    generalize aNu t B 0 1 u3 = u4 at *
    refine m_nu (lo := 1) (hi := 5) T V4 h4 (by decide) (by decide) (fun v5 c13 c14 c15 c16 c17 c18 h5' hv5 => ?_)
    have V5 := V4.nu (lo := 1) (hi := 5) T
    have ok5 := aNu_ok (t := t) (B := B) (lo := 1) (hi := 5) (u := u4)
    generalize aNu t B 1 5 u4 = u5 at *
    refine m_en T V5 h5' (fun c13 c14 c15 c16 c17 c18 h6 => ?_)
    have ok6 := aEn_ok (t := t) (B := B) (u := u5)
    have V6 := V5.en T
    generalize aEn t B u5 = u6 at *
    have h17 := h6.2.2.2.2.1
    have q6 := V6.2.2.1
    rw [h17, show (zi u6.2.2.2 = 0) = (u6.2.2.2 = 0) from zi_eq (b := 0) (by omega) (by decide), ← h17]
    refine ⟨fun d => hK _ _ _ _ _ _ _ h6 (fun z => absurd z d) (fun _ => rfl), fun d => ?_⟩
    have hm5 := hm5 d
    rw [e5, hv3 (ok4 (ok5 (ok6 d)).1).1, hv4 (ok5 (ok6 d)).1, hv5 (ok6 d), zq26, zq4, zi_mul, zi_add, zq2, zq3, zi_add, zi_add, zi_add]
    refine ⟨zi_in (by omega), zi_in (by omega), zi_in (by omega), zi_in (by omega), hK _ _ _ _ _ _ _ h6 (fun _ _ => ?_) (fun z => absurd d z)⟩
    rw [← zq1]
    exact zg2_A (by omega) hA e5
  unfold wp_X8_readMover wp_X8_begins
  rw [show c5 (5 : Int32).toNatClampNeg = c5 5 from rfl, e5, show (zi m = 5) = (m = 5) from zi_eq (b := 5) (by omega) (by decide)]
  refine ⟨zi_in (a := 5) (by decide), fun c => ?_, fun c => ?_⟩
  · have hn := hn (by omega)
    refine m_must1 T V R (fun c13 c14 c15 c16 c17 c18 h1 => ?_)
    have V1 := V.nx T
    have q1 : (aNx t B u).2.2.2 = 0 := by rw [aNx_q]; exact hq
    generalize aNx t B u = u1 at *
    refine m_name T V1 h1 (m_kindBy V1 (fun v hv1 hv0 => ?_))
    have h17 := h1.2.2.2.2.1
    have rs := zSo_rg (B := B) (u := u1)
    rw [show (c17 = 0) = (u1.2.2.2 = 0) from by rw [h17]; exact zi_eq (b := 0) (by rw [q1]; decide) (by decide)]
    refine ⟨fun z => absurd q1 z, fun _ => ?_⟩
    by_cases s0 : zSo B u1 = 0
    · have ev : v = -1000000 := hv0 (fun z => z.2 s0)
      have ea : aSo t B u1 = aBl 1 u1 := if_pos s0
      have eM : aM t B n u1 = aBl 1 u1 := by
        have hq1 : ¬ (aBl 1 u1).2.2.2 = 0 := aBl_q (by decide)
        unfold aM
        rw [ea, aNu_s hq1, aNu_s hq1, aNu_s hq1, aEn_s hq1]
      have hq1 : ¬ (aBl 1 u1).2.2.2 = 0 := aBl_q (by decide)
      rw [ev]
      refine ⟨fun _ => m_must0 T V1 h1 (fun c13 c14 c15 c16 c17 c18 h2 => ?_), fun z => absurd rfl z⟩
      refine tail (aBl 1 u1) _ _ _ _ _ _ _ (V1.bl (by decide)) h2 (fun d13 d14 d15 d16 d17 d18 s h3 _ _ => ?_) (fun z => ?_)
      · rw [aNu_s hq1, aNu_s hq1, aNu_s hq1, aEn_s hq1] at h3
        refine hn _ _ _ _ _ _ _ ⟨by rw [eM]; exact h3, fun z => ?_⟩
        rw [eM] at z
        exact absurd z hq1
      · rw [aNu_s hq1, aNu_s hq1, aNu_s hq1, aEn_s hq1] at z
        exact absurd z hq1
    · have ev : v = zSo B u1 := hv1 ⟨q1, s0⟩
      have ea : aSo t B u1 = aNx t B u1 := if_neg s0
      rw [ev]
      refine ⟨fun z => ?_, fun _ => m_must1 T V1 h1 (fun c13 c14 c15 c16 c17 c18 h2 => ?_)⟩
      · rw [show (-1000000 : Int32) = zi (-1000000) from rfl, zi_eq (by omega) (by decide)] at z
        omega
      · rw [← ea] at h2
        exact tail (aSo t B u1) _ _ _ _ _ _ _ (V1.so T) h2 (fun d13 d14 d15 d16 d17 d18 s h3 hs _ => hn _ _ _ _ _ _ _ ⟨h3, fun z => hs z (by omega)⟩) (fun _ => by omega)
  · refine m_bad V R (by decide) zq3 (fun c17 c18 h1 => ?_)
    have V1 := V.bl (n := 3) (by decide)
    have hq1 : ¬ (aBl 3 u).2.2.2 = 0 := aBl_q (by decide)
    have h5 := h5 c
    generalize aBl 3 u = u1 at *
    refine m_must1 T V1 h1 (fun c13 c14 c15 c16 c17 c18 h2 => ?_)
    rw [aNx_1 hq1] at h2
    refine m_name T V1 h2 (m_kindBy V1 (fun v hv1 hv0 => ?_))
    have h17 := h2.2.2.2.2.1
    have q4 := V1.2.2.1
    rw [show (c17 = 0) = (u1.2.2.2 = 0) from by rw [h17]; exact zi_eq (b := 0) (by omega) (by decide)]
    refine ⟨fun _ => ?_, fun z => absurd z hq1⟩
    refine tail u1 _ _ _ _ _ _ _ V1 h2 (fun d13 d14 d15 d16 d17 d18 s h3 _ hs => ?_) (fun z => ?_)
    · rw [aNu_s hq1, aNu_s hq1, aNu_s hq1, aEn_s hq1] at h3 hs
      rw [hs hq1]
      exact h5 _ _ _ _ _ _ h3
    · rw [aNu_s hq1, aNu_s hq1, aNu_s hq1, aEn_s hq1] at z
      exact absurd z hq1
