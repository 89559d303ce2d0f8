theorem pub_carry {X M : Nat → Nat → Int32} (hR : nz_Rel X M) (v1 : Int32) (v2 : Int32) (v3 : Int32) : wp_X7_carry X v1 v2 v3 (fun r X1 => wp_X8_carry M v1 v2 v3 (fun r1 M1 => r = r1 ∧ nz_Rel X1 M1)) := by
  have hR0 := hR
  obtain ⟨hRD, hRW, hTP, hTR, hla, hst⟩ := hR
  obtain ⟨f, g0, g1, W, k, hM, hok, hX, hI0, hI1, hW, hac, hk, hk8⟩ := hRD
  have hok0 := hok
  obtain ⟨ol, of', os, ofi, ons, onm, onn, ont, oz, oten, ost, oso, omv, otm⟩ := hok
  have hX0 := hX
  obtain ⟨x0, x1, x2, x3, x4, x5, x6, x7, x8, xs, xa, xh, xk, xw, xy, xr, xt⟩ := hX
  have xs : zA (f 4) (X 17) (zsay f) := xs
  have xa : zA (f 4) (X 18) (zat f) := xa
  have xh : zA (f 4) (X 19) (zho f) := xh
  have xk : zA (f 5) (X 20) (zkd f) := xk
  have xw : zA (f 5) (X 21) (zwh f) := xw
  have xy : zA (f 5) (X 22) (zwy f) := xy
  have xr : zA (f 5) (X 23) (zre f) := xr
  have xt : zA (4 * f 7) (X 24) (ztm f) := xt
  have m0 : M 4 0 = zi (f 0) := zM4 hM (by decide)
  have m1 : M 4 1 = zi (f 1) := zM4 hM (by decide)
  have m2 : M 4 2 = zi (f 2) := zM4 hM (by decide)
  have m3 : M 4 3 = zi (f 3) := zM4 hM (by decide)
  have m4 : M 4 4 = zi (f 4) := zM4 hM (by decide)
  have m5 : M 4 5 = zi (f 5) := zM4 hM (by decide)
  have m6 : M 4 6 = zi (f 6) := zM4 hM (by decide)
  have m7 : M 4 7 = zi (f 7) := zM4 hM (by decide)
  obtain ⟨a, ra, rfl⟩ := zi_ex v1
  obtain ⟨b, rb, rfl⟩ := zi_ex v2
  obtain ⟨w, rw', rfl⟩ := zi_ex v3
  have nb : ¬ (0 ≤ a ∧ a < f 4 ∧ 0 ≤ b ∧ b < f 4) → wp_X8_carry M (zi a) (zi b) (zi w) (fun r1 M1 => (-1000001 : Int32) = r1 ∧ nz_Rel X M1) := by
    intro h
    unfold wp_X8_carry
    refine s8_isStone m4 (by omega) ra (fun c1 => by1' (s8_isStone m4 (by omega) rb (fun c2 => absurd ⟨c1.1, c1.2, c2.1, c2.2⟩ h) (fun c2 => by0' ⟨rfl, hR0.th⟩))) (fun c1 => by0' ⟨rfl, hR0.th⟩)
  unfold wp_X7_carry wX_X5_isStone_16 wX_X7_isAmong
  refine s5_isStone x6 (by omega) ra (fun c1 => by1' (s5_isStone x6 (by omega) rb (fun c2 => by1' ?_) (fun c2 => by0' (nb (by omega))))) (fun c1 => by0' (nb (by omega)))
  have sa := ost a (by omega)
  have sb := ost b (by omega)
  refine s_among (a := w) (l := 0) (u := 1) rfl rfl rfl (by omega) (fun c3 => by1 ⟨fun q => ⟨zi_in (by omega), zi_in (by omega), ?_⟩, fun q => ⟨zi_in (by omega), zi_in (by omega), ?_⟩⟩) (fun c3 => by0 ?_)
  · rw [zq0, zi_eq (by omega) (by decide)] at q
    rw [xa.at (by omega), xa.at (by omega), x_abs (by omega) (by omega)]
    rintro _ rfl
    unfold wp_X8_carry
    refine s8_isStone m4 (by omega) ra (fun _ => by1' (s8_isStone m4 (by omega) rb (fun _ => by1' ?_) (fun c => absurd c2 c))) (fun c => absurd c1 c)
    refine s_in (a := w) (l := 0) (u := 1) (z64 (by omega)) rfl rfl (fun _ => by1 ⟨fun _ => m_at hM (by omega) (m_at hM (by omega) (s8_apart (by omega) (by omega) ⟨rfl, hR0.th⟩)), fun z => ?_⟩) (fun c => absurd c3 c)
    rw [zq0, zi_eq (by omega) (by decide)] at z
    exact absurd z q
  · rw [zq0, zi_eq (by omega) (by decide)] at q
    rw [xs.at (by omega), xs.at (by omega), x_abs (by omega) (by omega), x2]
    rintro _ rfl
    unfold wp_X8_carry
    refine s8_isStone m4 (by omega) ra (fun _ => by1' (s8_isStone m4 (by omega) rb (fun _ => by1' ?_) (fun c => absurd c2 c))) (fun c => absurd c1 c)
    refine s_in (a := w) (l := 0) (u := 1) (z64 (by omega)) rfl rfl (fun _ => by1 ⟨fun z => ?_, fun _ => m_sy hM (by omega) (m_sy hM (by omega) (s8_apart (by omega) (by omega) ⟨by rw [m1], hR0.th⟩))⟩) (fun c => absurd c3 c)
    rw [zq0, zi_eq (by omega) (by decide)] at z
    exact absurd q z
  · unfold wp_X8_carry
    refine s8_isStone m4 (by omega) ra (fun _ => by1' (s8_isStone m4 (by omega) rb (fun _ => by1' ?_) (fun c => absurd c2 c))) (fun c => absurd c1 c)
    exact s_in (a := w) (l := 0) (u := 1) (z64 (by omega)) rfl rfl (fun c => absurd c c3) (fun _ => by0 ⟨rfl, hR0.th⟩)
theorem z_isOne : ∀ k, k < 6 → ∀ j, j < 6 → 1 ≤ k → ((((nz_are.getD (zi (k : Nat)).toNatClampNeg 0) >>> (zi (j : Nat) &&& 31)) &&& 1) == 0) = !(j == 0 || k == j || j == 1 && decide (k < 4) || j == 4 && k == 5) := by decide +kernel
theorem x_isOne {k j : Int} {K : Int32 → Prop} (hk : 1 ≤ k ∧ k ≤ 5) (hj : 0 ≤ j ∧ j ≤ 5) (h1 : (j = 0 ∨ k = j ∨ (j = 1 ∧ k < 4) ∨ (j = 4 ∧ k = 5)) → K 1) (h0 : ¬ (j = 0 ∨ k = j ∨ (j = 1 ∧ k < 4) ∨ (j = 4 ∧ k = 5)) → K 0) : wp_X1_isOne (zi k) (zi j) K := by
  obtain ⟨k, rfl⟩ := Int.eq_ofNat_of_zero_le (show 0 ≤ k by omega)
  obtain ⟨j, rfl⟩ := Int.eq_ofNat_of_zero_le (show 0 ≤ j by omega)
  have key := z_isOne k (by omega) j (by omega) (by omega)
  unfold wp_X1_isOne
  refine s_among (a := k) (l := 0) (u := 5) rfl rfl rfl (by omega) (fun c => by1' (s_among (a := j) (l := 0) (u := 5) rfl rfl rfl (by omega) (fun c2 => by1' ⟨zi_in (by omega), fun z => h0 ?_, fun z => h1 ?_⟩) (fun c2 => by omega))) (fun c => by omega)
  · rw [beq_iff_eq.mpr z] at key
    simp at key
    omega
  · rw [beq_eq_false_iff_ne.mpr z] at key
    simp at key
    omega
theorem m_isOf {k j : Int} {K : Int32 → Prop} (hk : 1 ≤ k ∧ k ≤ 5) (hj : 0 ≤ j ∧ j ≤ 5) (h1 : (j = 0 ∨ k = j ∨ (j = 1 ∧ k < 4) ∨ (j = 4 ∧ k = 5)) → K 1) (h0 : ¬ (j = 0 ∨ k = j ∨ (j = 1 ∧ k < 4) ∨ (j = 4 ∧ k = 5)) → K 0) : wp_X8_isOf (zi k) (zi j) K := by
  unfold wp_X8_isOf
  rw [zq0, zi_eq (by omega) (by decide), zi_eq (by omega) (by omega), zq1, zi_eq (by omega) (by decide), zq4, zi_eq (by omega) (by decide), zi_lt (by omega) (by decide), zq5, zi_eq (by omega) (by decide)]
  refine ⟨fun c => h1 (by omega), fun c => ⟨fun d => h1 (by omega), fun d => ⟨fun e => ⟨fun g => h0 (by omega), fun g => ⟨fun i => h0 (by omega), fun i => h1 (by omega)⟩⟩, fun e => ⟨fun g => h1 (by omega), fun g => ⟨fun i => h0 (by omega), fun i => ⟨fun l => h0 (by omega), fun l => h1 (by omega)⟩⟩⟩⟩⟩⟩
theorem nz_Rel.st1 {X M : Nat → Nat → Int32} (h : nz_Rel X M) (a b c : Int32) (e : a = c) : nz_Rel (va_up X 0 (upd (X 0) 9 a)) (va_up M 0 (upd (upd (M 0) 0 b) 1 c)) :=
  h.st (fun i hi => zup1 (by omega)) rfl (fun i hi => zup1 (by omega)) rfl rfl rfl rfl (by show a = c; exact e)
theorem pub_as {X M : Nat → Nat → Int32} (hR : nz_Rel X M) (v1 : Int32) (v2 : Int32) : wp_X7_as X v1 v2 (fun r X1 => wp_X8_as M v1 v2 (fun r1 M1 => r = r1 ∧ nz_Rel X1 M1)) := by
  have hR0 := hR
  obtain ⟨hRD, hRW, hTP, hTR, hla, hst⟩ := hR
  obtain ⟨f, g0, g1, W, k, hM, hok, hX, hI0, hI1, hW, hac, hk, hk8⟩ := hRD
  have hok0 := hok
  obtain ⟨ol, of', os, ofi, ons, onm, onn, ont, oz, oten, ost, oso, omv, otm⟩ := hok
  have hX0 := hX
  obtain ⟨x0, x1, x2, x3, x4, x5, x6, x7, x8, xs, xa, xh, xk, xw, xy, xr, xt⟩ := hX
  have xs : zA (f 4) (X 17) (zsay f) := xs
  have xa : zA (f 4) (X 18) (zat f) := xa
  have xh : zA (f 4) (X 19) (zho f) := xh
  have xk : zA (f 5) (X 20) (zkd f) := xk
  have xw : zA (f 5) (X 21) (zwh f) := xw
  have xy : zA (f 5) (X 22) (zwy f) := xy
  have xr : zA (f 5) (X 23) (zre f) := xr
  have xt : zA (4 * f 7) (X 24) (ztm f) := xt
  have m0 : M 4 0 = zi (f 0) := zM4 hM (by decide)
  have m1 : M 4 1 = zi (f 1) := zM4 hM (by decide)
  have m2 : M 4 2 = zi (f 2) := zM4 hM (by decide)
  have m3 : M 4 3 = zi (f 3) := zM4 hM (by decide)
  have m4 : M 4 4 = zi (f 4) := zM4 hM (by decide)
  have m5 : M 4 5 = zi (f 5) := zM4 hM (by decide)
  have m6 : M 4 6 = zi (f 6) := zM4 hM (by decide)
  have m7 : M 4 7 = zi (f 7) := zM4 hM (by decide)
  obtain ⟨a, ra, rfl⟩ := zi_ex v1
  obtain ⟨j, rj, rfl⟩ := zi_ex v2
  unfold wp_X7_as wX_X5_isMover_16 wX_X7_isAmong wX_X1_isOne wX_X7_found_0 wX_X7_well_0 wp_X7_found wp_X7_well
  refine s5_isMover x7 (by omega) ra (fun c1 => by1' ?_) (fun c1 => by0' ?_)
  · have ka := omv a (by omega)
    refine s_among (a := j) (l := 0) (u := 5) rfl rfl rfl (by omega) (fun c2 => by1 ⟨zi_in (by omega), ?_⟩) (fun c2 => by0 ?_)
    · rw [xk.at (by omega)]
      have M8 : ∀ (K : Int32 → (Nat → Nat → Int32) → Prop), ((j = 0 ∨ zkd f a = j ∨ (j = 1 ∧ zkd f a < 4) ∨ (j = 4 ∧ zkd f a = 5)) → K (zi a) (va_up M 0 (upd (upd (M 0) 0 0) 1 0))) → (¬ (j = 0 ∨ zkd f a = j ∨ (j = 1 ∧ zkd f a < 4) ∨ (j = 4 ∧ zkd f a = 5)) → K ((-1000010 : Int32) - 3) (va_up M 0 (upd (upd (M 0) 0 0) 1 3))) → wp_X8_as M (zi a) (zi j) K := by
        intro K k1 k0
        unfold wp_X8_as wp_X8_finding
        refine s8_isMover m5 (by omega) ra (fun _ => by1' ?_) (fun c => absurd c1 c)
        refine s_in (a := j) (l := 0) (u := 5) (z64 (by omega)) rfl rfl (fun _ => by1 (m_kd hM (by omega) (m_isOf ka.1 c2 (fun z => by1' (k1 z)) (fun z => by0' (k0 z))))) (fun c => absurd c2 c)
      refine x_isOne ka.1 c2 (fun z => by1' (M8 _ (fun _ => ⟨rfl, hR0.st1 _ _ _ rfl⟩) (fun w => absurd z w))) (fun z => by0' (M8 _ (fun w => absurd w z) (fun _ => ⟨rfl, hR0.st1 _ _ _ rfl⟩)))
    · unfold wp_X8_as
      refine s8_isMover m5 (by omega) ra (fun _ => by1' ?_) (fun c => absurd c1 c)
      exact s_in (a := j) (l := 0) (u := 5) (z64 (by omega)) rfl rfl (fun c => absurd c c2) (fun _ => by0 ⟨rfl, hR0.th⟩)
  · unfold wp_X8_as
    exact s8_isMover m5 (by omega) ra (fun c => absurd c c1) (fun _ => by0' ⟨rfl, hR0.th⟩)
theorem pub_forget {X M : Nat → Nat → Int32} (hR : nz_Rel X M) : wp_X7_forget X (fun r X1 => wp_X8_forget M (fun r1 M1 => r = r1 ∧ nz_Rel X1 M1)) := by
  have hR0 := hR
  obtain ⟨hRD, hRW, hTP, hTR, hla, hst⟩ := hR
  obtain ⟨f, g0, g1, W, k, hM, hok, hX, hI0, hI1, hW, hac, hk, hk8⟩ := hRD
  have hok0 := hok
  obtain ⟨ol, of', os, ofi, ons, onm, onn, ont, oz, oten, ost, oso, omv, otm⟩ := hok
  have hX0 := hX
  obtain ⟨x0, x1, x2, x3, x4, x5, x6, x7, x8, xs, xa, xh, xk, xw, xy, xr, xt⟩ := hX
  have xs : zA (f 4) (X 17) (zsay f) := xs
  have xa : zA (f 4) (X 18) (zat f) := xa
  have xh : zA (f 4) (X 19) (zho f) := xh
  have xk : zA (f 5) (X 20) (zkd f) := xk
  have xw : zA (f 5) (X 21) (zwh f) := xw
  have xy : zA (f 5) (X 22) (zwy f) := xy
  have xr : zA (f 5) (X 23) (zre f) := xr
  have xt : zA (4 * f 7) (X 24) (ztm f) := xt
  have m0 : M 4 0 = zi (f 0) := zM4 hM (by decide)
  have m1 : M 4 1 = zi (f 1) := zM4 hM (by decide)
  have m2 : M 4 2 = zi (f 2) := zM4 hM (by decide)
  have m3 : M 4 3 = zi (f 3) := zM4 hM (by decide)
  have m4 : M 4 4 = zi (f 4) := zM4 hM (by decide)
  have m5 : M 4 5 = zi (f 5) := zM4 hM (by decide)
  have m6 : M 4 6 = zi (f 6) := zM4 hM (by decide)
  have m7 : M 4 7 = zi (f 7) := zM4 hM (by decide)
  unfold wp_X7_forget wp_X8_forget
  have e : zEq f (iup f 7 0) := fun i hi h7 => iup_ne h7
  refine ⟨by rw [x8, m7], ?_⟩
  refine hR0.now (f := iup f 7 0) (W := W) (k := k) ?_ (hok0.eq e (by rw [iup_eq]; decide) (fun _ => iup_eq _ _ _) (fun q hq => ?_)) ?_ hW (hac.eq e.pa.2.2.2.2.1 e.pa.1) hk hk8 (fun i hi => zup1 (by omega)) (fun i h1 h2 h3 h4 h5 h6 h7 => (zup1 (by omega)).trans (zup1 (by omega)))
  · exact hM.up (i := 7) (v := 0) (by decide)
  · rw [iup_eq] at hq
    exact absurd hq (by omega)
  · refine hX0.eq hok0 e (fun i hi => ?_) ?_ (fun i hi => zup1 (by omega)) ?_
    · show upd (X 16) 8 0 i = X 16 i
      exact if_neg (by omega)
    · rw [iup_eq]
      rfl
    · rw [iup_eq]
      exact fun a ha => absurd ha (by omega)
theorem s5_isPair {c : Int32} {a b n : Int} {K : Int32 → Prop} (e : c = zi n) (rn : 0 ≤ n ∧ n ≤ 6) (ra : -2147483648 ≤ a ∧ a ≤ 2147483647) (rb : -2147483648 ≤ b ∧ b ≤ 2147483647) (h1 : 0 ≤ a ∧ a < b ∧ b < n → K 1) (h0 : ¬ (0 ≤ a ∧ a < b ∧ b < n) → K 0) : wp_X5_isPair c (zi a) (zi b) K := by
  unfold wp_X5_isPair
  refine s5_isStone e rn ra (fun c1 => by1' (s5_isStone e rn rb (fun c2 => by1' ⟨fun c3 => h0 ?_, fun c3 => h1 ?_⟩) (fun c2 => by0' (h0 (by omega))))) (fun c1 => by0' (h0 (by omega)))
  · rw [zi_le rb ra] at c3
    omega
  · rw [zi_le rb ra] at c3
    omega
abbrev ztk (n a b v t : Int) : Prop := (0 ≤ a ∧ a < b ∧ b < n) ∧ (1 ≤ v ∧ v ≤ 20) ∧ (0 ≤ t ∧ t ≤ 99)
theorem s5_isTime {c : Int32} {a b v t n : Int} {K : Int32 → Prop} (e : c = zi n) (rn : 0 ≤ n ∧ n ≤ 6) (ra : -2147483648 ≤ a ∧ a ≤ 2147483647) (rb : -2147483648 ≤ b ∧ b ≤ 2147483647) (rv : -2147483648 ≤ v ∧ v ≤ 2147483647) (rt : -2147483648 ≤ t ∧ t ≤ 2147483647) (h1 : ztk n a b v t → K 1) (h0 : ¬ ztk n a b v t → K 0) : wp_X5_isTime c (zi a) (zi b) (zi v) (zi t) K := by
  unfold wp_X5_isTime
  exact s5_isPair e rn ra rb (fun c1 => by1' (s_among (a := v) (l := 1) (u := 20) rfl rfl rfl (by omega) (fun c2 => by1' (s_among (a := t) (l := 0) (u := 99) rfl rfl rfl (by omega) (fun c3 => by1' (h1 ⟨c1, c2, c3⟩)) (fun c3 => by0' (h0 (fun q => c3 q.2.2))))) (fun c2 => by0' (h0 (fun q => c2 q.2.1))))) (fun c1 => by0' (h0 (fun q => c1 q.1)))
theorem s8_isTime {c : Nat → Int32} {a b v t n : Int} {K : Int32 → Prop} (e : c 4 = zi n) (rn : 0 ≤ n ∧ n ≤ 6) (ra : -2147483648 ≤ a ∧ a ≤ 2147483647) (rb : -2147483648 ≤ b ∧ b ≤ 2147483647) (rv : -2147483648 ≤ v ∧ v ≤ 2147483647) (rt : -2147483648 ≤ t ∧ t ≤ 2147483647) (h1 : ztk n a b v t → K 1) (h0 : ¬ ztk n a b v t → K 0) : wp_X8_isTime c (zi a) (zi b) (zi v) (zi t) K := by
  unfold wp_X8_isTime
  refine s8_isStone e rn ra (fun c1 => by1' (s8_isStone e rn rb (fun c2 => by1' ⟨fun c3 => h0 ?_, fun c3 => ?_⟩) (fun c2 => by0' (h0 (by omega))))) (fun c1 => by0' (h0 (by omega)))
  · rw [zi_le rb ra] at c3
    omega
  · rw [zi_le rb ra] at c3
    refine s_in (a := v) (l := 1) (u := 20) (z64 rv) rfl rfl (fun c4 => by1' (s_in (a := t) (l := 0) (u := 99) (z64 rt) rfl rfl (fun c5 => by1' (h1 (by omega))) (fun c5 => by0' (h0 (by omega))))) (fun c4 => by0' (h0 (by omega)))
theorem x_hear {tm : Nat → Int32} {r8 : Int32} {f : Int → Int} {a b v t : Int} {K : Int32 → Int32 → (Nat → Int32) → Prop} (e : r8 = zi (f 7)) (rn : 0 ≤ f 7 ∧ f 7 < 12) (h : zA (4 * f 7) tm (ztm f)) (hK : ∀ s, zA (4 * (f 7 + 1)) s (ztm (zt1 f a b v t)) → K (zi (f 7 + 1)) (zi (f 7 + 1)) s) : wp_X5_hear r8 tm (zi a) (zi b) (zi v) (zi t) K := by
  unfold wp_X5_hear
  rw [e, zq4, zi_mul, zq1, zq2, zq3, zi_add, zi_add, zi_add, zi_add]
  refine ⟨zi_in (by omega), zi_in (by omega), zi_in (by omega), zi_in (by omega), hK _ (fun q hq => ?_)⟩
  rw [zi_cl (by omega), zi_cl (by omega), zi_cl (by omega), zi_cl (by omega), zt1_tm (by omega)]
  show (if q.toNat = (f 7 * 4 + 3).toNat then zi t else if q.toNat = (f 7 * 4 + 2).toNat then zi v else if q.toNat = (f 7 * 4 + 1).toNat then zi b else if q.toNat = (f 7 * 4).toNat then zi a else tm q.toNat) = _
  by_cases c1 : q = 4 * f 7 + 3
  · rw [if_pos (by omega), if_pos c1]
  rw [if_neg (by omega), if_neg c1]
  by_cases c2 : q = 4 * f 7 + 2
  · rw [if_pos (by omega), if_pos c2]
  rw [if_neg (by omega), if_neg c2]
  by_cases c3 : q = 4 * f 7 + 1
  · rw [if_pos (by omega), if_pos c3]
  rw [if_neg (by omega), if_neg c3]
  by_cases c4 : q = 4 * f 7
  · rw [if_pos (by omega), if_pos c4]
  rw [if_neg (by omega), if_neg c4]
  exact h q (by omega)
theorem m_addTime {c : Nat → Int32} {f : Int → Int} {a b v t : Int} {K : (Nat → Int32) → Prop} (rn : 0 ≤ f 7 ∧ f 7 < 12) (h : zA 94 c f) (hK : ∀ s, zA 94 s (zt1 f a b v t) → K s) : wp_X8_addTime c (zi a) (zi b) (zi v) (zi t) K := by
  unfold wp_X8_addTime
  have e7 : c 7 = zi (f 7) := zM4 h (by decide)
  rw [e7, zq46, zq4, zi_mul, zq1, zq2, zq3, zi_add, zi_add, zi_add, zi_add]
  refine ⟨zi_in (by omega), zi_in (by omega), zi_in (by omega), zi_in (by omega), hK _ ?_⟩
  have h1 := ((((h.up (i := 46 + 4 * f 7) (v := a) (by omega)).up (i := 46 + 4 * f 7 + 1) (v := b) (by omega)).up (i := 46 + 4 * f 7 + 2) (v := v) (by omega)).up (i := 46 + 4 * f 7 + 3) (v := t) (by omega))
  have e : (upd (upd (upd (upd c (zi (46 + 4 * f 7)).toNatClampNeg (zi a)) (zi (46 + 4 * f 7 + 1)).toNatClampNeg (zi b)) (zi (46 + 4 * f 7 + 2)).toNatClampNeg (zi v)) (zi (46 + 4 * f 7 + 3)).toNatClampNeg (zi t) 7) = zi (f 7) := by
    have := zM4 h1 (i := 7) (by decide)
    rw [this]
    congr 1
    show iup _ _ _ 7 = _
    rw [iup_ne (by omega), iup_ne (by omega), iup_ne (by omega), iup_ne (by omega)]
  rw [e, zi_add]
  exact h1.up (i := 7) (v := f 7 + 1) (by decide)
theorem pub_time {X M : Nat → Nat → Int32} (hR : nz_Rel X M) (v1 : Int32) (v2 : Int32) (v3 : Int32) (v4 : Int32) : wp_X7_time X v1 v2 v3 v4 (fun r X1 => wp_X8_time M v1 v2 v3 v4 (fun r1 M1 => r = r1 ∧ nz_Rel X1 M1)) := by
  have hR0 := hR
  obtain ⟨hRD, hRW, hTP, hTR, hla, hst⟩ := hR
  obtain ⟨f, g0, g1, W, k, hM, hok, hX, hI0, hI1, hW, hac, hk, hk8⟩ := hRD
  have hok0 := hok
  obtain ⟨ol, of', os, ofi, ons, onm, onn, ont, oz, oten, ost, oso, omv, otm⟩ := hok
  have hX0 := hX
  obtain ⟨x0, x1, x2, x3, x4, x5, x6, x7, x8, xs, xa, xh, xk, xw, xy, xr, xt⟩ := hX
  have xs : zA (f 4) (X 17) (zsay f) := xs
  have xa : zA (f 4) (X 18) (zat f) := xa
  have xh : zA (f 4) (X 19) (zho f) := xh
  have xk : zA (f 5) (X 20) (zkd f) := xk
  have xw : zA (f 5) (X 21) (zwh f) := xw
  have xy : zA (f 5) (X 22) (zwy f) := xy
  have xr : zA (f 5) (X 23) (zre f) := xr
  have xt : zA (4 * f 7) (X 24) (ztm f) := xt
  have m0 : M 4 0 = zi (f 0) := zM4 hM (by decide)
  have m1 : M 4 1 = zi (f 1) := zM4 hM (by decide)
  have m2 : M 4 2 = zi (f 2) := zM4 hM (by decide)
  have m3 : M 4 3 = zi (f 3) := zM4 hM (by decide)
  have m4 : M 4 4 = zi (f 4) := zM4 hM (by decide)
  have m5 : M 4 5 = zi (f 5) := zM4 hM (by decide)
  have m6 : M 4 6 = zi (f 6) := zM4 hM (by decide)
  have m7 : M 4 7 = zi (f 7) := zM4 hM (by decide)
  obtain ⟨a, ra, rfl⟩ := zi_ex v1
  obtain ⟨b, rb, rfl⟩ := zi_ex v2
  obtain ⟨v, rv, rfl⟩ := zi_ex v3
  obtain ⟨t, rt, rfl⟩ := zi_ex v4
  unfold wp_X7_time wX_X5_isTime_16 wX_X5_hasRoomForTimes_16 wX_X5_hear_16 wp_X5_hasRoomForTimes
  have M8 : ∀ (K : Int32 → (Nat → Nat → Int32) → Prop), (ztk (f 4) a b v t → f 7 < 12 → ∀ s, zA 94 s (zt1 f a b v t) → K (zi (f 7 + 1)) (va_up (va_up M 0 (upd (M 0) 0 0)) 4 s)) → (ztk (f 4) a b v t → f 7 = 12 → K (-1000003 : Int32) (va_up M 0 (upd (M 0) 0 0))) → (¬ ztk (f 4) a b v t → K (-1000001 : Int32) (va_up M 0 (upd (M 0) 0 0))) → wp_X8_time M (zi a) (zi b) (zi v) (zi t) K := by
    intro K k1 k2 k3
    unfold wp_X8_time
    refine s8_isTime m4 (by omega) ra rb rv rt (fun c => by1 ?_) (fun c => by0 (k3 c))
    rw [m7, zq12, zi_eq (by omega) (by decide)]
    refine ⟨fun d => m_addTime (by omega) hM (fun s hs => ?_), fun d => k2 c d⟩
    have e : s 7 = zi (f 7 + 1) := (zM4 hs (i := 7) (by decide)).trans (by rw [show ((7 : Nat) : Int) = 7 from rfl, zt1_7])
    rw [e]
    exact k1 c (by omega) s hs
  refine s5_isTime x6 (by omega) ra rb rv rt (fun c => by1 ?_) (fun c => by0 (M8 _ (fun d => absurd d c) (fun d => absurd d c) (fun _ => ⟨rfl, hR0.th⟩)))
  rw [x8, zq1, zi_add, zq12, zi_lt (by decide) (by omega)]
  refine ⟨fun d => by0 (M8 _ (fun _ e => absurd e (by omega)) (fun _ _ => ⟨rfl, hR0.th⟩) (fun e => absurd c e)), fun d => by1 ?_⟩
  refine x_hear (f := f) rfl (by omega) xt (fun s hs => M8 _ (fun _ _ s8 hs8 => ⟨rfl, ?_⟩) (fun _ e => absurd e (by omega)) (fun e => absurd c e))
  have e : zEq f (zt1 f a b v t) := zt1_eq (by omega)
  refine hR0.now (f := zt1 f a b v t) (W := W) (k := k) hs8 (zt1_ok hok0 (by omega) c) ?_ hW (hac.eq e.pa.2.2.2.2.1 e.pa.1) hk hk8 (fun i hi => (zup1 (by omega)).trans (zup1 (by omega))) (fun i h1 h2 h3 h4 h5 h6 h7 => (zup1 (by omega)).trans (zup1 (by omega)))
  refine hX0.eq hok0 e (fun i hi => ?_) ?_ (fun i hi => (zup1 (by omega)).trans (zup1 (by omega))) ?_
  · show upd (X 16) 8 _ i = X 16 i
    exact if_neg (by omega)
  · rw [zt1_7]
    rfl
  · rw [zt1_7]
    exact hs
