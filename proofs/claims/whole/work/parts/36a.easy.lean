theorem pub_fault {X M : Nat → Nat → Int32} (hR : nz_Rel X M) : wp_X7_fault X (fun r X1 => wp_X8_fault M (fun r1 M1 => r = r1 ∧ nz_Rel X1 M1)) := by
  exact ⟨hR.2.2.2.2.1, hR.th⟩
theorem pub_status {X M : Nat → Nat → Int32} (hR : nz_Rel X M) : wp_X7_status X (fun r X1 => wp_X8_status M (fun r1 M1 => r = r1 ∧ nz_Rel X1 M1)) := by
  exact ⟨hR.2.2.2.2.2, hR.th⟩
theorem pub_kind {X M : Nat → Nat → Int32} (hR : nz_Rel X M) (v1 : Int32) : wp_X7_kind X v1 (fun r X1 => wp_X8_kind M v1 (fun r1 M1 => r = r1 ∧ nz_Rel X1 M1)) := by
  have hR0 := hR
  obtain ⟨hRD, hRW, hTP, hTR, hla, hst⟩ := hR
  obtain ⟨f, g0, g1, W, k, hM, hok, hX, hI0, hI1, hW, hac, hk, hk8⟩ := hRD
  have hok0 := hok
  obtain ⟨ol, of', os, ofi, ons, onm, onn, ont, oz, oten, ost, oso, omv, otm⟩ := hok
  have hX0 := hX
  obtain ⟨x0, x1, x2, x3, x4, x5, x6, x7, x8, xs, xa, xh, xk, xw, xy, xr, xt⟩ := hX
  have xs : zA (f 4) (X 17) (zsay f) := xs
  have xa : zA (f 4) (X 18) (zat f) := xa
  have xh : zA (f 4) (X 19) (zho f) := xh
  have xk : zA (f 5) (X 20) (zkd f) := xk
  have xw : zA (f 5) (X 21) (zwh f) := xw
  have xy : zA (f 5) (X 22) (zwy f) := xy
  have xr : zA (f 5) (X 23) (zre f) := xr
  have xt : zA (4 * f 7) (X 24) (ztm f) := xt
  have m0 : M 4 0 = zi (f 0) := zM4 hM (by decide)
  have m1 : M 4 1 = zi (f 1) := zM4 hM (by decide)
  have m2 : M 4 2 = zi (f 2) := zM4 hM (by decide)
  have m3 : M 4 3 = zi (f 3) := zM4 hM (by decide)
  have m4 : M 4 4 = zi (f 4) := zM4 hM (by decide)
  have m5 : M 4 5 = zi (f 5) := zM4 hM (by decide)
  have m6 : M 4 6 = zi (f 6) := zM4 hM (by decide)
  have m7 : M 4 7 = zi (f 7) := zM4 hM (by decide)
  obtain ⟨a, ra, rfl⟩ := zi_ex v1
  unfold wp_X7_kind wp_X8_kind
  refine s5_isMover x7 (by omega) ra (fun c => by1' ?_) (fun c => by0' ?_)
  · refine ⟨zi_in (by omega), ?_⟩
    refine s8_isMover m5 (by omega) ra (fun c8 => by1' ?_) (fun c8 => absurd c c8)
    refine s8_of (w := 0) hM (by omega) (by decide) ⟨?_, hR0.th⟩
    rw [xk.at (by omega)]
    congr 1
    unfold zkd
    congr 1
    omega
  · refine s8_isMover m5 (by omega) ra (fun c8 => absurd c8 c) (fun c8 => by0' ⟨rfl, hR0.th⟩)
theorem pub_stone {X M : Nat → Nat → Int32} (hR : nz_Rel X M) (v1 : Int32) (v2 : Int32) : wp_X7_stone X v1 v2 (fun r X1 => wp_X8_stone M v1 v2 (fun r1 M1 => r = r1 ∧ nz_Rel X1 M1)) := by
  have hR0 := hR
  obtain ⟨hRD, hRW, hTP, hTR, hla, hst⟩ := hR
  obtain ⟨f, g0, g1, W, k, hM, hok, hX, hI0, hI1, hW, hac, hk, hk8⟩ := hRD
  have hok0 := hok
  obtain ⟨ol, of', os, ofi, ons, onm, onn, ont, oz, oten, ost, oso, omv, otm⟩ := hok
  have hX0 := hX
  obtain ⟨x0, x1, x2, x3, x4, x5, x6, x7, x8, xs, xa, xh, xk, xw, xy, xr, xt⟩ := hX
  have xs : zA (f 4) (X 17) (zsay f) := xs
  have xa : zA (f 4) (X 18) (zat f) := xa
  have xh : zA (f 4) (X 19) (zho f) := xh
  have xk : zA (f 5) (X 20) (zkd f) := xk
  have xw : zA (f 5) (X 21) (zwh f) := xw
  have xy : zA (f 5) (X 22) (zwy f) := xy
  have xr : zA (f 5) (X 23) (zre f) := xr
  have xt : zA (4 * f 7) (X 24) (ztm f) := xt
  have m0 : M 4 0 = zi (f 0) := zM4 hM (by decide)
  have m1 : M 4 1 = zi (f 1) := zM4 hM (by decide)
  have m2 : M 4 2 = zi (f 2) := zM4 hM (by decide)
  have m3 : M 4 3 = zi (f 3) := zM4 hM (by decide)
  have m4 : M 4 4 = zi (f 4) := zM4 hM (by decide)
  have m5 : M 4 5 = zi (f 5) := zM4 hM (by decide)
  have m6 : M 4 6 = zi (f 6) := zM4 hM (by decide)
  have m7 : M 4 7 = zi (f 7) := zM4 hM (by decide)
  obtain ⟨a, ra, rfl⟩ := zi_ex v1
  obtain ⟨w, rw', rfl⟩ := zi_ex v2
  unfold wp_X7_stone
  refine s5_isStone x6 (by omega) ra (fun c => by1 ?_) (fun c => by0 ?_)
  · have run : ∀ (w : Int) (z : Int32), 0 ≤ w ∧ w ≤ 2 → z = zi (f (8 + 3 * a + w)) → wp_X8_stone M (zi a) (zi w) (fun r1 M1 => z = r1 ∧ nz_Rel X M1) := by
      intro w z hw hz
      unfold wp_X8_stone
      refine s8_isStone m4 (by omega) ra (fun c8 => by1' ?_) (fun c8 => absurd c c8)
      refine s_in (a := w) (l := 0) (u := 2) (z64 (by omega)) rfl rfl (fun c9 => by1' ?_) (fun c9 => absurd hw c9)
      exact s8_stoneOf hM (by omega) hw ⟨hz, hR0.th⟩
    refine ⟨fun q => ⟨zi_in (by omega), ?_⟩, fun n0 => ⟨fun q => ⟨zi_in (by omega), ?_⟩, fun n1 => ⟨fun q => ⟨zi_in (by omega), ?_⟩, fun n2 => ?_⟩⟩⟩
    · obtain rfl := ziq (b := 0) rw' (by decide) q
      refine run 0 _ (by decide) ?_
      rw [xs.at (by omega)]
      unfold zsay
      congr 2
      omega
    · obtain rfl := ziq (b := 1) rw' (by decide) q
      refine run 1 _ (by decide) ?_
      rw [xa.at (by omega)]
      unfold zat
      congr 2
      omega
    · obtain rfl := ziq (b := 2) rw' (by decide) q
      refine run 2 _ (by decide) ?_
      rw [xh.at (by omega)]
      unfold zho
      congr 2
      omega
    · have n0 := zin (b := 0) n0
      have n1 := zin (b := 1) n1
      have n2 := zin (b := 2) n2
      unfold wp_X8_stone
      refine s8_isStone m4 (by omega) ra (fun c8 => by1' ?_) (fun c8 => absurd c c8)
      refine s_in (a := w) (l := 0) (u := 2) (z64 (by omega)) rfl rfl (fun c9 => by omega) (fun c9 => by0' ⟨rfl, hR0.th⟩)
  · unfold wp_X8_stone
    refine s8_isStone m4 (by omega) ra (fun c8 => absurd c8 c) (fun c8 => by0' ⟨rfl, hR0.th⟩)
theorem pub_trace {X M : Nat → Nat → Int32} (hR : nz_Rel X M) (v1 : Int32) : wp_X7_trace X v1 (fun r X1 => wp_X8_trace M v1 (fun r1 M1 => r = r1 ∧ nz_Rel X1 M1)) := by
  have hR0 := hR
  obtain ⟨hRD, hRW, hTP, hTR, hla, hst⟩ := hR
  obtain ⟨f, g0, g1, W, k, hM, hok, hX, hI0, hI1, hW, hac, hk, hk8⟩ := hRD
  have hok0 := hok
  obtain ⟨ol, of', os, ofi, ons, onm, onn, ont, oz, oten, ost, oso, omv, otm⟩ := hok
  have hX0 := hX
  obtain ⟨x0, x1, x2, x3, x4, x5, x6, x7, x8, xs, xa, xh, xk, xw, xy, xr, xt⟩ := hX
  have xs : zA (f 4) (X 17) (zsay f) := xs
  have xa : zA (f 4) (X 18) (zat f) := xa
  have xh : zA (f 4) (X 19) (zho f) := xh
  have xk : zA (f 5) (X 20) (zkd f) := xk
  have xw : zA (f 5) (X 21) (zwh f) := xw
  have xy : zA (f 5) (X 22) (zwy f) := xy
  have xr : zA (f 5) (X 23) (zre f) := xr
  have xt : zA (4 * f 7) (X 24) (ztm f) := xt
  have m0 : M 4 0 = zi (f 0) := zM4 hM (by decide)
  have m1 : M 4 1 = zi (f 1) := zM4 hM (by decide)
  have m2 : M 4 2 = zi (f 2) := zM4 hM (by decide)
  have m3 : M 4 3 = zi (f 3) := zM4 hM (by decide)
  have m4 : M 4 4 = zi (f 4) := zM4 hM (by decide)
  have m5 : M 4 5 = zi (f 5) := zM4 hM (by decide)
  have m6 : M 4 6 = zi (f 6) := zM4 hM (by decide)
  have m7 : M 4 7 = zi (f 7) := zM4 hM (by decide)
  obtain ⟨a, ra, rfl⟩ := zi_ex v1
  obtain ⟨q, B, rq, e1, e2, b1, b2⟩ := hTR
  unfold wp_X7_trace wp_X8_trace wX_X1_begun_52 wp_X1_begun
  refine s_among (a := a) (l := 0) (u := q - 1) rfl rfl (zm1 e1) (by omega) (fun c => by1' ⟨zi_in (by omega), ?_⟩) (fun c => by0' ?_)
  · refine s_in (a := a) (l := 0) (u := q - 1) (z64 ra) rfl (by rw [zm1 e2]; exact z64 (by omega)) (fun c8 => by1' ⟨zi_in (by omega), ?_, hR0.th⟩) (fun c8 => absurd c c8)
    rw [b1.at (by omega), b2.at (by omega)]
  · refine s_in (a := a) (l := 0) (u := q - 1) (z64 ra) rfl (by rw [zm1 e2]; exact z64 (by omega)) (fun c8 => absurd c8 c) (fun c8 => by0' ⟨rfl, hR0.th⟩)
