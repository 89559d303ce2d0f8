def zpr (L : Int → Int) : Nat → Int
  | 0 => 0
  | n + 1 => zpr L n + (if L n < 0 then 0 else 1)
theorem pub_count {X M : Nat → Nat → Int32} (hR : nz_Rel X M) (v1 : Int32) : wp_X7_count X v1 (fun r X1 => wp_X8_count M v1 (fun r1 M1 => r = r1 ∧ nz_Rel X1 M1)) := by
  have hR0 := hR
  obtain ⟨hRD, hRW, hTP, hTR, hla, hst⟩ := hR
  obtain ⟨f, g0, g1, W, k, hM, hok, hX, hI0, hI1, hW, hac, hk, hk8⟩ := hRD
  have hok0 := hok
  obtain ⟨ol, of', os, ofi, ons, onm, onn, ont, oz, oten, ost, oso, omv, otm⟩ := hok
  have hX0 := hX
  obtain ⟨x0, x1, x2, x3, x4, x5, x6, x7, x8, xs, xa, xh, xk, xw, xy, xr, xt⟩ := hX
  have xs : zA (f 4) (X 17) (zsay f) := xs
  have xa : zA (f 4) (X 18) (zat f) := xa
  have xh : zA (f 4) (X 19) (zho f) := xh
  have xk : zA (f 5) (X 20) (zkd f) := xk
  have xw : zA (f 5) (X 21) (zwh f) := xw
  have xy : zA (f 5) (X 22) (zwy f) := xy
  have xr : zA (f 5) (X 23) (zre f) := xr
  have xt : zA (4 * f 7) (X 24) (ztm f) := xt
  have m0 : M 4 0 = zi (f 0) := zM4 hM (by decide)
  have m1 : M 4 1 = zi (f 1) := zM4 hM (by decide)
  have m2 : M 4 2 = zi (f 2) := zM4 hM (by decide)
  have m3 : M 4 3 = zi (f 3) := zM4 hM (by decide)
  have m4 : M 4 4 = zi (f 4) := zM4 hM (by decide)
  have m5 : M 4 5 = zi (f 5) := zM4 hM (by decide)
  have m6 : M 4 6 = zi (f 6) := zM4 hM (by decide)
  have m7 : M 4 7 = zi (f 7) := zM4 hM (by decide)
  obtain ⟨w, rw', rfl⟩ := zi_ex v1
  obtain ⟨L, N, T, w1, w2, w3, w4, w5, w6, w7, w8⟩ := hRW
  obtain ⟨t, B, tr, t1, t2, -, -, -⟩ := hTP
  unfold wp_X7_count wp_X8_count wX_X6_present_1_54 wp_X6_present
  rw [zq0, zi_eq rw' (by decide), zq1, zi_eq rw' (by decide), zq2, zi_eq rw' (by decide), zq3, zi_eq rw' (by decide), zq4, zi_eq rw' (by decide), zq5, zi_eq rw' (by decide), zq6, zi_eq rw' (by decide)]
  refine ⟨fun c => ?_, fun c => ⟨fun c1 => ⟨fun q => absurd q c, fun _ => ⟨fun _ => ⟨by rw [x6, m4], hR0.th⟩, fun q => absurd c1 q⟩⟩, fun c1 => ⟨fun c2 => ⟨fun q => absurd q c, fun _ => ⟨fun q => absurd q c1, fun _ => ⟨fun _ => ⟨by rw [x7, m5], hR0.th⟩, fun q => absurd c2 q⟩⟩⟩, fun c2 => ⟨fun c3 => ⟨fun q => absurd q c, fun _ => ⟨fun q => absurd q c1, fun _ => ⟨fun q => absurd q c2, fun _ => ⟨fun _ => ⟨by rw [x5, m6], hR0.th⟩, fun q => absurd c3 q⟩⟩⟩⟩, fun c3 => ⟨fun c4 => ⟨fun q => absurd q c, fun _ => ⟨fun q => absurd q c1, fun _ => ⟨fun q => absurd q c2, fun _ => ⟨fun q => absurd q c3, fun _ => ⟨fun _ => ⟨by rw [hk, hk8], hR0.th⟩, fun q => absurd c4 q⟩⟩⟩⟩⟩, fun c4 => ⟨fun c5 => ⟨fun q => absurd q c, fun _ => ⟨fun q => absurd q c1, fun _ => ⟨fun q => absurd q c2, fun _ => ⟨fun q => absurd q c3, fun _ => ⟨fun q => absurd q c4, fun _ => ⟨fun _ => ⟨by rw [x8, m7], hR0.th⟩, fun q => absurd c5 q⟩⟩⟩⟩⟩⟩, fun c5 => ⟨fun c6 => ⟨fun q => absurd q c, fun _ => ⟨fun q => absurd q c1, fun _ => ⟨fun q => absurd q c2, fun _ => ⟨fun q => absurd q c3, fun _ => ⟨fun q => absurd q c4, fun _ => ⟨fun q => absurd q c5, fun _ => ⟨fun _ => ⟨by rw [t1, t2], hR0.th⟩, fun q => absurd c6 q⟩⟩⟩⟩⟩⟩⟩, fun c6 => ⟨fun q => absurd q c, fun _ => ⟨fun q => absurd q c1, fun _ => ⟨fun q => absurd q c2, fun _ => ⟨fun q => absurd q c3, fun _ => ⟨fun q => absurd q c4, fun _ => ⟨fun q => absurd q c5, fun _ => ⟨fun q => absurd q c6, fun _ => ⟨rfl, hR0.th⟩⟩⟩⟩⟩⟩⟩⟩⟩⟩⟩⟩⟩⟩⟩
  refine nz_l2 (fun k x1 x2 => ∃ n : Nat, x1 = zi (zpr L n) ∧ x2 = zi n ∧ n ≤ 8 ∧ k = 8 - n) ?_ (k := 8 - 0) ⟨0, rfl, rfl, by omega, rfl⟩
  rintro k1 R _ _ ⟨n, rfl, rfl, hn, hk1⟩ next
  unfold S_X6_present_4 wp_X6_isMissing
  rw [zq8, zi_le (by decide) (by omega)]
  refine ⟨fun d => ⟨fun _ => ?_, fun q => absurd c q⟩, fun d => ⟨zi_in (by omega), ?_⟩⟩
  · obtain rfl : n = 8 := by omega
    refine nz_l2 (fun k x1 x2 => ∃ n : Nat, x1 = zi (zpr L n) ∧ x2 = zi n ∧ n ≤ 8 ∧ k = 8 - n) ?_ (k := 8 - 0) ⟨0, rfl, rfl, by omega, rfl⟩
    rintro k2 R2 _ _ ⟨n, rfl, rfl, hn2, hk2⟩ next2
    unfold S_X8_count_54
    rw [zq8, zi_le (by decide) (by omega)]
    refine ⟨fun d2 => ?_, fun d2 => ⟨zi_in (by omega), ?_⟩⟩
    · obtain rfl : n = 8 := by omega
      exact ⟨rfl, hR0.th⟩
    · have l := w6 n (by omega)
      rw [w2.at (by omega), zq0, zi_lt (by omega) (by decide), zq1, zi_add, zi_add, zi_add]
      refine ⟨fun g => next2 (8 - (n + 1)) _ _ (by omega) ⟨n + 1, ?_, rfl, by omega, rfl⟩, fun g => next2 (8 - (n + 1)) _ _ (by omega) ⟨n + 1, ?_, rfl, by omega, rfl⟩⟩
      · show _ = zi (zpr L n + (if L n < 0 then 0 else 1))
        rw [if_pos g]
      · show _ = zi (zpr L n + (if L n < 0 then 0 else 1))
        rw [if_neg g]
  · have l := w6 n (by omega)
    rw [w1.at (by omega), show (-1 : Int32) = zi (-1) from rfl, zi_eq (by omega) (by decide), zq1, zi_add, zi_add]
    refine ⟨fun g => by0 (next (8 - (n + 1)) _ _ (by omega) ⟨n + 1, ?_, rfl, by omega, rfl⟩), fun g => by1 (next (8 - (n + 1)) _ _ (by omega) ⟨n + 1, ?_, rfl, by omega, rfl⟩)⟩
    · show _ = zi (zpr L n + (if L n < 0 then 0 else 1))
      rw [if_neg (by omega)]
    · show _ = zi (zpr L n + (if L n < 0 then 0 else 1))
      rw [if_pos (by omega)]
      congr 1
      omega
