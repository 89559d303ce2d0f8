theorem putp_at {X it : Nat → Nat → Int32} : ∀ j : Nat, j < 8 → nz_putp X it (54 + j) = it j
  | 0, _ => rfl | 1, _ => rfl | 2, _ => rfl | 3, _ => rfl | 4, _ => rfl | 5, _ => rfl | 6, _ => rfl | 7, _ => rfl
  | j + 8, h => absurd h (by omega)
theorem putp_ne {X it : Nat → Nat → Int32} {i : Nat} (h : i < 54) : nz_putp X it i = X i := by
  unfold nz_putp
  rw [zup1 (by omega), zup1 (by omega), zup1 (by omega), zup1 (by omega), zup1 (by omega), zup1 (by omega), zup1 (by omega), zup1 (by omega)]
theorem nz_Rel.rw {X M X' M' : Nat → Nat → Int32} (h : nz_Rel X M) (hrw : zRW X' M') (e : ∀ i : Nat, i ≠ 2 → i ≠ 3 → i < 54 → 1 ≤ i → X' i = X i) (e8 : X' 0 8 = X 0 8) (m : ∀ i : Nat, 4 ≤ i → M' i = M i) (m8 : M' 0 8 = M 0 8) (m10 : M' 0 10 = M 0 10) (m25 : M' 0 25 = M 0 25) (m11 : M' 0 11 = M 0 11) (s : X' 0 9 = M' 0 1) : nz_Rel X' M' := by
  obtain ⟨h1, h2, h3, h4, h5, h6⟩ := h
  exact ⟨h1.fr (fun i hi => e i (by omega) (by omega) (by omega) (by omega)) (m 4 (by decide)) (m 6 (by decide)) (m 11 (by decide)) (m 12 (by decide)) m8, hrw, h3.fr (by rw [e 5 (by decide) (by decide) (by decide) (by decide)]) (e 6 (by decide) (by decide) (by decide) (by decide)) m10 (m 7 (by decide)), h4.fr (by rw [e 52 (by decide) (by decide) (by decide) (by decide)]) (e 53 (by decide) (by decide) (by decide) (by decide)) m25 (m 13 (by decide)), by rw [e8, m11]; exact h5, s⟩
theorem x_isMissing {s : Nat → Int32} {L : Int → Int} {r : Int} {K : Int32 → Prop} (h : zA 8 s L) (hL : -1 ≤ L r ∧ L r ≤ 2) (hr : 0 ≤ r ∧ r < 8) (h1 : L r = -1 → K 1) (h0 : 0 ≤ L r → K 0) : wp_X6_isMissing s (zi r) K := by
  unfold wp_X6_isMissing
  rw [h.at (by omega), show (-1 : Int32) = zi (-1) from rfl, zi_eq (by omega) (by decide)]
  exact ⟨zi_in (by omega), fun c => h0 (by omega), fun c => h1 c⟩
theorem x_holds {s : Nat → Int32} {N : Int → Int} {r i n : Int} {K : Int32 → Prop} (h : zA 8 s N) (hN : 0 ≤ N r ∧ N r ≤ 40) (hr : 0 ≤ r ∧ r < 8) (ri : -2147483648 ≤ i ∧ i ≤ 2147483647) (rn : -2147483648 ≤ n ∧ n ≤ 2147483647) (h1 : 0 ≤ i ∧ 0 ≤ n ∧ i + n ≤ N r → K 1) (h0 : ¬ (0 ≤ i ∧ 0 ≤ n ∧ i + n ≤ N r) → K 0) : wp_X6_holds s (zi r) (zi i) (zi n) K := by
  unfold wp_X6_holds
  rw [h.at (by omega), zq0, zi_lt ri (by decide), zi_lt rn (by decide), zi_lt (by omega) rn, zi_sub]
  refine ⟨fun c => h0 (by omega), fun c => ⟨fun c1 => h0 (by omega), fun c1 => ⟨zi_in (by omega), fun c2 => h0 (by omega), fun c2 => ⟨zi_in (by omega), ?_⟩⟩⟩⟩
  rw [zi_lt (by omega) ri]
  exact ⟨fun c3 => h0 (by omega), fun c3 => h1 (by omega)⟩
theorem x_findingAt {sl sn : Nat → Int32} {L N : Int → Int} {r i n : Int} {K : Int32 → Prop} (hl : zA 8 sl L) (h : zA 8 sn N) (hL : -1 ≤ L r ∧ L r ≤ 2) (hN : 0 ≤ N r ∧ N r ≤ 40) (hr : 0 ≤ r ∧ r < 8) (ri : -2147483648 ≤ i ∧ i ≤ 2147483647) (rn : -2147483648 ≤ n ∧ n ≤ 2147483647) (h1 : L r = -1 → K 1) (h2 : 0 ≤ L r → ¬ (0 ≤ i ∧ 0 ≤ n ∧ i + n ≤ N r) → K 2) (h0 : 0 ≤ L r → (0 ≤ i ∧ 0 ≤ n ∧ i + n ≤ N r) → K 0) : wp_X6_findingAt sl sn (zi r) (zi i) (zi n) K := by
  unfold wp_X6_findingAt
  exact x_isMissing hl hL hr (fun c => by1' (h1 c)) (fun c => by0' (x_holds h hN hr ri rn (fun d => by1' (h0 c d)) (fun d => by0' (h2 c d))))
theorem zT8 (v : Int32) : ∃ w : Int, (-2147483648 ≤ w ∧ w ≤ 2147483647) ∧ v.toInt8.toInt32 = zi w := zi_ex _
def zRo (it : Nat → Nat → Int32) (T : Int → Int) : Prop := ∀ r : Int, 0 ≤ r ∧ r < 8 → zA 40 (it r.toNat) (fun j => T (40 * r + j))
theorem zRo.up {it : Nat → Nat → Int32} {T U : Int → Int} {r : Int} {s : Nat → Int32} (h : zRo it T) (hr : 0 ≤ r ∧ r < 8) (hs : zA 40 s (fun j => U (40 * r + j))) (e : ∀ x : Int, ¬ (40 * r ≤ x ∧ x < 40 * r + 40) → U x = T x) : zRo (va_up it (zi r).toNatClampNeg s) U := by
  intro q hq
  rw [zi_cl (by omega)]
  by_cases c : q = r
  · rw [c]
    show zA 40 (if r.toNat = r.toNat then s else it r.toNat) _
    rw [if_pos rfl]
    exact hs
  · show zA 40 (if q.toNat = r.toNat then s else it q.toNat) _
    rw [if_neg (by omega)]
    exact (h q hq).of (fun a ha => e _ (by omega))
theorem zRo.of {X' M' : Nat → Nat → Int32} {L N T : Int → Int} (e2 : zA 8 (X' 2) L) (m1 : zA 8 (M' 1) L) (e3 : zA 8 (X' 3) N) (m2 : zA 8 (M' 2) N) (m3 : zA 320 (M' 3) T) (hr : ∀ r : Int, 0 ≤ r ∧ r < 8 → (-1 ≤ L r ∧ L r ≤ 2) ∧ (0 ≤ N r ∧ N r ≤ 40)) (hT : ∀ j : Int, -2147483648 ≤ T j ∧ T j ≤ 2147483647) {it : Nat → Nat → Int32} (h : zRo it T) (eX : ∀ r : Nat, r < 8 → X' (54 + r) = it r) : zRW X' M' :=
  ⟨L, N, T, e2, m1, e3, m2, m3, hr, hT, fun r hr => by rw [eX _ (by omega)]; exact h r hr⟩
theorem zrow_up {L : Int → Int} {r v : Int} (a b : Int) (h : ∀ r : Int, 0 ≤ r ∧ r < 8 → a ≤ L r ∧ L r ≤ b) (hv : a ≤ v ∧ v ≤ b) : ∀ q : Int, 0 ≤ q ∧ q < 8 → a ≤ iup L r v q ∧ iup L r v q ≤ b := fun q hq => by
  by_cases c : q = r
  · rw [c, iup_eq]; exact hv
  · rw [iup_ne c]; exact h q hq
theorem pub_row {X M : Nat → Nat → Int32} (hR : nz_Rel X M) (v1 : Int32) (v2 : Int32) (v3 : Int32) : wp_X7_row X v1 v2 v3 (fun r X1 => wp_X8_row M v1 v2 v3 (fun r1 M1 => r = r1 ∧ nz_Rel X1 M1)) := by
  have hR0 := hR
  obtain ⟨hRD, hRW, hTP, hTR, hla, hst⟩ := hR
  obtain ⟨f, g0, g1, W, k, hM, hok, hX, hI0, hI1, hW, hac, hk, hk8⟩ := hRD
  have hok0 := hok
  obtain ⟨ol, of', os, ofi, ons, onm, onn, ont, oz, oten, ost, oso, omv, otm⟩ := hok
  have hX0 := hX
  obtain ⟨x0, x1, x2, x3, x4, x5, x6, x7, x8, xs, xa, xh, xk, xw, xy, xr, xt⟩ := hX
  have xs : zA (f 4) (X 17) (zsay f) := xs
  have xa : zA (f 4) (X 18) (zat f) := xa
  have xh : zA (f 4) (X 19) (zho f) := xh
  have xk : zA (f 5) (X 20) (zkd f) := xk
  have xw : zA (f 5) (X 21) (zwh f) := xw
  have xy : zA (f 5) (X 22) (zwy f) := xy
  have xr : zA (f 5) (X 23) (zre f) := xr
  have xt : zA (4 * f 7) (X 24) (ztm f) := xt
  have m0 : M 4 0 = zi (f 0) := zM4 hM (by decide)
  have m1 : M 4 1 = zi (f 1) := zM4 hM (by decide)
  have m2 : M 4 2 = zi (f 2) := zM4 hM (by decide)
  have m3 : M 4 3 = zi (f 3) := zM4 hM (by decide)
  have m4 : M 4 4 = zi (f 4) := zM4 hM (by decide)
  have m5 : M 4 5 = zi (f 5) := zM4 hM (by decide)
  have m6 : M 4 6 = zi (f 6) := zM4 hM (by decide)
  have m7 : M 4 7 = zi (f 7) := zM4 hM (by decide)
  obtain ⟨L, N, T, w1, w2, w3, w4, w5, w6, w7, w8⟩ := hRW
  obtain ⟨r, rr, rfl⟩ := zi_ex v1
  obtain ⟨l, rl, rfl⟩ := zi_ex v2
  obtain ⟨n, rn, rfl⟩ := zi_ex v3
  unfold wp_X7_row wX_X6_isRow wX_X7_isAmong wX_X6_make_1_54 wX_X7_well_0 wX_X7_found_0 wp_X7_well wp_X7_found wp_X6_make
  have M8 : ∀ (K : Int32 → (Nat → Nat → Int32) → Prop), (¬ ((0 ≤ r ∧ r < 8) ∧ (0 ≤ l ∧ l ≤ 2) ∧ n ≤ 40) → K (-1000001 : Int32) (va_up M 0 (upd (M 0) 0 0))) → ((0 ≤ r ∧ r < 8) ∧ (0 ≤ l ∧ l ≤ 2) ∧ n ≤ 40 → n < 0 → K ((-1000010 : Int32) - 4) (va_up M 0 (upd (upd (M 0) 0 0) 1 4))) → ((0 ≤ r ∧ r < 8) ∧ (0 ≤ l ∧ l ≤ 2) ∧ n ≤ 40 → 0 ≤ n → ∀ s, zA 320 s (fun x => if 40 * r ≤ x ∧ x < 40 * r + 40 then 0 else T x) → K (zi n) (va_up (va_up (va_up (va_up M 0 (upd (upd (M 0) 0 0) 1 0)) 1 (upd (M 1) (zi r).toNatClampNeg (zi l))) 2 (upd (M 2) (zi r).toNatClampNeg (zi n))) 3 s)) → wp_X8_row M (zi r) (zi l) (zi n) K := by
    intro K k1 k2 k3
    unfold wp_X8_row wp_X8_finding
    refine s8_isRow rr (fun c1 => by1' (s_in (a := l) (l := 0) (u := 2) (z64 rl) rfl rfl (fun c2 => by1' ?_) (fun c2 => by0' (k1 (by omega))))) (fun c1 => by0' (k1 (by omega)))
    rw [zq40, zi_le rn (by decide), zq0, zi_le (by decide) rn]
    refine ⟨fun c3 => ⟨fun c4 => ⟨zi_in (by omega), zi_in (by omega), ?_⟩, fun c4 => k2 (by omega) (by omega)⟩, fun c3 => k1 (by omega)⟩
    refine nz_l2 (fun k x4 s => ∃ i : Int, x4 = zi i ∧ (0 ≤ i ∧ i ≤ 40) ∧ k = (40 - i).toNat ∧ zA 320 s (fun x => if 40 * r ≤ x ∧ x < 40 * r + i then 0 else T x)) ?_ (k := (40 - (0 : Int)).toNat) ⟨0, rfl, by omega, rfl, w5.of (fun a ha => if_neg (by omega))⟩
    rintro k R _ s ⟨i, rfl, hi, hk, hs⟩ next
    unfold S_X8_row_65
    rw [zq40, zi_le (by decide) (by omega), zi_mul, zi_add, zq1, zi_add]
    refine ⟨fun c => ?_, fun c => ⟨zi_in (by omega), next (40 - (i + 1)).toNat _ _ (by omega) ⟨i + 1, rfl, by omega, rfl, ?_⟩⟩⟩
    · obtain rfl : i = 40 := by omega
      exact k3 ⟨c1, c2, c3⟩ c4 s hs
    · refine (hs.up (i := 40 * r + i) (v := 0) (by omega)).of (fun a ha => ?_)
      show (if 40 * r ≤ a ∧ a < 40 * r + (i + 1) then 0 else T a) = (if a = 40 * r + i then 0 else if 40 * r ≤ a ∧ a < 40 * r + i then 0 else T a)
      by_cases e : a = 40 * r + i
      · rw [if_pos (by omega), if_pos e]
      · rw [if_neg e]
        by_cases e1 : 40 * r ≤ a ∧ a < 40 * r + i
        · rw [if_pos e1, if_pos (by omega)]
        · rw [if_neg e1, if_neg (by omega)]
  refine s6_isRow rr (fun c1 => by1' (s_among (a := l) (l := 0) (u := 2) rfl rfl rfl (by omega) (fun c2 => by1' ?_) (fun c2 => by0' (M8 _ (fun _ => ⟨rfl, hR0.th⟩) (fun q => absurd q (by omega)) (fun q => absurd q (by omega)))))) (fun c1 => by0' (M8 _ (fun _ => ⟨rfl, hR0.th⟩) (fun q => absurd q (by omega)) (fun q => absurd q (by omega))))
  rw [zq40, zi_le rn (by decide), zq0, zi_le (by decide) rn]
  refine ⟨fun c3 => ⟨fun c4 => ⟨zi_in (by omega), zi_in (by omega), zi_in (by omega), ?_⟩, fun c4 => M8 _ (fun q => absurd ⟨c1, c2, c3⟩ q) (fun _ _ => ⟨rfl, hR0.st1 _ _ _ rfl⟩) (fun _ q => absurd q c4)⟩, fun c3 => M8 _ (fun _ => ⟨rfl, hR0.th⟩) (fun q => absurd q (by omega)) (fun q => absurd q (by omega))⟩
  unfold wp_J7_fill_53178_40
  refine nz_l2 (fun k x4 s => ∃ i : Int, x4 = zi i ∧ (0 ≤ i ∧ i ≤ 40) ∧ k = (40 - i).toNat ∧ zA i s (fun _ => 0)) ?_ (k := (40 - (0 : Int)).toNat) ⟨0, rfl, by omega, rfl, fun a ha => by omega⟩
  rintro k1 R _ s ⟨i, rfl, hi, hk1, hs⟩ next
  unfold S_J7_fill_53178_40_5
  rw [zq40, zi_le (by decide) (by omega), zq1, zi_add]
  refine ⟨fun c => ?_, fun c => ⟨zi_in (by omega), next (40 - (i + 1)).toNat _ _ (by omega) ⟨i + 1, rfl, by omega, rfl, hs.snoc (by omega) rfl⟩⟩⟩
  obtain rfl : i = 40 := by omega
  refine M8 _ (fun q => absurd ⟨c1, c2, c3⟩ q) (fun _ q => absurd q (by omega)) (fun _ _ s8 hs8 => ⟨rfl, ?_⟩)
  have hro : zRo (fun j => X (54 + j)) T := w8
  refine hR0.rw (zRo.of (L := iup L r l) (N := iup N r n) (T := fun x => if 40 * r ≤ x ∧ x < 40 * r + 40 then 0 else T x) (w1.up (by omega)) (w2.up (by omega)) (w3.up (by omega)) (w4.up (by omega)) hs8 (fun q hq => ⟨zrow_up (-1) 2 (fun q hq => (w6 q hq).1) (by omega) q hq, zrow_up 0 40 (fun q hq => (w6 q hq).2) (by omega) q hq⟩) (fun x => ?_) (hro.up c1 (s := s) (hs.of (fun a ha => if_pos (by omega))) (fun x hx => if_neg hx)) (fun q hq => (zup1 (by omega)).trans (putp_at q hq))) (fun i h2 h3 h54 h1 => (zup1 (by omega)).trans ((putp_ne (by omega)).trans ((zup1 (by omega)).trans (zup1 (by omega))))) rfl (fun i hi => (zup1 (by omega)).trans ((zup1 (by omega)).trans ((zup1 (by omega)).trans (zup1 (by omega))))) rfl rfl rfl rfl rfl
  show _ ≤ (if 40 * r ≤ x ∧ x < 40 * r + 40 then 0 else T x) ∧ (if 40 * r ≤ x ∧ x < 40 * r + 40 then 0 else T x) ≤ _
  split
  · decide
  · exact w7 x
theorem pub_drop {X M : Nat → Nat → Int32} (hR : nz_Rel X M) (v1 : Int32) : wp_X7_drop X v1 (fun r X1 => wp_X8_drop M v1 (fun r1 M1 => r = r1 ∧ nz_Rel X1 M1)) := by
  have hR0 := hR
  obtain ⟨hRD, hRW, hTP, hTR, hla, hst⟩ := hR
  obtain ⟨f, g0, g1, W, k, hM, hok, hX, hI0, hI1, hW, hac, hk, hk8⟩ := hRD
  have hok0 := hok
  obtain ⟨ol, of', os, ofi, ons, onm, onn, ont, oz, oten, ost, oso, omv, otm⟩ := hok
  have hX0 := hX
  obtain ⟨x0, x1, x2, x3, x4, x5, x6, x7, x8, xs, xa, xh, xk, xw, xy, xr, xt⟩ := hX
  have xs : zA (f 4) (X 17) (zsay f) := xs
  have xa : zA (f 4) (X 18) (zat f) := xa
  have xh : zA (f 4) (X 19) (zho f) := xh
  have xk : zA (f 5) (X 20) (zkd f) := xk
  have xw : zA (f 5) (X 21) (zwh f) := xw
  have xy : zA (f 5) (X 22) (zwy f) := xy
  have xr : zA (f 5) (X 23) (zre f) := xr
  have xt : zA (4 * f 7) (X 24) (ztm f) := xt
  have m0 : M 4 0 = zi (f 0) := zM4 hM (by decide)
  have m1 : M 4 1 = zi (f 1) := zM4 hM (by decide)
  have m2 : M 4 2 = zi (f 2) := zM4 hM (by decide)
  have m3 : M 4 3 = zi (f 3) := zM4 hM (by decide)
  have m4 : M 4 4 = zi (f 4) := zM4 hM (by decide)
  have m5 : M 4 5 = zi (f 5) := zM4 hM (by decide)
  have m6 : M 4 6 = zi (f 6) := zM4 hM (by decide)
  have m7 : M 4 7 = zi (f 7) := zM4 hM (by decide)
  obtain ⟨L, N, T, w1, w2, w3, w4, w5, w6, w7, w8⟩ := hRW
  obtain ⟨r, rr, rfl⟩ := zi_ex v1
  unfold wp_X7_drop wX_X6_isRow wX_X6_isMissing_1_54 wX_X6_remove_1_54 wX_X7_well_0 wX_X7_found_0 wp_X7_well wp_X7_found wp_X6_remove
  refine s6_isRow rr (fun c1 => by1 ?_) (fun c1 => by0 ?_)
  · have l := w6 r c1
    have M8 : ∀ (K : Int32 → (Nat → Nat → Int32) → Prop), (0 ≤ L r → K (zi (N r)) (va_up (va_up M 0 (upd (upd (M 0) 0 0) 1 0)) 1 (upd (M 1) (zi r).toNatClampNeg (-1 : Int32)))) → (L r = -1 → K ((-1000010 : Int32) - 1) (va_up M 0 (upd (upd (M 0) 0 0) 1 1))) → wp_X8_drop M (zi r) K := by
      intro K k1 k2
      unfold wp_X8_drop wp_X8_finding
      refine s8_isRow rr (fun _ => by1 ⟨zi_in (by omega), ?_⟩) (fun c => absurd c1 c)
      rw [w2.at (by omega), w4.at (by omega), zq0, zi_le (by decide) (by omega)]
      exact ⟨fun c => ⟨zi_in (by omega), zi_in (by omega), k1 c⟩, fun c => k2 (by omega)⟩
    refine x_isMissing w1 l.1 c1 (fun c => by1' (M8 _ (fun q => absurd q (by omega)) (fun _ => ⟨rfl, hR0.st1 _ _ _ rfl⟩))) (fun c => by0' ⟨zi_in (by omega), zi_in (by omega), ?_⟩)
    rw [w3.at (by omega)]
    refine M8 _ (fun _ => ⟨rfl, ?_⟩) (fun q => absurd q (by omega))
    have w1' : zA 8 (upd (X 2) (zi r).toNatClampNeg (-1 : Int32)) (iup L r (-1)) := by
      rw [show (-1 : Int32) = zi (-1) from rfl]
      exact w1.up (by omega)
    have w2' : zA 8 (upd (M 1) (zi r).toNatClampNeg (-1 : Int32)) (iup L r (-1)) := by
      rw [show (-1 : Int32) = zi (-1) from rfl]
      exact w2.up (by omega)
    refine hR0.rw ⟨iup L r (-1), N, T, w1', w2', w3, w4, w5, fun q hq => ⟨zrow_up (-1) 2 (fun q hq => (w6 q hq).1) (by omega) q hq, (w6 q hq).2⟩, w7, fun q hq => ?_⟩ (fun i h2 h3 h54 h1 => (zup1 (by omega)).trans (zup1 (by omega))) rfl (fun i hi => (zup1 (by omega)).trans (zup1 (by omega))) rfl rfl rfl rfl rfl
    rw [show va_up (va_up X 2 (upd (X 2) (zi r).toNatClampNeg (-1 : Int32))) 0 (upd (va_up X 2 (upd (X 2) (zi r).toNatClampNeg (-1 : Int32)) 0) 9 0) (54 + q.toNat) = X (54 + q.toNat) from (zup1 (by omega)).trans (zup1 (by omega))]
    exact w8 q hq
  · unfold wp_X8_drop
    exact s8_isRow rr (fun c => absurd c c1) (fun _ => by0 ⟨rfl, hR0.th⟩)
theorem x_put {sl : Nat → Int32} {it : Nat → Nat → Int32} {L T : Int → Int} {r i : Int} {v : Int32} {K : Int32 → (Nat → Nat → Int32) → Prop} (hl : zA 8 sl L) (hL : 0 ≤ L r ∧ L r ≤ 2) (hr : 0 ≤ r ∧ r < 8) (hi : 0 ≤ i ∧ i < 40) (h : zRo it T) (hK : ∀ w : Int, zi w = (if L r = 0 then v.toInt8.toInt32 else if L r = 1 then v.toInt16.toInt32 else v) → (-2147483648 ≤ w ∧ w ≤ 2147483647) → ∀ u, zRo u (iup T (40 * r + i) w) → K (zi w) u) : wp_X6_put sl it (zi r) (zi i) v K := by
  have run : ∀ x : Int32, x = (if L r = 0 then v.toInt8.toInt32 else if L r = 1 then v.toInt16.toInt32 else v) → S_X6_put_33 (zi r) (zi i) x it K := by
    intro x hx
    obtain ⟨w, hw, rfl⟩ := zi_ex x
    refine ⟨zi_in (by omega), zi_in (by omega), hK w hx hw _ ?_⟩
    refine h.up hr ?_ (fun x hx => iup_ne (by omega))
    have hrr := h r hr
    rw [show (zi r).toNatClampNeg = r.toNat from zi_cl (by omega)]
    refine (hrr.up (i := i) (v := w) (by omega)).of (fun a ha => ?_)
    show iup T (40 * r + i) w (40 * r + a) = iup (fun j => T (40 * r + j)) i w a
    by_cases e : a = i
    · rw [e, iup_eq, iup_eq]
    · rw [iup_ne e, iup_ne (by omega)]
  unfold wp_X6_put
  rw [hl.at (by omega), zq0, zi_eq (by omega) (by decide), zq1, zi_eq (by omega) (by decide)]
  refine ⟨zi_in (by omega), fun c => ⟨zi_in (by omega), fun d => run _ ?_, fun d => run _ ?_⟩, fun c => run _ ?_⟩
  · rw [if_neg c, if_neg d]
  · rw [if_neg c, if_pos d]
  · rw [if_pos c]
theorem pub_set {X M : Nat → Nat → Int32} (hR : nz_Rel X M) (v1 : Int32) (v2 : Int32) (v3 : Int32) : wp_X7_set X v1 v2 v3 (fun r X1 => wp_X8_set M v1 v2 v3 (fun r1 M1 => r = r1 ∧ nz_Rel X1 M1)) := by
  have hR0 := hR
  obtain ⟨hRD, hRW, hTP, hTR, hla, hst⟩ := hR
  obtain ⟨f, g0, g1, W, k, hM, hok, hX, hI0, hI1, hW, hac, hk, hk8⟩ := hRD
  have hok0 := hok
  obtain ⟨ol, of', os, ofi, ons, onm, onn, ont, oz, oten, ost, oso, omv, otm⟩ := hok
  have hX0 := hX
  obtain ⟨x0, x1, x2, x3, x4, x5, x6, x7, x8, xs, xa, xh, xk, xw, xy, xr, xt⟩ := hX
  have xs : zA (f 4) (X 17) (zsay f) := xs
  have xa : zA (f 4) (X 18) (zat f) := xa
  have xh : zA (f 4) (X 19) (zho f) := xh
  have xk : zA (f 5) (X 20) (zkd f) := xk
  have xw : zA (f 5) (X 21) (zwh f) := xw
  have xy : zA (f 5) (X 22) (zwy f) := xy
  have xr : zA (f 5) (X 23) (zre f) := xr
  have xt : zA (4 * f 7) (X 24) (ztm f) := xt
  have m0 : M 4 0 = zi (f 0) := zM4 hM (by decide)
  have m1 : M 4 1 = zi (f 1) := zM4 hM (by decide)
  have m2 : M 4 2 = zi (f 2) := zM4 hM (by decide)
  have m3 : M 4 3 = zi (f 3) := zM4 hM (by decide)
  have m4 : M 4 4 = zi (f 4) := zM4 hM (by decide)
  have m5 : M 4 5 = zi (f 5) := zM4 hM (by decide)
  have m6 : M 4 6 = zi (f 6) := zM4 hM (by decide)
  have m7 : M 4 7 = zi (f 7) := zM4 hM (by decide)
  obtain ⟨L, N, T, w1, w2, w3, w4, w5, w6, w7, w8⟩ := hRW
  obtain ⟨r, rr, rfl⟩ := zi_ex v1
  obtain ⟨i, ri, rfl⟩ := zi_ex v2
  unfold wp_X7_set wX_X6_isRow wX_X6_findingAt_1_54 wX_X6_put_1_54 wX_X7_well_0 wX_X7_found_0 wp_X7_well wp_X7_found
  refine s6_isRow rr (fun c1 => by1 ?_) (fun c1 => by0 ?_)
  · have l := w6 r c1
    have M8 : ∀ (K : Int32 → (Nat → Nat → Int32) → Prop), (L r = -1 → K ((-1000010 : Int32) - 1) (va_up M 0 (upd (upd (M 0) 0 0) 1 1))) → (0 ≤ L r → ¬ (0 ≤ i ∧ i < N r) → K ((-1000010 : Int32) - 2) (va_up M 0 (upd (upd (M 0) 0 0) 1 2))) → (0 ≤ L r → (0 ≤ i ∧ i < N r) → ∀ w : Int, zi w = (if L r = 0 then v3.toInt8.toInt32 else if L r = 1 then v3.toInt16.toInt32 else v3) → ∀ s, zA 320 s (iup T (40 * r + i) w) → K (zi w) (va_up (va_up M 0 (upd (upd (M 0) 0 0) 1 0)) 3 s)) → wp_X8_set M (zi r) (zi i) v3 K := by
      intro K k1 k2 k3
      unfold wp_X8_set wp_X8_finding
      refine s8_isRow rr (fun _ => by1 ⟨zi_in (by omega), ?_⟩) (fun c => absurd c1 c)
      rw [w2.at (by omega), w4.at (by omega), zq0, zi_le (by decide) (by omega), zi_eq (by omega) (by decide), zq1, zi_eq (by omega) (by decide), zi_sub, zq40, zi_mul, zi_add]
      refine ⟨fun c => ⟨zi_in (by omega), s_in (a := i) (l := 0) (u := N r - 1) (z64 ri) rfl (z64 (by omega)) (fun c2 => by1 ⟨zi_in (by omega), ?_⟩) (fun c2 => by0 (k2 c (by omega)))⟩, fun c => k1 (by omega)⟩
      have run : ∀ x : Int32, x = (if L r = 0 then v3.toInt8.toInt32 else if L r = 1 then v3.toInt16.toInt32 else v3) → S_X8_set_99 M (zi r) (zi i) x (zi (40 * r + i)) (zi 0) (zi 0) (M 3) K := by
        intro x hx
        obtain ⟨w, hw, rfl⟩ := zi_ex x
        unfold S_X8_set_99
        rw [zq40, zi_mul, zi_add]
        refine ⟨zi_in (by omega), zi_in (by omega), ?_⟩
        rw [show upd (M 3) (zi (40 * r + i)).toNatClampNeg (zi w) (zi (40 * r + i)).toNatClampNeg = zi w from if_pos rfl]
        exact k3 c (by omega) w hx _ (w5.up (by omega))
      refine ⟨fun d => ⟨zi_in (by omega), fun e => run _ ?_, fun e => run _ ?_⟩, fun d => run _ ?_⟩
      · rw [if_neg d, if_neg e]
      · rw [if_neg d, if_pos e]
      · rw [if_pos d]
    refine x_findingAt (n := 1) w1 w3 l.1 l.2 c1 ri (by decide) (fun c => ⟨fun z => absurd z (by decide), fun _ => M8 _ (fun _ => ⟨rfl, hR0.st1 _ _ _ rfl⟩) (fun q => absurd q (by omega)) (fun q => absurd q (by omega))⟩) (fun c d => ⟨fun z => absurd z (by decide), fun _ => M8 _ (fun q => absurd q (by omega)) (fun _ _ => ⟨rfl, hR0.st1 _ _ _ rfl⟩) (fun _ q => absurd q (by omega))⟩) (fun c d => ⟨fun _ => ?_, fun z => absurd rfl z⟩)
    refine x_put (T := T) w1 (by omega) c1 (by omega) w8 (fun w hw rw' u hu => M8 _ (fun q => absurd q (by omega)) (fun _ q => absurd (by omega) q) (fun _ _ w2' hw2 s hs => ?_))
    have ew : zi w2' = zi w := hw2.trans hw.symm
    refine ⟨ew.symm, ?_⟩
    have hs' : zA 320 s (iup T (40 * r + i) w) := fun a ha => by
      rw [hs a ha]
      by_cases e : a = 40 * r + i
      · rw [e, iup_eq, iup_eq, ew]
      · rw [iup_ne e, iup_ne e]
    refine hR0.rw (zRo.of (L := L) (N := N) (T := iup T (40 * r + i) w) w1 w2 w3 w4 hs' w6 (fun x => ?_) hu (fun q hq => (zup1 (by omega)).trans (putp_at q hq))) (fun i h2 h3 h54 h1 => (zup1 (by omega)).trans (putp_ne (by omega))) rfl (fun i hi => (zup1 (by omega)).trans (zup1 (by omega))) rfl rfl rfl rfl rfl
    by_cases e : x = 40 * r + i
    · rw [e, iup_eq]; exact rw'
    · rw [iup_ne e]; exact w7 x
  · unfold wp_X8_set
    exact s8_isRow rr (fun c => absurd c c1) (fun _ => by0 ⟨rfl, hR0.th⟩)
