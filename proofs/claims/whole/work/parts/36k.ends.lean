theorem pub_ends {X M : Nat → Nat → Int32} (hR : nz_Rel X M) (v1 : Int32) (v2 : Int32) (v3 : Int32) : wp_X7_ends X v1 v2 v3 (fun r X1 => wp_X8_ends M v1 v2 v3 (fun r1 M1 => r = r1 ∧ nz_Rel X1 M1)) := by
  have hR0 := hR
  obtain ⟨hRD, hRW, hTP, hTR, hla, hst⟩ := hR
  obtain ⟨f, g0, g1, W, k, hM, hok, hX, hI0, hI1, hW, hac, hk, hk8⟩ := hRD
  have hok0 := hok
  obtain ⟨ol, of', os, ofi, ons, onm, onn, ont, oz, oten, ost, oso, omv, otm⟩ := hok
  have hX0 := hX
  obtain ⟨x0, x1, x2, x3, x4, x5, x6, x7, x8, xs, xa, xh, xk, xw, xy, xr, xt⟩ := hX
  have xs : zA (f 4) (X 17) (zsay f) := xs
  have xa : zA (f 4) (X 18) (zat f) := xa
  have xh : zA (f 4) (X 19) (zho f) := xh
  have xk : zA (f 5) (X 20) (zkd f) := xk
  have xw : zA (f 5) (X 21) (zwh f) := xw
  have xy : zA (f 5) (X 22) (zwy f) := xy
  have xr : zA (f 5) (X 23) (zre f) := xr
  have xt : zA (4 * f 7) (X 24) (ztm f) := xt
  have m0 : M 4 0 = zi (f 0) := zM4 hM (by decide)
  have m1 : M 4 1 = zi (f 1) := zM4 hM (by decide)
  have m2 : M 4 2 = zi (f 2) := zM4 hM (by decide)
  have m3 : M 4 3 = zi (f 3) := zM4 hM (by decide)
  have m4 : M 4 4 = zi (f 4) := zM4 hM (by decide)
  have m5 : M 4 5 = zi (f 5) := zM4 hM (by decide)
  have m6 : M 4 6 = zi (f 6) := zM4 hM (by decide)
  have m7 : M 4 7 = zi (f 7) := zM4 hM (by decide)
  obtain ⟨a, ra, rfl⟩ := zi_ex v1
  obtain ⟨b, rb, rfl⟩ := zi_ex v2
  obtain ⟨w, rw', rfl⟩ := zi_ex v3
  have M8 : ∀ (K : Int32 → (Nat → Nat → Int32) → Prop), (¬ ((0 ≤ a ∧ a < b ∧ b < f 4) ∧ (0 ≤ w ∧ w ≤ 1)) → K (-1000001 : Int32) (va_up M 0 (upd (M 0) 0 0))) → ((0 ≤ a ∧ a < b ∧ b < f 4) ∧ (0 ≤ w ∧ w ≤ 1) → (∀ s D, zFit f D → (w = 1 → K (zi (D a b)) (va_up (va_up M 0 (upd (M 0) 0 0)) 9 s)) ∧ (w = 0 → K (zi (-(D b a))) (va_up (va_up M 0 (upd (M 0) 0 0)) 9 s))) ∧ ((¬ ∃ p, zsol f p) → ∀ s, K (-1000000 : Int32) (va_up (va_up M 0 (upd (M 0) 0 0)) 9 s))) → wp_X8_ends M (zi a) (zi b) (zi w) K := by
    intro K k1 k2
    unfold wp_X8_ends
    refine s8_isStone m4 (by omega) ra (fun c1 => by1' (s8_isStone m4 (by omega) rb (fun c2 => by1' ?_) (fun c2 => by0' (k1 (by omega))))) (fun c1 => by0' (k1 (by omega)))
    rw [zi_le rb ra]
    refine ⟨fun c3 => k1 (by omega), fun c3 => s_in (a := w) (l := 0) (u := 1) (z64 rw') rfl rfl (fun c4 => by1 ?_) (fun c4 => by0 (k1 (by omega)))⟩
    obtain ⟨k3, k4⟩ := k2 (by omega)
    refine m_layMost hok0 hM (fun s D hs hD => by1 ?_) (fun s hs => by0 (k4 hs s))
    obtain ⟨k5, k6⟩ := k3 s D hD
    rw [zq7, zi_mul, zi_mul, zi_add, zi_add, hs.at (by omega) (by omega), hs.at (by omega) (by omega), zi_neg, show (zi w = 0) = (w = 0) from zi_eq (b := 0) (by omega) (by decide)]
    exact ⟨fun d => ⟨zi_in (by omega), k5 (by omega)⟩, fun d => ⟨zi_in (by omega), k6 d⟩⟩
  have scr : ∀ c48 c9, nz_Rel (va_up X 48 c48) (va_up (va_up M 0 (upd (M 0) 0 0)) 9 c9) := fun c48 c9 => hR0.scr (fun i hi => zup1 (by omega)) (fun i h1 h8 h9 h10 => (zup1 (by omega)).trans (zup1 (by omega)))
  have MB : ¬ ((0 ≤ a ∧ a < b ∧ b < f 4) ∧ (0 ≤ w ∧ w ≤ 1)) → wp_X8_ends M (zi a) (zi b) (zi w) (fun r1 M1 => (-1000001 : Int32) = r1 ∧ nz_Rel X M1) := fun h => M8 _ (fun _ => ⟨rfl, hR0.th⟩) (fun q => absurd q h)
  unfold wp_X7_ends wX_X5_isPair_16 wX_X7_isAmong wX_X3_fit_47_16
  refine s5_isPair x6 (by omega) ra rb (fun c1 => by1' (s_among (a := w) (l := 0) (u := 1) rfl rfl rfl (by omega) (fun c2 => by1 ?_) (fun c2 => by0 (MB (by omega))))) (fun c1 => by0' (MB (by omega)))
  rw [x1, x6, x8]
  refine x_fit hok0 xt (fun s D hs hD => by1 ?_) (fun s hs => by0 (M8 _ (fun q => absurd ⟨c1, c2⟩ q) (fun _ => ⟨fun s' D' hD' => absurd (hD'.some hok0) hs, fun _ _ => ⟨rfl, scr _ _⟩⟩)))
  have e1 : zN (f 4) a := by omega
  have e2 : zN (f 4) b := by omega
  rw [show (zi w = 0) = (w = 0) from zi_eq (b := 0) (by omega) (by decide)]
  refine ⟨fun d => ?_, fun d => ?_⟩
  · show wp_X3_most s (zi a) (zi b) _
    unfold wp_X3_most
    rw [zq6, zi_mul, zi_add, hs.at (by omega) e1 e2]
    refine ⟨zi_in (by omega), M8 _ (fun q => absurd ⟨c1, c2⟩ q) (fun _ => ⟨fun s' D' hD' => ⟨fun _ => ⟨by rw [hD.eq hD' e1 e2], scr _ _⟩, fun q => absurd q d⟩, fun q => absurd (hD.some hok0) q⟩)⟩
  · show wp_X3_least s (zi a) (zi b) _
    unfold wp_X3_least
    rw [zq6, zi_mul, zi_add, hs.at (by omega) e2 e1, zi_neg]
    refine ⟨zi_in (by omega), M8 _ (fun q => absurd ⟨c1, c2⟩ q) (fun _ => ⟨fun s' D' hD' => ⟨fun q => absurd d (by omega), fun _ => ⟨by rw [hD.eq hD' e2 e1], scr _ _⟩⟩, fun q => absurd (hD.some hok0) q⟩)⟩
def zw1 (D : Int → Int → Int) (a : Int) : Nat → Int → Int × Int → Int × Int
  | 0, _, s => s
  | k + 1, b, s => zw1 D a k (b + 1) (if s.2 < D a b + D b a then (6 * a + b, D a b + D b a) else s)
def zw0 (D : Int → Int → Int) (n : Int) : Nat → Int → Int × Int → Int × Int
  | 0, _, s => s
  | k + 1, a, s => zw0 D n k (a + 1) (zw1 D a (n - (a + 1)).toNat (a + 1) s)
theorem x_widest {n : Int} {s : Nat → Int32} {D : Int → Int → Int} {K : Int32 → Prop} (hn : 0 ≤ n ∧ n ≤ 6) (hs : zD6 n s D) (hr : ∀ a b : Int, zN n a → zN n b → -200 ≤ D a b ∧ D a b ≤ 200) (hK : K (zi (zw0 D n n.toNat 0 (-1000000, -1)).1)) : wp_X3_widestPair s (zi n) K := by
  unfold wp_X3_widestPair
  refine nz_l3 (fun k x2 x3 x4 => ∃ (a : Int) (t : Int × Int), x2 = zi t.1 ∧ x3 = zi t.2 ∧ x4 = zi a ∧ (0 ≤ a ∧ a ≤ n) ∧ k = (n - a).toNat ∧ (-1 ≤ t.2 ∧ t.2 ≤ 400) ∧ zw0 D n k a t = zw0 D n n.toNat 0 (-1000000, -1)) ?_ (k := (n - 0).toNat) ⟨0, (-1000000, -1), rfl, rfl, rfl, by omega, rfl, by decide, by rw [Int.sub_zero]⟩
  rintro k R _ _ _ ⟨a, t, rfl, rfl, rfl, ha, hk, ht, he⟩ next
  unfold S_X3_widestPair_8
  rw [zi_le (by omega) (by omega)]
  refine ⟨fun c => ?_, fun c => ?_⟩
  · obtain rfl : k = 0 := by omega
    rw [← he] at hK
    exact hK
  obtain ⟨k, rfl⟩ : ∃ i, k = i + 1 := ⟨k - 1, by omega⟩
  rw [zq1, zi_add]
  refine nz_l3 (fun j x2 x3 x5 => ∃ (b : Int) (u : Int × Int), x2 = zi u.1 ∧ x3 = zi u.2 ∧ x5 = zi b ∧ (a < b ∧ b ≤ n) ∧ j = (n - b).toNat ∧ (-1 ≤ u.2 ∧ u.2 ≤ 400) ∧ zw1 D a j b u = zw1 D a (n - (a + 1)).toNat (a + 1) t) ?_ (k := (n - (a + 1)).toNat) ⟨a + 1, t, rfl, rfl, rfl, by omega, rfl, ht, rfl⟩
  rintro j R1 _ _ _ ⟨b, u, rfl, rfl, rfl, hb, hj, hu, hw⟩ next1
  unfold S_X3_widestPair_20
  rw [zi_le (by omega) (by omega)]
  refine ⟨fun e => ?_, fun e => ?_⟩
  · obtain rfl : j = 0 := by omega
    have hw : u = zw1 D a (n - (a + 1)).toNat (a + 1) t := hw
    refine next k _ _ _ rfl ⟨a + 1, u, rfl, rfl, by rw [zq1, zi_add], by omega, by omega, hu, ?_⟩
    rw [hw]
    exact he
  obtain ⟨j, rfl⟩ : ∃ i, j = i + 1 := ⟨j - 1, by omega⟩
  have na : zN n a := by omega
  have nb : zN n b := by omega
  have r1 := hr a b na nb
  have r2 := hr b a nb na
  unfold wp_X3_most wp_X3_least
  rw [zq6, zi_mul, zi_add, zi_mul, zi_add, hs.at (by omega) na nb, hs.at (by omega) nb na, zi_neg]
  dsimp only
  rw [zi_sub, zi_le (by omega) (by omega), zi_mul, zi_add, zq1, zi_add]
  refine ⟨zi_in (by omega), zi_in (by omega), fun g => ?_, fun g => ⟨zi_in (by omega), zi_in (by omega), ?_⟩⟩
  · refine next1 j _ _ _ rfl ⟨b + 1, u, rfl, rfl, rfl, by omega, by omega, hu, ?_⟩
    have : zw1 D a (j + 1) b u = zw1 D a j (b + 1) (if u.2 < D a b + D b a then (6 * a + b, D a b + D b a) else u) := rfl
    rw [this, if_neg (by omega)] at hw
    exact hw
  · refine next1 j _ _ _ rfl ⟨b + 1, (6 * a + b, D a b + D b a), rfl, ?_, rfl, by omega, by omega, ?_, ?_⟩
    · show _ = zi (D a b + D b a)
      congr 1
      omega
    · show -1 ≤ D a b + D b a ∧ D a b + D b a ≤ 400
      omega
    · have : zw1 D a (j + 1) b u = zw1 D a j (b + 1) (if u.2 < D a b + D b a then (6 * a + b, D a b + D b a) else u) := rfl
      rw [this, if_pos (by omega)] at hw
      exact hw
theorem m_widest {M : Nat → Nat → Int32} {s : Nat → Int32} {D : Int → Int → Int} {n : Int} {K : Int32 → (Nat → Nat → Int32) → Prop} (e4 : M 4 4 = zi n) (hn : 0 ≤ n ∧ n ≤ 6) (hs : ∀ a b : Int, zN n a → zN n b → s (zi (7 * a + b)).toNatClampNeg = zi (D a b)) (hr : ∀ a b : Int, zN n a → zN n b → -200 ≤ D a b ∧ D a b ≤ 200) (hK : K (zi (zw0 D n n.toNat 0 (-1000000, -1)).1) (va_up (va_up M 0 (upd (M 0) 0 0)) 9 s)) : ∃ i, nz_it (fun _ _ _ => False) (S_X8_widest_32 M 0 s K) i (-1000000 : Int32) (-1 : Int32) 0 := by
  refine nz_l3 (fun k x2 x3 x4 => ∃ (a : Int) (t : Int × Int), x2 = zi t.1 ∧ x3 = zi t.2 ∧ x4 = zi a ∧ (0 ≤ a ∧ a ≤ n) ∧ k = (n - a).toNat ∧ (-1 ≤ t.2 ∧ t.2 ≤ 400) ∧ zw0 D n k a t = zw0 D n n.toNat 0 (-1000000, -1)) ?_ (k := (n - 0).toNat) ⟨0, (-1000000, -1), rfl, rfl, rfl, by omega, rfl, by decide, by rw [Int.sub_zero]⟩
  rintro k R _ _ _ ⟨a, t, rfl, rfl, rfl, ha, hk, ht, he⟩ next
  unfold S_X8_widest_32
  rw [e4, zi_le (by omega) (by omega)]
  refine ⟨fun c => ?_, fun c => ?_⟩
  · obtain rfl : k = 0 := by omega
    rw [← he] at hK
    exact hK
  obtain ⟨k, rfl⟩ : ∃ i, k = i + 1 := ⟨k - 1, by omega⟩
  rw [zq1, zi_add]
  refine nz_l3 (fun j x2 x3 x5 => ∃ (b : Int) (u : Int × Int), x2 = zi u.1 ∧ x3 = zi u.2 ∧ x5 = zi b ∧ (a < b ∧ b ≤ n) ∧ j = (n - b).toNat ∧ (-1 ≤ u.2 ∧ u.2 ≤ 400) ∧ zw1 D a j b u = zw1 D a (n - (a + 1)).toNat (a + 1) t) ?_ (k := (n - (a + 1)).toNat) ⟨a + 1, t, rfl, rfl, rfl, by omega, rfl, ht, rfl⟩
  rintro j R1 _ _ _ ⟨b, u, rfl, rfl, rfl, hb, hj, hu, hw⟩ next1
  unfold S_X8_widest_47
  rw [e4, zi_le (by omega) (by omega)]
  refine ⟨fun e => ?_, fun e => ?_⟩
  · obtain rfl : j = 0 := by omega
    have hw : u = zw1 D a (n - (a + 1)).toNat (a + 1) t := hw
    refine next k _ _ _ rfl ⟨a + 1, u, rfl, rfl, by rw [zq1, zi_add], by omega, by omega, hu, ?_⟩
    rw [hw]
    exact he
  obtain ⟨j, rfl⟩ : ∃ i, j = i + 1 := ⟨j - 1, by omega⟩
  have na : zN n a := by omega
  have nb : zN n b := by omega
  have r1 := hr a b na nb
  have r2 := hr b a nb na
  unfold S_X8_widest_102
  rw [zq7, zi_mul, zi_add, zi_mul, zi_add, hs a b na nb, hs b a nb na, zi_add, zi_le (by omega) (by omega), zq6, zi_mul, zi_add, zq1, zi_add]
  refine ⟨zi_in (by omega), zi_in (by omega), fun g => ⟨fun _ => ?_, fun z => absurd g z⟩, fun g => ⟨fun z => absurd z g, fun _ => ?_⟩⟩
  · refine next1 j _ _ _ rfl ⟨b + 1, u, rfl, rfl, rfl, by omega, by omega, hu, ?_⟩
    have : zw1 D a (j + 1) b u = zw1 D a j (b + 1) (if u.2 < D a b + D b a then (6 * a + b, D a b + D b a) else u) := rfl
    rw [this, if_neg (by omega)] at hw
    exact hw
  · refine next1 j _ _ _ rfl ⟨b + 1, (6 * a + b, D a b + D b a), rfl, rfl, rfl, by omega, by omega, ?_, ?_⟩
    · show -1 ≤ D a b + D b a ∧ D a b + D b a ≤ 400
      omega
    · have : zw1 D a (j + 1) b u = zw1 D a j (b + 1) (if u.2 < D a b + D b a then (6 * a + b, D a b + D b a) else u) := rfl
      rw [this, if_pos (by omega)] at hw
      exact hw
theorem pub_widest {X M : Nat → Nat → Int32} (hR : nz_Rel X M) : wp_X7_widest X (fun r X1 => wp_X8_widest M (fun r1 M1 => r = r1 ∧ nz_Rel X1 M1)) := by
  have hR0 := hR
  obtain ⟨hRD, hRW, hTP, hTR, hla, hst⟩ := hR
  obtain ⟨f, g0, g1, W, k, hM, hok, hX, hI0, hI1, hW, hac, hk, hk8⟩ := hRD
  have hok0 := hok
  obtain ⟨ol, of', os, ofi, ons, onm, onn, ont, oz, oten, ost, oso, omv, otm⟩ := hok
  have hX0 := hX
  obtain ⟨x0, x1, x2, x3, x4, x5, x6, x7, x8, xs, xa, xh, xk, xw, xy, xr, xt⟩ := hX
  have xs : zA (f 4) (X 17) (zsay f) := xs
  have xa : zA (f 4) (X 18) (zat f) := xa
  have xh : zA (f 4) (X 19) (zho f) := xh
  have xk : zA (f 5) (X 20) (zkd f) := xk
  have xw : zA (f 5) (X 21) (zwh f) := xw
  have xy : zA (f 5) (X 22) (zwy f) := xy
  have xr : zA (f 5) (X 23) (zre f) := xr
  have xt : zA (4 * f 7) (X 24) (ztm f) := xt
  have m0 : M 4 0 = zi (f 0) := zM4 hM (by decide)
  have m1 : M 4 1 = zi (f 1) := zM4 hM (by decide)
  have m2 : M 4 2 = zi (f 2) := zM4 hM (by decide)
  have m3 : M 4 3 = zi (f 3) := zM4 hM (by decide)
  have m4 : M 4 4 = zi (f 4) := zM4 hM (by decide)
  have m5 : M 4 5 = zi (f 5) := zM4 hM (by decide)
  have m6 : M 4 6 = zi (f 6) := zM4 hM (by decide)
  have m7 : M 4 7 = zi (f 7) := zM4 hM (by decide)
  have scr : ∀ c48 c9, nz_Rel (va_up X 48 c48) (va_up (va_up M 0 (upd (M 0) 0 0)) 9 c9) := fun c48 c9 => hR0.scr (fun i hi => zup1 (by omega)) (fun i h1 h8 h9 h10 => (zup1 (by omega)).trans (zup1 (by omega)))
  have M8 : ∀ (K : Int32 → (Nat → Nat → Int32) → Prop), (f 0 ≤ 0 → K (-1000002 : Int32) (va_up M 0 (upd (M 0) 0 0))) → (0 < f 0 → (∀ D, zFit f D → ∀ s, K (zi (zw0 D (f 4) (f 4).toNat 0 (-1000000, -1)).1) (va_up (va_up M 0 (upd (M 0) 0 0)) 9 s)) ∨ ¬ ∃ p, zsol f p) → (0 < f 0 → (¬ ∃ p, zsol f p) → ∀ s, K (-1000000 : Int32) (va_up (va_up M 0 (upd (M 0) 0 0)) 9 s)) → wp_X8_widest M K := by
    intro K k1 k2 k3
    unfold wp_X8_widest wp_X8_isThere
    rw [m0, show (zi (f 0) ≤ 0) = (f 0 ≤ 0) from zi_le (b := 0) (by omega) (by decide)]
    refine ⟨fun d => by0 (k1 d), fun d => by1 (m_layMost hok0 hM (fun s D hs hD => by1 ?_) (fun s hs => by0 (k3 (by omega) hs s)))⟩
    rcases k2 (by omega) with k2 | k2
    · exact m_widest m4 (by omega) (fun a b ha hb => hs.at (by omega) (by omega)) (fun a b ha hb => hD.rg hok0 ha hb) (k2 D hD s)
    · exact absurd (hD.some hok0) k2
  unfold wp_X7_widest wX_X3_fit_47_16
  refine ⟨fun c0 => ?_, fun c0 => ?_⟩
  · have c0 : 0 < f 0 := by
      apply Classical.byContradiction
      intro z
      rw [x0, if_neg z] at c0
      exact c0 rfl
    rw [x1, x6, x8]
    refine x_fit hok0 xt (fun s D hs hD => by1 ?_) (fun s hs => by0 (M8 _ (fun q => absurd q (by omega)) (fun _ => Or.inr hs) (fun _ _ _ => ⟨rfl, scr _ _⟩)))
    show wp_X3_widestPair s (X 16 6) _
    rw [x6]
    refine x_widest (by omega) hs (fun a b ha hb => hD.rg hok0 ha hb) (M8 _ (fun q => absurd q (by omega)) (fun _ => Or.inl (fun E hE s' => ⟨?_, scr _ _⟩)) (fun _ q => absurd (hD.some hok0) q))
    have e : ∀ a b : Int, zN (f 4) a → zN (f 4) b → D a b = E a b := fun a b ha hb => hD.eq hE ha hb
    have w1 : ∀ (a : Int) (j : Nat) (b : Int) (u : Int × Int), zN (f 4) a → 0 ≤ b → b + j ≤ f 4 → zw1 D a j b u = zw1 E a j b u := by
      intro a j
      induction j with
      | zero => intro b u _ _ _; rfl
      | succ j ih =>
        intro b u ha hb hj
        show zw1 D a j (b + 1) _ = zw1 E a j (b + 1) _
        rw [e a b ha (by omega), e b a (by omega) ha]
        exact ih (b + 1) _ ha (by omega) (by omega)
    have w0 : ∀ (k : Nat) (a : Int) (t : Int × Int), 0 ≤ a → a + k ≤ f 4 → zw0 D (f 4) k a t = zw0 E (f 4) k a t := by
      intro k
      induction k with
      | zero => intro a t _ _; rfl
      | succ k ih =>
        intro a t ha hk
        show zw0 D (f 4) k (a + 1) _ = zw0 E (f 4) k (a + 1) _
        rw [w1 a _ (a + 1) t (by omega) (by omega) (by omega)]
        exact ih (a + 1) _ (by omega) (by omega)
    rw [w0 (f 4).toNat 0 _ (by omega) (by omega)]
  · refine M8 _ (fun _ => ⟨rfl, hR0.th⟩) (fun q => ?_) (fun q => ?_)
    · rw [x0, zth q] at c0
      exact absurd c0 (by decide)
    · rw [x0, zth q] at c0
      exact absurd c0 (by decide)
