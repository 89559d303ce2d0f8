def zun (s : Int) : Nat → Int
  | 0 => 1000000
  | k + 1 => zun s k / 100 * (100 - s)
theorem zun_rg {s : Int} (hs : 0 ≤ s ∧ s ≤ 100) : ∀ k : Nat, 0 ≤ zun s k ∧ zun s k ≤ 1000000
  | 0 => by
    show (0 : Int) ≤ 1000000 ∧ (1000000 : Int) ≤ 1000000
    decide
  | k + 1 => by
    have := zun_rg hs k
    show 0 ≤ zun s k / 100 * (100 - s) ∧ zun s k / 100 * (100 - s) ≤ 1000000
    have h1 : 0 ≤ zun s k / 100 * (100 - s) := Int.mul_nonneg (by omega) (by omega)
    have h2 : zun s k / 100 * (100 - s) ≤ 10000 * 100 := Int.mul_le_mul (by omega) (by omega) (by omega) (by omega)
    omega
def zpo (v : Int) : Nat → Int
  | 0 => 1
  | k + 1 => zpo v k * v
theorem zun_po {s : Int} : ∀ d, d ≤ 3 → zun s d = zpo (100 - s) d * zpo 100 (3 - d) := by
  intro d hd
  have h0 : zun s 0 = 1000000 := rfl
  have h1 : zun s 1 = 10000 * (100 - s) := rfl
  have h2 : zun s 2 = 100 * ((100 - s) * (100 - s)) := by
    show zun s 1 / 100 * (100 - s) = _
    rw [h1, show 10000 * (100 - s) / 100 = 100 * (100 - s) by omega, Int.mul_assoc]
  have h3 : zun s 3 = (100 - s) * (100 - s) * (100 - s) := by
    show zun s 2 / 100 * (100 - s) = _
    rw [h2, Int.mul_ediv_cancel_left _ (by decide)]
  have p1 : zpo (100 - s) 1 = 100 - s := Int.one_mul _
  have p2 : zpo (100 - s) 2 = (100 - s) * (100 - s) := by
    show zpo (100 - s) 1 * (100 - s) = _
    rw [p1]
  have p3 : zpo (100 - s) 3 = (100 - s) * (100 - s) * (100 - s) := by
    show zpo (100 - s) 2 * (100 - s) = _
    rw [p2]
  rcases (show d = 0 ∨ d = 1 ∨ d = 2 ∨ d = 3 by omega) with rfl | rfl | rfl | rfl
  · rfl
  · rw [h1, p1]
    show _ = (100 - s) * 10000
    omega
  · rw [h2, p2]
    show _ = (100 - s) * (100 - s) * 100
    rw [Int.mul_comm]
  · rw [h3, p3]
    show _ = (100 - s) * (100 - s) * (100 - s) * 1
    rw [Int.mul_one]
def zmn (s fi fee d : Int) : Int := zun s d.toNat * fee * d - (1000000 - zun s d.toNat) * fi
theorem zmn_rg {s fi fee d : Int} (hs : 0 ≤ s ∧ s ≤ 100) (hf : 0 ≤ fi ∧ fi ≤ 99) (he : 0 ≤ fee ∧ fee ≤ 20) (hd : 0 ≤ d ∧ d ≤ 3) : -99000000 ≤ zmn s fi fee d ∧ zmn s fi fee d ≤ 60000000 := by
  have hu := zun_rg hs d.toNat
  unfold zmn
  have h1 : 0 ≤ zun s d.toNat * fee := Int.mul_nonneg (by omega) (by omega)
  have h2 : zun s d.toNat * fee ≤ 1000000 * 20 := Int.mul_le_mul (by omega) (by omega) (by omega) (by omega)
  have h3 : 0 ≤ zun s d.toNat * fee * d := Int.mul_nonneg (by omega) (by omega)
  have h4 : zun s d.toNat * fee * d ≤ 20000000 * 3 := Int.mul_le_mul (by omega) (by omega) (by omega) (by omega)
  have h5 : 0 ≤ (1000000 - zun s d.toNat) * fi := Int.mul_nonneg (by omega) (by omega)
  have h6 : (1000000 - zun s d.toNat) * fi ≤ 1000000 * 99 := Int.mul_le_mul (by omega) (by omega) (by omega) (by omega)
  omega
theorem x_mean {s fi fee d : Int} {r3 r4 : Int32} {K : Int32 → Prop} (h3 : r3 = zi s) (h4 : r4 = zi fi) (hs : 0 ≤ s ∧ s ≤ 100) (hd : 0 ≤ d ∧ d ≤ 3) (hK : K (zi (zmn s fi fee d))) : wp_X2_meanInMillionths r3 r4 (zi fee) (zi d) K := by
  unfold wp_X2_meanInMillionths
  rw [h3, h4]
  refine nz_l2 (fun j x3 x4 => ∃ i : Nat, x3 = zi (zun s i) ∧ x4 = zi i ∧ (i : Int) ≤ d ∧ j = d.toNat - i) ?_ (k := d.toNat - 0) ⟨0, rfl, rfl, by omega, rfl⟩
  rintro j R _ _ ⟨i, rfl, rfl, hi, hj⟩ next
  have hu := zun_rg hs i
  unfold S_X2_meanInMillionths_6
  rw [zi_le (by omega) (by omega)]
  refine ⟨fun c => ?_, fun c => ?_⟩
  · have e : d.toNat = i := by omega
    unfold zmn at hK
    rw [e] at hK
    rw [zi_mul, zi_mul, zq1000000, zi_sub, zi_mul, zi_sub]
    exact hK
  · rw [zq100, zi_div (by omega) (by decide), zi_sub, zi_mul, zq1, zi_add]
    refine next (d.toNat - (i + 1)) _ _ (by omega) ⟨i + 1, ?_, rfl, by omega, rfl⟩
    rw [Int.tdiv_eq_ediv_of_nonneg hu.1]
    rfl
theorem m_timesOf {v : Int} {n : Nat} {K : Int32 → Prop} (hn : n ≤ 3) (hK : K (zi (zpo v n))) : wp_X8_timesOf (zi v) (zi n) K := by
  unfold wp_X8_timesOf
  refine nz_l2 (fun j x2 x3 => ∃ i : Nat, x2 = zi (zpo v i) ∧ x3 = zi i ∧ i ≤ n ∧ j = n - i) ?_ (k := n - 0) ⟨0, rfl, rfl, by omega, rfl⟩
  rintro j R _ _ ⟨i, rfl, rfl, hi, hj⟩ next
  unfold S_X8_timesOf_4
  rw [zi_le (by omega) (by omega)]
  refine ⟨fun c => ?_, fun c => ?_⟩
  · obtain rfl : i = n := by omega
    exact hK
  · rw [zi_mul, zq1, zi_add]
    exact next (n - (i + 1)) _ _ (by omega) ⟨i + 1, rfl, rfl, by omega, rfl⟩
theorem m_brings {f : Int → Int} {f5 : Nat → Int32} {d fee : Int} {K : Int32 → Prop} (h5 : zA 94 f5 f) (hd : 0 ≤ d ∧ d ≤ 3) (hK : K (zi (zmn (f 2) (f 3) fee d))) : wp_X8_brings f5 (zi d) (zi fee) K := by
  have e2 : f5 2 = zi (f 2) := zM4 h5 (by decide)
  have e3 : f5 3 = zi (f 3) := zM4 h5 (by decide)
  obtain ⟨n, rfl⟩ := Int.eq_ofNat_of_zero_le hd.1
  unfold wp_X8_brings
  rw [e2, e3, zq100, zi_sub, zq3, zi_sub, show (3 : Int) - (n : Int) = ((3 - n : Nat) : Int) by omega]
  refine m_timesOf (by omega) (m_timesOf (by omega) ?_)
  rw [zi_mul, ← zun_po n (by omega), zi_mul, zi_mul, zq1000000, zi_sub, zi_mul, zi_sub]
  exact hK
def zg : Nat → Int → Int → Int
  | 0, x, _ => x
  | k + 1, x, y => if y = 0 then x else zg k y (x % y)
def zen : Nat → Int → Int → Prop
  | 0, _, y => y = 0
  | k + 1, x, y => y = 0 ∨ zen k y (x % y)
theorem zen_of : ∀ (j : Nat) (x y : Int), 0 ≤ x → 0 ≤ y → y < 2 ^ j → zen (2 * j) x y
  | 0, x, y, hx, hy, h => by
    show y = 0
    omega
  | j + 1, x, y, hx, hy, h => by
    have e : (2 : Int) ^ (j + 1) = 2 * 2 ^ j := by rw [Int.pow_succ]; omega
    show y = 0 ∨ (x % y = 0 ∨ zen (2 * j) (x % y) (y % (x % y)))
    by_cases c : y = 0
    · exact Or.inl c
    · right
      by_cases d : x % y = 0
      · exact Or.inl d
      · right
        have r1 := Int.emod_nonneg x c
        have r2 := Int.emod_lt_of_pos x (show 0 < y by omega)
        have r3 := Int.emod_nonneg y d
        have r4 := Int.emod_lt_of_pos y (show 0 < x % y by omega)
        refine zen_of j _ _ r1 r3 ?_
        by_cases g : 2 * (x % y) ≤ y
        · omega
        · have : y % (x % y) = y - x % y := by
            rw [← Int.sub_emod_right, Int.emod_eq_of_lt (by omega) (by omega)]
          omega
theorem zg_pos : ∀ (k : Nat) (x y : Int), zen k x y → 0 ≤ x ∧ x ≤ 100000000 → 0 ≤ y ∧ y ≤ 100000000 → (0 < x ∨ 0 < y) → 0 < zg k x y ∧ zg k x y ≤ 100000000
  | 0, x, y, h, hx, hy, hp => by
    have h : y = 0 := h
    show 0 < x ∧ x ≤ 100000000
    omega
  | k + 1, x, y, h, hx, hy, hp => by
    show 0 < (if y = 0 then x else zg k y (x % y)) ∧ (if y = 0 then x else zg k y (x % y)) ≤ 100000000
    by_cases c : y = 0
    · rw [if_pos c]
      omega
    · rw [if_neg c]
      have r1 := Int.emod_nonneg x c
      have r2 := Int.emod_lt_of_pos x (show 0 < y by omega)
      rcases h with h | h
      · exact absurd h c
      · exact zg_pos k y (x % y) h (by omega) (by omega) (by omega)
theorem zi_mod {x y : Int} (hx : 0 ≤ x ∧ x ≤ 100000000) (hy : 0 < y ∧ y ≤ 100000000) : zi x - zi x / zi y * zi y = zi (x % y) := by
  rw [zi_div (by omega) (by omega), zi_mul, zi_sub, Int.tdiv_eq_ediv_of_nonneg hx.1]
  congr 1
  rw [Int.emod_def, Int.mul_comm]
theorem x_shared {x y : Int} {K : Int32 → Prop} (hx : 0 ≤ x ∧ x ≤ 100000000) (hy : 0 ≤ y ∧ y ≤ 100000000) (hK : K (zi (zg 64 x y))) : wp_X2_sharedDivisor (zi x) (zi y) K := by
  unfold wp_X2_sharedDivisor
  refine nz_l3 (fun j x2 x3 x4 => ∃ a b : Int, x2 = zi a ∧ x3 = zi b ∧ x4 = zi (64 - (j : Int)) ∧ j ≤ 64 ∧ (0 ≤ a ∧ a ≤ 100000000) ∧ (0 ≤ b ∧ b ≤ 100000000) ∧ zg j a b = zg 64 x y) ?_ (k := 64) ⟨x, y, rfl, rfl, rfl, Nat.le_refl _, hx, hy, rfl⟩
  rintro j R _ _ _ ⟨a, b, rfl, rfl, rfl, hj, ha, hb, he⟩ next
  unfold S_X2_sharedDivisor_7
  rw [zq64, zi_le (by decide) (by omega), show (zi b = 0) = (b = 0) from zi_eq (b := 0) (by omega) (by decide)]
  refine ⟨fun c => ?_, fun c => ⟨fun d => ?_, fun d => ⟨d, ?_⟩⟩⟩
  · obtain rfl : j = 0 := by omega
    have he : a = _ := he
    rw [he]
    exact hK
  · obtain ⟨j, rfl⟩ : ∃ i, j = i + 1 := ⟨j - 1, by omega⟩
    have he : (if b = 0 then a else zg j b (a % b)) = _ := he
    rw [if_pos d] at he
    rw [he]
    exact hK
  · obtain ⟨j, rfl⟩ : ∃ i, j = i + 1 := ⟨j - 1, by omega⟩
    have he : (if b = 0 then a else zg j b (a % b)) = _ := he
    rw [if_neg d] at he
    have r1 := Int.emod_nonneg a d
    have r2 := Int.emod_lt_of_pos a (show 0 < b by omega)
    rw [zi_mod ha (by omega), zq1, zi_add]
    exact next j _ _ _ rfl ⟨b, a % b, rfl, rfl, by congr 1; omega, by omega, by omega, by omega, he⟩
theorem m_dareLoop {M : Nat → Nat → Int32} {w x u : Int} {K : Int32 → (Nat → Nat → Int32) → Prop} (hx : 0 ≤ x ∧ x ≤ 100000000) (hw : 0 ≤ w ∧ w ≤ 1) (hK : 0 < zg 64 x 1000000 → (w = 1 → K (1000000 / zi (zg 64 x 1000000)) (va_up M 0 (upd (M 0) 0 0))) ∧ (w = 0 → K (zi u / zi (zg 64 x 1000000)) (va_up M 0 (upd (M 0) 0 0)))) : ∃ n, nz_it (fun _ _ => False) (S_X8_dare_68 M (zi w) (zi u) 0 K) n (zi x) 1000000 := by
  have hz := zen_of 32 x 1000000 hx.1 (by decide) (by decide)
  obtain ⟨k1, k2⟩ := hK (zg_pos 64 x 1000000 hz hx (by decide) (by omega)).1
  refine nz_l2 (fun j x2 x3 => ∃ a b : Int, x2 = zi a ∧ x3 = zi b ∧ (0 ≤ a ∧ a ≤ 100000000) ∧ (0 ≤ b ∧ b ≤ 100000000) ∧ (0 < a ∨ 0 < b) ∧ zen j a b ∧ zg j a b = zg 64 x 1000000) ?_ (k := 64) ⟨x, 1000000, rfl, rfl, hx, by decide, by omega, hz, rfl⟩
  rintro j R _ _ ⟨a, b, rfl, rfl, ha, hb, hp, hz, he⟩ next
  unfold S_X8_dare_68
  rw [show (zi b = 0) = (b = 0) from zi_eq (b := 0) (by omega) (by decide), show (zi w = 0) = (w = 0) from zi_eq (b := 0) (by omega) (by decide), show (zi a = 0) = (a = 0) from zi_eq (b := 0) (by omega) (by decide)]
  have fin : b = 0 → a = zg 64 x 1000000 := fun d => by
    rcases j with _ | j
    · exact he
    · have he : (if b = 0 then a else zg j b (a % b)) = _ := he
      rw [if_pos d] at he
      exact he
  refine ⟨fun d => ⟨fun g => ⟨by omega, ?_⟩, fun g => ⟨by omega, ?_⟩⟩, fun d => ⟨d, ?_⟩⟩
  · rw [fin d]
    exact k1 (by omega)
  · rw [fin d]
    exact k2 g
  · rcases j with _ | j
    · exact absurd hz d
    · have he : (if b = 0 then a else zg j b (a % b)) = _ := he
      rw [if_neg d] at he
      have r1 := Int.emod_nonneg a d
      have r2 := Int.emod_lt_of_pos a (show 0 < b by omega)
      rw [zi_mod ha (by omega)]
      rcases hz with hz | hz
      · exact absurd hz d
      · exact next j _ _ rfl ⟨b, a % b, rfl, rfl, by omega, by omega, by omega, hz, he⟩
def zab (x : Int) : Int := if 0 ≤ x then x else 0 - x
theorem pub_dare {X M : Nat → Nat → Int32} (hR : nz_Rel X M) (v1 : Int32) (v2 : Int32) : wp_X7_dare X v1 v2 (fun r X1 => wp_X8_dare M v1 v2 (fun r1 M1 => r = r1 ∧ nz_Rel X1 M1)) := by
  have hR0 := hR
  obtain ⟨hRD, hRW, hTP, hTR, hla, hst⟩ := hR
  obtain ⟨f, g0, g1, W, k, hM, hok, hX, hI0, hI1, hW, hac, hk, hk8⟩ := hRD
  have hok0 := hok
  obtain ⟨ol, of', os, ofi, ons, onm, onn, ont, oz, oten, ost, oso, omv, otm⟩ := hok
  have hX0 := hX
  obtain ⟨x0, x1, x2, x3, x4, x5, x6, x7, x8, xs, xa, xh, xk, xw, xy, xr, xt⟩ := hX
  have xs : zA (f 4) (X 17) (zsay f) := xs
  have xa : zA (f 4) (X 18) (zat f) := xa
  have xh : zA (f 4) (X 19) (zho f) := xh
  have xk : zA (f 5) (X 20) (zkd f) := xk
  have xw : zA (f 5) (X 21) (zwh f) := xw
  have xy : zA (f 5) (X 22) (zwy f) := xy
  have xr : zA (f 5) (X 23) (zre f) := xr
  have xt : zA (4 * f 7) (X 24) (ztm f) := xt
  have m0 : M 4 0 = zi (f 0) := zM4 hM (by decide)
  have m1 : M 4 1 = zi (f 1) := zM4 hM (by decide)
  have m2 : M 4 2 = zi (f 2) := zM4 hM (by decide)
  have m3 : M 4 3 = zi (f 3) := zM4 hM (by decide)
  have m4 : M 4 4 = zi (f 4) := zM4 hM (by decide)
  have m5 : M 4 5 = zi (f 5) := zM4 hM (by decide)
  have m6 : M 4 6 = zi (f 6) := zM4 hM (by decide)
  have m7 : M 4 7 = zi (f 7) := zM4 hM (by decide)
  obtain ⟨d, rd, rfl⟩ := zi_ex v1
  obtain ⟨w, rw', rfl⟩ := zi_ex v2
  have M8 : ∀ (K : Int32 → (Nat → Nat → Int32) → Prop), (f 0 ≤ 0 → K (-1000002 : Int32) (va_up M 0 (upd (M 0) 0 0))) → (0 < f 0 → ¬ ((0 ≤ d ∧ d ≤ 3) ∧ (0 ≤ w ∧ w ≤ 1)) → K (-1000001 : Int32) (va_up M 0 (upd (M 0) 0 0))) → (0 < f 0 → (0 ≤ d ∧ d ≤ 3) ∧ (0 ≤ w ∧ w ≤ 1) → 0 < zg 64 (zab (zmn (f 2) (f 3) (f 1) d)) 1000000 → (w = 1 → K (1000000 / zi (zg 64 (zab (zmn (f 2) (f 3) (f 1) d)) 1000000)) (va_up M 0 (upd (M 0) 0 0))) ∧ (w = 0 → K (zi (zmn (f 2) (f 3) (f 1) d) / zi (zg 64 (zab (zmn (f 2) (f 3) (f 1) d)) 1000000)) (va_up M 0 (upd (M 0) 0 0)))) → wp_X8_dare M (zi d) (zi w) K := by
    intro K k1 k2 k3
    unfold wp_X8_dare wp_X8_isThere
    rw [m0, show (zi (f 0) ≤ 0) = (f 0 ≤ 0) from zi_le (b := 0) (by omega) (by decide), m1]
    refine ⟨fun e => by0 (k1 e), fun e => by1 (s_in (a := d) (l := 0) (u := 3) (z64 rd) rfl rfl (fun c1 => by1' (s_in (a := w) (l := 0) (u := 1) (z64 rw') rfl rfl (fun c2 => by1 (m_brings hM c1 ?_)) (fun c2 => by0 (k2 (by omega) (by omega))))) (fun c1 => by0' (k2 (by omega) (by omega))))⟩
    have rg := zmn_rg (fee := f 1) os ofi of' c1
    have k3 := k3 (by omega) ⟨c1, c2⟩
    rw [show (0 ≤ zi (zmn (f 2) (f 3) (f 1) d)) = (0 ≤ zmn (f 2) (f 3) (f 1) d) from zi_le (a := 0) (by decide) (by omega)]
    unfold zab at k3
    refine ⟨fun g => ?_, fun g => ?_⟩
    · rw [if_pos g] at k3
      exact m_dareLoop (by omega) c2 k3
    · rw [if_neg g, Int.zero_sub] at k3
      rw [zi_neg]
      exact m_dareLoop (by omega) c2 k3
  unfold wp_X7_dare wX_X7_isAmong wX_X2_meanInMillionths_16 wX_X2_sharedDivisor
  refine ⟨fun c0 => ?_, fun c0 => ?_⟩
  · have c0 : 0 < f 0 := by
      apply Classical.byContradiction
      intro z
      rw [x0, if_neg z] at c0
      exact c0 rfl
    have MB : ¬ ((0 ≤ d ∧ d ≤ 3) ∧ (0 ≤ w ∧ w ≤ 1)) → wp_X8_dare M (zi d) (zi w) (fun r1 M1 => (-1000001 : Int32) = r1 ∧ nz_Rel X M1) := fun h => M8 _ (fun q => absurd q (by omega)) (fun _ _ => ⟨rfl, hR0.th⟩) (fun _ q => absurd q h)
    refine s_among (a := d) (l := 0) (u := 3) rfl rfl rfl (by omega) (fun c1 => by1' (s_among (a := w) (l := 0) (u := 1) rfl rfl rfl (by omega) (fun c2 => by1 ?_) (fun c2 => by0 (MB (by omega))))) (fun c1 => by0' (MB (by omega)))
    rw [x2]
    refine x_mean x3 x4 os c1 ?_
    have rg := zmn_rg (fee := f 1) os ofi of' c1
    have ea : (if (0 : Int32) ≤ zi (zmn (f 2) (f 3) (f 1) d) then zi (zmn (f 2) (f 3) (f 1) d) else 0 - zi (zmn (f 2) (f 3) (f 1) d)) = zi (zab (zmn (f 2) (f 3) (f 1) d)) := by
      rw [zq0, zi_sub, zi_ifle (by decide) (by omega)]
      rfl
    have ra : 0 ≤ zab (zmn (f 2) (f 3) (f 1) d) ∧ zab (zmn (f 2) (f 3) (f 1) d) ≤ 100000000 := by
      unfold zab
      split <;> omega
    dsimp only
    rw [ea, zq1000000]
    refine x_shared ra (by decide) ?_
    have hg := zg_pos 64 _ 1000000 (zen_of 32 _ 1000000 ra.1 (by decide) (by decide)) ra (by decide) (by omega)
    have M9 : ∀ (K : Int32 → (Nat → Nat → Int32) → Prop), _ → wp_X8_dare M (zi d) (zi w) K := fun K h => M8 K (fun q => absurd q (by omega)) (fun _ q => absurd ⟨c1, c2⟩ q) (fun _ _ _ => h)
    rw [show (0 < zi (zg 64 (zab (zmn (f 2) (f 3) (f 1) d)) 1000000)) = (0 < zg 64 (zab (zmn (f 2) (f 3) (f 1) d)) 1000000) from zi_lt (a := 0) (by decide) (by omega), show (zi w = 0) = (w = 0) from zi_eq (b := 0) (by omega) (by decide), show (zi (zg 64 (zab (zmn (f 2) (f 3) (f 1) d)) 1000000) = 0) = (zg 64 (zab (zmn (f 2) (f 3) (f 1) d)) 1000000 = 0) from zi_eq (b := 0) (by omega) (by decide)]
    refine ⟨fun _ => ⟨fun e => ⟨by omega, M9 _ ⟨fun _ => ⟨rfl, hR0.th⟩, fun q => absurd q e⟩⟩, fun e => ⟨by omega, M9 _ ⟨fun q => absurd e (by omega), fun _ => ⟨rfl, hR0.th⟩⟩⟩⟩, fun z => absurd hg.1 z⟩
  · refine M8 _ (fun _ => ⟨rfl, hR0.th⟩) (fun q => ?_) (fun q => ?_)
    · rw [x0, zth q] at c0
      exact absurd c0 (by decide)
    · rw [x0, zth q] at c0
      exact absurd c0 (by decide)
def zb3 (s fi fee : Int) : Nat → Int → Int → Int
  | 0, _, b => b
  | k + 1, d, b => zb3 s fi fee k (d + 1) (if zmn s fi fee b < zmn s fi fee d then d else b)
theorem zb3_rg {s fi fee : Int} : ∀ (k : Nat) (d b : Int), 0 ≤ b ∧ b ≤ 3 → 0 ≤ d → d + k ≤ 4 → 0 ≤ zb3 s fi fee k d b ∧ zb3 s fi fee k d b ≤ 3
  | 0, d, b, hb, _, _ => hb
  | k + 1, d, b, hb, h0, hd => zb3_rg k (d + 1) _ (by split <;> omega) (by omega) (by omega)
theorem zmn_0 {s fi fee : Int} : zmn s fi fee 0 = 0 := by
  show 1000000 * fee * 0 - (1000000 - 1000000) * fi = 0
  rw [Int.mul_zero, Int.sub_self, Int.zero_mul, Int.sub_self]
theorem x_bestDare {s fi fee : Int} {r3 r4 : Int32} {K : Int32 → Prop} (h3 : r3 = zi s) (h4 : r4 = zi fi) (hs : 0 ≤ s ∧ s ≤ 100) (hf : 0 ≤ fi ∧ fi ≤ 99) (he : 0 ≤ fee ∧ fee ≤ 20) (hK : K (zi (zb3 s fi fee 3 1 0))) : wp_X2_bestDare r3 r4 (zi fee) K := by
  unfold wp_X2_bestDare
  refine nz_l3 (fun j x2 x3 x4 => ∃ b : Int, x2 = zi b ∧ x3 = zi (zmn s fi fee b) ∧ x4 = zi (4 - (j : Int)) ∧ j ≤ 3 ∧ (0 ≤ b ∧ b ≤ 3) ∧ zb3 s fi fee j (4 - (j : Int)) b = zb3 s fi fee 3 1 0) ?_ (k := 3) ⟨0, rfl, by rw [zmn_0]; rfl, rfl, Nat.le_refl _, by decide, rfl⟩
  rintro j R _ _ _ ⟨b, rfl, rfl, rfl, hj, hb, hz⟩ next
  unfold S_X2_bestDare_7
  rw [zq3, zi_lt (by decide) (by omega)]
  refine ⟨fun c => ?_, fun c => ?_⟩
  · obtain rfl : j = 0 := by omega
    have hz : b = _ := hz
    rw [hz]
    exact hK
  · obtain ⟨j, rfl⟩ : ∃ i, j = i + 1 := ⟨j - 1, by omega⟩
    have rd : 0 ≤ 4 - ((j + 1 : Nat) : Int) ∧ 4 - ((j + 1 : Nat) : Int) ≤ 3 := by omega
    have ed : 4 - ((j + 1 : Nat) : Int) + 1 = 4 - (j : Int) := by omega
    have hz : zb3 s fi fee j (4 - ((j + 1 : Nat) : Int) + 1) (if zmn s fi fee b < zmn s fi fee (4 - ((j + 1 : Nat) : Int)) then 4 - ((j + 1 : Nat) : Int) else b) = _ := hz
    rw [ed] at hz
    refine x_mean h3 h4 hs rd ?_
    have r1 := zmn_rg hs hf he hb
    have r2 := zmn_rg hs hf he rd
    rw [zi_le (by omega) (by omega), zq1, zi_add, ed]
    refine ⟨fun g => ?_, fun g => ?_⟩
    · rw [if_neg (by omega)] at hz
      exact next j _ _ _ rfl ⟨b, rfl, rfl, rfl, by omega, hb, hz⟩
    · rw [if_pos (by omega)] at hz
      exact next j _ _ _ rfl ⟨_, rfl, rfl, rfl, by omega, rd, hz⟩
theorem m_bestBy {f : Int → Int} {f5 : Nat → Int32} {fee : Int} {K : Int32 → Prop} (h5 : zA 94 f5 f) (hs : 0 ≤ f 2 ∧ f 2 ≤ 100) (hf : 0 ≤ f 3 ∧ f 3 ≤ 99) (he : 0 ≤ fee ∧ fee ≤ 20) (hK : K (zi (zb3 (f 2) (f 3) fee 3 1 0))) : wp_X8_bestBy f5 (zi fee) K := by
  unfold wp_X8_bestBy
  refine nz_l2 (fun j x2 x4 => ∃ b : Int, x2 = zi b ∧ x4 = zi (4 - (j : Int)) ∧ j ≤ 3 ∧ (0 ≤ b ∧ b ≤ 3) ∧ zb3 (f 2) (f 3) fee j (4 - (j : Int)) b = zb3 (f 2) (f 3) fee 3 1 0) ?_ (k := 3) ⟨0, rfl, rfl, Nat.le_refl _, by decide, rfl⟩
  rintro j R _ _ ⟨b, rfl, rfl, hj, hb, hz⟩ next
  unfold S_X8_bestBy_4
  rw [zq3, zi_lt (by decide) (by omega)]
  refine ⟨fun c => ?_, fun c => ?_⟩
  · obtain rfl : j = 0 := by omega
    have hz : b = _ := hz
    rw [hz]
    exact hK
  · obtain ⟨j, rfl⟩ : ∃ i, j = i + 1 := ⟨j - 1, by omega⟩
    have rd : 0 ≤ 4 - ((j + 1 : Nat) : Int) ∧ 4 - ((j + 1 : Nat) : Int) ≤ 3 := by omega
    have ed : 4 - ((j + 1 : Nat) : Int) + 1 = 4 - (j : Int) := by omega
    have hz : zb3 (f 2) (f 3) fee j (4 - ((j + 1 : Nat) : Int) + 1) (if zmn (f 2) (f 3) fee b < zmn (f 2) (f 3) fee (4 - ((j + 1 : Nat) : Int)) then 4 - ((j + 1 : Nat) : Int) else b) = _ := hz
    rw [ed] at hz
    refine m_brings h5 rd (m_brings h5 hb ?_)
    have r1 := zmn_rg hs hf he hb
    have r2 := zmn_rg hs hf he rd
    rw [zi_le (by omega) (by omega), zq1, zi_add, ed]
    refine ⟨fun g => ?_, fun g => ?_⟩
    · rw [if_neg (by omega)] at hz
      exact next j _ _ rfl ⟨b, rfl, rfl, by omega, hb, hz⟩
    · rw [if_pos (by omega)] at hz
      exact next j _ _ rfl ⟨_, rfl, rfl, by omega, rd, hz⟩
def zff (s fi : Int) : Nat → Int
  | 0 => 0
  | k + 1 => if zb3 s fi ((k + 1 : Nat) : Int) 3 1 0 = 0 then ((k + 1 : Nat) : Int) else zff s fi k
theorem zb3_0 {s fi : Int} (hs : 0 ≤ s ∧ s ≤ 100) (hf : 0 ≤ fi ∧ fi ≤ 99) : zb3 s fi 0 3 1 0 = 0 := by
  have n : ∀ d : Int, ¬ zmn s fi 0 0 < zmn s fi 0 d := fun d => by
    rw [zmn_0]
    unfold zmn
    have hu := zun_rg hs d.toNat
    have h5 : 0 ≤ (1000000 - zun s d.toNat) * fi := Int.mul_nonneg (by omega) (by omega)
    rw [Int.mul_zero, Int.zero_mul]
    omega
  show zb3 s fi 0 2 2 (if zmn s fi 0 0 < zmn s fi 0 1 then 1 else 0) = 0
  rw [if_neg (n 1)]
  show zb3 s fi 0 1 3 (if zmn s fi 0 0 < zmn s fi 0 2 then 2 else 0) = 0
  rw [if_neg (n 2)]
  show (if zmn s fi 0 0 < zmn s fi 0 3 then (3 : Int) else 0) = 0
  rw [if_neg (n 3)]
theorem pub_best {X M : Nat → Nat → Int32} (hR : nz_Rel X M) (v1 : Int32) : wp_X7_best X v1 (fun r X1 => wp_X8_best M v1 (fun r1 M1 => r = r1 ∧ nz_Rel X1 M1)) := by
  have hR0 := hR
  obtain ⟨hRD, hRW, hTP, hTR, hla, hst⟩ := hR
  obtain ⟨f, g0, g1, W, k, hM, hok, hX, hI0, hI1, hW, hac, hk, hk8⟩ := hRD
  have hok0 := hok
  obtain ⟨ol, of', os, ofi, ons, onm, onn, ont, oz, oten, ost, oso, omv, otm⟩ := hok
  have hX0 := hX
  obtain ⟨x0, x1, x2, x3, x4, x5, x6, x7, x8, xs, xa, xh, xk, xw, xy, xr, xt⟩ := hX
  have xs : zA (f 4) (X 17) (zsay f) := xs
  have xa : zA (f 4) (X 18) (zat f) := xa
  have xh : zA (f 4) (X 19) (zho f) := xh
  have xk : zA (f 5) (X 20) (zkd f) := xk
  have xw : zA (f 5) (X 21) (zwh f) := xw
  have xy : zA (f 5) (X 22) (zwy f) := xy
  have xr : zA (f 5) (X 23) (zre f) := xr
  have xt : zA (4 * f 7) (X 24) (ztm f) := xt
  have m0 : M 4 0 = zi (f 0) := zM4 hM (by decide)
  have m1 : M 4 1 = zi (f 1) := zM4 hM (by decide)
  have m2 : M 4 2 = zi (f 2) := zM4 hM (by decide)
  have m3 : M 4 3 = zi (f 3) := zM4 hM (by decide)
  have m4 : M 4 4 = zi (f 4) := zM4 hM (by decide)
  have m5 : M 4 5 = zi (f 5) := zM4 hM (by decide)
  have m6 : M 4 6 = zi (f 6) := zM4 hM (by decide)
  have m7 : M 4 7 = zi (f 7) := zM4 hM (by decide)
  obtain ⟨w, rw', rfl⟩ := zi_ex v1
  have M8 : ∀ (K : Int32 → (Nat → Nat → Int32) → Prop), (f 0 ≤ 0 → K (-1000002 : Int32) (va_up M 0 (upd (M 0) 0 0))) → (0 < f 0 → ¬ (0 ≤ w ∧ w ≤ 1) → K (-1000001 : Int32) (va_up M 0 (upd (M 0) 0 0))) → (0 < f 0 → (0 ≤ w ∧ w ≤ 1) → (w = 1 → K (zi (zff (f 2) (f 3) 20)) (va_up M 0 (upd (M 0) 0 0))) ∧ (w = 0 → K (zi (zb3 (f 2) (f 3) (f 1) 3 1 0)) (va_up M 0 (upd (M 0) 0 0)))) → wp_X8_best M (zi w) K := by
    intro K k1 k2 k3
    unfold wp_X8_best wp_X8_isThere
    rw [m0, show (zi (f 0) ≤ 0) = (f 0 ≤ 0) from zi_le (b := 0) (by omega) (by decide), m1]
    refine ⟨fun e => by0 (k1 e), fun e => by1 (s_in (a := w) (l := 0) (u := 1) (z64 rw') rfl rfl (fun c2 => by1 ?_) (fun c2 => by0 (k2 (by omega) c2)))⟩
    obtain ⟨k4, k5⟩ := k3 (by omega) c2
    rw [show (zi w = 0) = (w = 0) from zi_eq (b := 0) (by omega) (by decide)]
    refine ⟨fun g => ?_, fun g => m_bestBy hM os ofi of' (k5 g)⟩
    have k4 := k4 (by omega)
    refine nz_l1 (fun j x2 => x2 = zi (j : Int) ∧ j ≤ 20 ∧ zff (f 2) (f 3) j = zff (f 2) (f 3) 20) ?_ (k := 20) ⟨rfl, Nat.le_refl _, rfl⟩
    rintro j R _ ⟨rfl, hj, hz⟩ next
    unfold S_X8_best_46
    refine m_bestBy hM os ofi (by omega) ?_
    have rg := zb3_rg (s := f 2) (fi := f 3) (fee := (j : Int)) 3 1 0 (by decide) (by decide) (by decide)
    rw [show (zi (zb3 (f 2) (f 3) (j : Int) 3 1 0) ≤ 0) = (zb3 (f 2) (f 3) (j : Int) 3 1 0 ≤ 0) from zi_le (b := 0) (by omega) (by decide), show (-1 : Int32) = zi (-1) from rfl, zi_add]
    rcases j with _ | j
    · refine ⟨fun d => ?_, fun d => ?_⟩
      · have hz : (0 : Int) = zff (f 2) (f 3) 20 := hz
        rw [← hz] at k4
        exact k4
      · have := zb3_0 os ofi
        have d : ¬ zb3 (f 2) (f 3) 0 3 1 0 ≤ 0 := d
        omega
    · have hz : (if zb3 (f 2) (f 3) ((j + 1 : Nat) : Int) 3 1 0 = 0 then ((j + 1 : Nat) : Int) else zff (f 2) (f 3) j) = _ := hz
      refine ⟨fun d => ?_, fun d => ?_⟩
      · rw [if_pos (by omega)] at hz
        rw [hz]
        exact k4
      · rw [if_neg (by omega)] at hz
        exact next j _ rfl ⟨by congr 1; omega, by omega, hz⟩
  unfold wp_X7_best wX_X7_isAmong wX_X2_fairFee_16 wX_X2_bestDare_16 wp_X2_fairFee
  refine ⟨fun c0 => ?_, fun c0 => ?_⟩
  · have c0 : 0 < f 0 := by
      apply Classical.byContradiction
      intro z
      rw [x0, if_neg z] at c0
      exact c0 rfl
    refine s_among (a := w) (l := 0) (u := 1) rfl rfl rfl (by omega) (fun c2 => by1 ?_) (fun c2 => by0 (M8 _ (fun q => absurd q (by omega)) (fun _ _ => ⟨rfl, hR0.th⟩) (fun _ q => absurd q c2)))
    have M9 : ∀ (K : Int32 → (Nat → Nat → Int32) → Prop), _ → wp_X8_best M (zi w) K := fun K h => M8 K (fun q => absurd q (by omega)) (fun _ q => absurd c2 q) (fun _ _ => h)
    rw [show (zi w = 0) = (w = 0) from zi_eq (b := 0) (by omega) (by decide), x2]
    refine ⟨fun g => ?_, fun g => x_bestDare x3 x4 os ofi of' (M9 _ ⟨fun q => absurd g (by omega), fun _ => ⟨rfl, hR0.th⟩⟩)⟩
    have fin : ∀ a : Int, a = zff (f 2) (f 3) 20 → wp_X8_best M (zi w) (fun r1 M1 => zi a = r1 ∧ nz_Rel X M1) := fun a ha => M9 _ ⟨fun _ => ⟨by rw [ha], hR0.th⟩, fun q => absurd q g⟩
    refine nz_l1 (fun j x2 => x2 = zi (j : Int) ∧ j ≤ 20 ∧ zff (f 2) (f 3) j = zff (f 2) (f 3) 20) ?_ (k := 20) ⟨rfl, Nat.le_refl _, rfl⟩
    rintro j R _ ⟨rfl, hj, hz⟩ next
    unfold S_X2_fairFee_3
    rw [show (zi (j : Int) ≤ 0) = ((j : Int) ≤ 0) from zi_le (b := 0) (by omega) (by decide), show (-1 : Int32) = zi (-1) from rfl, zi_add]
    rcases j with _ | j
    · exact ⟨fun _ => fin 0 hz, fun d => absurd (Int.le_refl 0) d⟩
    · have hz : (if zb3 (f 2) (f 3) ((j + 1 : Nat) : Int) 3 1 0 = 0 then ((j + 1 : Nat) : Int) else zff (f 2) (f 3) j) = _ := hz
      refine ⟨fun d => absurd d (by omega), fun _ => x_bestDare x3 x4 os ofi (by omega) ?_⟩
      have rg := zb3_rg (s := f 2) (fi := f 3) (fee := ((j + 1 : Nat) : Int)) 3 1 0 (by decide) (by decide) (by decide)
      rw [show (zi (zb3 (f 2) (f 3) ((j + 1 : Nat) : Int) 3 1 0) = 0) = (zb3 (f 2) (f 3) ((j + 1 : Nat) : Int) 3 1 0 = 0) from zi_eq (b := 0) (by omega) (by decide)]
      refine ⟨fun d => ?_, fun d => ?_⟩
      · rw [if_neg d] at hz
        exact next j _ rfl ⟨by congr 1; omega, by omega, hz⟩
      · rw [if_pos d] at hz
        exact fin _ hz
  · refine M8 _ (fun _ => ⟨rfl, hR0.th⟩) (fun q => ?_) (fun q => ?_)
    · rw [x0, zth q] at c0
      exact absurd c0 (by decide)
    · rw [x0, zth q] at c0
      exact absurd c0 (by decide)
