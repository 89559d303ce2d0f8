theorem zl_lt {a b : Int} (ha : -9223372036854775808 ≤ a ∧ a ≤ 9223372036854775807) (hb : -9223372036854775808 ≤ b ∧ b ≤ 9223372036854775807) : (zl a < zl b) = (a < b) := by
  rw [Int64.lt_iff_toInt_lt, zl_to ha, zl_to hb]
theorem zl_le {a b : Int} (ha : -9223372036854775808 ≤ a ∧ a ≤ 9223372036854775807) (hb : -9223372036854775808 ≤ b ∧ b ≤ 9223372036854775807) : (zl a ≤ zl b) = (a ≤ b) := by
  rw [Int64.le_iff_toInt_le, zl_to ha, zl_to hb]
theorem zlg_le {x y : Int64} : (lg_cmp x y ≤ zi 0) = (x ≤ y) := propext (lg_cmp_le x y)
def zcp (T : Int → Int) (A B lo hi : Int) : Int → Int := fun x => if B + lo ≤ x ∧ x < B + hi then T (x - B + A) else T x
theorem nz_Rel.st3 {X M : Nat → Nat → Int32} (h : nz_Rel X M) (a b c : Int32) (e : a = c) : nz_Rel (va_up X 0 (upd (X 0) 9 a)) (va_up (va_up M 0 (upd (upd (M 0) 0 b) 1 c)) 3 (M 3)) :=
  h.st (fun i hi => zup1 (by omega)) rfl (fun i hi => by
    by_cases q : i = 3
    · rw [q]; rfl
    · exact (zup1 q).trans (zup1 (by omega))) rfl rfl rfl rfl (by show a = c; exact e)
theorem pub_copy {X M : Nat → Nat → Int32} (hR : nz_Rel X M) (v1 : Int32) (v2 : Int32) (v3 : Int32) (v4 : Int32) (v5 : Int32) : wp_X7_copy X v1 v2 v3 v4 v5 (fun r X1 => wp_X8_copy M v1 v2 v3 v4 v5 (fun r1 M1 => r = r1 ∧ nz_Rel X1 M1)) := by
  have hR0 := hR
  obtain ⟨hRD, hRW, hTP, hTR, hla, hst⟩ := hR
  obtain ⟨f, g0, g1, W, k, hM, hok, hX, hI0, hI1, hW, hac, hk, hk8⟩ := hRD
  have hok0 := hok
  obtain ⟨ol, of', os, ofi, ons, onm, onn, ont, oz, oten, ost, oso, omv, otm⟩ := hok
  have hX0 := hX
  obtain ⟨x0, x1, x2, x3, x4, x5, x6, x7, x8, xs, xa, xh, xk, xw, xy, xr, xt⟩ := hX
  have xs : zA (f 4) (X 17) (zsay f) := xs
  have xa : zA (f 4) (X 18) (zat f) := xa
  have xh : zA (f 4) (X 19) (zho f) := xh
  have xk : zA (f 5) (X 20) (zkd f) := xk
  have xw : zA (f 5) (X 21) (zwh f) := xw
  have xy : zA (f 5) (X 22) (zwy f) := xy
  have xr : zA (f 5) (X 23) (zre f) := xr
  have xt : zA (4 * f 7) (X 24) (ztm f) := xt
  have m0 : M 4 0 = zi (f 0) := zM4 hM (by decide)
  have m1 : M 4 1 = zi (f 1) := zM4 hM (by decide)
  have m2 : M 4 2 = zi (f 2) := zM4 hM (by decide)
  have m3 : M 4 3 = zi (f 3) := zM4 hM (by decide)
  have m4 : M 4 4 = zi (f 4) := zM4 hM (by decide)
  have m5 : M 4 5 = zi (f 5) := zM4 hM (by decide)
  have m6 : M 4 6 = zi (f 6) := zM4 hM (by decide)
  have m7 : M 4 7 = zi (f 7) := zM4 hM (by decide)
  obtain ⟨L, N, T, w1, w2, w3, w4, w5, w6, w7, w8⟩ := hRW
  obtain ⟨a, ra, rfl⟩ := zi_ex v1
  obtain ⟨i, ri, rfl⟩ := zi_ex v2
  obtain ⟨b, rb, rfl⟩ := zi_ex v3
  obtain ⟨j, rj, rfl⟩ := zi_ex v4
  obtain ⟨n, rn, rfl⟩ := zi_ex v5
  unfold wp_X7_copy wX_X6_isRow wX_X6_findingBetween_1_54 wX_X6_carryOver_1_54 wX_X7_well_0 wX_X7_found_0 wp_X7_well wp_X7_found wp_X6_findingBetween wp_X6_carryOver
  have M8 : ∀ (K : Int32 → (Nat → Nat → Int32) → Prop), (¬ ((0 ≤ a ∧ a < 8) ∧ (0 ≤ b ∧ b < 8)) → K (-1000001 : Int32) (va_up M 0 (upd (M 0) 0 0))) → ((0 ≤ a ∧ a < 8) ∧ (0 ≤ b ∧ b < 8) → (L a = -1 ∨ L b = -1) → K ((-1000010 : Int32) - 1) (va_up M 0 (upd (upd (M 0) 0 0) 1 1))) → ((0 ≤ a ∧ a < 8) ∧ (0 ≤ b ∧ b < 8) → (0 ≤ L a ∧ 0 ≤ L b ∧ L a ≠ L b) → K ((-1000010 : Int32) - 5) (va_up M 0 (upd (upd (M 0) 0 0) 1 5))) → ((0 ≤ a ∧ a < 8) ∧ (0 ≤ b ∧ b < 8) → (0 ≤ L a ∧ L a = L b) → ¬ (0 ≤ i ∧ 0 ≤ j ∧ 0 ≤ n ∧ i + n ≤ N a ∧ j + n ≤ N b) → K ((-1000010 : Int32) - 2) (va_up (va_up M 0 (upd (upd (M 0) 0 0) 1 2)) 3 (M 3))) → ((0 ≤ a ∧ a < 8) ∧ (0 ≤ b ∧ b < 8) → (0 ≤ L a ∧ L a = L b) → (0 ≤ i ∧ 0 ≤ j ∧ 0 ≤ n ∧ i + n ≤ N a ∧ j + n ≤ N b) → ∀ s, zA 320 s (zcp T (40 * a + i) (40 * b + j) 0 n) → K (zi n) (va_up (va_up M 0 (upd (upd (M 0) 0 0) 1 0)) 3 s)) → wp_X8_copy M (zi a) (zi i) (zi b) (zi j) (zi n) K := by
    intro K k1 k2 k3 k4 k5
    unfold wp_X8_copy wp_X8_finding S_X8_copy_121 wp_X8_finding
    refine s8_isRow ra (fun c1 => by1' (s8_isRow rb (fun c2 => by1 ⟨zi_in (by omega), ?_⟩) (fun c2 => by0 (k1 (by omega))))) (fun c1 => by0' (k1 (by omega)))
    have la := w6 a c1
    have lb := w6 b c2
    rw [w2.at (by omega), w2.at (by omega), w4.at (by omega), w4.at (by omega), zl_zi ri, zl_zi rj, zl_zi rn, zl_zi (by omega), zl_zi (by omega), zl_add, zl_add, lg_cmp_gt, lg_cmp_le, zl_lt (by omega) (by omega), zl_le (by omega) (by omega)]
    rw [show (-1000010 : Int32) = zi (-1000010) from rfl] at *
    rw [zq0, zi_lt (by omega) (by decide), zi_le (by decide) (by omega), zi_eq (by omega) (by omega), zi_lt ri (by decide), zi_lt rj (by decide), zi_lt rn (by decide), zi_lt ri rj]
    have k4' := k4 ⟨c1, c2⟩
    have up : 0 ≤ i ∧ 0 ≤ j ∧ 0 ≤ n ∧ i + n ≤ N a ∧ j + n ≤ N b → 0 ≤ L a ∧ L a = L b → ¬ i < j → ∃ m, nz_it (fun _ _ => False) (S_X8_copy_143 M (zi a) (zi i) (zi b) (zi j) (zi n) 1 (zi 0) (zi 0) K) m (zi 0) (M 3) := by
      intro hb hl hij
      refine nz_l2 (fun k x7 s => ∃ q : Int, x7 = zi q ∧ (0 ≤ q ∧ q ≤ n) ∧ k = (n - q).toNat ∧ zA 320 s (zcp T (40 * a + i) (40 * b + j) 0 q)) ?_ (k := (n - 0).toNat) ⟨0, rfl, by omega, rfl, w5.of (fun x hx => if_neg (by omega))⟩
      rintro k R _ s ⟨q, rfl, hq, hk, hs⟩ next
      unfold S_X8_copy_143 S_X8_copy_167
      rw [zi_le (by omega) (by omega)]
      refine ⟨fun d => ?_, fun d => by1' ?_⟩
      · obtain rfl : q = n := by omega
        exact k5 ⟨c1, c2⟩ hl hb s hs
      · rw [zq40, zi_mul, zi_mul, zi_add, zi_add, zi_add, zi_add, hs.at (by omega), zq1, zi_add]
        refine ⟨zi_in (by omega), zi_in (by omega), next (n - (q + 1)).toNat _ _ (by omega) ⟨q + 1, rfl, by omega, rfl, ?_⟩⟩
        refine (hs.up (by omega)).of (fun x hx => ?_)
        unfold zcp
        by_cases e : x = 40 * b + j + q
        · rw [e, iup_eq, if_pos (by omega), if_neg (by omega)]
          congr 1
          omega
        · rw [iup_ne e]
          by_cases e1 : 40 * b + j + 0 ≤ x ∧ x < 40 * b + j + q
          · rw [if_pos e1, if_pos (by omega)]
          · rw [if_neg e1, if_neg (by omega)]
    have dn : 0 ≤ i ∧ 0 ≤ j ∧ 0 ≤ n ∧ i + n ≤ N a ∧ j + n ≤ N b → 0 ≤ L a ∧ L a = L b → i < j → ∃ m, nz_it (fun _ _ => False) (S_X8_copy_143 M (zi a) (zi i) (zi b) (zi j) (zi n) (zi 0) (zi 0) (zi 0) K) m (zi 0) (M 3) := by
      intro hb hl hij
      refine nz_l2 (fun k x7 s => ∃ q : Int, x7 = zi q ∧ (0 ≤ q ∧ q ≤ n) ∧ k = (n - q).toNat ∧ zA 320 s (zcp T (40 * a + i) (40 * b + j) (n - q) n)) ?_ (k := (n - 0).toNat) ⟨0, rfl, by omega, rfl, w5.of (fun x hx => if_neg (by omega))⟩
      rintro k R _ s ⟨q, rfl, hq, hk, hs⟩ next
      unfold S_X8_copy_143 S_X8_copy_167
      rw [zi_le (by omega) (by omega)]
      refine ⟨fun d => ?_, fun d => by0' ?_⟩
      · obtain rfl : q = n := by omega
        refine k5 ⟨c1, c2⟩ hl hb s ?_
        rw [show q - q = 0 by omega] at hs
        exact hs
      · rw [zq1, zi_sub, zi_sub, zq40, zi_mul, zi_mul, zi_add, zi_add, zi_add, zi_add, hs.at (by omega), zi_add]
        refine ⟨zi_in (by omega), zi_in (by omega), next (n - (q + 1)).toNat _ _ (by omega) ⟨q + 1, rfl, by omega, rfl, ?_⟩⟩
        refine (hs.up (by omega)).of (fun x hx => ?_)
        unfold zcp
        by_cases e : x = 40 * b + j + (n - 1 - q)
        · rw [e, iup_eq, if_pos (by omega), if_neg (by omega)]
          congr 1
          omega
        · rw [iup_ne e]
          by_cases e1 : 40 * b + j + (n - q) ≤ x ∧ x < 40 * b + j + n
          · rw [if_pos e1, if_pos (by omega)]
          · rw [if_neg e1, if_neg (by omega)]
    refine ⟨fun d1 => k2 ⟨c1, c2⟩ (by omega), fun d1 => ⟨zi_in (by omega), fun d2 => ⟨zi_in (by omega), zi_in (by omega), fun d3 => ?_, fun d3 => k3 ⟨c1, c2⟩ (by omega)⟩, fun d2 => k2 ⟨c1, c2⟩ (by omega)⟩⟩
    have k4' := k4' (by omega)
    exact ⟨fun d4 => k4' (by omega), fun d4 => ⟨fun d5 => k4' (by omega), fun d5 => ⟨fun d6 => k4' (by omega), fun d6 => ⟨zi_in (by omega), fun d7 => k4' (by omega), fun d7 => ⟨zi_in (by omega), fun d8 => ⟨fun d9 => dn (by omega) (by omega) d9, fun d9 => up (by omega) (by omega) d9⟩, fun d8 => k4' (by omega)⟩⟩⟩⟩⟩
  have MB : ¬ ((0 ≤ a ∧ a < 8) ∧ (0 ≤ b ∧ b < 8)) → wp_X8_copy M (zi a) (zi i) (zi b) (zi j) (zi n) (fun r1 M1 => (-1000001 : Int32) = r1 ∧ nz_Rel X M1) := fun h => M8 _ (fun _ => ⟨rfl, hR0.th⟩) (fun q => absurd q h) (fun q => absurd q h) (fun q => absurd q h) (fun q => absurd q h)
  refine s6_isRow ra (fun c1 => by1' (s6_isRow rb (fun c2 => by1 ?_) (fun c2 => by0 (MB (by omega))))) (fun c1 => by0' (MB (by omega)))
  have la := w6 a c1
  have lb := w6 b c2
  refine x_isMissing w1 la.1 c1 (fun d1 => by1 ⟨fun z => absurd z (by decide), fun _ => M8 _ (fun q => absurd ⟨c1, c2⟩ q) (fun _ _ => ⟨rfl, hR0.st1 _ _ _ rfl⟩) (fun _ q => absurd q (by omega)) (fun _ q => absurd q (by omega)) (fun _ q => absurd q (by omega))⟩) (fun d1 => by0 ?_)
  refine x_isMissing w1 lb.1 c2 (fun d2 => by1' ⟨fun z => absurd z (by decide), fun _ => M8 _ (fun q => absurd ⟨c1, c2⟩ q) (fun _ _ => ⟨rfl, hR0.st1 _ _ _ rfl⟩) (fun _ q => absurd q (by omega)) (fun _ q => absurd q (by omega)) (fun _ q => absurd q (by omega))⟩) (fun d2 => by0' ⟨zi_in (by omega), zi_in (by omega), ?_⟩)
  rw [w1.at (by omega), w1.at (by omega), zi_eq (by omega) (by omega)]
  have P2 : ¬ (0 ≤ i ∧ 0 ≤ j ∧ 0 ≤ n ∧ i + n ≤ N a ∧ j + n ≤ N b) → L a = L b → wp_X8_copy M (zi a) (zi i) (zi b) (zi j) (zi n) (fun r1 M1 => (-1000010 : Int32) - 2 = r1 ∧ nz_Rel (va_up X 0 (upd (X 0) 9 2)) M1) := fun h e => M8 _ (fun q => absurd ⟨c1, c2⟩ q) (fun _ q => absurd q (by omega)) (fun _ q => absurd q (by omega)) (fun _ _ _ => ⟨rfl, hR0.st3 _ _ _ rfl⟩) (fun _ _ q => absurd q h)
  refine ⟨fun d3 => x_holds w3 la.2 c1 ri rn (fun d4 => by1' (x_holds w3 lb.2 c2 rj rn (fun d5 => by1' ⟨fun _ => ?_, fun z => absurd rfl z⟩) (fun d5 => by0' ⟨fun z => absurd z (by decide), fun _ => P2 (by omega) d3⟩))) (fun d4 => by0' ⟨fun z => absurd z (by decide), fun _ => P2 (by omega) d3⟩), fun d3 => ⟨fun z => absurd z (by decide), fun _ => M8 _ (fun q => absurd ⟨c1, c2⟩ q) (fun _ q => absurd q (by omega)) (fun _ _ => ⟨rfl, hR0.st1 _ _ _ rfl⟩) (fun _ q => absurd q (by omega)) (fun _ q => absurd q (by omega))⟩⟩
  refine ⟨zi_in (by omega), zi_in (by omega), ?_, ?_⟩
  · rw [zq0, zi_lt ri (by decide), zi_lt rj (by decide), zi_lt rn (by decide), zi_cl (by omega), zi_cl (by omega), zi_cl (by omega)]
    omega
  refine M8 _ (fun q => absurd ⟨c1, c2⟩ q) (fun _ q => absurd q (by omega)) (fun _ q => absurd q (by omega)) (fun _ _ q => absurd (by omega) q) (fun _ _ _ s hs => ⟨rfl, ?_⟩)
  have hro : zRo (fun j => X (54 + j)) T := w8
  have hT : ∀ x : Int, -2147483648 ≤ zcp T (40 * a + i) (40 * b + j) 0 n x ∧ zcp T (40 * a + i) (40 * b + j) 0 n x ≤ 2147483647 := fun x => by
    unfold zcp
    split
    · exact w7 _
    · exact w7 _
  refine hR0.rw (zRo.of (L := L) (N := N) w1 w2 w3 w4 hs w6 hT (hro.up c2 (s := va_cpy (X (54 + (zi a).toNatClampNeg)) (X (54 + (zi b).toNatClampNeg)) (zi i).toNatClampNeg (zi j).toNatClampNeg (zi n).toNatClampNeg) (fun y hy => ?_) (fun x hx => ?_)) (fun q hq => (zup1 (by omega)).trans (putp_at q hq))) (fun i h2 h3 h54 h1 => (zup1 (by omega)).trans (putp_ne (by omega))) rfl (fun i hi => (zup1 (by omega)).trans (zup1 (by omega))) rfl rfl rfl rfl rfl
  · rw [zi_cl (by omega), zi_cl (by omega), zi_cl (by omega), zi_cl (by omega), zi_cl (by omega)]
    show (if j.toNat ≤ y.toNat ∧ y.toNat < j.toNat + n.toNat then X (54 + a.toNat) (i.toNat + (y.toNat - j.toNat)) else X (54 + b.toNat) y.toNat) = zi (zcp T (40 * a + i) (40 * b + j) 0 n (40 * b + y))
    unfold zcp
    by_cases e : j ≤ y ∧ y < j + n
    · rw [if_pos (by omega), if_pos (by omega), show i.toNat + (y.toNat - j.toNat) = (i + (y - j)).toNat by omega, w8 a c1 (i + (y - j)) (by omega)]
      show zi (T (40 * a + (i + (y - j)))) = _
      congr 2
      omega
    · rw [if_neg (by omega), if_neg (by omega), w8 b c2 y hy]
  · unfold zcp
    rw [if_neg (by omega)]
def ztn (f I : Int → Int) : Nat → Int → Int
  | 0 => f
  | k + 1 => zt1 (ztn f I k) (I (4 * k)) (I (4 * k + 1)) (I (4 * k + 2)) (I (4 * k + 3))
theorem zEq.trans {f g h : Int → Int} (a : zEq f g) (b : zEq g h) : zEq f h := fun i hi h7 => (b i hi h7).trans (a i hi h7)
theorem ztn_ok {f I : Int → Int} (hok : zOK f) : ∀ k : Nat, f 7 + k ≤ 12 → (∀ q : Int, 0 ≤ q ∧ q < k → ztk (f 4) (I (4 * q)) (I (4 * q + 1)) (I (4 * q + 2)) (I (4 * q + 3))) → zOK (ztn f I k) ∧ ztn f I k 7 = f 7 + k ∧ zEq f (ztn f I k)
  | 0, _, _ => ⟨hok, by show f 7 = f 7 + 0; omega, fun _ _ _ => rfl⟩
  | k + 1, h, ht => by
    have hnn := hok.nn
    obtain ⟨a1, a2, a3⟩ := ztn_ok hok k (by omega) (fun q hq => ht q (by omega))
    have t := ht k (by omega)
    have e4 := a3.pa.2.2.2.2.1
    refine ⟨zt1_ok a1 (by omega) (by rw [e4]; exact t), ?_, a3.trans (zt1_eq (by omega))⟩
    show zt1 _ _ _ _ _ 7 = _
    rw [zt1_7, a2]
    omega
theorem pub_times {X M : Nat → Nat → Int32} (hR : nz_Rel X M) (v1 : Int32) (v2 : Int32) (v3 : Int32) : wp_X7_times X v1 v2 v3 (fun r X1 => wp_X8_times M v1 v2 v3 (fun r1 M1 => r = r1 ∧ nz_Rel X1 M1)) := by
  have hR0 := hR
  obtain ⟨hRD, hRW, hTP, hTR, hla, hst⟩ := hR
  obtain ⟨f, g0, g1, W, k, hM, hok, hX, hI0, hI1, hW, hac, hk, hk8⟩ := hRD
  have hok0 := hok
  obtain ⟨ol, of', os, ofi, ons, onm, onn, ont, oz, oten, ost, oso, omv, otm⟩ := hok
  have hX0 := hX
  obtain ⟨x0, x1, x2, x3, x4, x5, x6, x7, x8, xs, xa, xh, xk, xw, xy, xr, xt⟩ := hX
  have xs : zA (f 4) (X 17) (zsay f) := xs
  have xa : zA (f 4) (X 18) (zat f) := xa
  have xh : zA (f 4) (X 19) (zho f) := xh
  have xk : zA (f 5) (X 20) (zkd f) := xk
  have xw : zA (f 5) (X 21) (zwh f) := xw
  have xy : zA (f 5) (X 22) (zwy f) := xy
  have xr : zA (f 5) (X 23) (zre f) := xr
  have xt : zA (4 * f 7) (X 24) (ztm f) := xt
  have m0 : M 4 0 = zi (f 0) := zM4 hM (by decide)
  have m1 : M 4 1 = zi (f 1) := zM4 hM (by decide)
  have m2 : M 4 2 = zi (f 2) := zM4 hM (by decide)
  have m3 : M 4 3 = zi (f 3) := zM4 hM (by decide)
  have m4 : M 4 4 = zi (f 4) := zM4 hM (by decide)
  have m5 : M 4 5 = zi (f 5) := zM4 hM (by decide)
  have m6 : M 4 6 = zi (f 6) := zM4 hM (by decide)
  have m7 : M 4 7 = zi (f 7) := zM4 hM (by decide)
  obtain ⟨L, N, T, w1, w2, w3, w4, w5, w6, w7, w8⟩ := hRW
  obtain ⟨r, rr, rfl⟩ := zi_ex v1
  obtain ⟨i, ri, rfl⟩ := zi_ex v2
  obtain ⟨n, rn, rfl⟩ := zi_ex v3
  have M8 : ∀ (K : Int32 → (Nat → Nat → Int32) → Prop), (f 0 ≤ 0 → K (-1000002 : Int32) (va_up M 0 (upd (M 0) 0 0))) → (0 < f 0 → ¬ ((0 ≤ r ∧ r < 8) ∧ (1 ≤ n ∧ n ≤ 10)) → K (-1000001 : Int32) (va_up M 0 (upd (M 0) 0 0))) → (0 < f 0 → (0 ≤ r ∧ r < 8) ∧ (1 ≤ n ∧ n ≤ 10) → (L r = -1 → K ((-1000010 : Int32) - 1) (va_up M 0 (upd (upd (M 0) 0 0) 1 1))) ∧ (0 ≤ L r → ¬ (0 ≤ i ∧ i + 4 * n ≤ N r) → K ((-1000010 : Int32) - 2) (va_up M 0 (upd (upd (M 0) 0 0) 1 2))) ∧ (0 ≤ L r → (0 ≤ i ∧ i + 4 * n ≤ N r) → ((¬ ∀ q : Int, 0 ≤ q ∧ q < n → ztk (f 4) (T (40 * r + i + 4 * q)) (T (40 * r + i + (4 * q + 1))) (T (40 * r + i + (4 * q + 2))) (T (40 * r + i + (4 * q + 3)))) → K (-1000001 : Int32) (va_up (va_up M 0 (upd (upd (M 0) 0 0) 1 (M 0 1))) 4 (M 4))) ∧ ((∀ q : Int, 0 ≤ q ∧ q < n → ztk (f 4) (T (40 * r + i + 4 * q)) (T (40 * r + i + (4 * q + 1))) (T (40 * r + i + (4 * q + 2))) (T (40 * r + i + (4 * q + 3)))) → (12 < f 7 + n → K (-1000003 : Int32) (va_up (va_up M 0 (upd (upd (M 0) 0 0) 1 (M 0 1))) 4 (M 4))) ∧ (f 7 + n ≤ 12 → ∀ s, zA 94 s (ztn f (fun q => T (40 * r + i + q)) n.toNat) → K (zi (f 7 + n)) (va_up (va_up M 0 (upd (upd (M 0) 0 0) 1 0)) 4 s))))) → wp_X8_times M (zi r) (zi i) (zi n) K := by
    intro K k1 k2 k3
    unfold wp_X8_times wp_X8_isThere wp_X8_finding
    rw [m0, zq0, zi_le (by omega) (by decide)]
    refine ⟨fun c => by0 (k1 c), fun c0 => by1 ?_⟩
    refine s8_isRow rr (fun c1 => by1' (s_in (a := n) (l := 1) (u := 10) (z64 rn) rfl rfl (fun c2 => by1 ⟨zi_in (by omega), ?_⟩) (fun c2 => by0 (k2 (by omega) (by omega))))) (fun c1 => by0' (k2 (by omega) (by omega)))
    obtain ⟨k31, k32, k33⟩ := k3 (by omega) ⟨c1, c2⟩
    have lr := w6 r c1
    rw [w2.at (by omega), w4.at (by omega), zi_le (by decide) (by omega), zi_lt ri (by decide), zq4, zi_mul, zl_zi ri, zl_zi (by omega), zl_zi (by omega), zl_add, zlg_le, zl_le (by omega) (by omega), zq40, zi_mul, zi_add]
    refine ⟨fun d1 => ⟨fun d2 => k32 d1 (by omega), fun d2 => ⟨zi_in (by omega), fun d3 => ?_, fun d3 => k32 d1 (by omega)⟩⟩, fun d1 => k31 (by omega)⟩
    obtain ⟨k4, k5⟩ := k33 d1 (by omega)
    refine nz_l1 (fun k x5 => ∃ q : Int, x5 = zi q ∧ (0 ≤ q ∧ q ≤ n) ∧ k = (n - q).toNat ∧ ∀ p : Int, 0 ≤ p ∧ p < q → ztk (f 4) (T (40 * r + i + 4 * p)) (T (40 * r + i + (4 * p + 1))) (T (40 * r + i + (4 * p + 2))) (T (40 * r + i + (4 * p + 3)))) ?_ (k := (n - 0).toNat) ⟨0, rfl, by omega, rfl, fun p hp => by omega⟩
    rintro k R _ ⟨q, rfl, hq, hk, ht⟩ next
    unfold S_X8_times_91
    rw [zi_le (by omega) (by omega)]
    refine ⟨fun g => ?_, fun g => ?_⟩
    · obtain rfl : q = n := by omega
      obtain ⟨k6, k7⟩ := k5 ht
      rw [m7, zi_add, zq12, zi_le (by omega) (by decide)]
      refine ⟨fun g2 => ?_, fun g2 => k6 (by omega)⟩
      refine nz_l2 (fun k x5 s => ∃ p : Nat, x5 = zi p ∧ (p : Int) ≤ q ∧ k = q.toNat - p ∧ zA 94 s (ztn f (fun q => T (40 * r + i + q)) p)) ?_ (k := q.toNat - 0) ⟨0, rfl, by omega, rfl, hM⟩
      rintro k R _ s ⟨p, rfl, hp, hk, hs⟩ next
      obtain ⟨o1, o2, o3⟩ := ztn_ok (I := fun q => T (40 * r + i + q)) hok0 p (by omega) (fun z hz => ht z (by omega))
      unfold S_X8_times_192
      rw [zi_le (by omega) (by omega)]
      refine ⟨fun g3 => ?_, fun g3 => ?_⟩
      · have ep : p = q.toNat := by omega
        rw [show s 7 = zi (f 7 + q) from (zM4 hs (i := 7) (by decide)).trans (by rw [show ((7 : Nat) : Int) = 7 from rfl, o2]; congr 1; omega)]
        rw [ep] at hs
        exact k7 g2 s hs
      · rw [zq4, zi_mul, zi_add, zq1, zq2, zq3, zi_add, zi_add, zi_add, w5.at (by omega), w5.at (by omega), w5.at (by omega), w5.at (by omega), zi_add]
        refine ⟨zi_in (by omega), zi_in (by omega), zi_in (by omega), zi_in (by omega), m_addTime (by omega) hs (fun s1 hs1 => next (q.toNat - (p + 1)) _ _ (by omega) ⟨p + 1, rfl, by omega, rfl, ?_⟩)⟩
        have e1 : ∀ z : Int, 40 * r + i + 4 * (p : Int) + z = 40 * r + i + (4 * (p : Int) + z) := fun z => by omega
        rw [e1, e1, e1] at hs1
        exact hs1
    · rw [zq4, zi_mul, zi_add, zq1, zq2, zq3, zi_add, zi_add, zi_add, w5.at (by omega), w5.at (by omega), w5.at (by omega), w5.at (by omega), zi_add]
      have e1 : ∀ z : Int, 40 * r + i + 4 * q + z = 40 * r + i + (4 * q + z) := fun z => by omega
      rw [e1, e1, e1]
      refine ⟨zi_in (by omega), zi_in (by omega), zi_in (by omega), zi_in (by omega), s8_isTime m4 (by omega) (w7 _) (w7 _) (w7 _) (w7 _) (fun z => by1 (next (n - (q + 1)).toNat _ (by omega) ⟨q + 1, rfl, by omega, rfl, fun p hp => ?_⟩)) (fun z => by0 (k4 (fun w => z (w q (by omega)))))⟩
      by_cases e : p = q
      · rw [e]; exact z
      · exact ht p (by omega)
  have st0 : ∀ s, s = M 4 → nz_Rel X (va_up (va_up M 0 (upd (upd (M 0) 0 0) 1 (M 0 1))) 4 s) := fun s hs => hR0.st (fun _ _ => rfl) rfl (fun i hi => by
    by_cases q : i = 4
    · rw [q]; exact hs
    · exact (zup1 q).trans (zup1 (by omega))) rfl rfl rfl rfl hst
  unfold wp_X7_times wX_X6_isRow wX_X7_isAmong wX_X6_findingAt_1_54 wX_X7_found_0 wp_X7_found
  rw [x0, zq0, zi_eq (by split <;> omega) (by decide)]
  refine ⟨fun c0 => ?_, fun c0 => ?_⟩
  · have c0 : 0 < f 0 := by
      apply Classical.byContradiction
      intro z
      rw [if_neg z] at c0
      exact c0 rfl
    have MB : ¬ ((0 ≤ r ∧ r < 8) ∧ (1 ≤ n ∧ n ≤ 10)) → wp_X8_times M (zi r) (zi i) (zi n) (fun r1 M1 => (-1000001 : Int32) = r1 ∧ nz_Rel X M1) := fun h => M8 _ (fun q => absurd q (by omega)) (fun _ _ => ⟨rfl, hR0.th⟩) (fun _ q => absurd q h)
    refine s6_isRow rr (fun c1 => by1' (s_among (a := n) (l := 1) (u := 10) rfl rfl rfl (by omega) (fun c2 => by1 ?_) (fun c2 => by0 (MB (by omega))))) (fun c1 => by0' (MB (by omega)))
    have lr := w6 r c1
    have M9 : ∀ (K : Int32 → (Nat → Nat → Int32) → Prop), _ → wp_X8_times M (zi r) (zi i) (zi n) K := fun K h => M8 K (fun q => absurd q (by omega)) (fun _ q => absurd ⟨c1, c2⟩ q) (fun _ _ => h)
    rw [zq4, zi_mul]
    refine x_findingAt w1 w3 lr.1 lr.2 c1 ri (by omega) (fun d => ⟨fun z => absurd z (by decide), fun _ => M9 _ ⟨fun _ => ⟨rfl, hR0.st1 _ _ _ rfl⟩, fun q => absurd q (by omega), fun q => absurd q (by omega)⟩⟩) (fun d d2 => ⟨fun z => absurd z (by decide), fun _ => M9 _ ⟨fun q => absurd q (by omega), fun _ _ => ⟨rfl, hR0.st1 _ _ _ rfl⟩, fun _ q => absurd q (by omega)⟩⟩) (fun d d2 => ⟨fun _ => ?_, fun z => absurd rfl z⟩)
    have M10 : ∀ (K : Int32 → (Nat → Nat → Int32) → Prop), _ → wp_X8_times M (zi r) (zi i) (zi n) K := fun K h => M9 K ⟨fun q => absurd q (by omega), fun _ q => absurd (by omega) q, fun _ _ => h⟩
    rw [zi_add]
    have item : ∀ (Y : Nat → Nat → Int32) (x : Int) (K : Int32 → Prop), (∀ q : Nat, 54 ≤ q → Y q = X q) → 0 ≤ x ∧ x < 40 → K (zi (T (40 * r + x))) → wX_X6_item_1_54 Y (zi r) (zi x) K := by
      intro Y x K hY hx hK
      unfold wX_X6_item_1_54 wp_X6_item
      refine ⟨zi_in (by omega), zi_in (by omega), ?_⟩
      show K (Y (54 + (zi r).toNatClampNeg) (zi x).toNatClampNeg)
      rw [hY (54 + (zi r).toNatClampNeg) (by omega), zi_cl (a := r) (by omega), (w8 r c1).at (by omega)]
      exact hK
    refine nz_l1 (fun k x6 => ∃ q : Int, x6 = zi (i + 4 * q) ∧ (0 ≤ q ∧ q ≤ n) ∧ k = (n - q).toNat ∧ ∀ p : Int, 0 ≤ p ∧ p < q → ztk (f 4) (T (40 * r + i + 4 * p)) (T (40 * r + i + (4 * p + 1))) (T (40 * r + i + (4 * p + 2))) (T (40 * r + i + (4 * p + 3)))) ?_ (k := (n - 0).toNat) ⟨0, by congr 1; omega, by omega, rfl, fun p hp => by omega⟩
    rintro k1 R _ ⟨q, rfl, hq, hk1, ht⟩ next
    unfold S_X7_times_69 wX_X5_hasRoomForTimes_16 wp_X5_hasRoomForTimes wX_X5_isTime_16
    rw [zi_le (by omega) (by omega)]
    refine ⟨fun g => ?_, fun g => ?_⟩
    · obtain rfl : q = n := by omega
      rw [x8, zi_add, zq12, zi_lt (by decide) (by omega)]
      refine ⟨fun g2 => by0 (M10 _ ⟨fun w => absurd ht w, fun _ => ⟨fun _ => ⟨rfl, st0 _ rfl⟩, fun w => absurd w (by omega)⟩⟩), fun g2 => by1 ?_⟩
      refine nz_l2 (fun k x6 Y => ∃ p : Nat, x6 = zi (i + 4 * p) ∧ (p : Int) ≤ q ∧ k = q.toNat - p ∧ (∀ j : Nat, j ≠ 16 → j ≠ 24 → Y j = X j) ∧ (∀ j : Nat, j < 8 → Y 16 j = X 16 j) ∧ Y 16 8 = zi (f 7 + p) ∧ zA (4 * (f 7 + p)) (Y 24) (ztm (ztn f (fun q => T (40 * r + i + q)) p))) ?_ (k := q.toNat - 0) ⟨0, by congr 1; omega, by omega, rfl, fun _ _ _ => rfl, fun _ _ => rfl, by rw [x8]; congr 1; omega, by rw [show f 7 + ((0 : Nat) : Int) = f 7 by omega]; exact xt⟩
      rintro k2 R2 _ Y ⟨p, rfl, hp, hk2, y1, y2, y3, y4⟩ next2
      obtain ⟨o1, o2, o3⟩ := ztn_ok (I := fun q => T (40 * r + i + q)) hok0 p (by omega) (fun z hz => ht z (by omega))
      unfold S_X7_times_158 wX_X7_well_0 wp_X7_well wX_X5_hear_16
      rw [zi_le (by omega) (by omega)]
      refine ⟨fun g3 => ?_, fun g3 => ?_⟩
      · have ep : p = q.toNat := by omega
        have e2 : f 7 + (p : Int) = f 7 + q := by omega
        refine M10 _ ⟨fun w => absurd ht w, fun _ => ⟨fun w => absurd w (by omega), fun _ s hs => ⟨by rw [y3, e2], ?_⟩⟩⟩
        rw [← ep] at hs
        have hn : nz_Rel Y (va_up M 4 s) := by
          refine hR0.now (f := ztn f (fun q => T (40 * r + i + q)) p) (W := W) (k := k) hs o1 (hX0.eq hok0 o3 (fun j hj => y2 j hj) (by rw [y3, o2]) (fun j hj => y1 j (by omega) (by omega)) (by rw [o2]; exact y4)) hW ?_ ?_ hk8 (fun j hj => y1 j (by omega) (by omega)) (fun j h1 h2 h3 h4 h5 h6 h7 => zup1 (by omega))
          · rw [y1 45 (by decide) (by decide), y1 46 (by decide) (by decide)]
            exact hac.eq o3.pa.2.2.2.2.1 o3.pa.1
          · rw [y1 44 (by decide) (by decide)]
            exact hk
        refine hn.st (fun j hj => zup1 (by omega)) rfl (fun j hj => ?_) rfl rfl rfl rfl rfl
        by_cases z : j = 4
        · rw [z]; rfl
        · exact (zup1 z).trans ((zup1 (by omega)).trans (zup1 z).symm)
      · have e1 : ∀ z : Int, 40 * r + (i + 4 * (p : Int) + z) = 40 * r + i + (4 * (p : Int) + z) := fun z => by omega
        have e0 : 40 * r + (i + 4 * (p : Int)) = 40 * r + i + 4 * (p : Int) := by omega
        have hY : ∀ j : Nat, 54 ≤ j → Y j = X j := fun j hj => y1 j (by omega) (by omega)
        rw [zq1, zq2, zq3, zq4, zi_add, zi_add, zi_add, zi_add]
        refine item Y _ _ hY (by omega) (item Y _ _ hY (by omega) (item Y _ _ hY (by omega) (item Y _ _ hY (by omega) ?_)))
        rw [e0, e1, e1, e1]
        refine x_hear (f := ztn f (fun q => T (40 * r + i + q)) p) (by rw [y3, o2]) (by omega) (by rw [o2]; exact y4) (fun s hs => ?_)
        rw [o2] at hs ⊢
        refine next2 (q.toNat - (p + 1)) _ _ (by omega) ⟨p + 1, by congr 1; omega, by omega, rfl, fun j h16 h24 => (zup1 h24).trans ((zup1 h16).trans (y1 j h16 h24)), fun j hj => ?_, ?_, ?_⟩
        · show upd (Y 16) 8 _ j = X 16 j
          rw [show upd (Y 16) 8 (zi (f 7 + p + 1)) j = Y 16 j from if_neg (by omega)]
          exact y2 j hj
        · show zi (f 7 + p + 1) = zi (f 7 + ((p + 1 : Nat) : Int))
          congr 1
          omega
        · show zA (4 * (f 7 + ((p + 1 : Nat) : Int))) s _
          rw [show f 7 + ((p + 1 : Nat) : Int) = f 7 + p + 1 by omega]
          exact hs
    · have e1 : ∀ z : Int, 40 * r + (i + 4 * q + z) = 40 * r + i + (4 * q + z) := fun z => by omega
      have e0 : 40 * r + (i + 4 * q) = 40 * r + i + 4 * q := by omega
      rw [zq1, zq2, zq3, zq4, zi_add, zi_add, zi_add, zi_add]
      refine item X _ _ (fun _ _ => rfl) (by omega) (item X _ _ (fun _ _ => rfl) (by omega) (item X _ _ (fun _ _ => rfl) (by omega) (item X _ _ (fun _ _ => rfl) (by omega) ?_)))
      rw [e0, e1, e1, e1]
      refine s5_isTime x6 (by omega) (w7 _) (w7 _) (w7 _) (w7 _) (fun z => by1 (next (n - (q + 1)).toNat _ (by omega) ⟨q + 1, by congr 1; omega, by omega, rfl, fun p hp => ?_⟩)) (fun z => by0 (M10 _ ⟨fun _ => ⟨rfl, st0 _ rfl⟩, fun w => absurd (w q (by omega)) z⟩))
      by_cases e : p = q
      · rw [e]; exact z
      · exact ht p (by omega)
  · have c0 : ¬ 0 < f 0 := by
      intro z
      rw [if_pos z] at c0
      exact absurd c0 (by decide)
    exact M8 _ (fun _ => ⟨rfl, hR0.th⟩) (fun q => absurd q c0) (fun q => absurd q c0)
