def zc1 (v0 : Int32) : Int32 := (((v0 - ((v0.toUInt32 >>> ((1 : Int32).toUInt32 &&& Int32.toUInt32 31)).toInt32 &&& 1431655765)) &&& 858993459) + (((v0 - ((v0.toUInt32 >>> ((1 : Int32).toUInt32 &&& Int32.toUInt32 31)).toInt32 &&& 1431655765)).toUInt32 >>> ((2 : Int32).toUInt32 &&& Int32.toUInt32 31)).toInt32 &&& 858993459))
def zc2 (w1 : Int32) : Int32 := (((w1 + (w1.toUInt32 >>> ((4 : Int32).toUInt32 &&& Int32.toUInt32 31)).toInt32) &&& 252645135) + (((w1 + (w1.toUInt32 >>> ((4 : Int32).toUInt32 &&& Int32.toUInt32 31)).toInt32) &&& 252645135).toUInt32 >>> ((8 : Int32).toUInt32 &&& Int32.toUInt32 31)).toInt32)
def zc3 (w2 : Int32) : Int32 := ((w2 + (w2.toUInt32 >>> ((16 : Int32).toUInt32 &&& Int32.toUInt32 31)).toInt32) &&& 63)
def zpc (v : Int32) : Int32 := zc3 (zc2 (zc1 v))
theorem x_bitCount {v : Int32} {K : Int32 → Prop} (h : K (zpc v)) : wp_J6_bitCount_0f7a4 v K := by
  unfold wp_J6_bitCount_0f7a4
  rintro _ rfl _ rfl
  exact h
theorem zpc_up : ∀ x, x < 64 → ∀ k, k < 6 → x < 2 ^ k → zpc (zi ((x + 2 ^ k : Nat))) = zpc (zi (x : Nat)) + 1 := by decide +kernel
def zct (d : Nat → Bool) : Nat → Nat
  | 0 => 0
  | n + 1 => zct d n + (if d n then 1 else 0)
theorem zct_1 {d : Nat → Bool} {n : Nat} (h : d n = true) : zct d (n + 1) = zct d n + 1 := by
  show zct d n + (if d n then 1 else 0) = _
  rw [if_pos h]
theorem zct_0 {d : Nat → Bool} {n : Nat} (h : ¬ d n = true) : zct d (n + 1) = zct d n := by
  show zct d n + (if d n then 1 else 0) = _
  rw [if_neg h]
  rfl
theorem zct_le (d : Nat → Bool) : ∀ n : Nat, zct d n ≤ n
  | 0 => Nat.le_refl _
  | n + 1 => by
    have := zct_le d n
    show zct d n + (if d n then 1 else 0) ≤ _
    split <;> omega
theorem zct_lt {d : Nat → Bool} {k : Nat} (h : d k = false) : ∀ n : Nat, k < n → zct d n < n
  | 0, hk => absurd hk (by omega)
  | n + 1, hk => by
    by_cases e : k = n
    · rw [zct_0 (by rw [← e, h]; decide)]
      have := zct_le d n
      omega
    · have := zct_lt h n (by omega)
      show zct d n + (if d n then 1 else 0) < _
      split <;> omega
theorem zpc_zbs (d : Nat → Bool) : ∀ n : Nat, n ≤ 6 → zpc (zi (zbs d n)) = zi (zct d n)
  | 0, _ => by
    show zpc (zi 0) = zi 0
    decide +kernel
  | n + 1, h => by
    by_cases e : d n = true
    · have : zbs d (n + 1) = zbs d n + 2 ^ n := by
        show zbs d n + (if d n then 2 ^ n else 0) = _
        rw [if_pos e]
      rw [this, zpc_up _ (zbs_64 d (by omega)) n (by omega) (zbs_lt d n), zpc_zbs d n (by omega), zct_1 e, zq1, zi_add]
      rfl
    · have : zbs d (n + 1) = zbs d n := by
        show zbs d n + (if d n then 2 ^ n else 0) = _
        rw [if_neg e]
        rfl
      rw [this, zct_0 e]
      exact zpc_zbs d n (by omega)
def zbe (f : Int → Int) (k : Int) : Int := zat f k - zsay f k
def zdf (f : Int → Int) (k : Nat) : Nat → Bool := fun q => decide (zbe f q ≠ zbe f k)
def zms (f : Int → Int) (k : Nat) : Int := zbs (zdf f k) (f 4).toNat
def zmc (f : Int → Int) (k : Nat) : Int := zct (zdf f k) (f 4).toNat
def zmv (f : Int → Int) : Nat → Nat → Int × Int → Int × Int
  | 0, _, s => s
  | j + 1, k, s => zmv f j (k + 1) (if zmc f k < s.2 ∨ (zmc f k = s.2 ∧ zms f k < s.1) then (zms f k, zmc f k) else s)
theorem zmv_1 {f : Int → Int} {j k : Nat} {s : Int × Int} (h : zmc f k < s.2 ∨ (zmc f k = s.2 ∧ zms f k < s.1)) : zmv f (j + 1) k s = zmv f j (k + 1) (zms f k, zmc f k) := by
  show zmv f j (k + 1) (if _ then _ else _) = _
  rw [if_pos h]
theorem zmv_0 {f : Int → Int} {j k : Nat} {s : Int × Int} (h : ¬ (zmc f k < s.2 ∨ (zmc f k = s.2 ∧ zms f k < s.1))) : zmv f (j + 1) k s = zmv f j (k + 1) s := by
  show zmv f j (k + 1) (if _ then _ else _) = _
  rw [if_neg h]
theorem zms_rg {f : Int → Int} (hok : zOK f) (k : Nat) : (0 ≤ zms f k ∧ zms f k < 64) ∧ (0 ≤ zmc f k ∧ zmc f k ≤ 6) := by
  have hnn := hok.nn
  have h1 := zbs_64 (zdf f k) (n := (f 4).toNat) (by omega)
  have h2 := zct_le (zdf f k) (f 4).toNat
  unfold zms zmc
  omega
theorem zpc_ms {f : Int → Int} (hok : zOK f) (k : Nat) : zpc (zi (zms f k)) = zi (zmc f k) := by
  have hnn := hok.nn
  exact zpc_zbs _ _ (by omega)
theorem zmv_pc {f : Int → Int} (hok : zOK f) : ∀ (j k : Nat) (s : Int × Int), zpc (zi s.1) = zi s.2 → zpc (zi (zmv f j k s).1) = zi (zmv f j k s).2
  | 0, _, _, h => h
  | j + 1, k, s, h => by
    by_cases e : zmc f k < s.2 ∨ (zmc f k = s.2 ∧ zms f k < s.1)
    · rw [zmv_1 e]
      exact zmv_pc hok j (k + 1) _ (zpc_ms hok k)
    · rw [zmv_0 e]
      exact zmv_pc hok j (k + 1) _ h
theorem zbe_rg {f : Int → Int} (hok : zOK f) {k : Int} (hk : 0 ≤ k ∧ k < f 4) : -200 ≤ zbe f k ∧ zbe f k ≤ 200 := by
  have := hok.st hk
  have := hok.nn
  unfold zbe
  omega
theorem x_apart {f : Int → Int} {n : Int32} {f9 f10 : Nat → Int32} {k : Nat} {K : Int32 → Prop} (hok : zOK f) (hn : n = zi (f 4)) (h9 : zA (f 4) f9 (zsay f)) (h10 : zA (f 4) f10 (zat f)) (hk : (k : Int) < f 4) (hK : K (zi (zms f k))) : wp_X2_setApartFrom n f9 f10 (zi (zbe f k)) K := by
  have hnn := hok.nn
  have rk := zbe_rg hok (k := k) (by omega)
  unfold wp_X2_setApartFrom
  rw [hn]
  refine nz_l2 (fun j x2 x3 => ∃ i : Nat, x2 = zi (zbs (zdf f k) i) ∧ x3 = zi i ∧ (i : Int) ≤ f 4 ∧ j = (f 4).toNat - i) ?_ (k := (f 4).toNat - 0) ⟨0, rfl, rfl, by omega, rfl⟩
  rintro j R _ _ ⟨i, rfl, rfl, hi, hj⟩ next
  unfold S_X2_setApartFrom_4
  rw [zi_le (by omega) (by omega)]
  refine ⟨fun c => ?_, fun c => ⟨zi_in (by omega), zi_in (by omega), ?_⟩⟩
  · obtain rfl : i = (f 4).toNat := by omega
    exact hK
  · have ri := zbe_rg hok (k := i) (by omega)
    have e : zi (zat f i) - zi (zsay f i) = zi (zbe f i) := zi_sub _ _
    rw [h10.at (by omega), h9.at (by omega), e, zi_eq (by omega) (by omega)]
    refine ⟨fun g => ?_, fun g => ?_⟩
    · refine next ((f 4).toNat - (i + 1)) _ _ (by omega) ⟨i + 1, ?_, by rw [zq1, zi_add]; rfl, by omega, rfl⟩
      exact zbs_no _ (by unfold zdf; simp [g])
    · refine next ((f 4).toNat - (i + 1)) _ _ (by omega) ⟨i + 1, ?_, by rw [zq1, zi_add]; rfl, by omega, rfl⟩
      exact zbs_or _ (by omega) (by unfold zdf; simp [g])
theorem x_leastSet {f : Int → Int} {n : Int32} {f9 f10 : Nat → Int32} {K : Int32 → Prop} (hok : zOK f) (hn : n = zi (f 4)) (h9 : zA (f 4) f9 (zsay f)) (h10 : zA (f 4) f10 (zat f)) (hK : K (zi (zmv f (f 4).toNat 0 (0, 7)).1)) : wp_X2_leastSetMoved n f9 f10 K := by
  have hnn := hok.nn
  unfold wp_X2_leastSetMoved
  rw [hn]
  refine nz_l3 (fun j x1 x2 x3 => ∃ (i : Nat) (s : Int × Int), x1 = zi s.1 ∧ x2 = zi s.2 ∧ x3 = zi i ∧ (i : Int) ≤ f 4 ∧ j = (f 4).toNat - i ∧ (0 ≤ s.1 ∧ s.1 < 64) ∧ (0 ≤ s.2 ∧ s.2 ≤ 7) ∧ zmv f j i s = zmv f (f 4).toNat 0 (0, 7)) ?_ (k := (f 4).toNat - 0) ⟨0, (0, 7), rfl, rfl, rfl, by omega, rfl, by decide, by decide, rfl⟩
  rintro j R _ _ _ ⟨i, s, rfl, rfl, rfl, hi, hj, h1, h2, he⟩ next
  unfold S_X2_leastSetMoved_7
  rw [zi_le (by omega) (by omega)]
  refine ⟨fun c => ?_, fun c => ⟨zi_in (by omega), zi_in (by omega), ?_⟩⟩
  · obtain rfl : j = 0 := by omega
    have he : s = _ := he
    rw [he]
    exact hK
  obtain ⟨j, rfl⟩ : ∃ i, j = i + 1 := ⟨j - 1, by omega⟩
  have rs := zms_rg hok i
  have e : zi (zat f i) - zi (zsay f i) = zi (zbe f i) := zi_sub _ _
  rw [h10.at (by omega), h9.at (by omega), e]
  refine x_apart hok rfl h9 h10 (by omega) (x_bitCount ?_)
  rw [zpc_ms hok, zi_lt (by omega) (by omega), zi_eq (by omega) (by omega), zi_le (by omega) (by omega), zq1, zi_add]
  have take : zmc f i < s.2 ∨ (zmc f i = s.2 ∧ zms f i < s.1) → R (zi (zms f i)) (zi (zmc f i)) (zi (i + 1)) := fun g => by
    rw [zmv_1 g] at he
    exact next j _ _ _ rfl ⟨i + 1, (zms f i, zmc f i), rfl, rfl, rfl, by omega, by omega, rs.1, by omega, he⟩
  have skip : ¬ (zmc f i < s.2 ∨ (zmc f i = s.2 ∧ zms f i < s.1)) → R (zi s.1) (zi s.2) (zi (i + 1)) := fun g => by
    rw [zmv_0 g] at he
    exact next j _ _ _ rfl ⟨i + 1, s, rfl, rfl, rfl, by omega, by omega, h1, h2, he⟩
  exact ⟨fun g => take (Or.inl g), fun g => ⟨fun g2 => skip (by omega), fun g2 => ⟨fun g3 => skip (by omega), fun g3 => take (by omega)⟩⟩⟩
theorem zp64 : ∀ n, n < 7 → 1 ≤ 2 ^ n ∧ 2 ^ n ≤ 64 := by decide
theorem m_moved {f : Int → Int} {M : Nat → Nat → Int32} {w : Int} {K : Int32 → (Nat → Nat → Int32) → Prop} (hok : zOK f) (hM : zA 94 (M 4) f) (hw : 0 ≤ w ∧ w ≤ 1) (hK : ∀ s : Int × Int, s = zmv f (f 4).toNat 0 (2 ^ (f 4).toNat - 1, f 4) → (w = 1 → K (zi s.1) (va_up M 0 (upd (M 0) 0 0))) ∧ (w = 0 → K (zi s.2) (va_up M 0 (upd (M 0) 0 0)))) : ∃ n, nz_it (fun _ _ _ => False) (S_X8_moved_47 M (zi w) (M 4 4) 0 K) n (M 4 4) ((1 <<< (M 4 4 &&& 31)) - 1) 0 := by
  have hnn := hok.nn
  have e4 : M 4 4 = zi (f 4) := zM4 hM (by decide)
  have e2 : (1 : Int32) <<< (zi (f 4) &&& 31) - 1 = zi (2 ^ (f 4).toNat - 1) := by
    have := zpow5 (f 4).toNat (by omega)
    rw [show ((f 4).toNat : Int) = f 4 by omega] at this
    rw [this, zq1, zi_sub]
    congr 1
  have r64 := zp64 (f 4).toNat (by omega)
  have c64 : ((2 ^ (f 4).toNat : Nat) : Int) = (2 : Int) ^ (f 4).toNat := by push_cast; rfl
  rw [e4, e2]
  refine nz_l3 (fun j x3 x4 x5 => ∃ (i : Nat) (s : Int × Int), x3 = zi s.2 ∧ x4 = zi s.1 ∧ x5 = zi i ∧ (i : Int) ≤ f 4 ∧ j = (f 4).toNat - i ∧ (0 ≤ s.1 ∧ s.1 < 64) ∧ (0 ≤ s.2 ∧ s.2 ≤ 7) ∧ zmv f j i s = zmv f (f 4).toNat 0 (2 ^ (f 4).toNat - 1, f 4)) ?_ (k := (f 4).toNat - 0) ⟨0, (2 ^ (f 4).toNat - 1, f 4), rfl, rfl, rfl, by omega, rfl, by show 0 ≤ (2 : Int) ^ (f 4).toNat - 1 ∧ (2 : Int) ^ (f 4).toNat - 1 < 64; omega, by show 0 ≤ f 4 ∧ f 4 ≤ 7; omega, rfl⟩
  rintro j R _ _ _ ⟨i, s, rfl, rfl, rfl, hi, hj, h1, h2, he⟩ next
  unfold S_X8_moved_47
  rw [zi_le (by omega) (by omega), show (zi w = 0) = (w = 0) from zi_eq (b := 0) (by omega) (by decide)]
  refine ⟨fun c => ?_, fun c => ?_⟩
  · obtain rfl : j = 0 := by omega
    have he : s = _ := he
    obtain ⟨k1, k2⟩ := hK s he
    exact ⟨fun d => k1 (by omega), fun d => k2 d⟩
  obtain ⟨j, rfl⟩ : ∃ i, j = i + 1 := ⟨j - 1, by omega⟩
  have rs := zms_rg hok i
  refine nz_l3 (fun l x6 x7 x8 => ∃ q : Nat, x6 = zi (zbs (zdf f i) q) ∧ x7 = zi (zct (zdf f i) q) ∧ x8 = zi q ∧ (q : Int) ≤ f 4 ∧ l = (f 4).toNat - q) ?_ (k := (f 4).toNat - 0) ⟨0, rfl, rfl, rfl, by omega, rfl⟩
  rintro l R1 _ _ _ ⟨q, rfl, rfl, rfl, hq, hl⟩ next1
  unfold S_X8_moved_62
  rw [zi_le (by omega) (by omega)]
  refine ⟨fun d => ?_, fun d => ?_⟩
  · have eq : q = (f 4).toNat := by omega
    rw [eq]
    rw [show zi (zbs (zdf f i) (f 4).toNat) = zi (zms f i) from rfl, show zi (zct (zdf f i) (f 4).toNat) = zi (zmc f i) from rfl, zi_lt (by omega) (by omega), zi_eq (by omega) (by omega), zi_le (by omega) (by omega)]
    have take : zmc f i < s.2 ∨ (zmc f i = s.2 ∧ zms f i < s.1) → S_X8_moved_171 (zi s.2) (zi s.1) (zi i) (zi (zms f i)) (zi (zmc f i)) 1 R K := fun g => by
      rw [zmv_1 g] at he
      unfold S_X8_moved_171
      rw [zq1, zi_add, ← zq1]
      have n1 : ¬ (1 : Int32) = 0 := by decide
      exact ⟨fun z => absurd z n1, fun _ => ⟨fun z => absurd z n1, fun _ => next j _ _ _ rfl ⟨i + 1, (zms f i, zmc f i), rfl, rfl, rfl, by omega, by omega, rs.1, by omega, he⟩⟩⟩
    have skip : ¬ (zmc f i < s.2 ∨ (zmc f i = s.2 ∧ zms f i < s.1)) → S_X8_moved_171 (zi s.2) (zi s.1) (zi i) (zi (zms f i)) (zi (zmc f i)) 0 R K := fun g => by
      rw [zmv_0 g] at he
      unfold S_X8_moved_171
      rw [zq1, zi_add]
      exact ⟨fun _ => ⟨fun _ => next j _ _ _ rfl ⟨i + 1, s, rfl, rfl, rfl, by omega, by omega, h1, h2, he⟩, fun z => absurd rfl z⟩, fun z => absurd rfl z⟩
    exact ⟨fun g => take (Or.inl g), fun g => ⟨fun g2 => skip (by omega), fun g2 => ⟨fun g3 => skip (by omega), fun g3 => take (by omega)⟩⟩⟩
  · refine m_at hM (by omega) (m_sy hM (by omega) (m_at hM (by omega) (m_sy hM (by omega) ?_)))
    have r1 := zbe_rg hok (k := i) (by omega)
    have r2 := zbe_rg hok (k := q) (by omega)
    have e1 : zi (zat f i) - zi (zsay f i) = zi (zbe f i) := zi_sub _ _
    have e2 : zi (zat f q) - zi (zsay f q) = zi (zbe f q) := zi_sub _ _
    rw [e1, e2, zi_eq (by omega) (by omega)]
    unfold S_X8_moved_123
    refine ⟨fun g => ⟨fun _ => ?_, fun z => absurd rfl z⟩, fun g => ⟨fun z => absurd z (by decide), fun _ => ?_⟩⟩
    · have nd : ¬ zdf f i q = true := by unfold zdf; simp [g]
      refine next1 ((f 4).toNat - (q + 1)) _ _ _ (by omega) ⟨q + 1, ?_, ?_, by rw [zq1, zi_add]; rfl, by omega, rfl⟩
      · rw [Int32.or_zero]
        exact zbs_no _ nd
      · rw [zct_0 nd, zq0, zi_add, Int.add_zero]
    · have nd : zdf f i q = true := by unfold zdf; simp [g]
      refine next1 ((f 4).toNat - (q + 1)) _ _ _ (by omega) ⟨q + 1, ?_, ?_, by rw [zq1, zi_add]; rfl, by omega, rfl⟩
      · exact zbs_or _ (by omega) nd
      · rw [zct_1 nd, zq1, zi_add]
        rfl
theorem zmv_start {f : Int → Int} (hok : zOK f) : (zmv f (f 4).toNat 0 (0, 7)).1 = (zmv f (f 4).toNat 0 (2 ^ (f 4).toNat - 1, f 4)).1 ∧ zpc (zi (zmv f (f 4).toNat 0 (0, 7)).1) = zi (zmv f (f 4).toNat 0 (2 ^ (f 4).toNat - 1, f 4)).2 := by
  have hnn := hok.nn
  rcases Nat.eq_zero_or_pos (f 4).toNat with e | e
  · rw [e]
    have z : f 4 = 0 := by omega
    refine ⟨rfl, ?_⟩
    show zpc (zi 0) = zi (f 4)
    rw [z]
    decide +kernel
  · obtain ⟨j, hj⟩ : ∃ j, (f 4).toNat = j + 1 := ⟨(f 4).toNat - 1, by omega⟩
    have c : zmc f 0 < f 4 := by
      have := zct_lt (d := zdf f 0) (k := 0) (by unfold zdf; simp) (f 4).toNat e
      unfold zmc
      omega
    have a1 : zmv f (f 4).toNat 0 (0, 7) = zmv f j 1 (zms f 0, zmc f 0) := by
      rw [hj]
      exact zmv_1 (Or.inl (by show zmc f 0 < 7; omega))
    have a2 : zmv f (f 4).toNat 0 (2 ^ (f 4).toNat - 1, f 4) = zmv f j 1 (zms f 0, zmc f 0) := by
      generalize (2 : Int) ^ (f 4).toNat - 1 = z
      rw [hj]
      exact zmv_1 (Or.inl c)
    rw [a1, a2]
    exact ⟨rfl, zmv_pc hok _ _ _ (zpc_ms hok 0)⟩
theorem pub_moved {X M : Nat → Nat → Int32} (hR : nz_Rel X M) (v1 : Int32) : wp_X7_moved X v1 (fun r X1 => wp_X8_moved M v1 (fun r1 M1 => r = r1 ∧ nz_Rel X1 M1)) := by
  have hR0 := hR
  obtain ⟨hRD, hRW, hTP, hTR, hla, hst⟩ := hR
  obtain ⟨f, g0, g1, W, k, hM, hok, hX, hI0, hI1, hW, hac, hk, hk8⟩ := hRD
  have hok0 := hok
  obtain ⟨ol, of', os, ofi, ons, onm, onn, ont, oz, oten, ost, oso, omv, otm⟩ := hok
  have hX0 := hX
  obtain ⟨x0, x1, x2, x3, x4, x5, x6, x7, x8, xs, xa, xh, xk, xw, xy, xr, xt⟩ := hX
  have xs : zA (f 4) (X 17) (zsay f) := xs
  have xa : zA (f 4) (X 18) (zat f) := xa
  have xh : zA (f 4) (X 19) (zho f) := xh
  have xk : zA (f 5) (X 20) (zkd f) := xk
  have xw : zA (f 5) (X 21) (zwh f) := xw
  have xy : zA (f 5) (X 22) (zwy f) := xy
  have xr : zA (f 5) (X 23) (zre f) := xr
  have xt : zA (4 * f 7) (X 24) (ztm f) := xt
  have m0 : M 4 0 = zi (f 0) := zM4 hM (by decide)
  have m1 : M 4 1 = zi (f 1) := zM4 hM (by decide)
  have m2 : M 4 2 = zi (f 2) := zM4 hM (by decide)
  have m3 : M 4 3 = zi (f 3) := zM4 hM (by decide)
  have m4 : M 4 4 = zi (f 4) := zM4 hM (by decide)
  have m5 : M 4 5 = zi (f 5) := zM4 hM (by decide)
  have m6 : M 4 6 = zi (f 6) := zM4 hM (by decide)
  have m7 : M 4 7 = zi (f 7) := zM4 hM (by decide)
  obtain ⟨w, rw', rfl⟩ := zi_ex v1
  have M8 : ∀ (K : Int32 → (Nat → Nat → Int32) → Prop), (f 0 ≤ 0 → K (-1000002 : Int32) (va_up M 0 (upd (M 0) 0 0))) → (0 < f 0 → ¬ (0 ≤ w ∧ w ≤ 1) → K (-1000001 : Int32) (va_up M 0 (upd (M 0) 0 0))) → (0 < f 0 → (0 ≤ w ∧ w ≤ 1) → ∀ s : Int × Int, s = zmv f (f 4).toNat 0 (2 ^ (f 4).toNat - 1, f 4) → (w = 1 → K (zi s.1) (va_up M 0 (upd (M 0) 0 0))) ∧ (w = 0 → K (zi s.2) (va_up M 0 (upd (M 0) 0 0)))) → wp_X8_moved M (zi w) K := by
    intro K k1 k2 k3
    unfold wp_X8_moved wp_X8_isThere
    rw [m0, show (zi (f 0) ≤ 0) = (f 0 ≤ 0) from zi_le (b := 0) (by omega) (by decide)]
    exact ⟨fun d => by0 (k1 d), fun d => by1 (s_in (a := w) (l := 0) (u := 1) (z64 rw') rfl rfl (fun c2 => by1 (m_moved hok0 hM c2 (k3 (by omega) c2))) (fun c2 => by0 (k2 (by omega) c2)))⟩
  obtain ⟨z1, z2⟩ := zmv_start hok0
  unfold wp_X7_moved wX_X7_isAmong wX_X2_leastSetMoved_16 wX_J6_bitCount_0f7a4
  refine ⟨fun c0 => ?_, fun c0 => ?_⟩
  · have c0 : 0 < f 0 := by
      apply Classical.byContradiction
      intro z
      rw [x0, if_neg z] at c0
      exact c0 rfl
    refine s_among (a := w) (l := 0) (u := 1) rfl rfl rfl (by omega) (fun c2 => by1 ?_) (fun c2 => by0 (M8 _ (fun q => absurd q (by omega)) (fun _ _ => ⟨rfl, hR0.th⟩) (fun _ q => absurd q c2)))
    refine x_leastSet hok0 x6 xs xa ?_
    rw [show (zi w = 0) = (w = 0) from zi_eq (b := 0) (by omega) (by decide)]
    refine ⟨fun d => ?_, fun d => x_bitCount ?_⟩
    · refine M8 _ (fun q => absurd q (by omega)) (fun _ q => absurd c2 q) (fun _ _ s hs => ⟨fun _ => ⟨by rw [hs, z1], hR0.th⟩, fun q => absurd q d⟩)
    · refine M8 _ (fun q => absurd q (by omega)) (fun _ q => absurd c2 q) (fun _ _ s hs => ⟨fun q => absurd d (by omega), fun _ => ⟨by rw [hs, z2], hR0.th⟩⟩)
  · refine M8 _ (fun _ => ⟨rfl, hR0.th⟩) (fun q => ?_) (fun q => ?_)
    · rw [x0, zth q] at c0
      exact absurd c0 (by decide)
    · rw [x0, zth q] at c0
      exact absurd c0 (by decide)
