def zTk (k : Int32) (s : Nat → Int32) (l : List Int) : Prop := k = zi l.length ∧ zA l.length s (fun i => l.getD i.toNat 0)
theorem zTk.push {k : Int32} {s : Nat → Int32} {l : List Int} {v : Int32} {x : Int} (h : zTk k s l) (hl : l.length < 16) (ev : v = zi x) : zTk (k + 1) (upd s k.toNatClampNeg v) (l ++ [x]) := by
  obtain ⟨h1, h2⟩ := h
  refine ⟨?_, fun a ha => ?_⟩
  · rw [h1, zq1, zi_add, List.length_append]
    rfl
  · rw [List.length_append] at ha
    have ha : 0 ≤ a ∧ a < (l.length : Int) + 1 := by
      have : ([x] : List Int).length = 1 := rfl
      omega
    rw [h1, zi_cl (by omega), ev]
    show (if a.toNat = (l.length : Int).toNat then zi x else s a.toNat) = zi ((l ++ [x]).getD a.toNat 0)
    by_cases e : a.toNat = l.length
    · rw [if_pos (by omega), e, List.getD_eq_getElem?_getD, List.getElem?_append_right (Nat.le_refl _), Nat.sub_self]
      rfl
    · rw [if_neg (by omega), h2 a (by omega)]
      dsimp only
      rw [List.getD_eq_getElem?_getD, List.getD_eq_getElem?_getD, List.getElem?_append_left (by omega)]
theorem x_begin {k : Int32} {s : Nat → Int32} {l : List Int} {v : Int32} {x : Int} {K : Int32 → (Nat → Int32) → Prop} (h : zTk k s l) (hl : l.length < 16) (ev : v = zi x) (hK : ∀ k s, zTk k s (l ++ [x]) → K k s) : wp_X1_begin k s v K := by
  have h1 := h.1
  unfold wp_X1_begin
  have c : ¬ (16 : Int32) ≤ k := by
    rw [h1, zq16, zi_le (by decide) (by omega)]
    omega
  refine ⟨fun d => absurd d c, fun _ => ⟨?_, hK _ _ (h.push hl ev)⟩⟩
  rw [h1]
  exact zi_in (by omega)
theorem m_began {k : Int32} {s : Nat → Int32} {l : List Int} {v : Int32} {x : Int} {K : Int32 → (Nat → Int32) → Prop} (h : zTk k s l) (hl : l.length < 16) (ev : v = zi x) (hK : ∀ k s, zTk k s (l ++ [x]) → K k s) : wp_X8_began k s v K := by
  have h1 := h.1
  unfold wp_X8_began
  have c : ¬ (16 : Int32) ≤ k := by
    rw [h1, zq16, zi_le (by decide) (by omega)]
    omega
  refine ⟨fun d => absurd d c, fun _ => ⟨?_, hK _ _ (h.push hl ev)⟩⟩
  rw [h1]
  exact zi_in (by omega)
def zthA (f : Int → Int) (m : Int) : Int := if zkd f m = 5 then 2 * (zre f m - 100) else zre f m - 100
def zthL (f : Int → Int) (m : Int) : List Int := if zkd f m = 5 then [14, 13, 10] else [13, 10]
def zmkA (f : Int → Int) (m : Int) : Int := if zkd f m = 1 then m + zat f (zwh f m) else if zkd f m = 3 then m + zat f (zwh f m) - 1000 else 2 * (m + zat f (zwh f m))
def zmkL (f : Int → Int) (m : Int) : List Int := if zkd f m = 1 then [21, 20] else if zkd f m = 3 then [22, 21, 20] else [24, 21, 20]
theorem zthL_len {f : Int → Int} {m : Int} : (zthL f m).length ≤ 3 := by
  unfold zthL
  split <;> decide
theorem zmkL_len {f : Int → Int} {m : Int} : (zmkL f m).length ≤ 3 := by
  unfold zmkL
  split
  · decide
  · split <;> decide
theorem len1 {l : List Int} {x : Int} {n : Nat} (h : l.length < n) : (l ++ [x]).length < n + 1 := by
  rw [List.length_append]
  show l.length + 1 < n + 1
  omega
theorem app2 {l : List Int} {x y : Int} : (l ++ [x]) ++ [y] = l ++ [x, y] := by rw [List.append_assoc]; rfl
theorem app3 {l : List Int} {x y z : Int} : (l ++ [x]) ++ [y, z] = l ++ [x, y, z] := by rw [List.append_assoc]; rfl
theorem x_thief {f : Int → Int} {k : Int32} {s f12 f15 : Nat → Int32} {l : List Int} {m : Int} {K : Int32 → Int32 → (Nat → Int32) → Prop} (hok : zOK f) (h : zTk k s l) (hl : l.length < 10) (hm : 0 ≤ m ∧ m < f 5) (h12 : zA (f 5) f12 (zkd f)) (h15 : zA (f 5) f15 (zre f)) (hK : ∀ k s, zTk k s (l ++ zthL f m) → K (zi (zthA f m)) k s) : wp_X1_sizeOfThief k s f12 f15 (zi m) K := by
  have hnn := hok.nn
  have hmv := hok.mv hm
  unfold wp_X1_sizeOfThief S_X1_sizeOfThief_20
  unfold zthL zthA at hK
  rw [h12.at (by omega), h15.at (by omega), show (zi (zkd f m) = 5) = (zkd f m = 5) from zi_eq (b := 5) (by omega) (by decide), zq100, zi_sub]
  refine ⟨zi_in (by omega), fun c => ?_, fun c => ?_⟩
  · rw [if_neg c, if_neg c] at hK
    refine x_begin h (by omega) zq13 (fun k s h => x_begin h (Nat.lt_of_lt_of_le (len1 hl) (by decide)) zq10 (fun k s h => ⟨zi_in (by omega), ?_⟩))
    rw [app2] at h
    have := hK k s h
    rw [zq1, zi_mul, Int.one_mul]
    exact this
  · rw [if_pos c, if_pos c] at hK
    refine x_begin h (by omega) zq14 (fun k s h => x_begin h (Nat.lt_of_lt_of_le (len1 hl) (by decide)) zq13 (fun k s h => x_begin h (Nat.lt_of_lt_of_le (len1 (len1 hl)) (by decide)) zq10 (fun k s h => ⟨zi_in (by omega), ?_⟩)))
    rw [app2, app3] at h
    have := hK k s h
    rw [zq2, zi_mul]
    exact this
theorem m_thief {f : Int → Int} {k : Int32} {s f5 : Nat → Int32} {l : List Int} {m : Int} {K : Int32 → Int32 → (Nat → Int32) → Prop} (hok : zOK f) (h : zTk k s l) (hl : l.length < 10) (hm : 0 ≤ m ∧ m < f 5) (h5 : zA 94 f5 f) (hK : ∀ k s, zTk k s (l ++ zthL f m) → K (zi (zthA f m)) k s) : wp_X8_thiefSize k f5 s (zi m) K := by
  have hnn := hok.nn
  have hmv := hok.mv hm
  unfold wp_X8_thiefSize S_X8_thiefSize_16 wp_X8_plainSize
  unfold zthL zthA at hK
  refine m_kd h5 (by omega) ?_
  rw [show (zi (zkd f m) = 5) = (zkd f m = 5) from zi_eq (b := 5) (by omega) (by decide)]
  refine ⟨fun c => ?_, fun c => ?_⟩
  · rw [if_neg c, if_neg c] at hK
    refine m_began h (by omega) zq13 (fun k s h => m_began h (Nat.lt_of_lt_of_le (len1 hl) (by decide)) zq10 (fun k s h => m_re h5 (by omega) (m_kd h5 (by omega) ?_)))
    rw [app2] at h
    have := hK k s h
    rw [show (zi (zkd f m) = 5) = (zkd f m = 5) from zi_eq (b := 5) (by omega) (by decide), zq100, zi_sub]
    exact ⟨fun _ => this, fun z => absurd z c⟩
  · rw [if_pos c, if_pos c] at hK
    refine m_began h (by omega) zq14 (fun k s h => m_began h (Nat.lt_of_lt_of_le (len1 hl) (by decide)) zq13 (fun k s h => m_began h (Nat.lt_of_lt_of_le (len1 (len1 hl)) (by decide)) zq10 (fun k s h => m_re h5 (by omega) (m_kd h5 (by omega) ?_))))
    rw [app2, app3] at h
    have := hK k s h
    rw [show (zi (zkd f m) = 5) = (zkd f m = 5) from zi_eq (b := 5) (by omega) (by decide), zq100, zi_sub, zq2, zi_mul]
    exact ⟨fun z => absurd c z, fun _ => this⟩
theorem x_mark {f : Int → Int} {k : Int32} {s f10 f12 f13 : Nat → Int32} {l : List Int} {m : Int} {K : Int32 → Int32 → (Nat → Int32) → Prop} (hok : zOK f) (h : zTk k s l) (hl : l.length < 10) (hm : 0 ≤ m ∧ m < f 5) (hk4 : zkd f m < 4) (h10 : zA (f 4) f10 (zat f)) (h12 : zA (f 5) f12 (zkd f)) (h13 : zA (f 5) f13 (zwh f)) (hK : ∀ k s, zTk k s (l ++ zmkL f m) → K (zi (zmkA f m)) k s) : wp_X1_markOfInn k s f10 f12 f13 (zi m) K := by
  have hnn := hok.nn
  have hmv := hok.mv hm
  unfold wp_X1_markOfInn wp_X1_numberAndPlace
  unfold zmkL zmkA at hK
  rw [h12.at (by omega), h13.at (by omega), h10.at (by omega), show (zi (zkd f m) = 2) = (zkd f m = 2) from zi_eq (b := 2) (by omega) (by decide), show (zi (zkd f m) = 3) = (zkd f m = 3) from zi_eq (b := 3) (by omega) (by decide), zi_add]
  refine ⟨zi_in (by omega), fun c => ⟨zi_in (by omega), fun d => ?_, fun d => ?_⟩, fun c => ?_⟩
  · rw [if_pos (by omega), if_pos (by omega)] at hK
    refine x_begin h (by omega) zq21 (fun k s h => x_begin h (Nat.lt_of_lt_of_le (len1 hl) (by decide)) zq20 (fun k s h => ⟨zi_in (by omega), zi_in (by omega), ?_⟩))
    rw [app2] at h
    exact hK k s h
  · rw [if_neg (by omega), if_pos d, if_neg (by omega), if_pos d] at hK
    refine x_begin h (by omega) zq22 (fun k s h => x_begin h (Nat.lt_of_lt_of_le (len1 hl) (by decide)) zq21 (fun k s h => x_begin h (Nat.lt_of_lt_of_le (len1 (len1 hl)) (by decide)) zq20 (fun k s h => ⟨zi_in (by omega), zi_in (by omega), ?_⟩)))
    rw [app2, app3] at h
    dsimp only
    rw [zq1000, zi_sub]
    exact hK k s h
  · rw [if_neg (by omega), if_neg (by omega), if_neg (by omega), if_neg (by omega)] at hK
    refine x_begin h (by omega) zq24 (fun k s h => x_begin h (Nat.lt_of_lt_of_le (len1 hl) (by decide)) zq21 (fun k s h => x_begin h (Nat.lt_of_lt_of_le (len1 (len1 hl)) (by decide)) zq20 (fun k s h => ⟨zi_in (by omega), zi_in (by omega), ?_⟩)))
    rw [app2, app3] at h
    dsimp only
    rw [zq2, zi_mul]
    exact hK k s h
theorem app4 {l a : List Int} {x y : Int} : ((l ++ [x]) ++ [y]) ++ a = l ++ ([x, y] ++ a) := by rw [app2, List.append_assoc]
def zMA (f : Int → Int) (m : Int) : Int := if zkd f m < 4 then zmkA f m else m - zthA f m
def zML (f : Int → Int) (m : Int) : List Int := if zkd f m < 4 then zmkL f m else [23, 20] ++ zthL f m
def zSA (f : Int → Int) (m : Int) : Int := if zkd f m < 4 then (if zkd f m = 2 then -(zre f m + zmkA f m) else zre f m + zmkA f m) else zthA f m
def zSL (f : Int → Int) (m : Int) : List Int := if zkd f m < 4 then (if zkd f m = 2 then [12] ++ ([11, 10] ++ zmkL f m) else [11, 10] ++ zmkL f m) else zthL f m
theorem m_mark {f : Int → Int} {k : Int32} {s f5 : Nat → Int32} {l : List Int} {m : Int} {K : Int32 → Int32 → (Nat → Int32) → Prop} (hok : zOK f) (h : zTk k s l) (hl : l.length < 8) (hm : 0 ≤ m ∧ m < f 5) (h5 : zA 94 f5 f) (hK : ∀ k s, zTk k s (l ++ zML f m) → K (zi (zMA f m)) k s) : wp_X8_markOf k f5 s (zi m) K := by
  have hnn := hok.nn
  have hmv := hok.mv hm
  unfold wp_X8_markOf S_X8_markOf_53
  unfold zML zMA at hK
  refine m_kd h5 (by omega) ?_
  rw [show (zi (zkd f m) < 4) = (zkd f m < 4) from zi_lt (b := 4) (by omega) (by decide), show (zi (zkd f m) = 1) = (zkd f m = 1) from zi_eq (b := 1) (by omega) (by decide), show (zi (zkd f m) = 3) = (zkd f m = 3) from zi_eq (b := 3) (by omega) (by decide)]
  refine ⟨fun c => ⟨fun d => ?_, fun d => ⟨fun e => ?_, fun e => ?_⟩⟩, fun c => ?_⟩
  · rw [if_pos c, if_pos c] at hK
    unfold zmkL zmkA at hK
    rw [if_pos d, if_pos d] at hK
    refine m_began h (by omega) zq21 (fun k s h => m_began h (Nat.lt_of_lt_of_le (len1 hl) (by decide)) zq20 (fun k s h => m_wh h5 (by omega) (m_at h5 (by omega) ?_)))
    rw [app2] at h
    rw [zi_add]
    exact ⟨fun z => absurd d z, fun _ => hK k s h⟩
  · rw [if_pos c, if_pos c] at hK
    unfold zmkL zmkA at hK
    rw [if_neg d, if_neg e, if_neg d, if_neg e] at hK
    refine m_began h (by omega) zq24 (fun k s h => m_began h (Nat.lt_of_lt_of_le (len1 hl) (by decide)) zq21 (fun k s h => m_began h (Nat.lt_of_lt_of_le (len1 (len1 hl)) (by decide)) zq20 (fun k s h => m_wh h5 (by omega) (m_at h5 (by omega) ?_))))
    rw [app2, app3] at h
    rw [zi_add, zq2, zi_mul]
    exact ⟨fun _ => ⟨fun _ => hK k s h, fun z => absurd z e⟩, fun z => absurd z d⟩
  · rw [if_pos c, if_pos c] at hK
    unfold zmkL zmkA at hK
    rw [if_neg d, if_pos e, if_neg d, if_pos e] at hK
    refine m_began h (by omega) zq22 (fun k s h => m_began h (Nat.lt_of_lt_of_le (len1 hl) (by decide)) zq21 (fun k s h => m_began h (Nat.lt_of_lt_of_le (len1 (len1 hl)) (by decide)) zq20 (fun k s h => m_wh h5 (by omega) (m_at h5 (by omega) ?_))))
    rw [app2, app3] at h
    rw [zi_add, zq1000, zi_sub]
    exact ⟨fun _ => ⟨fun z => absurd e z, fun _ => hK k s h⟩, fun z => absurd z d⟩
  · rw [if_neg c, if_neg c] at hK
    refine m_began h (by omega) zq23 (fun k s h => m_began h (Nat.lt_of_lt_of_le (len1 hl) (by decide)) zq20 (fun k s h => m_thief hok h (Nat.lt_of_lt_of_le (len1 (len1 hl)) (by decide)) hm h5 (fun k s h => ?_)))
    rw [app4] at h
    rw [zi_sub]
    exact hK k s h
theorem m_size {f : Int → Int} {k : Int32} {s f5 : Nat → Int32} {m : Int} {K : Int32 → Int32 → (Nat → Int32) → Prop} (hok : zOK f) (h : zTk k s []) (hm : 0 ≤ m ∧ m < f 5) (h5 : zA 94 f5 f) (hK : ∀ k s, zTk k s (zSL f m) → K (zi (zSA f m)) k s) : wp_X8_sizeOf k f5 s (zi m) K := by
  have hnn := hok.nn
  have hmv := hok.mv hm
  unfold wp_X8_sizeOf S_X8_sizeOf_29 wp_X8_plainSize
  unfold zSL zSA at hK
  refine m_kd h5 (by omega) ?_
  rw [show (zi (zkd f m) < 4) = (zkd f m < 4) from zi_lt (b := 4) (by omega) (by decide), show (zi (zkd f m) = 2) = (zkd f m = 2) from zi_eq (b := 2) (by omega) (by decide)]
  refine ⟨fun c => ⟨fun d => ?_, fun d => ?_⟩, fun c => ?_⟩
  · rw [if_pos c, if_neg d, if_pos c, if_neg d] at hK
    refine m_began h (by decide) zq11 (fun k s h => m_began h (by decide) zq10 (fun k s h => m_re h5 (by omega) (m_mark hok h (by decide) hm h5 (fun k s h => ?_))))
    unfold zML at h
    unfold zMA
    rw [if_pos c] at h ⊢
    rw [zi_add]
    exact ⟨fun _ => hK k s h, fun z => absurd z d⟩
  · rw [if_pos c, if_pos d, if_pos c, if_pos d] at hK
    refine m_began h (by decide) zq12 (fun k s h => m_began h (by decide) zq11 (fun k s h => m_began h (by decide) zq10 (fun k s h => m_re h5 (by omega) (m_mark hok h (by decide) hm h5 (fun k s h => ?_)))))
    unfold zML at h
    unfold zMA
    rw [if_pos c] at h ⊢
    rw [zi_add, zi_neg]
    exact ⟨fun z => absurd d z, fun _ => hK k s h⟩
  · rw [if_neg c, if_neg c] at hK
    exact m_thief hok h (by decide) hm h5 (fun k s h => hK k s h)
theorem zA0 (s : Nat → Int32) : zTk 0 s [] := ⟨rfl, fun a ha => absurd ha (by show ¬ (0 ≤ a ∧ a < ((0 : Nat) : Int)); omega)⟩
theorem nz_Rel.tr {X M : Nat → Nat → Int32} (h : nz_Rel X M) {k1 k2 : Int32} {s1 s2 : Nat → Int32} {l : List Int} (a : zTk k1 s1 l) (b : zTk k2 s2 l) (hl : l.length ≤ 16) {X' M' : Nat → Nat → Int32} (eX : ∀ i : Nat, i < 52 ∨ 54 ≤ i → X' i = X i) (e1 : X' 52 1 = k1) (e2 : X' 53 = s1) (eM : ∀ i : Nat, 1 ≤ i → i ≠ 13 → M' i = M i) (m25 : M' 0 25 = k2) (m13 : M' 13 = s2) (m8 : M' 0 8 = M 0 8) (m10 : M' 0 10 = M 0 10) (m11 : M' 0 11 = M 0 11) (m1 : M' 0 1 = M 0 1) : nz_Rel X' M' := by
  obtain ⟨h1, h2, h3, h4, h5, h6⟩ := h
  refine ⟨h1.fr (fun i hi => eX i (by omega)) (eM 4 (by decide) (by decide)) (eM 6 (by decide) (by decide)) (eM 11 (by decide) (by decide)) (eM 12 (by decide) (by decide)) m8, h2.fr (fun i hi => eX i (by omega)) (eX 2 (by decide)) (eX 3 (by decide)) (eM 1 (by decide) (by decide)) (eM 2 (by decide) (by decide)) (eM 3 (by decide) (by decide)), h3.fr (by rw [eX 5 (by decide)]) (eX 6 (by decide)) m10 (eM 7 (by decide) (by decide)), ⟨l.length, _, by omega, e1.trans a.1, m25.trans b.1, by rw [e2]; exact a.2, by rw [m13]; exact b.2⟩, by rw [eX 0 (by decide), m11]; exact h5, by rw [eX 0 (by decide), m1]; exact h6⟩
theorem pub_ask {X M : Nat → Nat → Int32} (hR : nz_Rel X M) (v1 : Int32) (v2 : Int32) : wp_X7_ask X v1 v2 (fun r X1 => wp_X8_ask M v1 v2 (fun r1 M1 => r = r1 ∧ nz_Rel X1 M1)) := by
  have hR0 := hR
  obtain ⟨hRD, hRW, hTP, hTR, hla, hst⟩ := hR
  obtain ⟨f, g0, g1, W, k, hM, hok, hX, hI0, hI1, hW, hac, hk, hk8⟩ := hRD
  have hok0 := hok
  obtain ⟨ol, of', os, ofi, ons, onm, onn, ont, oz, oten, ost, oso, omv, otm⟩ := hok
  have hX0 := hX
  obtain ⟨x0, x1, x2, x3, x4, x5, x6, x7, x8, xs, xa, xh, xk, xw, xy, xr, xt⟩ := hX
  have xs : zA (f 4) (X 17) (zsay f) := xs
  have xa : zA (f 4) (X 18) (zat f) := xa
  have xh : zA (f 4) (X 19) (zho f) := xh
  have xk : zA (f 5) (X 20) (zkd f) := xk
  have xw : zA (f 5) (X 21) (zwh f) := xw
  have xy : zA (f 5) (X 22) (zwy f) := xy
  have xr : zA (f 5) (X 23) (zre f) := xr
  have xt : zA (4 * f 7) (X 24) (ztm f) := xt
  have m0 : M 4 0 = zi (f 0) := zM4 hM (by decide)
  have m1 : M 4 1 = zi (f 1) := zM4 hM (by decide)
  have m2 : M 4 2 = zi (f 2) := zM4 hM (by decide)
  have m3 : M 4 3 = zi (f 3) := zM4 hM (by decide)
  have m4 : M 4 4 = zi (f 4) := zM4 hM (by decide)
  have m5 : M 4 5 = zi (f 5) := zM4 hM (by decide)
  have m6 : M 4 6 = zi (f 6) := zM4 hM (by decide)
  have m7 : M 4 7 = zi (f 7) := zM4 hM (by decide)
  obtain ⟨m, rm, rfl⟩ := zi_ex v1
  obtain ⟨w, rw', rfl⟩ := zi_ex v2
  have M8 : ∀ (K : Int32 → (Nat → Nat → Int32) → Prop), (¬ ((0 ≤ m ∧ m < f 5) ∧ (0 ≤ w ∧ w ≤ 1)) → K (-1000001 : Int32) (va_up M 0 (upd (M 0) 0 0))) → ((0 ≤ m ∧ m < f 5) ∧ (0 ≤ w ∧ w ≤ 1) → (w = 0 → ∀ k s, zTk k s (zSL f m) → K (zi (zSA f m)) (va_up (va_up M 0 (upd (upd (M 0) 0 0) 25 k)) 13 s)) ∧ (w = 1 → ∀ k s, zTk k s (zML f m) → K (zi (zMA f m)) (va_up (va_up M 0 (upd (upd (M 0) 0 0) 25 k)) 13 s))) → wp_X8_ask M (zi m) (zi w) K := by
    intro K k1 k2
    unfold wp_X8_ask
    refine s8_isMover m5 (by omega) rm (fun c1 => by1' (s_in (a := w) (l := 0) (u := 1) (z64 rw') rfl rfl (fun c2 => by1 ?_) (fun c2 => by0 (k1 (by omega))))) (fun c1 => by0' (k1 (by omega)))
    obtain ⟨k3, k4⟩ := k2 ⟨c1, c2⟩
    rw [show (zi w = 0) = (w = 0) from zi_eq (b := 0) (by omega) (by decide)]
    exact ⟨fun d => m_mark hok0 (zA0 _) (by decide) c1 hM (fun k s h => k4 (by omega) k s h), fun d => m_size hok0 (zA0 _) c1 hM (fun k s h => k3 d k s h)⟩
  have MB : ¬ ((0 ≤ m ∧ m < f 5) ∧ (0 ≤ w ∧ w ≤ 1)) → wp_X8_ask M (zi m) (zi w) (fun r1 M1 => (-1000001 : Int32) = r1 ∧ nz_Rel X M1) := fun h => M8 _ (fun _ => ⟨rfl, hR0.th⟩) (fun q => absurd q h)
  unfold wp_X7_ask wX_X5_isMover_16 wX_X7_isAmong wX_X1_clear_52 wp_X1_clear wX_X1_markOf_52_16 wX_X1_sizeOf_52_16
  refine s5_isMover x7 (by omega) rm (fun c1 => by1' (s_among (a := w) (l := 0) (u := 1) rfl rfl rfl (by omega) (fun c2 => by1 ?_) (fun c2 => by0 (MB (by omega))))) (fun c1 => by0' (MB (by omega)))
  have hmv := omv m c1
  have l1 := zthL_len (f := f) (m := m)
  have l2 := zmkL_len (f := f) (m := m)
  have fin : ∀ k1 s1 k2 s2 (l : List Int), zTk k1 s1 l → zTk k2 s2 l → l.length ≤ 16 → nz_Rel (va_up (va_up (va_up X 52 (upd (X 52) 1 0)) 52 (upd (va_up X 52 (upd (X 52) 1 0) 52) 1 k1)) 53 s1) (va_up (va_up M 0 (upd (upd (M 0) 0 0) 25 k2)) 13 s2) := fun k1 s1 k2 s2 l a b hl => hR0.tr a b hl (fun i hi => (zup1 (by omega)).trans ((zup1 (by omega)).trans (zup1 (by omega)))) rfl rfl (fun i h1 h13 => (zup1 (by omega)).trans (zup1 (by omega))) rfl rfl rfl rfl rfl rfl
  rw [show (zi w = 0) = (w = 0) from zi_eq (b := 0) (by omega) (by decide)]
  refine ⟨fun d => ?_, fun d => ?_⟩
  · show wp_X1_markOf 0 (X 53) (X 18) (X 20) (X 21) (X 23) (zi m) _
    have go : ∀ k s, zTk k s (zML f m) → wp_X8_ask M (zi m) (zi w) (fun r1 M1 => zi (zMA f m) = r1 ∧ nz_Rel (va_up (va_up (va_up X 52 (upd (X 52) 1 0)) 52 (upd (va_up X 52 (upd (X 52) 1 0) 52) 1 k)) 53 s) M1) := fun k s h => M8 _ (fun q => absurd ⟨c1, c2⟩ q) (fun _ => ⟨fun q => absurd q d, fun _ k2 s2 h2 => ⟨rfl, fin _ _ _ _ _ h h2 (by
      unfold zML
      split
      · omega
      · rw [List.length_append]
        show 2 + _ ≤ 16
        omega)⟩⟩)
    unfold wp_X1_markOf
    rw [xk.at (by omega), zq4]
    unfold zML zMA at go
    refine ⟨zi_in (by omega), x_isOne hmv.1 (by decide) (fun e => by1' ?_) (fun e => by0' ?_)⟩
    · rw [if_neg (by omega), if_neg (by omega)] at go
      unfold wp_X1_markOfThief
      refine x_begin (zA0 _) (by decide) zq23 (fun k s h => x_begin h (by decide) zq20 (fun k s h => x_thief hok0 h (by decide) c1 xk xr (fun k s h => ?_)))
      rw [zi_sub]
      exact go k s h
    · rw [if_pos (by omega), if_pos (by omega)] at go
      exact x_mark hok0 (zA0 _) (by decide) c1 (by omega) xa xk xw (fun k s h => go k s h)
  · show wp_X1_sizeOf 0 (X 53) (X 18) (X 20) (X 21) (X 23) (zi m) _
    have go : ∀ k s, zTk k s (zSL f m) → wp_X8_ask M (zi m) (zi w) (fun r1 M1 => zi (zSA f m) = r1 ∧ nz_Rel (va_up (va_up (va_up X 52 (upd (X 52) 1 0)) 52 (upd (va_up X 52 (upd (X 52) 1 0) 52) 1 k)) 53 s) M1) := fun k s h => M8 _ (fun q => absurd ⟨c1, c2⟩ q) (fun _ => ⟨fun _ k2 s2 h2 => ⟨rfl, fin _ _ _ _ _ h h2 (by
      unfold zSL
      split
      · split
        · rw [List.length_append, List.length_append]
          show 1 + (2 + _) ≤ 16
          omega
        · rw [List.length_append]
          show 2 + _ ≤ 16
          omega
      · omega)⟩, fun q => absurd d (by omega)⟩)
    unfold wp_X1_sizeOf
    rw [xk.at (by omega), zq4]
    unfold zSL zSA at go
    refine ⟨zi_in (by omega), x_isOne hmv.1 (by decide) (fun e => by1' ?_) (fun e => by0' ?_)⟩
    · rw [if_neg (by omega), if_neg (by omega)] at go
      exact x_thief hok0 (zA0 _) (by decide) c1 xk xr (fun k s h => go k s h)
    · have c4 : zkd f m < 4 := by omega
      rw [if_pos c4, if_pos c4] at go
      unfold wp_X1_sizeOfInn wp_X1_reachAndMark
      rw [xk.at (by omega), xr.at (by omega), show (zi (zkd f m) = 2) = (zkd f m = 2) from zi_eq (b := 2) (by omega) (by decide)]
      refine ⟨zi_in (by omega), fun g => ?_, fun g => ?_⟩
      · rw [if_neg g, if_neg g] at go
        refine x_begin (zA0 _) (by decide) zq11 (fun k s h => x_begin h (by decide) zq10 (fun k s h => ⟨zi_in (by omega), x_mark hok0 h (by decide) c1 (by omega) xa xk xw (fun k s h => ?_)⟩))
        rw [zi_add]
        exact go k s h
      · rw [if_pos g, if_pos g] at go
        refine x_begin (zA0 _) (by decide) zq12 (fun k s h => x_begin h (by decide) zq11 (fun k s h => x_begin h (by decide) zq10 (fun k s h => ⟨zi_in (by omega), x_mark hok0 h (by decide) c1 (by omega) xa xk xw (fun k s h => ?_)⟩)))
        dsimp only
        rw [zi_add, zi_neg]
        exact go k s h
