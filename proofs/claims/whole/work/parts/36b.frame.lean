theorem x_abs {a b : Int} (ra : -1000000 ≤ a ∧ a ≤ 1000000) (rb : -1000000 ≤ b ∧ b ≤ 1000000) : (if (0 : Int32) ≤ zi a - zi b then zi a - zi b else 0 - (zi a - zi b)) = zi (if b ≤ a then a - b else b - a) := by
  rw [zi_sub, zq0, zi_sub, zi_ifle (by decide) (by omega)]
  congr 1
  split <;> split <;> omega
theorem nz_Rel.scr {X M X' M' : Nat → Nat → Int32} (h : nz_Rel X M) (e : ∀ i : Nat, i ≤ 46 ∨ 52 ≤ i → X' i = X i) (m : ∀ i : Nat, 1 ≤ i → i ≠ 8 → i ≠ 9 → i ≠ 10 → M' i = M i) (m8 : M' 0 8 = M 0 8 := by rfl) (m10 : M' 0 10 = M 0 10 := by rfl) (m25 : M' 0 25 = M 0 25 := by rfl) (m11 : M' 0 11 = M 0 11 := by rfl) (m1 : M' 0 1 = M 0 1 := by rfl) : nz_Rel X' M' := by
  obtain ⟨h1, h2, h3, h4, h5, h6⟩ := h
  exact ⟨h1.fr (fun i hi => e i (by omega)) (m 4 (by decide) (by decide) (by decide) (by decide)) (m 6 (by decide) (by decide) (by decide) (by decide)) (m 11 (by decide) (by decide) (by decide) (by decide)) (m 12 (by decide) (by decide) (by decide) (by decide)) m8,
    h2.fr (fun i hi => e i (by omega)) (e 2 (by decide)) (e 3 (by decide)) (m 1 (by decide) (by decide) (by decide) (by decide)) (m 2 (by decide) (by decide) (by decide) (by decide)) (m 3 (by decide) (by decide) (by decide) (by decide)),
    h3.fr (by rw [e 5 (by decide)]) (e 6 (by decide)) m10 (m 7 (by decide) (by decide) (by decide) (by decide)),
    h4.fr (by rw [e 52 (by decide)]) (e 53 (by decide)) m25 (m 13 (by decide) (by decide) (by decide) (by decide)), by rw [e 0 (by decide), m11]; exact h5, by rw [e 0 (by decide), m1]; exact h6⟩
theorem zRD.now {X M X' M' : Nat → Nat → Int32} {f W : Int → Int} {k : Int} (h : zRD X M) (a1 : zA 94 (M' 4) f) (a2 : zOK f) (a3 : zRX f X' 16) (a4 : zA 168 (M' 6) W) (a5 : zAC f W k (X' 45) (X' 46)) (a6 : X' 44 2 = zi k) (a7 : M' 0 8 = zi k) (e : ∀ i : Nat, 26 ≤ i ∧ i ≤ 43 → X' i = X i) (m11 : M' 11 = M 11) (m12 : M' 12 = M 12) : zRD X' M' := by
  obtain ⟨f0, g0, g1, W0, k0, h1, h2, h3, ⟨b1, b2, b3, b4⟩, ⟨c1, c2, c3, c4⟩, h5, h6, h7, h8⟩ := h
  refine ⟨f, g0, g1, W, k, a1, a2, a3, ⟨?_, b2, b3.fr (fun i hi => e i (by omega)), ?_⟩, ⟨?_, c2, c3.fr (fun i hi => e i (by omega)), ?_⟩, a4, a5, a6, a7⟩
  · rw [m12]; exact b1
  · rw [m11]; exact b4
  · rw [m12]; exact c1
  · rw [m11]; exact c4
theorem nz_Rel.now {X M X' M' : Nat → Nat → Int32} {f W : Int → Int} {k : Int} (h : nz_Rel X M) (a1 : zA 94 (M' 4) f) (a2 : zOK f) (a3 : zRX f X' 16) (a4 : zA 168 (M' 6) W) (a5 : zAC f W k (X' 45) (X' 46)) (a6 : X' 44 2 = zi k) (a7 : M' 0 8 = zi k) (e : ∀ i : Nat, i < 16 ∨ (25 ≤ i ∧ i ≤ 43) ∨ 52 ≤ i → X' i = X i) (m : ∀ i : Nat, 1 ≤ i → i ≠ 4 → i ≠ 5 → i ≠ 6 → i ≠ 8 → i ≠ 9 → i ≠ 10 → M' i = M i) (m10 : M' 0 10 = M 0 10 := by rfl) (m25 : M' 0 25 = M 0 25 := by rfl) (m11 : M' 0 11 = M 0 11 := by rfl) (m1 : M' 0 1 = M 0 1 := by rfl) : nz_Rel X' M' := by
  obtain ⟨h1, h2, h3, h4, h5, h6⟩ := h
  have q : ∀ i : Nat, (i = 1 ∨ i = 2 ∨ i = 3 ∨ i = 7 ∨ i = 11 ∨ i = 12 ∨ i = 13) → M' i = M i := fun i hi => m i (by omega) (by omega) (by omega) (by omega) (by omega) (by omega) (by omega)
  exact ⟨h1.now a1 a2 a3 a4 a5 a6 a7 (fun i hi => e i (by omega)) (q 11 (by decide)) (q 12 (by decide)),
    h2.fr (fun i hi => e i (by omega)) (e 2 (by decide)) (e 3 (by decide)) (q 1 (by decide)) (q 2 (by decide)) (q 3 (by decide)),
    h3.fr (by rw [e 5 (by decide)]) (e 6 (by decide)) m10 (q 7 (by decide)),
    h4.fr (by rw [e 52 (by decide)]) (e 53 (by decide)) m25 (q 13 (by decide)), by rw [e 0 (by decide), m11]; exact h5, by rw [e 0 (by decide), m1]; exact h6⟩
theorem zA.of {n : Int} {s : Nat → Int32} {f g : Int → Int} (h : zA n s f) (e : ∀ a : Int, 0 ≤ a ∧ a < n → g a = f a) : zA n s g := fun a ha => by rw [e a ha]; exact h a ha
def zEq (f g : Int → Int) : Prop := ∀ i : Int, 0 ≤ i ∧ i < 46 → i ≠ 7 → g i = f i
theorem zEq.pa {f g : Int → Int} (e : zEq f g) : g 0 = f 0 ∧ g 1 = f 1 ∧ g 2 = f 2 ∧ g 3 = f 3 ∧ g 4 = f 4 ∧ g 5 = f 5 ∧ g 6 = f 6 := ⟨e 0 (by decide) (by decide), e 1 (by decide) (by decide), e 2 (by decide) (by decide), e 3 (by decide) (by decide), e 4 (by decide) (by decide), e 5 (by decide) (by decide), e 6 (by decide) (by decide)⟩
theorem zEq.st {f g : Int → Int} (e : zEq f g) {k : Int} (hk : 0 ≤ k ∧ k < 6) : zsay g k = zsay f k ∧ zat g k = zat f k ∧ zho g k = zho f k := ⟨e _ (by omega) (by omega), e _ (by omega) (by omega), e _ (by omega) (by omega)⟩
theorem zEq.mv {f g : Int → Int} (e : zEq f g) {m : Int} (hm : 0 ≤ m ∧ m < 5) : zkd g m = zkd f m ∧ zwh g m = zwh f m ∧ zwy g m = zwy f m ∧ zre g m = zre f m := ⟨e _ (by omega) (by omega), e _ (by omega) (by omega), e _ (by omega) (by omega), e _ (by omega) (by omega)⟩
theorem zOK.eq {f g : Int → Int} (h : zOK f) (e : zEq f g) (h7 : 0 ≤ g 7 ∧ g 7 ≤ 12) (hz : f 0 = 0 → g 7 = 0) (ht : ∀ q : Int, 0 ≤ q ∧ q < g 7 → (0 ≤ ztm g (4 * q) ∧ ztm g (4 * q) < ztm g (4 * q + 1) ∧ ztm g (4 * q + 1) < g 4) ∧ (1 ≤ ztm g (4 * q + 2) ∧ ztm g (4 * q + 2) ≤ 20) ∧ (0 ≤ ztm g (4 * q + 3) ∧ ztm g (4 * q + 3) ≤ 99)) : zOK g := by
  obtain ⟨e0, e1, e2, e3, e4, e5, e6⟩ := e.pa
  obtain ⟨ol, of', os, ofi, ons, onm, onn, ont, oz, oten, ost, oso, omv, otm⟩ := h
  refine ⟨by omega, by omega, by omega, by omega, by omega, by omega, by omega, h7, fun z => ?_, by omega, fun k hk => ?_, fun k hk => ?_, fun m hm => ?_, ht⟩
  · have := oz (by omega)
    have := hz (by omega)
    omega
  · have := e.st (k := k) (by omega)
    have := ost k (by omega)
    omega
  · have := e.st (k := k) (by omega)
    have := e.st (k := k + 1) (by omega)
    have := oso k (by omega)
    omega
  · have := e.mv (m := m) (by omega)
    have := omv m (by omega)
    omega
theorem zRX.eq {f g : Int → Int} {X X' : Nat → Nat → Int32} (hok : zOK f) (h : zRX f X 16) (e : zEq f g) (h16 : ∀ i : Nat, i < 8 → X' 16 i = X 16 i) (h8 : X' 16 8 = zi (g 7)) (hX : ∀ i : Nat, 17 ≤ i ∧ i ≤ 23 → X' i = X i) (ht : zA (4 * g 7) (X' 24) (ztm g)) : zRX g X' 16 := by
  obtain ⟨e0, e1, e2, e3, e4, e5, e6⟩ := e.pa
  have hnn := hok.nn
  obtain ⟨x0, x1, x2, x3, x4, x5, x6, x7, x8, xs, xa, xh, xk, xw, xy, xr, xt⟩ := h
  refine ⟨?_, ?_, ?_, ?_, ?_, ?_, ?_, ?_, h8, ?_, ?_, ?_, ?_, ?_, ?_, ?_, ht⟩
  · rw [h16 0 (by decide), e0]; exact x0
  · rw [h16 1 (by decide), e0]; exact x1
  · rw [h16 2 (by decide), e1]; exact x2
  · rw [h16 3 (by decide), e2]; exact x3
  · rw [h16 4 (by decide), e3]; exact x4
  · rw [h16 5 (by decide), e6]; exact x5
  · rw [h16 6 (by decide), e4]; exact x6
  · rw [h16 7 (by decide), e5]; exact x7
  · rw [hX 17 (by decide), e4]; exact xs.of (fun a ha => (e.st (by omega)).1)
  · rw [hX 18 (by decide), e4]; exact xa.of (fun a ha => (e.st (by omega)).2.1)
  · rw [hX 19 (by decide), e4]; exact xh.of (fun a ha => (e.st (by omega)).2.2)
  · rw [hX 20 (by decide), e5]; exact xk.of (fun a ha => (e.mv (by omega)).1)
  · rw [hX 21 (by decide), e5]; exact xw.of (fun a ha => (e.mv (by omega)).2.1)
  · rw [hX 22 (by decide), e5]; exact xy.of (fun a ha => (e.mv (by omega)).2.2.1)
  · rw [hX 23 (by decide), e5]; exact xr.of (fun a ha => (e.mv (by omega)).2.2.2)
theorem zAC.eq {f g W : Int → Int} {k : Int} {pl nt : Nat → Int32} (h : zAC f W k pl nt) (e4 : g 4 = f 4) (e0 : g 0 = f 0) : zAC g W k pl nt := by
  unfold zAC
  rw [e4, e0]
  exact h
def zt1 (f : Int → Int) (a b v t : Int) : Int → Int := iup (iup (iup (iup (iup f (46 + 4 * f 7) a) (46 + 4 * f 7 + 1) b) (46 + 4 * f 7 + 2) v) (46 + 4 * f 7 + 3) t) 7 (f 7 + 1)
theorem zt1_7 {f : Int → Int} {a b v t : Int} : zt1 f a b v t 7 = f 7 + 1 := iup_eq _ _ _
theorem zt1_at {f : Int → Int} {a b v t i : Int} (h : i ≠ 7) : zt1 f a b v t i = if i = 46 + 4 * f 7 + 3 then t else if i = 46 + 4 * f 7 + 2 then v else if i = 46 + 4 * f 7 + 1 then b else if i = 46 + 4 * f 7 then a else f i := by
  show (if i = 7 then _ else _) = _
  rw [if_neg h]
  rfl
theorem zt1_eq {f : Int → Int} {a b v t : Int} (h : 0 ≤ f 7) : zEq f (zt1 f a b v t) := fun i hi h7 => by
  rw [zt1_at h7, if_neg (by omega), if_neg (by omega), if_neg (by omega), if_neg (by omega)]
theorem zt1_tm {f : Int → Int} {a b v t q : Int} (hq : 0 ≤ q) : ztm (zt1 f a b v t) q = if q = 4 * f 7 + 3 then t else if q = 4 * f 7 + 2 then v else if q = 4 * f 7 + 1 then b else if q = 4 * f 7 then a else ztm f q := by
  unfold ztm
  rw [zt1_at (by omega)]
  by_cases c1 : q = 4 * f 7 + 3
  · rw [if_pos (by omega), if_pos c1]
  rw [if_neg (by omega), if_neg c1]
  by_cases c2 : q = 4 * f 7 + 2
  · rw [if_pos (by omega), if_pos c2]
  rw [if_neg (by omega), if_neg c2]
  by_cases c3 : q = 4 * f 7 + 1
  · rw [if_pos (by omega), if_pos c3]
  rw [if_neg (by omega), if_neg c3]
  by_cases c4 : q = 4 * f 7
  · rw [if_pos (by omega), if_pos c4]
  rw [if_neg (by omega), if_neg c4]
theorem zt1_ok {f : Int → Int} (hok : zOK f) {a b v t : Int} (h12 : f 7 < 12) (h : (0 ≤ a ∧ a < b ∧ b < f 4) ∧ (1 ≤ v ∧ v ≤ 20) ∧ (0 ≤ t ∧ t ≤ 99)) : zOK (zt1 f a b v t) := by
  have hnn := hok.nn
  refine hok.eq (zt1_eq (by omega)) (by rw [zt1_7]; omega) (fun z => ?_) (fun q hq => ?_)
  · have := hok.2.2.2.2.2.2.2.2.1 z
    omega
  · rw [zt1_7] at hq
    rw [(zt1_eq (a := a) (b := b) (v := v) (t := t) (by omega : 0 ≤ f 7)).pa.2.2.2.2.1]
    rw [zt1_tm (by omega), zt1_tm (by omega), zt1_tm (by omega), zt1_tm (by omega)]
    by_cases e : q = f 7
    · rw [if_neg (by omega), if_neg (by omega), if_neg (by omega), if_pos (by omega), if_neg (by omega), if_neg (by omega), if_pos (by omega), if_neg (by omega), if_pos (by omega), if_pos (by omega)]
      exact h
    · rw [if_neg (by omega), if_neg (by omega), if_neg (by omega), if_neg (by omega), if_neg (by omega), if_neg (by omega), if_neg (by omega), if_neg (by omega), if_neg (by omega), if_neg (by omega), if_neg (by omega), if_neg (by omega), if_neg (by omega), if_neg (by omega), if_neg (by omega), if_neg (by omega)]
      exact hok.2.2.2.2.2.2.2.2.2.2.2.2.2 q (by omega)
