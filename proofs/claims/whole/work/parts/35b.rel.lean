def zsay (f : Int → Int) (k : Int) : Int := f (8 + 3 * k)
def zat (f : Int → Int) (k : Int) : Int := f (9 + 3 * k)
def zho (f : Int → Int) (k : Int) : Int := f (10 + 3 * k)
def zkd (f : Int → Int) (m : Int) : Int := f (26 + 4 * m)
def zwh (f : Int → Int) (m : Int) : Int := f (27 + 4 * m)
def zwy (f : Int → Int) (m : Int) : Int := f (28 + 4 * m)
def zre (f : Int → Int) (m : Int) : Int := f (29 + 4 * m)
def ztm (f : Int → Int) (q : Int) : Int := f (46 + q)
def zOK (f : Int → Int) : Prop :=
  (0 ≤ f 0 ∧ f 0 ≤ 200) ∧ (0 ≤ f 1 ∧ f 1 ≤ 20) ∧ (0 ≤ f 2 ∧ f 2 ≤ 100) ∧ (0 ≤ f 3 ∧ f 3 ≤ 99) ∧ (0 ≤ f 4 ∧ f 4 ≤ 6) ∧ (0 ≤ f 5 ∧ f 5 ≤ 5) ∧ (0 ≤ f 6 ∧ f 6 ≤ 9999) ∧ (0 ≤ f 7 ∧ f 7 ≤ 12) ∧
  (f 0 = 0 → f 4 = 0 ∧ f 5 = 0 ∧ f 6 = 0 ∧ f 7 = 0) ∧ (0 < f 0 → 10 ≤ f 0) ∧
  (∀ k : Int, 0 ≤ k ∧ k < f 4 → (0 ≤ zsay f k ∧ zsay f k ≤ 200) ∧ (0 ≤ zat f k ∧ zat f k ≤ f 0) ∧ (0 ≤ zho f k ∧ zho f k ≤ f 0)) ∧
  (∀ k : Int, 0 ≤ k ∧ k + 1 < f 4 → zat f k < zat f (k + 1) ∧ zho f k < zho f (k + 1)) ∧
  (∀ m : Int, 0 ≤ m ∧ m < f 5 → (1 ≤ zkd f m ∧ zkd f m ≤ 5) ∧ (0 ≤ zwh f m ∧ zwh f m < f 4) ∧ (0 ≤ zwy f m ∧ zwy f m ≤ 1) ∧ (1 ≤ zre f m ∧ zre f m ≤ 5)) ∧
  (∀ q : Int, 0 ≤ q ∧ q < f 7 → (0 ≤ ztm f (4 * q) ∧ ztm f (4 * q) < ztm f (4 * q + 1) ∧ ztm f (4 * q + 1) < f 4) ∧ (1 ≤ ztm f (4 * q + 2) ∧ ztm f (4 * q + 2) ≤ 20) ∧ (0 ≤ ztm f (4 * q + 3) ∧ ztm f (4 * q + 3) ≤ 99))
def zR (f : Int → Int) (o s a h kd wh wy re tm : Nat → Int32) : Prop :=
  o 0 = zi (if 0 < f 0 then 1 else 0) ∧ o 1 = zi (f 0) ∧ o 2 = zi (f 1) ∧ o 3 = zi (f 2) ∧ o 4 = zi (f 3) ∧ o 5 = zi (f 6) ∧ o 6 = zi (f 4) ∧ o 7 = zi (f 5) ∧ o 8 = zi (f 7) ∧
  zA (f 4) s (zsay f) ∧ zA (f 4) a (zat f) ∧ zA (f 4) h (zho f) ∧ zA (f 5) kd (zkd f) ∧ zA (f 5) wh (zwh f) ∧ zA (f 5) wy (zwy f) ∧ zA (f 5) re (zre f) ∧ zA (4 * f 7) tm (ztm f)
def zRX (f : Int → Int) (X : Nat → Nat → Int32) (p : Nat) : Prop := zR f (X p) (X (p + 1)) (X (p + 2)) (X (p + 3)) (X (p + 4)) (X (p + 5)) (X (p + 6)) (X (p + 7)) (X (p + 8))
def zAC (f W : Int → Int) (k : Int) (pl nt : Nat → Int32) : Prop :=
  (0 ≤ k ∧ k ≤ 24) ∧ (∀ j i : Int, (0 ≤ j ∧ j < k) ∧ (0 ≤ i ∧ i < f 4) → pl (6 * j + i).toNat = zi (W (7 * j + i)) ∧ 0 ≤ W (7 * j + i) ∧ W (7 * j + i) ≤ f 0) ∧
  (∀ j : Int, 0 ≤ j ∧ j < k → nt j.toNat = zi (W (7 * j + 6)) ∧ 0 ≤ W (7 * j + 6) ∧ W (7 * j + 6) ≤ 9999) ∧
  (∀ j i : Int, (0 ≤ j ∧ j < k) ∧ (0 ≤ i ∧ i + 1 < f 4) → W (7 * j + i) < W (7 * j + (i + 1))) ∧ (0 < k → 0 < f 0)
def zRD (X M : Nat → Nat → Int32) : Prop := ∃ f g0 g1 W : Int → Int, ∃ k : Int,
  zA 94 (M 4) f ∧ zOK f ∧ zRX f X 16 ∧
  (zA 94 (M 12) g0 ∧ zOK g0 ∧ zRX g0 X 26 ∧ M 11 0 = zi (if 0 < g0 0 then 1 else 0)) ∧
  (zA 94 (fun j => M 12 (94 + j)) g1 ∧ zOK g1 ∧ zRX g1 X 35 ∧ M 11 1 = zi (if 0 < g1 0 then 1 else 0)) ∧
  zA 168 (M 6) W ∧ zAC f W k (X 45) (X 46) ∧ X 44 2 = zi k ∧ M 0 8 = zi k
def zRW (X M : Nat → Nat → Int32) : Prop := ∃ L N T : Int → Int, zA 8 (X 2) L ∧ zA 8 (M 1) L ∧ zA 8 (X 3) N ∧ zA 8 (M 2) N ∧ zA 320 (M 3) T ∧
  (∀ r : Int, 0 ≤ r ∧ r < 8 → (-1 ≤ L r ∧ L r ≤ 2) ∧ (0 ≤ N r ∧ N r ≤ 40)) ∧ (∀ j : Int, -2147483648 ≤ T j ∧ T j ≤ 2147483647) ∧
  (∀ r : Int, 0 ≤ r ∧ r < 8 → zA 40 (X (54 + r.toNat)) (fun j => T (40 * r + j)))
def zTP (X M : Nat → Nat → Int32) : Prop := ∃ (t : Int) (B : Int → Int), (0 ≤ t ∧ t ≤ 400) ∧ X 5 2 = zi t ∧ M 0 10 = zi t ∧ zA t (X 6) B ∧ zA t (M 7) B ∧ (∀ i : Int, 0 ≤ i ∧ i < t → 0 ≤ B i ∧ B i ≤ 255)
def zTR (X M : Nat → Nat → Int32) : Prop := ∃ (q : Int) (B : Int → Int), (0 ≤ q ∧ q ≤ 16) ∧ X 52 1 = zi q ∧ M 0 25 = zi q ∧ zA q (X 53) B ∧ zA q (M 13) B
def nz_Rel (X M : Nat → Nat → Int32) : Prop := zRD X M ∧ zRW X M ∧ zTP X M ∧ zTR X M ∧ X 0 8 = M 0 11 ∧ X 0 9 = M 0 1
theorem zRX.fr {f : Int → Int} {X X' : Nat → Nat → Int32} {p : Nat} (h : zRX f X p) (e : ∀ i : Nat, p ≤ i ∧ i ≤ p + 8 → X' i = X i) : zRX f X' p := by
  unfold zRX
  rw [e p (by omega), e (p + 1) (by omega), e (p + 2) (by omega), e (p + 3) (by omega), e (p + 4) (by omega), e (p + 5) (by omega), e (p + 6) (by omega), e (p + 7) (by omega), e (p + 8) (by omega)]
  exact h
theorem zRD.fr {X M X' M' : Nat → Nat → Int32} (h : zRD X M) (e : ∀ i : Nat, 16 ≤ i ∧ i ≤ 46 → X' i = X i) (m4 : M' 4 = M 4 := by rfl) (m6 : M' 6 = M 6 := by rfl) (m11 : M' 11 = M 11 := by rfl) (m12 : M' 12 = M 12 := by rfl) (m0 : M' 0 8 = M 0 8 := by rfl) : zRD X' M' := by
  obtain ⟨f, g0, g1, W, k, h1, h2, h3, ⟨a1, a2, a3, a4⟩, ⟨b1, b2, b3, b4⟩, h5, h6, h7, h8⟩ := h
  refine ⟨f, g0, g1, W, k, ?_, h2, h3.fr (fun i hi => e i (by omega)), ⟨?_, a2, a3.fr (fun i hi => e i (by omega)), ?_⟩, ⟨?_, b2, b3.fr (fun i hi => e i (by omega)), ?_⟩, ?_, ?_, ?_, ?_⟩
  · rw [m4]; exact h1
  · rw [m12]; exact a1
  · rw [m11]; exact a4
  · rw [m12]; exact b1
  · rw [m11]; exact b4
  · rw [m6]; exact h5
  · rw [e 45 (by omega), e 46 (by omega)]; exact h6
  · rw [e 44 (by omega)]; exact h7
  · rw [m0]; exact h8
theorem zRW.fr {X M X' M' : Nat → Nat → Int32} (h : zRW X M) (e : ∀ i : Nat, 54 ≤ i → X' i = X i) (e2 : X' 2 = X 2 := by rfl) (e3 : X' 3 = X 3 := by rfl) (m1 : M' 1 = M 1 := by rfl) (m2 : M' 2 = M 2 := by rfl) (m3 : M' 3 = M 3 := by rfl) : zRW X' M' := by
  obtain ⟨L, N, T, h1, h2, h3, h4, h5, h6, h7, h8⟩ := h
  refine ⟨L, N, T, by rw [e2]; exact h1, by rw [m1]; exact h2, by rw [e3]; exact h3, by rw [m2]; exact h4, by rw [m3]; exact h5, h6, h7, fun r hr => ?_⟩
  rw [e _ (by omega)]
  exact h8 r hr
theorem zTP.fr {X M X' M' : Nat → Nat → Int32} (h : zTP X M) (e5 : X' 5 2 = X 5 2 := by rfl) (e6 : X' 6 = X 6 := by rfl) (m0 : M' 0 10 = M 0 10 := by rfl) (m7 : M' 7 = M 7 := by rfl) : zTP X' M' := by
  obtain ⟨t, B, h1, h2, h3, h4, h5, h6⟩ := h
  exact ⟨t, B, h1, e5.trans h2, m0.trans h3, by rw [e6]; exact h4, by rw [m7]; exact h5, h6⟩
theorem zTR.fr {X M X' M' : Nat → Nat → Int32} (h : zTR X M) (e5 : X' 52 1 = X 52 1 := by rfl) (e6 : X' 53 = X 53 := by rfl) (m0 : M' 0 25 = M 0 25 := by rfl) (m7 : M' 13 = M 13 := by rfl) : zTR X' M' := by
  obtain ⟨t, B, h1, h2, h3, h4, h5⟩ := h
  exact ⟨t, B, h1, e5.trans h2, m0.trans h3, by rw [e6]; exact h4, by rw [m7]; exact h5⟩
theorem zup1 {X : Nat → Nat → Int32} {a : Nat} {c : Nat → Int32} {i : Nat} (h : i ≠ a) : va_up X a c i = X i := if_neg h
theorem nz_Rel.st {X M : Nat → Nat → Int32} (h : nz_Rel X M) {X' M' : Nat → Nat → Int32} (eX : ∀ i : Nat, 1 ≤ i → X' i = X i) (e8 : X' 0 8 = X 0 8) (m : ∀ i : Nat, 1 ≤ i → M' i = M i) (m8 : M' 0 8 = M 0 8) (m10 : M' 0 10 = M 0 10) (m25 : M' 0 25 = M 0 25) (m11 : M' 0 11 = M 0 11) (s : X' 0 9 = M' 0 1) : nz_Rel X' M' := by
  obtain ⟨h1, h2, h3, h4, h5, h6⟩ := h
  exact ⟨h1.fr (fun i hi => eX i (by omega)) (m 4 (by decide)) (m 6 (by decide)) (m 11 (by decide)) (m 12 (by decide)) m8, h2.fr (fun i hi => eX i (by omega)) (eX 2 (by decide)) (eX 3 (by decide)) (m 1 (by decide)) (m 2 (by decide)) (m 3 (by decide)), h3.fr (by rw [eX 5 (by decide)]) (eX 6 (by decide)) m10 (m 7 (by decide)), h4.fr (by rw [eX 52 (by decide)]) (eX 53 (by decide)) m25 (m 13 (by decide)), by rw [e8, m11]; exact h5, s⟩
theorem nz_Rel.th {X M : Nat → Nat → Int32} (h : nz_Rel X M) : nz_Rel X (va_up M 0 (upd (M 0) 0 0)) :=
  h.st (fun _ _ => rfl) rfl (fun i hi => zup1 (by omega)) rfl rfl rfl rfl h.2.2.2.2.2
