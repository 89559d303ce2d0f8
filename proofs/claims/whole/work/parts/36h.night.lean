def zk1 (f W : Int → Int) (k : Int) : Int → Int := fun x => if x = 7 * k + 6 then f 6 else if 7 * k ≤ x ∧ x < 7 * k + 6 then zat f (x - 7 * k) else W x
def zsh (W : Int → Int) : Int → Int := fun x => if x < 161 then W (x + 7) else W x
def zkW (f W : Int → Int) (k : Int) : Int → Int := if k = 24 then zk1 f (zsh W) 23 else zk1 f W k
def zkk (k : Int) : Int := if k = 24 then 24 else k + 1
theorem zOK.st {f : Int → Int} (h : zOK f) {k : Int} (hk : 0 ≤ k ∧ k < f 4) : (0 ≤ zsay f k ∧ zsay f k ≤ 200) ∧ (0 ≤ zat f k ∧ zat f k ≤ f 0) ∧ (0 ≤ zho f k ∧ zho f k ≤ f 0) := h.2.2.2.2.2.2.2.2.2.2.1 k hk
theorem zOK.so {f : Int → Int} (h : zOK f) {k : Int} (hk : 0 ≤ k ∧ k + 1 < f 4) : zat f k < zat f (k + 1) ∧ zho f k < zho f (k + 1) := h.2.2.2.2.2.2.2.2.2.2.2.1 k hk
theorem zOK.sa {f : Int → Int} (h : zOK f) : zS f (zat f) := ⟨fun k hk => (h.st hk).2.1, fun k hk => (h.so hk).1⟩
theorem zOK.sh {f : Int → Int} (h : zOK f) : zS f (zho f) := ⟨fun k hk => (h.st hk).2.2, fun k hk => (h.so hk).2⟩
theorem zk1_at {f W : Int → Int} {k j i : Int} (hi : 0 ≤ i ∧ i < 6) : zk1 f W k (7 * j + i) = if j = k then zat f i else W (7 * j + i) := by
  unfold zk1
  rw [if_neg (by omega)]
  by_cases e : j = k
  · rw [e, if_pos (by omega), if_pos rfl]
    congr 1
    omega
  · rw [if_neg (by omega), if_neg e]
theorem zk1_6 {f W : Int → Int} {k j : Int} : zk1 f W k (7 * j + 6) = if j = k then f 6 else W (7 * j + 6) := by
  unfold zk1
  by_cases e : j = k
  · rw [if_pos (by omega), if_pos e]
  · rw [if_neg (by omega), if_neg (by omega), if_neg e]
theorem zAC.keep {f W : Int → Int} {k : Int} {pl nt s : Nat → Int32} (hok : zOK f) (h0 : 0 < f 0) (hk : k < 24) (hs : zA (f 4) s (zat f)) (h : zAC f W k pl nt) : zAC f (zk1 f W k) (k + 1) (va_cpy s pl 0 (6 * k).toNat 6) (upd nt k.toNat (zi (f 6))) := by
  have hnn := hok.nn
  obtain ⟨a1, a2, a3, a4, a5⟩ := h
  refine ⟨by omega, fun j i hji => ?_, fun j hj => ?_, fun j i hji => ?_, fun _ => h0⟩
  · rw [zk1_at (by omega)]
    show (if (6 * k).toNat ≤ (6 * j + i).toNat ∧ (6 * j + i).toNat < (6 * k).toNat + 6 then s (0 + ((6 * j + i).toNat - (6 * k).toNat)) else pl (6 * j + i).toNat) = _ ∧ _
    by_cases e : j = k
    · rw [e, if_pos (by omega), if_pos rfl, show 0 + ((6 * k + i).toNat - (6 * k).toNat) = i.toNat by omega, hs i (by omega)]
      exact ⟨rfl, (hok.st (by omega)).2.1⟩
    · rw [if_neg (by omega), if_neg e]
      exact a2 j i (by omega)
  · rw [zk1_6]
    show (if j.toNat = k.toNat then zi (f 6) else nt j.toNat) = _ ∧ _
    by_cases e : j = k
    · rw [e, if_pos rfl, if_pos rfl]
      exact ⟨rfl, by omega⟩
    · rw [if_neg (by omega), if_neg e]
      exact a3 j (by omega)
  · rw [zk1_at (by omega), zk1_at (by omega)]
    by_cases e : j = k
    · rw [if_pos e, if_pos e]
      exact (hok.so (by omega)).1
    · rw [if_neg e, if_neg e]
      exact a4 j i (by omega)
theorem zsh_at {W : Int → Int} {j i : Int} (hj : j < 23) (hi : 0 ≤ i ∧ i < 7) : zsh W (7 * j + i) = W (7 * (j + 1) + i) := by
  unfold zsh
  rw [if_pos (by omega)]
  congr 1
  omega
theorem zAC.shift {f W : Int → Int} {pl nt : Nat → Int32} (hok : zOK f) (h : zAC f W 24 pl nt) : zAC f (zsh W) 23 (va_cpy pl pl 6 0 138) (va_cpy nt nt 1 0 23) := by
  have hnn := hok.nn
  obtain ⟨a1, a2, a3, a4, a5⟩ := h
  refine ⟨by omega, fun j i hji => ?_, fun j hj => ?_, fun j i hji => ?_, fun _ => a5 (by omega)⟩
  · rw [zsh_at (by omega) (by omega)]
    show (if 0 ≤ (6 * j + i).toNat ∧ (6 * j + i).toNat < 0 + 138 then pl (6 + ((6 * j + i).toNat - 0)) else pl (6 * j + i).toNat) = _ ∧ _
    rw [if_pos (by omega), show 6 + ((6 * j + i).toNat - 0) = (6 * (j + 1) + i).toNat by omega]
    exact a2 (j + 1) i (by omega)
  · rw [zsh_at (by omega) (by omega)]
    show (if 0 ≤ j.toNat ∧ j.toNat < 0 + 23 then nt (1 + (j.toNat - 0)) else nt j.toNat) = _ ∧ _
    rw [if_pos (by omega), show 1 + (j.toNat - 0) = (j + 1).toNat by omega]
    exact a3 (j + 1) (by omega)
  · rw [zsh_at (by omega) (by omega), zsh_at (by omega) (by omega)]
    exact a4 (j + 1) i (by omega)
theorem x_keep {f W : Int → Int} {k : Int} {c r5 : Int32} {pl nt s : Nat → Int32} {K : Int32 → (Nat → Int32) → (Nat → Int32) → Prop} (hok : zOK f) (h0 : 0 < f 0) (hc : c = zi k) (h5 : r5 = zi (f 6)) (hs : zA (f 4) s (zat f)) (h : zAC f W k pl nt) (hK : ∀ pl nt, zAC f (zkW f W k) (zkk k) pl nt → (∀ i : Nat, i < (f 4).toNat → pl (6 * (zkk k - 1) + i).toNat = zi (zat f i)) → K (zi (zkk k)) pl nt) : wp_X0_keep c pl nt r5 s K := by
  have hnn := hok.nn
  have hk := h.1
  have fin : ∀ (k : Int) (V : Int → Int) (pl nt : Nat → Int32), 0 ≤ k ∧ k < 24 → zAC f V k pl nt → zkW f W = zkW f W → (∀ pl nt, zAC f (zk1 f V k) (k + 1) pl nt → (∀ i : Nat, i < (f 4).toNat → pl (6 * k + i).toNat = zi (zat f i)) → K (zi (k + 1)) pl nt) → S_X0_keep_47 r5 s (zi k) pl nt K := by
    intro k V pl nt hk h _ hK
    unfold S_X0_keep_47
    rw [zq0, zq6, zi_mul, zi_lt (by decide) (by decide), zi_lt (by omega) (by decide), zi_lt (by decide) (by decide), zi_cl (a := 0) (by decide), zi_cl (a := k * 6) (by omega), zi_cl (a := 6) (by decide), zi_cl (a := k) (by omega), zq1, zi_add, h5]
    refine ⟨by omega, zi_in (by omega), hK _ _ ?_ (fun i hi => ?_)⟩
    · have := h.keep hok h0 hk.2 hs
      rw [show (6 * k).toNat = (k * 6).toNat by omega] at this
      exact this
    · show (if (k * 6).toNat ≤ (6 * k + (i : Int)).toNat ∧ (6 * k + (i : Int)).toNat < (k * 6).toNat + (6 : Int).toNat then s ((0 : Int).toNat + ((6 * k + (i : Int)).toNat - (k * 6).toNat)) else pl (6 * k + (i : Int)).toNat) = _
      rw [if_pos (by omega), show (0 : Int).toNat + ((6 * k + (i : Int)).toNat - (k * 6).toNat) = (i : Int).toNat by omega]
      exact hs i (by omega)
  unfold wp_X0_keep
  rw [hc, zq24, zi_lt (by omega) (by decide)]
  unfold zkk zkW at hK
  refine ⟨fun c => fin k W pl nt (by omega) h rfl (fun pl nt a b => ?_), fun c => ?_⟩
  · rw [if_neg (by omega), if_neg (by omega)] at hK
    refine hK pl nt a (fun i hi => ?_)
    rw [show 6 * (k + 1 - 1) + (i : Int) = 6 * k + i by omega]
    exact b i hi
  · obtain rfl : k = 24 := by omega
    rw [if_pos rfl, if_pos rfl] at hK
    exact fin 23 (zsh W) _ _ (by omega) (h.shift hok) rfl (fun pl nt a b => hK pl nt a (fun i hi => b i hi))
theorem m_keep {f W : Int → Int} {k : Int} {c : Int32} {f5 f7 : Nat → Int32} {K : Int32 → (Nat → Int32) → Prop} (hk : 0 ≤ k ∧ k ≤ 24) (hc : c = zi k) (h5 : zA 94 f5 f) (h7 : zA 168 f7 W) (hK : ∀ s, zA 168 s (zkW f W k) → K (zi (zkk k)) s) : wp_X8_keep c f5 f7 K := by
  have e6 : f5 6 = zi (f 6) := zM4 h5 (by decide)
  have fin : ∀ (k : Int) (V : Int → Int) (s : Nat → Int32), 0 ≤ k ∧ k < 24 → zA 168 s V → (∀ s, zA 168 s (zk1 f V k) → K (zi (k + 1)) s) → ∃ n, nz_it (fun _ _ => False) (S_X8_keep_51 f5 (zi k) K) n 0 s := by
    intro k V s hk hs hK
    refine nz_l2 (fun j x1 s => ∃ i : Int, x1 = zi i ∧ (0 ≤ i ∧ i ≤ 6) ∧ j = (6 - i).toNat ∧ zA 168 s (fun x => if 7 * k ≤ x ∧ x < 7 * k + i then zat f (x - 7 * k) else V x)) ?_ (k := (6 - (0 : Int)).toNat) ⟨0, rfl, by omega, rfl, hs.of (fun a ha => if_neg (by omega))⟩
    clear hs
    rintro j R _ s ⟨i, rfl, hi, hj, hs⟩ next
    unfold S_X8_keep_51
    rw [zq6, zi_le (by decide) (by omega), zq7, zi_mul, zi_add, zi_add, e6, zq1, zi_add, zi_add]
    refine ⟨fun c => ⟨zi_in (by omega), hK _ ?_⟩, fun c => m_at h5 (by omega) ⟨zi_in (by omega), next (6 - (i + 1)).toNat _ _ (by omega) ⟨i + 1, rfl, by omega, rfl, ?_⟩⟩⟩
    · obtain rfl : i = 6 := by omega
      refine (hs.up (i := 7 * k + 6) (v := f 6) (by omega)).of (fun x hx => ?_)
      rfl
    · refine (hs.up (i := 7 * k + i) (v := zat f i) (by omega)).of (fun x hx => ?_)
      by_cases e : x = 7 * k + i
      · rw [e, iup_eq, if_pos (by omega)]
        congr 1
        omega
      · rw [iup_ne e]
        by_cases e1 : 7 * k ≤ x ∧ x < 7 * k + i
        · rw [if_pos e1, if_pos (by omega)]
        · rw [if_neg e1, if_neg (by omega)]
  unfold wp_X8_keep
  rw [hc, zq24, zi_eq (by omega) (by decide)]
  unfold zkk zkW at hK
  refine ⟨fun c => ?_, fun c => ?_⟩
  · rw [if_neg c, if_neg c] at hK
    exact fin k W f7 (by omega) h7 hK
  · rw [if_pos c, if_pos c] at hK
    refine nz_l2 (fun j x1 s => ∃ i : Int, x1 = zi i ∧ (0 ≤ i ∧ i ≤ 161) ∧ j = (161 - i).toNat ∧ zA 168 s (fun x => if x < i then W (x + 7) else W x)) ?_ (k := (161 - (0 : Int)).toNat) ⟨0, rfl, by omega, rfl, h7.of (fun a ha => if_neg (by omega))⟩
    rintro j R _ s ⟨i, rfl, hi, hj, hs⟩ next
    unfold S_X8_keep_11
    rw [show (161 : Int32) = zi 161 from rfl, zi_le (by decide) (by omega), zq7, zi_add, zq1, zi_add, zi_sub]
    refine ⟨fun d => ?_, fun d => ⟨zi_in (by omega), zi_in (by omega), next (161 - (i + 1)).toNat _ _ (by omega) ⟨i + 1, rfl, by omega, rfl, ?_⟩⟩⟩
    · obtain rfl : i = 161 := by omega
      rw [c]
      exact fin 23 (zsh W) s (by omega) hs (fun s hs => hK s hs)
    · rw [hs.at (by omega), if_neg (by omega)]
      refine (hs.up (i := i) (v := W (i + 7)) (by omega)).of (fun x hx => ?_)
      by_cases e : x = i
      · rw [e, iup_eq, if_pos (by omega)]
      · rw [iup_ne e]
        by_cases e1 : x < i
        · rw [if_pos e1, if_pos (by omega)]
        · rw [if_neg e1, if_neg (by omega)]
def zEt (f g : Int → Int) : Prop := ∀ i : Int, 0 ≤ i ∧ i < 94 → i ≠ 6 → (∀ k : Int, 0 ≤ k ∧ k < 6 → i ≠ 9 + 3 * k) → g i = f i
theorem zEt.all {f g : Int → Int} (e : zEt f g) : (g 0 = f 0 ∧ g 1 = f 1 ∧ g 2 = f 2 ∧ g 3 = f 3 ∧ g 4 = f 4 ∧ g 5 = f 5 ∧ g 7 = f 7) ∧ (∀ k : Int, 0 ≤ k ∧ k < 6 → zsay g k = zsay f k ∧ zho g k = zho f k) ∧ (∀ m : Int, 0 ≤ m ∧ m < 5 → zkd g m = zkd f m ∧ zwh g m = zwh f m ∧ zwy g m = zwy f m ∧ zre g m = zre f m) ∧ (∀ q : Int, 0 ≤ q ∧ q < 48 → ztm g q = ztm f q) :=
  ⟨⟨e 0 (by omega) (by omega) (by omega), e 1 (by omega) (by omega) (by omega), e 2 (by omega) (by omega) (by omega), e 3 (by omega) (by omega) (by omega), e 4 (by omega) (by omega) (by omega), e 5 (by omega) (by omega) (by omega), e 7 (by omega) (by omega) (by omega)⟩,
    fun k hk => ⟨e _ (by omega) (by omega) (by omega), e _ (by omega) (by omega) (by omega)⟩,
    fun m hm => ⟨e _ (by omega) (by omega) (by omega), e _ (by omega) (by omega) (by omega), e _ (by omega) (by omega) (by omega), e _ (by omega) (by omega) (by omega)⟩,
    fun q hq => e _ (by omega) (by omega) (by omega)⟩
theorem zOK.et {f g : Int → Int} (h : zOK f) (e : zEt f g) (h0 : 0 < f 0) (h6 : 0 ≤ g 6 ∧ g 6 ≤ 9999) (hs : zS f (zat g)) : zOK g := by
  obtain ⟨⟨e0, e1, e2, e3, e4, e5, e7⟩, es, em, et⟩ := e.all
  have hnn := h.nn
  obtain ⟨ol, of', os, ofi, ons, onm, onn, ont, oz, oten, ost, oso, omv, otm⟩ := h
  refine ⟨by omega, by omega, by omega, by omega, by omega, by omega, h6, by omega, fun z => by omega, by omega, fun k hk => ?_, fun k hk => ?_, fun m hm => ?_, fun q hq => ?_⟩
  · have := es k (by omega)
    have := ost k (by omega)
    have := hs.1 k (by omega)
    omega
  · have := es k (by omega)
    have := es (k + 1) (by omega)
    have := oso k (by omega)
    have := hs.2 k (by omega)
    omega
  · have := em m (by omega)
    have := omv m (by omega)
    omega
  · have := otm q (by omega)
    rw [et _ (by omega), et _ (by omega), et _ (by omega), et _ (by omega), e4]
    exact this
theorem zRX.et {f g : Int → Int} {X X' : Nat → Nat → Int32} (hok : zOK f) (h : zRX f X 16) (e : zEt f g) (h16 : ∀ i : Nat, i < 9 → i ≠ 5 → X' 16 i = X 16 i) (h5 : X' 16 5 = zi (g 6)) (hX : ∀ i : Nat, 17 ≤ i ∧ i ≤ 24 → i ≠ 18 → X' i = X i) (ha : zA (f 4) (X' 18) (zat g)) : zRX g X' 16 := by
  obtain ⟨⟨e0, e1, e2, e3, e4, e5, e7⟩, es, em, et⟩ := e.all
  have hnn := hok.nn
  obtain ⟨x0, x1, x2, x3, x4, x5, x6, x7, x8, xs, xa, xh, xk, xw, xy, xr, xt⟩ := h
  refine ⟨?_, ?_, ?_, ?_, ?_, h5, ?_, ?_, ?_, ?_, ?_, ?_, ?_, ?_, ?_, ?_, ?_⟩
  · rw [h16 0 (by decide) (by decide), e0]; exact x0
  · rw [h16 1 (by decide) (by decide), e0]; exact x1
  · rw [h16 2 (by decide) (by decide), e1]; exact x2
  · rw [h16 3 (by decide) (by decide), e2]; exact x3
  · rw [h16 4 (by decide) (by decide), e3]; exact x4
  · rw [h16 6 (by decide) (by decide), e4]; exact x6
  · rw [h16 7 (by decide) (by decide), e5]; exact x7
  · rw [h16 8 (by decide) (by decide), e7]; exact x8
  · rw [hX 17 (by decide) (by decide), e4]; exact xs.of (fun a ha => (es a (by omega)).1)
  · rw [e4]; exact ha
  · rw [hX 19 (by decide) (by decide), e4]; exact xh.of (fun a ha => (es a (by omega)).2)
  · rw [hX 20 (by decide) (by decide), e5]; exact xk.of (fun a ha => (em a (by omega)).1)
  · rw [hX 21 (by decide) (by decide), e5]; exact xw.of (fun a ha => (em a (by omega)).2.1)
  · rw [hX 22 (by decide) (by decide), e5]; exact xy.of (fun a ha => (em a (by omega)).2.2.1)
  · rw [hX 23 (by decide) (by decide), e5]; exact xr.of (fun a ha => (em a (by omega)).2.2.2)
  · rw [hX 24 (by decide) (by decide), e7]; exact xt.of (fun a ha => et a (by omega))
def znt (f p : Int → Int) (i : Int) : Int → Int := fun x => if 9 ≤ x ∧ x < 9 + 3 * i ∧ (x - 9) % 3 = 0 then p ((x - 9) / 3) else f x
theorem znt_at {f p : Int → Int} {i k : Int} (hk : 0 ≤ k) : znt f p i (9 + 3 * k) = if k < i then p k else f (9 + 3 * k) := by
  unfold znt
  by_cases e : k < i
  · rw [if_pos (by omega), if_pos e]
    congr 1
    omega
  · rw [if_neg (by omega), if_neg e]
theorem znt_ne {f p : Int → Int} {i x : Int} (h : ∀ k : Int, 0 ≤ k ∧ k < i → x ≠ 9 + 3 * k) : znt f p i x = f x := by
  unfold znt
  rw [if_neg (fun z => h ((x - 9) / 3) (by omega) (by omega))]
theorem znt_up {f p : Int → Int} {i : Int} (hi : 0 ≤ i) : iup (znt f p i) (9 + 3 * i) (p i) = znt f p (i + 1) := by
  funext x
  by_cases e : x = 9 + 3 * i
  · rw [e, iup_eq, znt_at hi, if_pos (by omega)]
  · rw [iup_ne e]
    unfold znt
    by_cases e1 : 9 ≤ x ∧ x < 9 + 3 * i ∧ (x - 9) % 3 = 0
    · rw [if_pos e1, if_pos (by omega)]
    · rw [if_neg e1, if_neg (by omega)]
theorem x_displaced {f p : Int → Int} {k : Int} {c : Int32} {pl s : Nat → Int32} {n : Int32} {K : Int32 → Prop} (hok : zOK f) (hk : 1 ≤ k ∧ k ≤ 24) (hc : c = zi k) (hn : n = zi (f 4)) (hpl : ∀ i : Nat, i < (f 4).toNat → pl (6 * (k - 1) + i).toNat = zi (zat f i)) (hs : zA (f 4) s p) (hp : zS f p) (hK : K (zi (zbs (fun i => decide (p i ≠ zat f i)) (f 4).toNat))) : wp_X0_displacedByLatest c pl n s K := by
  have hnn := hok.nn
  unfold wp_X0_displacedByLatest
  rw [hc, hn, zq1, zi_sub, zq6, zi_mul]
  refine nz_l2 (fun j x2 x4 => ∃ i : Nat, x4 = zi i ∧ (i : Int) ≤ f 4 ∧ j = (f 4).toNat - i ∧ x2 = zi (zbs (fun i => decide (p i ≠ zat f i)) i)) ?_ (k := (f 4).toNat - 0) ⟨0, rfl, by omega, rfl, rfl⟩
  rintro j R _ _ ⟨i, rfl, hi, hj, rfl⟩ next
  unfold S_X0_displacedByLatest_15
  rw [zi_le (by omega) (by omega), zq0, zi_lt (by omega) (by decide)]
  refine ⟨fun d => ?_, fun d => ⟨fun e => absurd e (by omega), fun e => ?_⟩⟩
  · obtain rfl : i = (f 4).toNat := by omega
    exact hK
  · have r1 := hp.1 i (by omega)
    have r2 := (hok.st (k := i) (by omega)).2.1
    rw [hs.at (by omega), zi_add, zi_cl (by omega), show ((k - 1) * 6 + (i : Int)).toNat = (6 * (k - 1) + (i : Int)).toNat by omega, hpl i (by omega), zi_eq (by omega) (by omega)]
    refine ⟨zi_in (by omega), zi_in (by omega), fun g => ?_, fun g => ?_⟩
    · refine next ((f 4).toNat - (i + 1)) _ _ (by omega) ⟨i + 1, by rw [zq1, zi_add]; rfl, by omega, rfl, ?_⟩
      exact zbs_no _ (by simp [g])
    · refine next ((f 4).toNat - (i + 1)) _ _ (by omega) ⟨i + 1, by rw [zq1, zi_add]; rfl, by omega, rfl, ?_⟩
      exact zbs_or _ (by omega) (by simp [g])
