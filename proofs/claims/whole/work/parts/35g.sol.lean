def zta (f : Int → Int) (q : Int) : Int := ztm f (4 * q)
def ztb (f : Int → Int) (q : Int) : Int := ztm f (4 * q + 1)
def ztv (f : Int → Int) (q : Int) : Int := ztm f (4 * q + 2)
def ztt (f : Int → Int) (q : Int) : Int := ztm f (4 * q + 3)
abbrev ztf (f p : Int → Int) (j : Int) : Prop := ∀ q : Int, 0 ≤ q ∧ q < j → p (ztb f q) - p (zta f q) ≤ ztv f q * ztt f q + ztv f q - 1 ∧ p (zta f q) - p (ztb f q) ≤ -(ztv f q * ztt f q)
def zsol (f p : Int → Int) : Prop := (∀ k : Int, zN (f 4) k → 0 ≤ p k ∧ p k ≤ f 0) ∧ (∀ k : Int, 0 ≤ k ∧ k + 1 < f 4 → p k + 1 ≤ p (k + 1)) ∧ ztf f p (f 7)
theorem zOK.tm {f : Int → Int} (h : zOK f) {q : Int} (hq : 0 ≤ q ∧ q < f 7) : (0 ≤ zta f q ∧ zta f q < ztb f q ∧ ztb f q < f 4) ∧ (1 ≤ ztv f q ∧ ztv f q ≤ 20) ∧ (0 ≤ ztt f q ∧ ztt f q ≤ 99) := h.2.2.2.2.2.2.2.2.2.2.2.2.2 q hq
theorem zvt {v t : Int} (hv : 1 ≤ v ∧ v ≤ 20) (ht : 0 ≤ t ∧ t ≤ 99) : 0 ≤ v * t ∧ v * t ≤ 1980 := by
  constructor
  · exact Int.mul_nonneg (by omega) (by omega)
  · have : v * t ≤ 20 * 99 := Int.mul_le_mul (by omega) (by omega) (by omega) (by omega)
    omega
theorem zsol.mono {f p : Int → Int} (h : zsol f p) : ∀ (d : Nat) (i : Int), 0 ≤ i → i + d < f 4 → p i + d ≤ p (i + d)
  | 0, i, h0, h1 => by
    rw [show i + ((0 : Nat) : Int) = i by omega]
    omega
  | d + 1, i, h0, h1 => by
    have h2 := h.mono d i h0 (by omega)
    have h3 := h.2.1 (i + d) (by omega)
    rw [show i + ((d + 1 : Nat) : Int) = i + d + 1 by omega]
    omega
theorem zsol.lt {f p : Int → Int} (h : zsol f p) {i j : Int} (h0 : 0 ≤ i) (hij : i ≤ j) (hj : j < f 4) : p i + (j - i) ≤ p j := by
  have := h.mono (j - i).toNat i h0 (by omega)
  rw [show i + ((j - i).toNat : Int) = j by omega] at this
  omega
def zXi (f : Int → Int) (j : Int) (D : Int → Int → Int) : Prop := (∀ x y : Int, zN (f 4) x → zN (f 4) y → D x y ≤ (if x < y then f 0 else y - x) ∧ -2000 ≤ D x y ∧ ∀ p : Int → Int, (∀ x y : Int, zN (f 4) x → zN (f 4) y → p y - p x ≤ (if x < y then f 0 else y - x)) → ztf f p j → p y - p x ≤ D x y) ∧
  (∀ q : Int, 0 ≤ q ∧ q < j → D (zta f q) (ztb f q) ≤ ztv f q * ztt f q + ztv f q - 1 ∧ D (ztb f q) (zta f q) ≤ -(ztv f q * ztt f q))
theorem zXi.up {f : Int → Int} (hok : zOK f) {j : Int} (hj : 0 ≤ j ∧ j < f 7) {D : Int → Int → Int} (h : zXi f j D) {a b u w v1 v2 : Int} (ha : a = zta f j) (hb : b = ztb f j) (hu : u = ztv f j * ztt f j + ztv f j - 1) (hw : w = -(ztv f j * ztt f j)) (h1 : v1 = if u < D a b then u else D a b) (h2 : v2 = if w < zmu D a b v1 b a then w else zmu D a b v1 b a) : zXi f (j + 1) (zmu (zmu D a b v1) b a v2) := by
  obtain ⟨⟨t1, t2, t3⟩, t4, t5⟩ := hok.tm hj
  have hvt := zvt t4 t5
  have hne : ¬ (b = a ∧ a = b) := by omega
  rw [zmu_ne hne] at h2
  have hna : zN (f 4) a := by omega
  have hnb : zN (f 4) b := by omega
  have val : ∀ x y : Int, (x = b ∧ y = a ∧ zmu (zmu D a b v1) b a v2 x y = v2) ∨ (x = a ∧ y = b ∧ zmu (zmu D a b v1) b a v2 x y = v1) ∨ (¬ (x = a ∧ y = b) ∧ ¬ (x = b ∧ y = a) ∧ zmu (zmu D a b v1) b a v2 x y = D x y) := fun x y => by
    by_cases e : x = b ∧ y = a
    · left
      obtain ⟨rfl, rfl⟩ := e
      exact ⟨rfl, rfl, zmu_eq⟩
    · right
      rw [zmu_ne e]
      by_cases e1 : x = a ∧ y = b
      · left
        obtain ⟨rfl, rfl⟩ := e1
        exact ⟨rfl, rfl, zmu_eq⟩
      · right
        rw [zmu_ne e1]
        exact ⟨e1, e, rfl⟩
  have le : ∀ x y : Int, zmu (zmu D a b v1) b a v2 x y ≤ D x y := fun x y => by
    rcases val x y with ⟨rfl, rfl, q⟩ | ⟨rfl, rfl, q⟩ | ⟨_, _, q⟩
    · rw [q, h2]; split <;> omega
    · rw [q, h1]; split <;> omega
    · omega
  refine ⟨fun x y hx hy => ?_, fun q hq => ?_⟩
  · obtain ⟨g1, g2, g3⟩ := h.1 x y hx hy
    have := le x y
    refine ⟨by omega, ?_, fun p hp ht => ?_⟩
    · rcases val x y with ⟨rfl, rfl, q⟩ | ⟨rfl, rfl, q⟩ | ⟨_, _, q⟩
      · rw [q, h2]; split <;> omega
      · rw [q, h1]; split <;> omega
      · omega
    · have k := g3 p hp (fun q hq => ht q (by omega))
      have kj := ht j (by omega)
      rw [← ha, ← hb, ← hu, ← hw] at kj
      rcases val x y with ⟨rfl, rfl, q⟩ | ⟨rfl, rfl, q⟩ | ⟨_, _, q⟩
      · rw [q, h2]; split <;> omega
      · rw [q, h1]; split <;> omega
      · omega
  · by_cases e : q = j
    · rw [e, ← ha, ← hb, ← hu, ← hw, zmu_eq, zmu_ne (by omega), zmu_eq, h1, h2]
      constructor
      · split <;> omega
      · split <;> omega
    · have k := h.2 q (by omega)
      have l1 := le (zta f q) (ztb f q)
      have l2 := le (ztb f q) (zta f q)
      omega
def zFit (f : Int → Int) (D : Int → Int → Int) : Prop := (∀ p : Int → Int, zsol f p → ∀ x y : Int, zN (f 4) x → zN (f 4) y → p y - p x ≤ D x y) ∧ (∀ x y : Int, zN (f 4) x → zN (f 4) y → ∃ p : Int → Int, zsol f p ∧ p y - p x = D x y)
theorem zFit.eq {f : Int → Int} {D E : Int → Int → Int} (h : zFit f D) (g : zFit f E) {x y : Int} (hx : zN (f 4) x) (hy : zN (f 4) y) : D x y = E x y := by
  obtain ⟨p, hp, e⟩ := h.2 x y hx hy
  obtain ⟨q, hq, e'⟩ := g.2 x y hx hy
  have := h.1 q hq x y hx hy
  have := g.1 p hp x y hx hy
  omega
theorem zFit.rg {f : Int → Int} {D : Int → Int → Int} (hok : zOK f) (h : zFit f D) {x y : Int} (hx : zN (f 4) x) (hy : zN (f 4) y) : -200 ≤ D x y ∧ D x y ≤ 200 := by
  obtain ⟨p, hp, e⟩ := h.2 x y hx hy
  have := hp.1 x hx
  have := hp.1 y hy
  have := hok.nn
  omega
theorem zsol.road {f p : Int → Int} (h : zsol f p) {x y : Int} (hx : zN (f 4) x) (hy : zN (f 4) y) : p y - p x ≤ (if x < y then f 0 else y - x) := by
  split
  · have := h.1 x hx
    have := h.1 y hy
    omega
  · have := h.lt (i := y) (j := x) (by omega) (by omega) (by omega)
    omega
theorem zX_sound {f : Int → Int} {G : Int} {m : Nat} {Di D : Int → Int → Int} (hi : zXi f (f 7) Di) (h : zO (f 4) G m Di D) {p : Int → Int} (hp : zsol f p) {x y : Int} (hx : zN (f 4) x) (hy : zN (f 4) y) : p y - p x ≤ D x y :=
  (h.1 x y hx hy).2.2 p (fun x y hx hy => (hi.1 x y hx hy).2.2 p (fun x y hx hy => hp.road hx hy) hp.2.2)
theorem zX_full {f : Int → Int} (hok : zOK f) {Di D : Int → Int → Int} (hi : zXi f (f 7) Di) (h : zO (f 4) 100000 (f 4).toNat Di D) (hd : ∀ x : Int, zN (f 4) x → 0 ≤ D x x) : zFit f D := by
  have hnn := hok.nn
  have le : ∀ x y : Int, zN (f 4) x → zN (f 4) y → D x y ≤ (if x < y then f 0 else y - x) := fun x y hx hy => by
    have := (h.1 x y hx hy).1
    have := (hi.1 x y hx hy).1
    omega
  have le2 : ∀ x y : Int, zN (f 4) x → zN (f 4) y → D x y < 100000 := fun x y hx hy => by
    have := le x y hx hy
    split at this <;> omega
  have T : ∀ a b c : Int, zN (f 4) a → zN (f 4) b → zN (f 4) c → D a b ≤ D a c + D c b := fun a b c ha hb hc => h.2 hd a b c ha hb hc (by omega) (le2 a c ha hc) (le2 c b hc hb)
  refine ⟨fun p hp x y hx hy => zX_sound hi h hp hx hy, fun x y hx hy => ⟨fun z => D x z - D x 0, ⟨fun k hk => ?_, fun k hk => ?_, fun q hq => ?_⟩, ?_⟩⟩
  · have a1 := T x 0 k hx (by omega) hk
    have a2 := T x k 0 hx hk (by omega)
    have a3 := le k 0 hk (by omega)
    have a4 := le 0 k (by omega) hk
    rw [if_neg (by omega)] at a3
    show 0 ≤ D x k - D x 0 ∧ D x k - D x 0 ≤ f 0
    split at a4 <;> exact ⟨by omega, by omega⟩
  · have a1 := T x k (k + 1) hx (by omega) (by omega)
    have a3 := le (k + 1) k (by omega) (by omega)
    rw [if_neg (by omega)] at a3
    show D x k - D x 0 + 1 ≤ D x (k + 1) - D x 0
    omega
  · have ht := (hok.tm hq).1
    have hna : zN (f 4) (zta f q) := by omega
    have hnb : zN (f 4) (ztb f q) := by omega
    have a1 := T x (ztb f q) (zta f q) hx hnb hna
    have a2 := T x (zta f q) (ztb f q) hx hna hnb
    have a3 := hi.2 q hq
    have a4 := (h.1 _ _ hna hnb).1
    have a5 := (h.1 _ _ hnb hna).1
    exact ⟨by show D x (ztb f q) - D x 0 - (D x (zta f q) - D x 0) ≤ _; omega, by show D x (zta f q) - D x 0 - (D x (ztb f q) - D x 0) ≤ _; omega⟩
  · have a1 := hd x hx
    have a2 := le x x hx hx
    rw [if_neg (by omega)] at a2
    show D x y - D x 0 - (D x x - D x 0) = D x y
    omega
abbrev zus (f : Int → Int) (x : Int) : Prop := x < f 4 ∨ x = 6
def zpm (f : Int → Int) (j : Int) (p : Int → Int) : Prop := (∀ x : Int, zN 7 x → 0 ≤ p x ∧ p x ≤ 200) ∧ p 6 = 0 ∧ (∀ k : Int, zN (f 4) k → p k ≤ f 0) ∧ (∀ k : Int, 0 ≤ k ∧ k + 1 < f 4 → p k + 1 ≤ p (k + 1)) ∧ ztf f p j
def zMc (f : Int → Int) (j : Int) (D : Int → Int → Int) : Prop := ∀ x y : Int, zN 7 x → zN 7 y → (-2000 ≤ D x y ∧ D x y ≤ 100000) ∧ (D x y < 100000 → D x y ≤ 1999) ∧ (y = 0 → D x y < 100000 → D x y ≤ 200) ∧ (x ≠ y → (¬ zus f x ∨ ¬ zus f y) → 100000 ≤ D x y) ∧ (x = y → D x y ≤ 0) ∧ (∀ p : Int → Int, zpm f j p → p y - p x ≤ D x y)
def zMt (f : Int → Int) (j : Int) (D : Int → Int → Int) : Prop := ∀ q : Int, 0 ≤ q ∧ q < j → D (zta f q) (ztb f q) ≤ ztv f q * ztt f q + ztv f q - 1 ∧ D (ztb f q) (zta f q) ≤ -(ztv f q * ztt f q)
def zMr (f : Int → Int) (i : Int) (D : Int → Int → Int) : Prop := ∀ k : Int, zN i k → D 6 k ≤ f 0 ∧ D k 6 ≤ 0 ∧ (0 < k → D k (k - 1) ≤ -1)
theorem zMc.up {f : Int → Int} {j : Int} {D : Int → Int → Int} (h : zMc f j D) {a b v w : Int} (hw : w = if v < D a b then v else D a b) (ha : zN 7 a) (hb : zN 7 b) (h1 : -2000 ≤ v ∧ v ≤ 1999) (h2 : b = 0 → v ≤ 200) (h3 : zus f a ∧ zus f b) (h4 : ∀ p : Int → Int, zpm f j p → p b - p a ≤ v) : zMc f j (zmu D a b w) := by
  intro x y hx hy
  by_cases e : x = a ∧ y = b
  · obtain ⟨rfl, rfl⟩ := e
    rw [zmu_eq]
    obtain ⟨g1, g2, g3, g4, g5, g6⟩ := h x y hx hy
    refine ⟨by rw [hw]; split <;> omega, fun q => ?_, fun z q => ?_, fun z q => ?_, fun z => ?_, fun p hp => ?_⟩
    · rw [hw] at q ⊢; split at q <;> rename_i c
      · rw [if_pos c]; omega
      · rw [if_neg c]; omega
    · have := h2 z
      rw [hw] at q ⊢; split at q <;> rename_i c
      · rw [if_pos c]; omega
      · rw [if_neg c]; exact g3 z q
    · exact absurd h3 (by omega)
    · have := g5 z
      rw [hw]; split <;> omega
    · have := h4 p hp
      have := g6 p hp
      rw [hw]; split <;> omega
  · rw [zmu_ne e]
    exact h x y hx hy
theorem zmu_le {D : Int → Int → Int} {a b v w : Int} (hw : w = if v < D a b then v else D a b) (x y : Int) : zmu D a b w x y ≤ D x y := by
  by_cases e : x = a ∧ y = b
  · obtain ⟨rfl, rfl⟩ := e
    rw [zmu_eq, hw]
    split <;> omega
  · rw [zmu_ne e]
    omega
theorem zmu_v {D : Int → Int → Int} {a b v w : Int} (hw : w = if v < D a b then v else D a b) : zmu D a b w a b ≤ v := by
  rw [zmu_eq, hw]
  split <;> omega
def zub : Nat → Int
  | 0 => 1999
  | 1 => 2199
  | n + 2 => 2 * zub (n + 1)
theorem zub_5 : ∀ n, n < 6 → 0 ≤ zub n ∧ zub n ≤ 35184 := by decide
theorem zub_6 : zub 6 = 70368 := by decide
def zM (f : Int → Int) (m : Nat) (Di D : Int → Int → Int) : Prop := zO 7 100000 m Di D ∧ ∀ x y : Int, zN 7 x → zN 7 y → (D x y < 100000 → D x y ≤ zub m) ∧ (m = 0 → y = 0 → D x y < 100000 → D x y ≤ 200) ∧ (x ≠ y → (¬ zus f x ∨ ¬ zus f y) → 100000 ≤ D x y)
theorem zM.start {f : Int → Int} {D : Int → Int → Int} (h : zMc f (f 7) D) : zM f 0 D D :=
  ⟨zO.start (fun x y hx hy => (h x y hx hy).1.1), fun x y hx hy => ⟨(h x y hx hy).2.1, fun _ => (h x y hx hy).2.2.1, (h x y hx hy).2.2.2.1⟩⟩
theorem zM.step {f : Int → Int} (hok : zOK f) {m : Nat} {Di D0 D : Int → Int → Int} (hm : m < 7) (hc : zMc f (f 7) Di) (hr : zMr f (f 4) Di) (h : zM f m Di D0) (hJ : zJ 7 100000 m (zbd m) D0 D 7 0) : zM f (m + 1) Di D := by
  obtain ⟨hO, hb⟩ := h
  have hnn := hok.nn
  have hmn : zN 7 m := by omega
  have h6 : zN 7 (6 : Int) := by omega
  refine ⟨hO.step (by omega) hJ (fun c x hc7 hcm hx => ?_), fun x y hx hy => ?_⟩
  · have b1 := hb m c hmn hc7
    have b2 := hb c x hc7 hx
    have b3 := hb x c hx hc7
    have b4 := hb c m hc7 hmn
    by_cases e : m = 6
    · have hmZ : (m : Int) = 6 := by omega
      have hz : zub m = 70368 := by rw [e]; exact zub_6
      rw [hmZ, hz] at b1 b4
      rw [hz] at b2 b3
      rw [hmZ]
      constructor
      · intro q1 q2
        have uc : c < f 4 := by
          apply Classical.byContradiction
          intro z
          have := b1.2.2 (by omega) (Or.inr (by omega))
          omega
        have r := (hr c (by omega)).1
        have l := (hO.1 6 c h6 hc7).1
        have := b2.1 q2
        omega
      · intro q1 q2
        have uc : c < f 4 := by
          apply Classical.byContradiction
          intro z
          have := b4.2.2 (by omega) (Or.inl (by omega))
          omega
        have r := (hr c (by omega)).2.1
        have l := (hO.1 c 6 hc7 h6).1
        have := b3.1 q1
        omega
    · have := zub_5 m (by omega)
      omega
  · obtain ⟨j1, j2, j3, j4, j5, j6⟩ := hJ x y hx hy
    have b1 := hb x y hx hy
    have b2 := hb x m hx hmn
    have b3 := hb m y hmn hy
    refine ⟨fun q => ?_, fun z => absurd z (by omega), ?_⟩
    · rcases Nat.eq_zero_or_pos m with e | e
      · have hmZ : (m : Int) = 0 := by omega
        have hz : zub m = 1999 := by rw [e]; rfl
        have hz1 : zub (m + 1) = 2199 := by rw [e]; rfl
        rw [hz1]
        rw [hz] at b1
        rw [hmZ, hz] at b2 b3
        rw [hmZ] at j5
        rcases j5 q with k | ⟨k1, k2, k3⟩
        · omega
        · have := b2.2.1 e rfl k1
          omega
      · obtain ⟨i, rfl⟩ : ∃ i, m = i + 1 := ⟨m - 1, by omega⟩
        have u1 : zub (i + 1 + 1) = 2 * zub (i + 1) := rfl
        have u2 := zub_5
        rcases j5 q with k | ⟨k1, k2, k3⟩
        · have : 0 ≤ zub (i + 1) := by
            rcases Nat.lt_or_ge (i + 1) 6 with w | w
            · exact (zub_5 _ w).1
            · rw [show i + 1 = 6 by omega, zub_6]; decide
          omega
        · omega
    · intro ne nu
      apply Classical.byContradiction
      intro q
      rcases j5 (by omega) with k | ⟨k1, k2, k3⟩
      · have := b1.2.2 ne nu
        omega
      · rcases nu with nu | nu
        · by_cases e : x = m
          · rw [← e] at k2
            have := b1.2.2 ne (Or.inl nu)
            omega
          · have := b2.2.2 e (Or.inl nu)
            omega
        · by_cases e : (m : Int) = y
          · rw [e] at k1
            have := b1.2.2 ne (Or.inr nu)
            omega
          · have := b3.2.2 e (Or.inr nu)
            omega
theorem zM_sound {f : Int → Int} (hok : zOK f) {m : Nat} {Di D : Int → Int → Int} (hc : zMc f (f 7) Di) (h : zM f m Di D) {p : Int → Int} (hp : zsol f p) : (∀ x y : Int, zN (f 4) x → zN (f 4) y → p y - p x ≤ D x y) ∧ ∀ x : Int, zN 7 x → 0 ≤ D x x := by
  have hnn := hok.nn
  have ev : ∀ x : Int, (if x < f 4 then p x else 0) = (if x < f 4 then p x else 0) := fun _ => rfl
  have key : zpm f (f 7) (fun x => if x < f 4 then p x else 0) := by
    refine ⟨fun x hx => ?_, ?_, fun k hk => ?_, fun k hk => ?_, fun q hq => ?_⟩
    · show 0 ≤ (if x < f 4 then p x else 0) ∧ (if x < f 4 then p x else 0) ≤ 200
      split
      · have := hp.1 x (by omega)
        omega
      · decide
    · show (if (6 : Int) < f 4 then p 6 else 0) = 0
      rw [if_neg (by omega)]
    · show (if k < f 4 then p k else 0) ≤ f 0
      rw [if_pos (by omega)]
      exact (hp.1 k hk).2
    · show (if k < f 4 then p k else 0) + 1 ≤ (if k + 1 < f 4 then p (k + 1) else 0)
      rw [if_pos (by omega), if_pos (by omega)]
      exact hp.2.1 k hk
    · have ht := (hok.tm hq).1
      have g := hp.2.2 q hq
      show (if ztb f q < f 4 then p (ztb f q) else 0) - (if zta f q < f 4 then p (zta f q) else 0) ≤ _ ∧ (if zta f q < f 4 then p (zta f q) else 0) - (if ztb f q < f 4 then p (ztb f q) else 0) ≤ _
      rw [if_pos (by omega), if_pos (by omega)]
      exact g
  have pot : zpot 7 Di (fun x => if x < f 4 then p x else 0) := fun x y hx hy => (hc x y hx hy).2.2.2.2.2 _ key
  refine ⟨fun x y hx hy => ?_, fun x hx => ?_⟩
  · have := (h.1.1 x y (by omega) (by omega)).2.2 _ pot
    have this : (if y < f 4 then p y else 0) - (if x < f 4 then p x else 0) ≤ D x y := this
    rw [if_pos (by omega), if_pos (by omega)] at this
    exact this
  · have := (h.1.1 x x hx hx).2.2 _ pot
    have this : (if x < f 4 then p x else 0) - (if x < f 4 then p x else 0) ≤ D x x := this
    omega
theorem zM_full {f : Int → Int} (hok : zOK f) {Di D : Int → Int → Int} (hc : zMc f (f 7) Di) (hr : zMr f (f 4) Di) (ht : zMt f (f 7) Di) (h : zM f 7 Di D) (hd : ∀ x : Int, zN 7 x → 0 ≤ D x x) : zFit f D := by
  have hnn := hok.nn
  have h6 : zN 7 (6 : Int) := by omega
  have T : ∀ a b c : Int, zN 7 a → zN 7 b → zN 7 c → D a c < 100000 → D c b < 100000 → D a b ≤ D a c + D c b := fun a b c ha hb hc' => h.1.2 hd a b c ha hb hc' (by omega)
  have R : ∀ k : Int, zN (f 4) k → D 6 k ≤ f 0 ∧ D k 6 ≤ 0 ∧ (0 < k → D k (k - 1) ≤ -1) := fun k hk => by
    obtain ⟨r1, r2, r3⟩ := hr k hk
    have l1 := (h.1.1 6 k h6 (by omega)).1
    have l2 := (h.1.1 k 6 (by omega) h6).1
    refine ⟨by omega, by omega, fun z => ?_⟩
    have l3 := (h.1.1 k (k - 1) (by omega) (by omega)).1
    have := r3 z
    omega
  have Fin : ∀ x y : Int, zN (f 4) x → zN (f 4) y → D x y < 100000 := fun x y hx hy => by
    have r1 := R x hx
    have r2 := R y hy
    have := T x y 6 (by omega) (by omega) h6 (by omega) (by omega)
    omega
  refine ⟨fun p hp => (zM_sound hok hc h hp).1, fun x y hx hy => ⟨fun z => D x z - D x 6, ⟨fun k hk => ?_, fun k hk => ?_, fun q hq => ?_⟩, ?_⟩⟩
  · have r1 := R x hx
    have r2 := R k hk
    have a1 := T x k 6 (by omega) (by omega) h6 (by omega) (by omega)
    have a2 := T x 6 k (by omega) h6 (by omega) (Fin x k hx hk) (by omega)
    show 0 ≤ D x k - D x 6 ∧ D x k - D x 6 ≤ f 0
    exact ⟨by omega, by omega⟩
  · have r2 := (R (k + 1) (by omega)).2.2 (by omega)
    rw [show k + 1 - 1 = k by omega] at r2
    have a1 := T x k (k + 1) (by omega) (by omega) (by omega) (Fin x (k + 1) hx (by omega)) (by omega)
    show D x k - D x 6 + 1 ≤ D x (k + 1) - D x 6
    omega
  · have hta := (hok.tm hq).1
    have hna : zN (f 4) (zta f q) := by omega
    have hnb : zN (f 4) (ztb f q) := by omega
    have a1 := T x (ztb f q) (zta f q) (by omega) (by omega) (by omega) (Fin x _ hx hna) (Fin _ _ hna hnb)
    have a2 := T x (zta f q) (ztb f q) (by omega) (by omega) (by omega) (Fin x _ hx hnb) (Fin _ _ hnb hna)
    have a3 := ht q hq
    have a4 := (h.1.1 (zta f q) (ztb f q) (by omega) (by omega)).1
    have a5 := (h.1.1 (ztb f q) (zta f q) (by omega) (by omega)).1
    exact ⟨by show D x (ztb f q) - D x 6 - (D x (zta f q) - D x 6) ≤ _; omega, by show D x (zta f q) - D x 6 - (D x (ztb f q) - D x 6) ≤ _; omega⟩
  · have a1 := hd x (by omega)
    have a2 := (hc x x (by omega) (by omega)).2.2.2.2.1 rfl
    have a3 := (h.1.1 x x (by omega) (by omega)).1
    show D x y - D x 6 - (D x x - D x 6) = D x y
    omega
theorem zsol_0 {f : Int → Int} (hok : zOK f) (h : f 4 ≤ 0) : zsol f (fun _ => 0) :=
  ⟨fun k hk => absurd hk (by omega), fun k hk => absurd hk (by omega), fun q hq => absurd (hok.tm hq).1 (by omega)⟩
theorem zFit.some {f : Int → Int} {D : Int → Int → Int} (hok : zOK f) (h : zFit f D) : ∃ p : Int → Int, zsol f p := by
  by_cases c : f 4 ≤ 0
  · exact ⟨_, zsol_0 hok c⟩
  · obtain ⟨p, hp, _⟩ := h.2 0 0 (by omega) (by omega)
    exact ⟨p, hp⟩
