abbrev zN (n x : Int) : Prop := 0 ≤ x ∧ x < n
def zmu (D : Int → Int → Int) (a b v : Int) : Int → Int → Int := fun x y => if x = a ∧ y = b then v else D x y
theorem zmu_eq {D : Int → Int → Int} {a b v : Int} : zmu D a b v a b = v := if_pos ⟨rfl, rfl⟩
theorem zmu_ne {D : Int → Int → Int} {a b v x y : Int} (h : ¬ (x = a ∧ y = b)) : zmu D a b v x y = D x y := if_neg h
def zf1 (G m : Int) (D : Int → Int → Int) (a b : Int) : Int := if D a m < G ∧ D m b < G ∧ D a m + D m b < D a b then D a m + D m b else D a b
def zbd : Nat → Int
  | 0 => 2000
  | n + 1 => 6 * zbd n
theorem zbd_pos : ∀ n : Nat, 0 ≤ zbd n
  | 0 => by decide
  | n + 1 => by
    have := zbd_pos n
    show 0 ≤ 6 * zbd n
    omega
theorem zbd_le : ∀ n, n < 8 → zbd n ≤ 600000000 := by decide
theorem zf1_col {G m : Int} {D : Int → Int → Int} (h : 0 ≤ D m m) (a : Int) : zf1 G m D a m = D a m := by
  unfold zf1
  rw [if_neg (by omega)]
theorem zf1_row {G m : Int} {D : Int → Int → Int} (h : 0 ≤ D m m) (b : Int) : zf1 G m D m b = D m b := by
  unfold zf1
  rw [if_neg (by omega)]
abbrev zpot (n : Int) (D : Int → Int → Int) (p : Int → Int) : Prop := ∀ x y : Int, zN n x → zN n y → p y - p x ≤ D x y
def zJ (n G m B : Int) (D0 D : Int → Int → Int) (a b : Int) : Prop := ∀ x y : Int, zN n x → zN n y →
  D x y ≤ D0 x y ∧ (¬ (x < a ∨ (x = a ∧ y < b)) → D x y = D0 x y) ∧ ((x < a ∨ (x = a ∧ y < b)) → 0 ≤ D0 m m → D x y = zf1 G m D0 x y) ∧
  (-6 * B ≤ D x y ∧ (y = m → -3 * B ≤ D x y) ∧ (x = m → -3 * B ≤ D x y) ∧ (x = m → y = m → -2 * B ≤ D x y)) ∧
  (D x y < G → D0 x y < G ∨ (D0 x m < G ∧ D0 m y < G ∧ D x y ≤ D0 x m + D0 m y)) ∧ (∀ p : Int → Int, zpot n D0 p → p y - p x ≤ D x y)
theorem zJ.start {n G m B : Int} {D0 : Int → Int → Int} (hB : 0 ≤ B) (h0 : ∀ x y : Int, zN n x → zN n y → -B ≤ D0 x y) : zJ n G m B D0 D0 0 0 := by
  intro x y hx hy
  have := h0 x y hx hy
  exact ⟨by omega, fun _ => rfl, fun q => absurd q (by omega), ⟨by omega, fun _ => by omega, fun _ => by omega, fun _ _ => by omega⟩, fun q => Or.inl q, fun p hp => hp x y hx hy⟩
theorem zJ.row {n G m B : Int} {D0 D : Int → Int → Int} {a : Int} (h : zJ n G m B D0 D a n) : zJ n G m B D0 D (a + 1) 0 := by
  intro x y hx hy
  obtain ⟨h1, h2, h3, h4, h5, h6⟩ := h x y hx hy
  exact ⟨h1, fun q => h2 (by omega), fun q => h3 (by omega), h4, h5, h6⟩
theorem zJ.up {n G m B : Int} {D0 D : Int → Int → Int} {a b : Int} (hm : zN n m) (ha : zN n a) (hb : zN n b) (hB : 0 ≤ B) (h0 : ∀ x y : Int, zN n x → zN n y → -B ≤ D0 x y) (h : zJ n G m B D0 D a b) : zJ n G m B D0 (zmu D a b (zf1 G m D a b)) a (b + 1) := by
  intro x y hx hy
  by_cases e : x = a ∧ y = b
  · obtain ⟨rfl, rfl⟩ := e
    rw [zmu_eq]
    obtain ⟨p1, p2, p3, ⟨p4, p5, p6, p7⟩, p8, p9⟩ := h x y hx hy
    obtain ⟨q1, q2, q3, ⟨q4, q5, q6, q7⟩, q8, q9⟩ := h x m hx hm
    obtain ⟨r1, r2, r3, ⟨r4, r5, r6, r7⟩, r8, r9⟩ := h m y hm hy
    obtain ⟨s1, s2, s3, ⟨s4, s5, s6, s7⟩, s8, s9⟩ := h m m hm hm
    have u := p2 (by omega)
    have l0 := h0 x y hx hy
    have l1 := h0 x m hx hm
    have l2 := h0 m y hm hy
    have l3 := h0 m m hm hm
    have ex : 0 ≤ D0 m m → D x m = D0 x m := fun z => by
      by_cases c : x < x ∨ (x = x ∧ m < y)
      · rw [q3 c z, zf1_col z]
      · exact q2 c
    have ey : 0 ≤ D0 m m → D m y = D0 m y := fun z => by
      by_cases c : m < x ∨ (m = x ∧ y < y)
      · rw [r3 c z, zf1_row z]
      · exact r2 c
    have q5 := q5 rfl
    have r6 := r6 rfl
    have s7 := s7 rfl rfl
    refine ⟨?_, fun q => absurd q (by omega), fun _ z => ?_, ?_, ?_, ?_⟩
    · unfold zf1
      split <;> omega
    · unfold zf1
      rw [ex z, ey z, u]
    · unfold zf1
      split
      · refine ⟨by omega, fun c => ?_, fun c => ?_, fun c d => ?_⟩
        · subst c
          omega
        · subst c
          omega
        · subst c
          subst d
          omega
      · refine ⟨by omega, fun c => by omega, fun c => by omega, fun c d => by omega⟩
    · unfold zf1
      split
      · rename_i c
        intro _
        right
        have a1 := q8 c.1
        have a2 := r8 c.2.1
        refine ⟨?_, ?_, by omega⟩
        · rcases a1 with a1 | a1
          · exact a1
          · exact a1.1
        · rcases a2 with a2 | a2
          · exact a2
          · exact a2.2.1
      · intro c
        exact p8 c
    · intro p hp
      have a1 := p9 p hp
      have a2 := q9 p hp
      have a3 := r9 p hp
      unfold zf1
      split <;> omega
  · rw [zmu_ne e]
    obtain ⟨h1, h2, h3, h4, h5, h6⟩ := h x y hx hy
    exact ⟨h1, fun q => h2 (by omega), fun q => h3 (by omega), h4, h5, h6⟩
def zO (n G : Int) (m : Nat) (Di D : Int → Int → Int) : Prop := (∀ x y : Int, zN n x → zN n y → D x y ≤ Di x y ∧ -zbd m ≤ D x y ∧ ∀ p : Int → Int, zpot n Di p → p y - p x ≤ D x y) ∧
  ((∀ x : Int, zN n x → 0 ≤ D x x) → ∀ a b c : Int, zN n a → zN n b → zN n c → c < m → D a c < G → D c b < G → D a b ≤ D a c + D c b)
theorem zO.start {n G : Int} {D : Int → Int → Int} (h0 : ∀ x y : Int, zN n x → zN n y → -2000 ≤ D x y) : zO n G 0 D D :=
  ⟨fun x y hx hy => ⟨Int.le_refl _, h0 x y hx hy, fun p hp => hp x y hx hy⟩, fun _ a b c _ _ hc h => absurd h (by omega)⟩
theorem zO.step {n G : Int} {m : Nat} {Di D0 D : Int → Int → Int} (hm : (m : Int) < n) (h : zO n G m Di D0) (hJ : zJ n G m (zbd m) D0 D n 0) (hQ : ∀ c x : Int, zN n c → c < m → zN n x → (D0 m c < G → D0 c x < G → D0 m c + D0 c x < G) ∧ (D0 x c < G → D0 c m < G → D0 x c + D0 c m < G)) : zO n G (m + 1) Di D := by
  obtain ⟨h1, h2⟩ := h
  have hmn : zN n m := ⟨by omega, hm⟩
  refine ⟨fun x y hx hy => ?_, fun hd => ?_⟩
  · obtain ⟨a1, a2, a3⟩ := h1 x y hx hy
    obtain ⟨b1, b2, b3, ⟨b4, b5⟩, b6, b7⟩ := hJ x y hx hy
    refine ⟨by omega, ?_, fun p hp => b7 p (fun x y hx hy => (h1 x y hx hy).2.2 p hp)⟩
    show -(6 * zbd m) ≤ D x y
    omega
  · have hd0 : ∀ x : Int, zN n x → 0 ≤ D0 x x := fun x hx => by
      have := hd x hx
      have := (hJ x x hx hx).1
      omega
    have hmm := hd0 m hmn
    have T := h2 hd0
    have ex : ∀ x y : Int, zN n x → zN n y → D x y = zf1 G m D0 x y := fun x y hx hy => (hJ x y hx hy).2.2.1 (Or.inl hx.2) hmm
    have F1 : ∀ x y : Int, zN n x → zN n y → D x y ≤ D0 x y := fun x y hx hy => (hJ x y hx hy).1
    have F2 : ∀ x y : Int, zN n x → zN n y → D0 x m < G → D0 m y < G → D x y ≤ D0 x m + D0 m y := fun x y hx hy q1 q2 => by
      rw [ex x y hx hy]
      unfold zf1
      split <;> omega
    have F3 : ∀ x y : Int, zN n x → zN n y → D x y < G → D x y = D0 x y ∨ (D0 x m < G ∧ D0 m y < G ∧ D x y = D0 x m + D0 m y) := fun x y hx hy q => by
      rw [ex x y hx hy]
      unfold zf1
      split
      · rename_i c
        exact Or.inr ⟨c.1, c.2.1, rfl⟩
      · exact Or.inl rfl
    intro a b c ha hb hc hcm g1 g2
    by_cases e : c = m
    · subst e
      rw [ex a m ha hmn, zf1_col hmm] at g1 ⊢
      rw [ex m b hmn hb, zf1_row hmm] at g2 ⊢
      exact F2 a b ha hb g1 g2
    · have hcm : c < m := by omega
      have k1 := F3 a c ha hc g1
      have k2 := F3 c b hc hb g2
      rcases k1 with k1 | ⟨k1, k2', k3⟩
      · rcases k2 with k2 | ⟨l1, l2, l3⟩
        · have := T a b c ha hb hc hcm (by omega) (by omega)
          have := F1 a b ha hb
          omega
        · have t := T a m c ha hmn hc hcm (by omega) l1
          have := (hQ c a hc hcm ha).2 (by omega) l1
          have := F2 a b ha hb (by omega) l2
          omega
      · rcases k2 with k2 | ⟨l1, l2, l3⟩
        · have t := T m b c hmn hb hc hcm k2' (by omega)
          have := (hQ c b hc hcm hb).1 k2' (by omega)
          have := F2 a b ha hb k1 (by omega)
          omega
        · have t := T m m c hmn hmn hc hcm k2' l1
          have := F2 a b ha hb k1 l2
          omega
