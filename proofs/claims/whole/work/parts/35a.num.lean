def zi (a : Int) : Int32 := Int32.ofInt a
theorem zi_add (a b : Int) : zi a + zi b = zi (a + b) := (Int32.ofInt_add a b).symm
theorem zi_sub (a b : Int) : zi a - zi b = zi (a - b) := (Int32.ofInt_sub a b).symm
theorem zi_mul (a b : Int) : zi a * zi b = zi (a * b) := (Int32.ofInt_mul a b).symm
theorem zi_neg (a : Int) : -zi a = zi (-a) := (Int32.ofInt_neg a).symm
theorem zi_lit (n : Nat) : (no_index (OfNat.ofNat n : Int32)) = zi (OfNat.ofNat n : Int) := rfl
theorem zq0 : (0 : Int32) = zi 0 := rfl
theorem zq1 : (1 : Int32) = zi 1 := rfl
theorem zq2 : (2 : Int32) = zi 2 := rfl
theorem zq3 : (3 : Int32) = zi 3 := rfl
theorem zq4 : (4 : Int32) = zi 4 := rfl
theorem zq5 : (5 : Int32) = zi 5 := rfl
theorem zq6 : (6 : Int32) = zi 6 := rfl
theorem zq7 : (7 : Int32) = zi 7 := rfl
theorem zq8 : (8 : Int32) = zi 8 := rfl
theorem zq9 : (9 : Int32) = zi 9 := rfl
theorem zq10 : (10 : Int32) = zi 10 := rfl
theorem zq11 : (11 : Int32) = zi 11 := rfl
theorem zq12 : (12 : Int32) = zi 12 := rfl
theorem zq13 : (13 : Int32) = zi 13 := rfl
theorem zq14 : (14 : Int32) = zi 14 := rfl
theorem zq15 : (15 : Int32) = zi 15 := rfl
theorem zq16 : (16 : Int32) = zi 16 := rfl
theorem zq17 : (17 : Int32) = zi 17 := rfl
theorem zq18 : (18 : Int32) = zi 18 := rfl
theorem zq19 : (19 : Int32) = zi 19 := rfl
theorem zq20 : (20 : Int32) = zi 20 := rfl
theorem zq21 : (21 : Int32) = zi 21 := rfl
theorem zq22 : (22 : Int32) = zi 22 := rfl
theorem zq23 : (23 : Int32) = zi 23 := rfl
theorem zq24 : (24 : Int32) = zi 24 := rfl
theorem zq25 : (25 : Int32) = zi 25 := rfl
theorem zq26 : (26 : Int32) = zi 26 := rfl
theorem zq27 : (27 : Int32) = zi 27 := rfl
theorem zq28 : (28 : Int32) = zi 28 := rfl
theorem zq29 : (29 : Int32) = zi 29 := rfl
theorem zq30 : (30 : Int32) = zi 30 := rfl
theorem zq31 : (31 : Int32) = zi 31 := rfl
theorem zq32 : (32 : Int32) = zi 32 := rfl
theorem zq33 : (33 : Int32) = zi 33 := rfl
theorem zq34 : (34 : Int32) = zi 34 := rfl
theorem zq35 : (35 : Int32) = zi 35 := rfl
theorem zq36 : (36 : Int32) = zi 36 := rfl
theorem zq37 : (37 : Int32) = zi 37 := rfl
theorem zq38 : (38 : Int32) = zi 38 := rfl
theorem zq39 : (39 : Int32) = zi 39 := rfl
theorem zq40 : (40 : Int32) = zi 40 := rfl
theorem zq41 : (41 : Int32) = zi 41 := rfl
theorem zq42 : (42 : Int32) = zi 42 := rfl
theorem zq43 : (43 : Int32) = zi 43 := rfl
theorem zq44 : (44 : Int32) = zi 44 := rfl
theorem zq45 : (45 : Int32) = zi 45 := rfl
theorem zq46 : (46 : Int32) = zi 46 := rfl
theorem zq47 : (47 : Int32) = zi 47 := rfl
theorem zq48 : (48 : Int32) = zi 48 := rfl
theorem zq49 : (49 : Int32) = zi 49 := rfl
theorem zq50 : (50 : Int32) = zi 50 := rfl
theorem zq51 : (51 : Int32) = zi 51 := rfl
theorem zq52 : (52 : Int32) = zi 52 := rfl
theorem zq53 : (53 : Int32) = zi 53 := rfl
theorem zq54 : (54 : Int32) = zi 54 := rfl
theorem zq55 : (55 : Int32) = zi 55 := rfl
theorem zq56 : (56 : Int32) = zi 56 := rfl
theorem zq57 : (57 : Int32) = zi 57 := rfl
theorem zq58 : (58 : Int32) = zi 58 := rfl
theorem zq59 : (59 : Int32) = zi 59 := rfl
theorem zq60 : (60 : Int32) = zi 60 := rfl
theorem zq61 : (61 : Int32) = zi 61 := rfl
theorem zq62 : (62 : Int32) = zi 62 := rfl
theorem zq63 : (63 : Int32) = zi 63 := rfl
theorem zq64 : (64 : Int32) = zi 64 := rfl
theorem zq94 : (94 : Int32) = zi 94 := rfl
theorem zq97 : (97 : Int32) = zi 97 := rfl
theorem zq100 : (100 : Int32) = zi 100 := rfl
theorem zq114 : (114 : Int32) = zi 114 := rfl
theorem zq122 : (122 : Int32) = zi 122 := rfl
theorem zq144 : (144 : Int32) = zi 144 := rfl
theorem zq168 : (168 : Int32) = zi 168 := rfl
theorem zq188 : (188 : Int32) = zi 188 := rfl
theorem zq255 : (255 : Int32) = zi 255 := rfl
theorem zq320 : (320 : Int32) = zi 320 := rfl
theorem zq400 : (400 : Int32) = zi 400 := rfl
theorem zq999 : (999 : Int32) = zi 999 := rfl
theorem zq1000 : (1000 : Int32) = zi 1000 := rfl
theorem zq9999 : (9999 : Int32) = zi 9999 := rfl
theorem zq10000 : (10000 : Int32) = zi 10000 := rfl
theorem zq100000 : (100000 : Int32) = zi 100000 := rfl
theorem zq1000000 : (1000000 : Int32) = zi 1000000 := rfl
theorem zi_to {a : Int} (h : -2147483648 ≤ a ∧ a ≤ 2147483647) : (zi a).toInt = a := Int32.toInt_ofInt_of_le (by omega) (by omega)
theorem zi_of (x : Int32) : zi x.toInt = x := Int32.ofInt_toInt x
theorem zi_rg (x : Int32) : -2147483648 ≤ x.toInt ∧ x.toInt ≤ 2147483647 := ⟨Int32.le_toInt x, Int32.toInt_le x⟩
theorem zi_ex (x : Int32) : ∃ a : Int, (-2147483648 ≤ a ∧ a ≤ 2147483647) ∧ x = zi a := ⟨x.toInt, zi_rg x, (zi_of x).symm⟩
theorem zi_lt {a b : Int} (ha : -2147483648 ≤ a ∧ a ≤ 2147483647) (hb : -2147483648 ≤ b ∧ b ≤ 2147483647) : (zi a < zi b) = (a < b) := by
  rw [Int32.lt_iff_toInt_lt, zi_to ha, zi_to hb]
theorem zi_le {a b : Int} (ha : -2147483648 ≤ a ∧ a ≤ 2147483647) (hb : -2147483648 ≤ b ∧ b ≤ 2147483647) : (zi a ≤ zi b) = (a ≤ b) := by
  rw [Int32.le_iff_toInt_le, zi_to ha, zi_to hb]
theorem zi_eq {a b : Int} (ha : -2147483648 ≤ a ∧ a ≤ 2147483647) (hb : -2147483648 ≤ b ∧ b ≤ 2147483647) : (zi a = zi b) = (a = b) := by
  rw [← Int32.toInt_inj, zi_to ha, zi_to hb]
theorem zi_cl {a : Int} (ha : 0 ≤ a ∧ a ≤ 2147483647) : (zi a).toNatClampNeg = a.toNat := by
  show (zi a).toInt.toNat = _
  rw [zi_to (by omega)]
theorem zi_in {a : Int} {n : Nat} (h : 0 ≤ a ∧ a < n ∧ n ≤ 2147483647) : vp_in (zi a) n := vp_in_iff.mpr (by rw [zi_to (by omega)]; omega)
theorem zi_div {a b : Int} (ha : -2147483648 < a ∧ a ≤ 2147483647) (hb : -2147483648 ≤ b ∧ b ≤ 2147483647) : zi a / zi b = zi (a.tdiv b) := by
  rw [← Int32.toInt_inj, Int32.toInt_div_of_ne_left _ _ (by intro h; have := congrArg Int32.toInt h; rw [zi_to (by omega)] at this; simp at this; omega), zi_to (by omega), zi_to hb, zi_to]
  exact ⟨by have := Int.natAbs_tdiv_le_natAbs a b; omega, by have := Int.natAbs_tdiv_le_natAbs a b; omega⟩
def zl (a : Int) : Int64 := Int64.ofInt a
theorem zl_lit (n : Nat) : (no_index (OfNat.ofNat n : Int64)) = zl (OfNat.ofNat n : Int) := rfl
theorem zl_to {a : Int} (h : -9223372036854775808 ≤ a ∧ a ≤ 9223372036854775807) : (zl a).toInt = a := Int64.toInt_ofInt_of_le (by omega) (by omega)
theorem zl_add (a b : Int) : zl a + zl b = zl (a + b) := (Int64.ofInt_add a b).symm
theorem zl_sub (a b : Int) : zl a - zl b = zl (a - b) := (Int64.ofInt_sub a b).symm
theorem zl_zi {a : Int} (h : -2147483648 ≤ a ∧ a ≤ 2147483647) : (zi a).toInt64 = zl a := by
  rw [← Int64.toInt_inj, Int32.toInt_toInt64, zi_to h, zl_to (by omega)]
def iup (f : Int → Int) (i v : Int) : Int → Int := fun j => if j = i then v else f j
theorem iup_eq (f : Int → Int) (i v : Int) : iup f i v i = v := if_pos rfl
theorem iup_ne {f : Int → Int} {i v j : Int} (h : j ≠ i) : iup f i v j = f j := if_neg h
def zA (n : Int) (s : Nat → Int32) (f : Int → Int) : Prop := ∀ a : Int, 0 ≤ a ∧ a < n → s a.toNat = zi (f a)
theorem zA.at {n : Int} {s : Nat → Int32} {f : Int → Int} (h : zA n s f) {a : Int} (ha : 0 ≤ a ∧ a < n ∧ a ≤ 2147483647) : s (zi a).toNatClampNeg = zi (f a) := by
  rw [zi_cl (by omega)]
  exact h a (by omega)
theorem zA.up {n : Int} {s : Nat → Int32} {f : Int → Int} (h : zA n s f) {i v : Int} (hi : 0 ≤ i ∧ i ≤ 2147483647) : zA n (upd s (zi i).toNatClampNeg (zi v)) (iup f i v) := by
  intro a ha
  rw [zi_cl hi]
  show (if a.toNat = i.toNat then zi v else s a.toNat) = zi (if a = i then v else f a)
  by_cases e : a = i
  · rw [if_pos e, if_pos (by rw [e])]
  · rw [if_neg e, if_neg (by omega)]
    exact h a ha
theorem zA.le {n m : Int} {s : Nat → Int32} {f : Int → Int} (h : zA n s f) (hm : m ≤ n) : zA m s f := fun a ha => h a (by omega)
theorem zA.congr {n : Int} {s : Nat → Int32} {f g : Int → Int} (h : zA n s f) (e : ∀ a : Int, 0 ≤ a ∧ a < n → f a = g a) : zA n s g := fun a ha => by rw [← e a ha]; exact h a ha
theorem zA.ex (n : Int) (s : Nat → Int32) : ∃ f : Int → Int, zA n s f ∧ ∀ a, -2147483648 ≤ f a ∧ f a ≤ 2147483647 := ⟨fun a => (s a.toNat).toInt, fun a _ => (zi_of _).symm, fun a => zi_rg _⟩
theorem nz_itS {P : Type} (bot : P) (f : P → P) (n : Nat) : nz_it bot f (n + 1) = f (nz_it bot f n) := rfl
theorem zb_fits0 : fits .boolean (.int 0) = true := rfl
theorem zb_fits1 : fits .boolean (.int 1) = true := rfl
