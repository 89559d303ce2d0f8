theorem nz_ind {P : Type} {bot : P} {F : P → P} (Q : Nat → P → Prop) (step : ∀ (k : Nat) (p : P), (∀ j : Nat, k = j + 1 → Q j p) → Q k (F p)) : ∀ k : Nat, Q k (nz_it bot F (k + 1))
  | 0 => step 0 _ (fun j h => absurd h (by omega))
  | k + 1 => step (k + 1) _ (fun j h => by
      obtain rfl : j = k := by omega
      exact nz_ind Q step j)
theorem nz_l1 {A : Type} {bot : A → Prop} {F : (A → Prop) → A → Prop} (I : Nat → A → Prop) (step : ∀ (k : Nat) (R : A → Prop) (a : A), I k a → (∀ (j : Nat) (a : A), k = j + 1 → I j a → R a) → F R a) {k : Nat} {a : A} (h : I k a) : ∃ n, nz_it bot F n a :=
  ⟨k + 1, nz_ind (fun k p => ∀ a, I k a → p a) (fun k p hp a ha => step k p a ha (fun j a e h => hp j e a h)) k a h⟩
theorem nz_l2 {A B : Type} {bot : A → B → Prop} {F : (A → B → Prop) → A → B → Prop} (I : Nat → A → B → Prop) (step : ∀ (k : Nat) (R : A → B → Prop) (a : A) (b : B), I k a b → (∀ (j : Nat) (a : A) (b : B), k = j + 1 → I j a b → R a b) → F R a b) {k : Nat} {a : A} {b : B} (h : I k a b) : ∃ n, nz_it bot F n a b :=
  ⟨k + 1, nz_ind (fun k p => ∀ a b, I k a b → p a b) (fun k p hp a b ha => step k p a b ha (fun j a b e h => hp j e a b h)) k a b h⟩
theorem nz_l3 {A B C : Type} {bot : A → B → C → Prop} {F : (A → B → C → Prop) → A → B → C → Prop} (I : Nat → A → B → C → Prop) (step : ∀ (k : Nat) (R : A → B → C → Prop) (a : A) (b : B) (c : C), I k a b c → (∀ (j : Nat) (a : A) (b : B) (c : C), k = j + 1 → I j a b c → R a b c) → F R a b c) {k : Nat} {a : A} {b : B} {c : C} (h : I k a b c) : ∃ n, nz_it bot F n a b c :=
  ⟨k + 1, nz_ind (fun k p => ∀ a b c, I k a b c → p a b c) (fun k p hp a b c ha => step k p a b c ha (fun j a b c e h => hp j e a b c h)) k a b c h⟩
theorem nz_l4 {A B C D : Type} {bot : A → B → C → D → Prop} {F : (A → B → C → D → Prop) → A → B → C → D → Prop} (I : Nat → A → B → C → D → Prop) (step : ∀ (k : Nat) (R : A → B → C → D → Prop) (a : A) (b : B) (c : C) (d : D), I k a b c d → (∀ (j : Nat) (a : A) (b : B) (c : C) (d : D), k = j + 1 → I j a b c d → R a b c d) → F R a b c d) {k : Nat} {a : A} {b : B} {c : C} {d : D} (h : I k a b c d) : ∃ n, nz_it bot F n a b c d :=
  ⟨k + 1, nz_ind (fun k p => ∀ a b c d, I k a b c d → p a b c d) (fun k p hp a b c d ha => step k p a b c d ha (fun j a b c d e h => hp j e a b c d h)) k a b c d h⟩
theorem zpar {t : Int} (h : 0 ≤ t) : zi t &&& 1 = zi (t % 2) := by
  obtain ⟨n, rfl⟩ := Int.eq_ofNat_of_zero_le h
  have e : ((n : Int) % 2) = ((n % 2 : Nat) : Int) := by omega
  rw [e]
  apply Int32.toBitVec_inj.mp
  rw [Int32.toBitVec_and]
  apply BitVec.eq_of_toNat_eq
  show (BitVec.ofInt 32 (n : Int) &&& 1#32).toNat = (BitVec.ofInt 32 ((n % 2 : Nat) : Int)).toNat
  rw [BitVec.ofInt_natCast, BitVec.ofInt_natCast, BitVec.toNat_and, BitVec.toNat_ofNat, BitVec.toNat_ofNat]
  show (n % 2 ^ 32) &&& 1 = _
  rw [Nat.and_one_is_mod, BitVec.toNat_ofNat]
  omega
theorem zb1 (x : Int32) : x &&& 1 = 0 ∨ x &&& 1 = 1 := by
  have h : (x &&& 1).toBitVec.toNat = x.toBitVec.toNat % 2 := by
    rw [Int32.toBitVec_and, BitVec.toNat_and]
    exact Nat.and_one_is_mod _
  rcases Nat.mod_two_eq_zero_or_one x.toBitVec.toNat with q | q
  · left
    apply Int32.toBitVec_inj.mp
    apply BitVec.eq_of_toNat_eq
    rw [h, q]
    rfl
  · right
    apply Int32.toBitVec_inj.mp
    apply BitVec.eq_of_toNat_eq
    rw [h, q]
    rfl
theorem zmod2 {t : Int} (h : 0 ≤ t ∧ t ≤ 2147483647) : zi t - zi t / 2 * 2 = zi (t % 2) := by
  rw [zq2, zi_div (by omega) (by decide), zi_mul, zi_sub]
  congr 1
  have := Int.tdiv_eq_ediv_of_nonneg (b := 2) h.1
  omega
theorem zi_vin {a : Int} {n : Nat} (h : 0 ≤ a ∧ a < n ∧ n ≤ 2147483647) : vp_in (zi a) n = True := eq_true (zi_in h)
def zbs (d : Nat → Bool) : Nat → Nat
  | 0 => 0
  | n + 1 => zbs d n + (if d n then 2 ^ n else 0)
theorem zbs_lt (d : Nat → Bool) : ∀ n : Nat, zbs d n < 2 ^ n
  | 0 => by
    show 0 < 2 ^ 0
    decide
  | n + 1 => by
    have := zbs_lt d n
    have e : 2 ^ (n + 1) = 2 * 2 ^ n := by rw [Nat.pow_succ]; omega
    show zbs d n + (if d n then 2 ^ n else 0) < _
    split <;> omega
theorem zbor : ∀ x, x < 64 → ∀ k, k < 6 → x < 2 ^ k → zi (x : Nat) ||| (1 <<< (zi (k : Nat) &&& 31)) = zi ((x + 2 ^ k : Nat)) := by decide +kernel
theorem zbs_64 (d : Nat → Bool) {n : Nat} (h : n ≤ 6) : zbs d n < 64 := Nat.lt_of_lt_of_le (zbs_lt d n) (Nat.pow_le_pow_right (n := 2) (by decide) h)
theorem zbs_or (d : Nat → Bool) {k : Nat} (hk : k < 6) (hd : d k = true) : zi (zbs d k) ||| (1 <<< (zi (k : Int) &&& 31)) = zi (zbs d (k + 1)) := by
  rw [zbor _ (zbs_64 d (by omega)) k hk (zbs_lt d k)]
  show _ = zi ((zbs d k + (if d k then 2 ^ k else 0) : Nat))
  rw [if_pos hd]
theorem zbs_no (d : Nat → Bool) {k : Nat} (hd : ¬ d k = true) : zi (zbs d k) = zi (zbs d (k + 1)) := by
  show _ = zi ((zbs d k + (if d k then 2 ^ k else 0) : Nat))
  rw [if_neg hd]
  rfl
theorem zpow5 : ∀ n, n < 7 → (1 : Int32) <<< (zi (n : Nat) &&& 31) = zi ((2 ^ n : Nat)) := by decide +kernel
theorem by1 {A B : Prop} (h : A) : ((¬ (1 : Int32) = 0 → A) ∧ ((1 : Int32) = 0 → B)) := ⟨fun _ => h, fun q => absurd q (by decide)⟩
theorem by1' {A B : Prop} (h : A) : (((1 : Int32) = 0 → B) ∧ (¬ (1 : Int32) = 0 → A)) := ⟨fun q => absurd q (by decide), fun _ => h⟩
theorem by0 {A B : Prop} (h : B) : ((¬ (0 : Int32) = 0 → A) ∧ ((0 : Int32) = 0 → B)) := ⟨fun q => absurd rfl q, fun _ => h⟩
theorem by0' {A B : Prop} (h : B) : (((0 : Int32) = 0 → B) ∧ (¬ (0 : Int32) = 0 → A)) := ⟨fun _ => h, fun q => absurd rfl q⟩
theorem ziq {a b : Int} (ra : -2147483648 ≤ a ∧ a ≤ 2147483647) (rb : -2147483648 ≤ b ∧ b ≤ 2147483647) (q : zi a = zi b) : a = b := by
  rw [zi_eq ra rb] at q
  exact q
theorem zin {a b : Int} (q : ¬ zi a = zi b) : a ≠ b := fun e => q (by rw [e])
