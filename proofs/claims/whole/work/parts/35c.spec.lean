theorem z64 {a : Int} (h : -2147483648 ≤ a ∧ a ≤ 2147483647) : ((zi a).toInt64).toInt = a := by rw [Int32.toInt_toInt64, zi_to h]
theorem s_in {v lo hi : Int64} {K : Int32 → Prop} {a l u : Int} (e1 : v.toInt = a) (e2 : lo.toInt = l) (e3 : hi.toInt = u) (h1 : l ≤ a ∧ a ≤ u → K 1) (h0 : ¬ (l ≤ a ∧ a ≤ u) → K 0) : wp_X8_in v lo hi K := by
  unfold wp_X8_in
  rw [lg_cmp_lt, lg_cmp_gt, Int64.lt_iff_toInt_lt, Int64.lt_iff_toInt_lt, e1, e2, e3]
  exact ⟨fun c => h0 (by omega), fun c => ⟨fun d => h0 (by omega), fun d => h1 (by omega)⟩⟩
theorem s_among {a l u : Int} {x y z : Int32} {K : Int32 → Prop} (e1 : x = zi a) (e2 : y = zi l) (e3 : z = zi u) (r : (-2147483648 ≤ a ∧ a ≤ 2147483647) ∧ (-2147483648 ≤ l ∧ l ≤ 2147483647) ∧ (-2147483648 ≤ u ∧ u ≤ 2147483647)) (h1 : l ≤ a ∧ a ≤ u → K 1) (h0 : ¬ (l ≤ a ∧ a ≤ u) → K 0) : wp_X7_isAmong x y z K := by
  unfold wp_X7_isAmong
  rw [e1, e2, e3, zi_lt (by omega) (by omega), zi_lt (by omega) (by omega)]
  exact ⟨fun c => h0 (by omega), fun c => ⟨fun d => h0 (by omega), fun d => h1 (by omega)⟩⟩
theorem s8_isRow {a : Int} {K : Int32 → Prop} (ra : -2147483648 ≤ a ∧ a ≤ 2147483647) (h1 : 0 ≤ a ∧ a < 8 → K 1) (h0 : ¬ (0 ≤ a ∧ a < 8) → K 0) : wp_X8_isRow (zi a) K :=
  s_in (a := a) (l := 0) (u := 7) (z64 ra) rfl rfl (fun c => ⟨rfl, h1 (by omega)⟩) (fun c => ⟨rfl, h0 (by omega)⟩)
theorem s6_isRow {a : Int} {K : Int32 → Prop} (ra : -2147483648 ≤ a ∧ a ≤ 2147483647) (h1 : 0 ≤ a ∧ a < 8 → K 1) (h0 : ¬ (0 ≤ a ∧ a < 8) → K 0) : wp_X6_isRow (zi a) K := by
  unfold wp_X6_isRow
  rw [zq0, zq8, zi_lt ra (by decide), zi_le (by decide) ra]
  exact ⟨fun c => h0 (by omega), fun c => ⟨fun d => h0 (by omega), fun d => h1 (by omega)⟩⟩
theorem zm1 {c : Int32} {n : Int} (e : c = zi n) : c - 1 = zi (n - 1) := by
  rw [e, ← zi_sub]
  rfl
theorem s8_isStone {c : Nat → Int32} {a n : Int} {K : Int32 → Prop} (e : c 4 = zi n) (rn : 0 ≤ n ∧ n ≤ 6) (ra : -2147483648 ≤ a ∧ a ≤ 2147483647) (h1 : 0 ≤ a ∧ a < n → K 1) (h0 : ¬ (0 ≤ a ∧ a < n) → K 0) : wp_X8_isStone c (zi a) K :=
  s_in (a := a) (l := 0) (u := n - 1) (z64 ra) rfl (by rw [zm1 e]; exact z64 (by omega)) (fun c => ⟨rfl, h1 (by omega)⟩) (fun c => ⟨rfl, h0 (by omega)⟩)
theorem s8_isMover {c : Nat → Int32} {a n : Int} {K : Int32 → Prop} (e : c 5 = zi n) (rn : 0 ≤ n ∧ n ≤ 6) (ra : -2147483648 ≤ a ∧ a ≤ 2147483647) (h1 : 0 ≤ a ∧ a < n → K 1) (h0 : ¬ (0 ≤ a ∧ a < n) → K 0) : wp_X8_isMover c (zi a) K :=
  s_in (a := a) (l := 0) (u := n - 1) (z64 ra) rfl (by rw [zm1 e]; exact z64 (by omega)) (fun c => ⟨rfl, h1 (by omega)⟩) (fun c => ⟨rfl, h0 (by omega)⟩)
theorem s5_isStone {c : Int32} {a n : Int} {K : Int32 → Prop} (e : c = zi n) (rn : 0 ≤ n ∧ n ≤ 6) (ra : -2147483648 ≤ a ∧ a ≤ 2147483647) (h1 : 0 ≤ a ∧ a < n → K 1) (h0 : ¬ (0 ≤ a ∧ a < n) → K 0) : wp_X5_isStone c (zi a) K := by
  unfold wp_X5_isStone
  rw [e, zq0, zi_lt ra (by decide), zi_le (by omega) ra]
  exact ⟨fun c => h0 (by omega), fun c => ⟨fun d => h0 (by omega), fun d => h1 (by omega)⟩⟩
theorem s5_isMover {c : Int32} {a n : Int} {K : Int32 → Prop} (e : c = zi n) (rn : 0 ≤ n ∧ n ≤ 6) (ra : -2147483648 ≤ a ∧ a ≤ 2147483647) (h1 : 0 ≤ a ∧ a < n → K 1) (h0 : ¬ (0 ≤ a ∧ a < n) → K 0) : wp_X5_isMover c (zi a) K := by
  unfold wp_X5_isMover
  rw [e, zq0, zi_lt ra (by decide), zi_le (by omega) ra]
  exact ⟨fun c => h0 (by omega), fun c => ⟨fun d => h0 (by omega), fun d => h1 (by omega)⟩⟩
theorem s8_stoneOf {c : Nat → Int32} {f : Int → Int} {k w : Int} {K : Int32 → Prop} (h : zA 94 c f) (rk : 0 ≤ k ∧ k < 6) (rw' : 0 ≤ w ∧ w ≤ 2) (hK : K (zi (f (8 + 3 * k + w)))) : wp_X8_stoneOf c (zi k) (zi w) K := by
  unfold wp_X8_stoneOf
  rw [zq8, zq3, zi_mul, zi_add, zi_add, h.at (a := 8 + 3 * k + w) (by omega)]
  exact ⟨zi_in (by omega), hK⟩
theorem s8_of {c : Nat → Int32} {f : Int → Int} {k w : Int} {K : Int32 → Prop} (h : zA 94 c f) (rk : 0 ≤ k ∧ k < 5) (rw' : 0 ≤ w ∧ w ≤ 3) (hK : K (zi (f (26 + 4 * k + w)))) : wp_X8_of c (zi k) (zi w) K := by
  unfold wp_X8_of
  rw [zq26, zq4, zi_mul, zi_add, zi_add, h.at (a := 26 + 4 * k + w) (by omega)]
  exact ⟨zi_in (by omega), hK⟩
theorem s8_apart {a b : Int} {K : Int32 → Prop} (ra : -1000000 ≤ a ∧ a ≤ 1000000) (rb : -1000000 ≤ b ∧ b ≤ 1000000) (hK : K (zi (if b ≤ a then a - b else b - a))) : wp_X8_apart (zi a) (zi b) K := by
  unfold wp_X8_apart
  rw [zi_le (by omega) (by omega), zi_sub, zi_sub]
  refine ⟨fun c => ?_, fun c => ?_⟩
  · rw [if_pos c] at hK; exact hK
  · rw [if_neg c] at hK; exact hK
theorem zf_01 {n : Int} : fits .boolean (.int (if 0 < n then 1 else 0)) = true := by
  split
  · rfl
  · rfl
theorem zM4 {c : Nat → Int32} {f : Int → Int} (h : zA 94 c f) {i : Nat} (hi : i < 94) : c i = zi (f i) := h i (by omega)
