theorem zbd_6 : ∀ n, n < 7 → zbd n ≤ 93312000 := by decide
def zD6 (n : Int) (s : Nat → Int32) (D : Int → Int → Int) : Prop := ∀ a b : Int, zN n a → zN n b → s (a * 6 + b).toNat = zi (D a b)
theorem zD6.at {n : Int} {s : Nat → Int32} {D : Int → Int → Int} (h : zD6 n s D) {a b : Int} (hn : n ≤ 6) (ha : zN n a) (hb : zN n b) : s (zi (a * 6 + b)).toNatClampNeg = zi (D a b) := by
  rw [zi_cl (by omega)]
  exact h a b ha hb
theorem zD6.up {n : Int} {s : Nat → Int32} {D : Int → Int → Int} (h : zD6 n s D) {a b v : Int} (hn : n ≤ 6) (ha : zN n a) (hb : zN n b) : zD6 n (upd s (zi (a * 6 + b)).toNatClampNeg (zi v)) (zmu D a b v) := by
  intro x y hx hy
  rw [zi_cl (by omega)]
  show (if (x * 6 + y).toNat = (a * 6 + b).toNat then zi v else s (x * 6 + y).toNat) = zi (if x = a ∧ y = b then v else D x y)
  by_cases e : x = a ∧ y = b
  · rw [if_pos e, if_pos (by rw [e.1, e.2])]
  · rw [if_neg e, if_neg (by omega)]
    exact h x y hx hy
theorem zD6.ex (n : Int) (s : Nat → Int32) : ∃ D, zD6 n s D := ⟨fun a b => (s (a * 6 + b).toNat).toInt, fun a b _ _ => (zi_of _).symm⟩
theorem x_bind {n : Int} {s : Nat → Int32} {D : Int → Int → Int} {a b v : Int} {K : (Nat → Int32) → Prop} (h : zD6 n s D) (hn : n ≤ 6) (ha : zN n a) (hb : zN n b) (hv : -2147483648 ≤ v ∧ v ≤ 2147483647) (hd : -2147483648 ≤ D a b ∧ D a b ≤ 2147483647) (hK : ∀ s, zD6 n s (zmu D a b (if v < D a b then v else D a b)) → K s) : wp_X3_bind s (zi a) (zi b) (zi v) K := by
  unfold wp_X3_bind
  rw [zq6, zi_mul, zi_add, h.at hn ha hb, zi_iflt hv hd]
  refine ⟨zi_in (by omega), ?_⟩
  rintro _ rfl
  exact ⟨zi_in (by omega), hK _ (h.up hn ha hb)⟩
def zXr (f : Int → Int) (x y : Int) : Int := if x < y then f 0 else y - x
theorem x_byRoad {f : Int → Int} {s : Nat → Int32} {K : (Nat → Int32) → Prop} (hok : zOK f) (hK : ∀ s D, zD6 (f 4) s D → (∀ x y : Int, zN (f 4) x → zN (f 4) y → D x y = zXr f x y) → K s) : wp_X3_bindByRoad s (zi (f 0)) (zi (f 4)) K := by
  have hnn := hok.nn
  obtain ⟨E, hE⟩ := zD6.ex (f 4) s
  unfold wp_X3_bindByRoad
  refine nz_l2 (fun k x2 s => ∃ (a : Int) (D : Int → Int → Int), x2 = zi a ∧ (0 ≤ a ∧ a ≤ f 4) ∧ k = (f 4 - a).toNat ∧ zD6 (f 4) s D ∧ ∀ x y : Int, zN (f 4) x → zN (f 4) y → x < a → D x y = zXr f x y) ?_ (k := (f 4 - 0).toNat) ⟨0, E, rfl, by omega, rfl, hE, fun x y hx hy z => by omega⟩
  rintro k R _ s ⟨a, D, rfl, ha, hk, hD, hP⟩ next
  unfold S_X3_bindByRoad_2
  rw [zi_le (by omega) (by omega)]
  refine ⟨fun c => hK s D hD (fun x y hx hy => hP x y hx hy (by omega)), fun c => ?_⟩
  refine nz_l2 (fun k x3 s => ∃ (b : Int) (D : Int → Int → Int), x3 = zi b ∧ (0 ≤ b ∧ b ≤ f 4) ∧ k = (f 4 - b).toNat ∧ zD6 (f 4) s D ∧ ∀ x y : Int, zN (f 4) x → zN (f 4) y → (x < a ∨ (x = a ∧ y < b)) → D x y = zXr f x y) ?_ (k := (f 4 - 0).toNat) ⟨0, D, rfl, by omega, rfl, hD, fun x y hx hy z => hP x y hx hy (by omega)⟩
  clear hP hD
  rintro k1 R1 _ s ⟨b, D, rfl, hb, hk1, hD, hP⟩ next1
  unfold S_X3_bindByRoad_12
  have put : ∀ v : Int, v = zXr f a b → b < f 4 → R1 (zi (b + 1)) (upd s (zi (a * 6 + b)).toNatClampNeg (zi v)) := by
    intro v hv hbn
    refine next1 (f 4 - (b + 1)).toNat _ _ (by omega) ⟨b + 1, _, rfl, by omega, rfl, hD.up (by omega) (by omega) (by omega), fun x y hx hy z => ?_⟩
    by_cases e : x = a ∧ y = b
    · obtain ⟨rfl, rfl⟩ := e
      rw [zmu_eq, hv]
    · rw [zmu_ne e]
      exact hP x y hx hy (by omega)
  rw [zi_le (by omega) (by omega), zi_le (by omega) (by omega), zq1, zi_add, zi_add, zq6, zi_mul, zi_add, zi_sub]
  refine ⟨fun e => ?_, fun e => ⟨fun g => ⟨zi_in (by omega), put _ (by unfold zXr; rw [if_neg (by omega)]) (by omega)⟩, fun g => ⟨zi_in (by omega), put _ (by unfold zXr; rw [if_pos (by omega)]) (by omega)⟩⟩⟩
  exact next (f 4 - (a + 1)).toNat _ _ (by omega) ⟨a + 1, D, rfl, by omega, rfl, hD, fun x y hx hy z => hP x y hx hy (by omega)⟩
theorem x_byTimes {f : Int → Int} {s f16 : Nat → Int32} {D : Int → Int → Int} {K : (Nat → Int32) → Prop} (hok : zOK f) (h16 : zA (4 * f 7) f16 (ztm f)) (hs : zD6 (f 4) s D) (hi : zXi f 0 D) (hK : ∀ s D, zD6 (f 4) s D → zXi f (f 7) D → K s) : wp_X3_bindByTimes s (zi (f 7)) f16 K := by
  have hnn := hok.nn
  unfold wp_X3_bindByTimes
  refine nz_l2 (fun k x2 s => ∃ (q : Int) (D : Int → Int → Int), x2 = zi q ∧ (0 ≤ q ∧ q ≤ f 7) ∧ k = (f 7 - q).toNat ∧ zD6 (f 4) s D ∧ zXi f q D) ?_ (k := (f 7 - 0).toNat) ⟨0, D, rfl, by omega, rfl, hs, hi⟩
  clear hi hs
  rintro k R _ s ⟨q, D, rfl, hq, hk, hD, hi⟩ next
  unfold S_X3_bindByTimes_2
  rw [zi_le (by omega) (by omega)]
  refine ⟨fun c => ?_, fun c => ?_⟩
  · obtain rfl : q = f 7 := by omega
    exact hK s D hD hi
  · obtain ⟨⟨t1, t2, t3⟩, t4, t5⟩ := hok.tm (q := q) (by omega)
    have hvt := zvt t4 t5
    have ea : f16 (zi (q * 4)).toNatClampNeg = zi (zta f q) := (h16.at (by omega)).trans (congrArg (fun z => zi (ztm f z)) (by omega))
    have eb : f16 (zi (q * 4 + 1)).toNatClampNeg = zi (ztb f q) := (h16.at (by omega)).trans (congrArg (fun z => zi (ztm f z)) (by omega))
    have ev : f16 (zi (q * 4 + 2)).toNatClampNeg = zi (ztv f q) := (h16.at (by omega)).trans (congrArg (fun z => zi (ztm f z)) (by omega))
    have et : f16 (zi (q * 4 + 3)).toNatClampNeg = zi (ztt f q) := (h16.at (by omega)).trans (congrArg (fun z => zi (ztm f z)) (by omega))
    rw [zq4, zi_mul, zq1, zq2, zq3, zi_add, zi_add, zi_add, zi_add, ea, eb, ev, et, zi_add, zi_mul, zi_sub, zi_neg, zi_mul]
    have e1 : ztv f q * (ztt f q + 1) - 1 = ztv f q * ztt f q + ztv f q - 1 := by rw [Int.mul_add, Int.mul_one]
    have e2 : -ztv f q * ztt f q = -(ztv f q * ztt f q) := Int.neg_mul _ _
    rw [e1, e2]
    have hna : zN (f 4) (zta f q) := by omega
    have hnb : zN (f 4) (ztb f q) := by omega
    have rg : ∀ x y : Int, zN (f 4) x → zN (f 4) y → -2147483648 ≤ D x y ∧ D x y ≤ 2147483647 := fun x y hx hy => by
      obtain ⟨g1, g2, g3⟩ := hi.1 x y hx hy
      split at g1 <;> omega
    refine ⟨zi_in (by omega), zi_in (by omega), zi_in (by omega), zi_in (by omega), ?_⟩
    refine x_bind hD (by omega) hna hnb (by omega) (rg _ _ hna hnb) (fun s1 hs1 => ?_)
    refine x_bind hs1 (by omega) hnb hna (by omega) (by rw [zmu_ne (by omega)]; exact rg _ _ hnb hna) (fun s2 hs2 => ?_)
    exact next (f 7 - (q + 1)).toNat _ _ (by omega) ⟨q + 1, _, rfl, by omega, rfl, hs2, zXi.up hok (by omega) hi rfl rfl rfl rfl rfl rfl⟩
theorem x_shorten {f : Int → Int} {s : Nat → Int32} {Di : Int → Int → Int} {K : (Nat → Int32) → Prop} (hok : zOK f) (hs : zD6 (f 4) s Di) (hi : zXi f (f 7) Di) (hK : ∀ s D, zD6 (f 4) s D → zO (f 4) 100000 (f 4).toNat Di D → K s) : wp_X3_shorten s (zi (f 4)) K := by
  have hnn := hok.nn
  have up : ∀ x y : Int, zN (f 4) x → zN (f 4) y → -2000 ≤ Di x y ∧ Di x y ≤ 200 := fun x y hx hy => by
    obtain ⟨g1, g2, g3⟩ := hi.1 x y hx hy
    split at g1 <;> omega
  unfold wp_X3_shorten
  refine nz_l2 (fun k x2 s => ∃ (m : Nat) (D : Int → Int → Int), x2 = zi m ∧ (m : Int) ≤ f 4 ∧ k = (f 4).toNat - m ∧ zD6 (f 4) s D ∧ zO (f 4) 100000 m Di D) ?_ (k := (f 4).toNat - 0) ⟨0, Di, rfl, by omega, rfl, hs, zO.start (fun x y hx hy => (up x y hx hy).1)⟩
  clear hs
  rintro k R _ s ⟨m, D0, rfl, hm, hk, hD0, hO⟩ next
  unfold S_X3_shorten_2
  rw [zi_le (by omega) (by omega)]
  refine ⟨fun c => ?_, fun c => ?_⟩
  · obtain rfl : m = (f 4).toNat := by omega
    exact hK s D0 hD0 hO
  have hB := zbd_pos m
  have hB6 := zbd_6 m (by omega)
  have hmn : zN (f 4) m := by omega
  have h0 : ∀ x y : Int, zN (f 4) x → zN (f 4) y → -zbd m ≤ D0 x y := fun x y hx hy => (hO.1 x y hx hy).2.1
  have hu : ∀ x y : Int, zN (f 4) x → zN (f 4) y → D0 x y ≤ 200 := fun x y hx hy => by
    have := (hO.1 x y hx hy).1
    have := up x y hx hy
    omega
  refine nz_l2 (fun k x3 s => ∃ (a : Int) (D : Int → Int → Int), x3 = zi a ∧ (0 ≤ a ∧ a ≤ f 4) ∧ k = (f 4 - a).toNat ∧ zD6 (f 4) s D ∧ zJ (f 4) 100000 m (zbd m) D0 D a 0) ?_ (k := (f 4 - 0).toNat) ⟨0, D0, rfl, by omega, rfl, hD0, zJ.start hB h0⟩
  clear hD0
  rintro k1 R1 _ s ⟨a, D, rfl, ha, hk1, hD, hJ⟩ next1
  unfold S_X3_shorten_9
  rw [zi_le (by omega) (by omega)]
  refine ⟨fun e => ?_, fun e => ?_⟩
  · obtain rfl : a = f 4 := by omega
    refine next ((f 4).toNat - (m + 1)) _ _ (by omega) ⟨m + 1, D, by rw [zq1, zi_add]; rfl, by omega, rfl, hD, hO.step (by omega) hJ (fun c x hc hcm hx => ?_)⟩
    have := hu m c hmn hc
    have := hu c x hc hx
    have := hu x c hx hc
    have := hu c m hc hmn
    omega
  refine nz_l2 (fun k x4 s => ∃ (b : Int) (D : Int → Int → Int), x4 = zi b ∧ (0 ≤ b ∧ b ≤ f 4) ∧ k = (f 4 - b).toNat ∧ zD6 (f 4) s D ∧ zJ (f 4) 100000 m (zbd m) D0 D a b) ?_ (k := (f 4 - 0).toNat) ⟨0, D, rfl, by omega, rfl, hD, hJ⟩
  clear hD hJ
  rintro k2 R2 _ s ⟨b, D, rfl, hb, hk2, hD, hJ⟩ next2
  unfold S_X3_shorten_17
  rw [zi_le (by omega) (by omega)]
  refine ⟨fun g => ?_, fun g => ?_⟩
  · obtain rfl : b = f 4 := by omega
    exact next1 (f 4 - (a + 1)).toNat _ _ (by omega) ⟨a + 1, D, by rw [zq1, zi_add], by omega, rfl, hD, hJ.row⟩
  have han : zN (f 4) a := by omega
  have hbn : zN (f 4) b := by omega
  obtain ⟨r1a, -, -, ⟨r1b, -⟩, -⟩ := hJ a m han hmn
  obtain ⟨r2a, -, -, ⟨r2b, -⟩, -⟩ := hJ m b hmn hbn
  obtain ⟨r3a, -, -, ⟨r3b, -⟩, -⟩ := hJ a b han hbn
  have u1 := hu a m han hmn
  have u2 := hu m b hmn hbn
  have u3 := hu a b han hbn
  rw [zq6, zi_mul, zi_mul, zi_add, zi_add, hD.at (by omega) han hmn, hD.at (by omega) hmn hbn, zi_add]
  refine ⟨zi_in (by omega), zi_in (by omega), x_bind hD (by omega) han hbn (by omega) (by omega) (fun s1 hs1 => ?_)⟩
  refine next2 (f 4 - (b + 1)).toNat _ _ (by omega) ⟨b + 1, _, by rw [zq1, zi_add], by omega, rfl, hs1, ?_⟩
  have e : (if D a m + D m b < D a b then D a m + D m b else D a b) = zf1 100000 m D a b := by
    unfold zf1
    by_cases w : D a m + D m b < D a b
    · rw [if_pos w, if_pos ⟨by omega, by omega, w⟩]
    · rw [if_neg w, if_neg (fun z => w z.2.2)]
  rw [e]
  exact hJ.up hmn han hbn hB h0
theorem x_fit {f : Int → Int} {s f16 : Nat → Int32} {K : Int32 → (Nat → Int32) → Prop} (hok : zOK f) (h16 : zA (4 * f 7) f16 (ztm f)) (h1 : ∀ s D, zD6 (f 4) s D → zFit f D → K 1 s) (h0 : ∀ s, (¬ ∃ p, zsol f p) → K 0 s) : wp_X3_fit s (zi (f 0)) (zi (f 4)) (zi (f 7)) f16 K := by
  have hnn := hok.nn
  unfold wp_X3_fit
  refine x_byRoad hok (fun s1 D1 hs1 hD1 => ?_)
  refine x_byTimes hok h16 hs1 ⟨fun x y hx hy => ?_, fun q hq => absurd hq (by omega)⟩ (fun s2 Di hs2 hi => ?_)
  · have := hD1 x y hx hy
    rw [this]
    unfold zXr
    refine ⟨Int.le_refl _, ?_, fun p hp _ => hp x y hx hy⟩
    split <;> omega
  refine x_shorten hok hs2 hi (fun s3 D hs3 hO => ?_)
  refine nz_l1 (fun k x2 => ∃ i : Int, x2 = zi i ∧ (0 ≤ i ∧ i ≤ f 4) ∧ k = (f 4 - i).toNat ∧ ∀ x : Int, zN i x → 0 ≤ D x x) ?_ (k := (f 4 - 0).toNat) ⟨0, rfl, by omega, rfl, fun x hx => by omega⟩
  rintro k R _ ⟨i, rfl, hi', hk, hd⟩ next
  unfold S_X3_fit_20
  rw [zi_le (by omega) (by omega)]
  refine ⟨fun c => ?_, fun c => ?_⟩
  · obtain rfl : i = f 4 := by omega
    exact h1 s3 D hs3 (zX_full hok hi hO hd)
  have hin : zN (f 4) i := by omega
  have l1 := (hO.1 i i hin hin).2.1
  have l2 := (hO.1 i i hin hin).1
  have l3 := (hi.1 i i hin hin).1
  rw [if_neg (by omega)] at l3
  have l4 := zbd_6 (f 4).toNat (by omega)
  rw [zq6, zi_mul, zi_add, hs3.at (by omega) hin hin, zq0, zi_le (by omega) (by omega)]
  refine ⟨zi_in (by omega), fun g => ?_, fun g => ?_⟩
  · refine next (f 4 - (i + 1)).toNat _ (by omega) ⟨i + 1, by rw [zq1, zi_add], by omega, rfl, fun x hx => ?_⟩
    by_cases e : x = i
    · rw [e]; exact g
    · exact hd x (by omega)
  · refine h0 s3 (fun ⟨p, hp⟩ => g ?_)
    have := zX_sound hi hO hp hin hin
    omega
def zD7 (s : Nat → Int32) (D : Int → Int → Int) : Prop := ∀ a b : Int, zN 7 a → zN 7 b → s (7 * a + b).toNat = zi (D a b)
theorem zD7.at {s : Nat → Int32} {D : Int → Int → Int} (h : zD7 s D) {a b : Int} (ha : zN 7 a) (hb : zN 7 b) : s (zi (7 * a + b)).toNatClampNeg = zi (D a b) := by
  rw [zi_cl (by omega)]
  exact h a b ha hb
theorem zD7.up {s : Nat → Int32} {D : Int → Int → Int} (h : zD7 s D) {a b v : Int} (ha : zN 7 a) (hb : zN 7 b) : zD7 (upd s (zi (7 * a + b)).toNatClampNeg (zi v)) (zmu D a b v) := by
  intro x y hx hy
  rw [zi_cl (by omega)]
  show (if (7 * x + y).toNat = (7 * a + b).toNat then zi v else s (7 * x + y).toNat) = zi (if x = a ∧ y = b then v else D x y)
  by_cases e : x = a ∧ y = b
  · rw [if_pos e, if_pos (by rw [e.1, e.2])]
  · rw [if_neg e, if_neg (by omega)]
    exact h x y hx hy
theorem m_atMost {s : Nat → Int32} {D : Int → Int → Int} {a b v : Int} {K : (Nat → Int32) → Prop} (h : zD7 s D) (ha : zN 7 a) (hb : zN 7 b) (hv : -2147483648 ≤ v ∧ v ≤ 2147483647) (hd : -2147483648 ≤ D a b ∧ D a b ≤ 2147483647) (hK : ∀ s, zD7 s (zmu D a b (if v < D a b then v else D a b)) → K s) : wp_X8_atMost s (zi a) (zi b) (zi v) K := by
  unfold wp_X8_atMost
  rw [zq7, zi_mul, zi_add, h.at ha hb, zi_le hd hv]
  refine ⟨zi_in (by omega), fun c => ⟨zi_in (by omega), zi_in (by omega), hK _ ?_⟩, fun c => ⟨zi_in (by omega), hK _ ?_⟩⟩
  · rw [if_neg (by omega)]
    exact h.up ha hb
  · rw [if_pos (by omega)]
    exact h.up ha hb
theorem zA.snoc {n : Int} {s : Nat → Int32} {g : Int → Int} (h : zA n s g) (hn : 0 ≤ n ∧ n ≤ 2147483647) {v : Int} (hv : v = g n) : zA (n + 1) (upd s (zi n).toNatClampNeg (zi v)) g := by
  intro a ha
  rw [zi_cl hn]
  show (if a.toNat = n.toNat then zi v else s a.toNat) = zi (g a)
  by_cases e : a = n
  · rw [if_pos (by rw [e]), hv, e]
  · rw [if_neg (by omega)]
    exact h a (by omega)
theorem zmod8 {t : Int} (h : 0 ≤ t ∧ t ≤ 2147483647) : zi t - zi t / 8 * 8 = zi (t % 8) := by
  rw [zq8, zi_div (by omega) (by decide), zi_mul, zi_sub]
  congr 1
  have := Int.tdiv_eq_ediv_of_nonneg (b := 8) h.1
  omega
theorem m_lay2 {f : Int → Int} {f5 s : Nat → Int32} {K : Int32 → (Nat → Int32) → Prop} (hok : zOK f) (hK : ∀ s D, zD7 s D → (∀ x y : Int, zN 7 x → zN 7 y → D x y = if x = y then 0 else 100000) → ∃ n, nz_it (fun _ _ => False) (S_X8_layMost_42 f5 (f5 4) K) n 0 s) : wp_X8_layMost f5 s K := by
  unfold wp_X8_layMost
  refine nz_l2 (fun k x1 s => ∃ i : Int, x1 = zi i ∧ (0 ≤ i ∧ i ≤ 49) ∧ k = (49 - i).toNat ∧ zA i s (fun i => if i % 8 = 0 then 0 else 100000)) ?_ (k := (49 - (0 : Int)).toNat) ⟨0, rfl, by omega, rfl, fun a ha => by omega⟩
  rintro k R _ s ⟨i, rfl, hi, hk, hs⟩ next
  unfold S_X8_layMost_2
  rw [zq49, zi_le (by omega) (by omega), zmod8 (by omega), zq0, zi_eq (by omega) (by omega), zq1, zi_add]
  refine ⟨fun c => ?_, fun c => ⟨fun d => ⟨zi_in (by omega), ?_⟩, fun d => ⟨zi_in (by omega), ?_⟩⟩⟩
  · obtain rfl : i = 49 := by omega
    refine hK s (fun x y => if x = y then 0 else 100000) (fun a b ha hb => ?_) (fun x y _ _ => rfl)
    rw [hs (7 * a + b) (by omega)]
    congr 1
    show (if (7 * a + b) % 8 = 0 then (0 : Int) else 100000) = (if a = b then 0 else 100000)
    by_cases e : a = b
    · rw [if_pos e, if_pos (by omega)]
    · rw [if_neg e, if_neg (by omega)]
  · exact next (49 - (i + 1)).toNat _ _ (by omega) ⟨i + 1, rfl, by omega, rfl, hs.snoc (by omega) (if_neg d).symm⟩
  · exact next (49 - (i + 1)).toNat _ _ (by omega) ⟨i + 1, rfl, by omega, rfl, hs.snoc (by omega) (if_pos d).symm⟩
theorem m_lay42 {f : Int → Int} {f5 s : Nat → Int32} {D : Int → Int → Int} {K : Int32 → (Nat → Int32) → Prop} (hok : zOK f) (h5 : zA 94 f5 f) (hs : zD7 s D) (hD : ∀ x y : Int, zN 7 x → zN 7 y → D x y = if x = y then 0 else 100000) (hK : ∀ s D, zD7 s D → zMc f 0 D → zMr f (f 4) D → ∃ n, nz_it (fun _ _ => False) (S_X8_layMost_89 f5 K) n 0 s) : ∃ n, nz_it (fun _ _ => False) (S_X8_layMost_42 f5 (f5 4) K) n 0 s := by
  have hnn := hok.nn
  have e0 : f5 0 = zi (f 0) := zM4 h5 (by decide)
  have e4 : f5 4 = zi (f 4) := zM4 h5 (by decide)
  rw [e4]
  refine nz_l2 (fun k x2 s => ∃ (i : Int) (D : Int → Int → Int), x2 = zi i ∧ (0 ≤ i ∧ i ≤ f 4) ∧ k = (f 4 - i).toNat ∧ zD7 s D ∧ zMc f 0 D ∧ zMr f i D) ?_ (k := (f 4 - 0).toNat) ⟨0, D, rfl, by omega, rfl, hs, fun x y hx hy => ?_, fun k hk => by omega⟩
  · clear hs hD
    rintro k R _ s ⟨i, D, rfl, hi, hk, hD, hc, hr⟩ next
    unfold S_X8_layMost_42
    rw [zi_le (by omega) (by omega)]
    refine ⟨fun c => ?_, fun c => ?_⟩
    · obtain rfl : i = f 4 := by omega
      exact hK s D hD hc hr
    have n6 : zN 7 (6 : Int) := by omega
    have ni : zN 7 i := by omega
    have rg : ∀ {E : Int → Int → Int}, zMc f 0 E → ∀ x y : Int, zN 7 x → zN 7 y → -2147483648 ≤ E x y ∧ E x y ≤ 2147483647 := fun h x y hx hy => by
      have := (h x y hx hy).1
      omega
    rw [zq6, e0, zq0]
    refine m_atMost hD n6 ni (by omega) (rg hc _ _ n6 ni) (fun s1 hs1 => ?_)
    have c1 := hc.up (v := f 0) rfl n6 ni (by omega) (by omega) (by omega) (fun p hp => by
      have := hp.2.1
      have := hp.2.2.1 i (by omega)
      omega)
    refine m_atMost hs1 ni n6 (by omega) (rg c1 _ _ ni n6) (fun s2 hs2 => ?_)
    have c2 := c1.up (a := i) (b := 6) (v := 0) rfl ni n6 (by omega) (by omega) (by omega) (fun p hp => by
      have := hp.2.1
      have := (hp.1 i (by omega)).1
      omega)
    have v1 := zmu_v (D := D) (a := 6) (b := i) (v := f 0) rfl
    have v2 := zmu_v (D := zmu D 6 i (if f 0 < D 6 i then f 0 else D 6 i)) (a := i) (b := 6) (v := 0) rfl
    have l1 : ∀ x y : Int, zmu D 6 i (if f 0 < D 6 i then f 0 else D 6 i) x y ≤ D x y := zmu_le rfl
    have l2 : ∀ x y : Int, _ ≤ _ := zmu_le (D := zmu D 6 i (if f 0 < D 6 i then f 0 else D 6 i)) (a := i) (b := 6) (v := 0) rfl
    generalize zmu (zmu D 6 i (if f 0 < D 6 i then f 0 else D 6 i)) i 6 (if 0 < zmu D 6 i (if f 0 < D 6 i then f 0 else D 6 i) i 6 then 0 else zmu D 6 i (if f 0 < D 6 i then f 0 else D 6 i) i 6) = E2 at *
    generalize zmu D 6 i (if f 0 < D 6 i then f 0 else D 6 i) = E1 at *
    rw [zi_le (by omega) (by omega), zq1, zi_add, zi_sub]
    refine ⟨fun d => ?_, fun d => ?_⟩
    · refine next (f 4 - (i + 1)).toNat _ _ (by omega) ⟨i + 1, E2, rfl, by omega, rfl, hs2, c2, fun k hk => ?_⟩
      have := l1 6 k
      have := l2 6 k
      have := l1 k 6
      have := l2 k 6
      have := l1 k (k - 1)
      have := l2 k (k - 1)
      have := l2 6 i
      by_cases e : k = i
      · rw [e]
        exact ⟨by omega, by omega, fun z => by omega⟩
      · obtain ⟨r1, r2, r3⟩ := hr k (by omega)
        exact ⟨by omega, by omega, fun z => by have := r3 z; omega⟩
    · have ni1 : zN 7 (i - 1) := by omega
      rw [zi_neg]
      refine m_atMost hs2 ni ni1 (by omega) (rg c2 _ _ ni ni1) (fun s3 hs3 => ?_)
      have c3 := c2.up (a := i) (b := i - 1) (v := -1) rfl ni ni1 (by omega) (by omega) (by omega) (fun p hp => by
        have := hp.2.2.2.1 (i - 1) (by omega)
        rw [show i - 1 + 1 = i by omega] at this
        omega)
      have v3 := zmu_v (D := E2) (a := i) (b := i - 1) (v := -1) rfl
      have l3 : ∀ x y : Int, _ ≤ _ := zmu_le (D := E2) (a := i) (b := i - 1) (v := -1) rfl
      generalize zmu E2 i (i - 1) (if -1 < E2 i (i - 1) then -1 else E2 i (i - 1)) = E3 at *
      refine next (f 4 - (i + 1)).toNat _ _ (by omega) ⟨i + 1, E3, rfl, by omega, rfl, hs3, c3, fun k hk => ?_⟩
      have := l1 6 k
      have := l2 6 k
      have := l3 6 k
      have := l1 k 6
      have := l2 k 6
      have := l3 k 6
      have := l1 k (k - 1)
      have := l2 k (k - 1)
      have := l3 k (k - 1)
      have := l2 6 i
      have := l3 6 i
      have := l3 i 6
      by_cases e : k = i
      · rw [e]
        exact ⟨by omega, by omega, fun z => by omega⟩
      · obtain ⟨r1, r2, r3⟩ := hr k (by omega)
        exact ⟨by omega, by omega, fun z => by have := r3 z; omega⟩
  · have := hD x y hx hy
    refine ⟨by rw [this]; split <;> omega, fun z => ?_, fun z g => ?_, fun z _ => by rw [this, if_neg z]; omega, fun z => by rw [this, if_pos z]; omega, fun p hp => ?_⟩
    · rw [this] at z ⊢
      split at z
      · omega
      · omega
    · rw [this] at g ⊢
      split at g
      · omega
      · omega
    · have a := hp.1 x hx
      have b := hp.1 y hy
      rw [this]
      split
      · rename_i e
        rw [e]
        omega
      · omega
theorem zMc.weak {f : Int → Int} {j : Int} {D : Int → Int → Int} (h : zMc f j D) : zMc f (j + 1) D := by
  intro x y hx hy
  obtain ⟨a1, a2, a3, a4, a5, a6⟩ := h x y hx hy
  exact ⟨a1, a2, a3, a4, a5, fun p hp => a6 p ⟨hp.1, hp.2.1, hp.2.2.1, hp.2.2.2.1, fun q hq => hp.2.2.2.2 q (by omega)⟩⟩
theorem m_lay89 {f : Int → Int} {f5 s : Nat → Int32} {D : Int → Int → Int} {K : Int32 → (Nat → Int32) → Prop} (hok : zOK f) (h5 : zA 94 f5 f) (hs : zD7 s D) (hc : zMc f 0 D) (hr : zMr f (f 4) D) (hK : ∀ s D, zD7 s D → zMc f (f 7) D → zMr f (f 4) D → zMt f (f 7) D → ∃ n, nz_it (fun _ _ => False) (S_X8_layMost_187 K) n 0 s) : ∃ n, nz_it (fun _ _ => False) (S_X8_layMost_89 f5 K) n 0 s := by
  have hnn := hok.nn
  have e7 : f5 7 = zi (f 7) := zM4 h5 (by decide)
  refine nz_l2 (fun k x2 s => ∃ (q : Int) (D : Int → Int → Int), x2 = zi q ∧ (0 ≤ q ∧ q ≤ f 7) ∧ k = (f 7 - q).toNat ∧ zD7 s D ∧ zMc f q D ∧ zMr f (f 4) D ∧ zMt f q D) ?_ (k := (f 7 - 0).toNat) ⟨0, D, rfl, by omega, rfl, hs, hc, hr, fun q hq => by omega⟩
  clear hs hc hr
  rintro k R _ s ⟨q, D, rfl, hq, hk, hD, hc, hr, ht⟩ next
  unfold S_X8_layMost_89
  rw [e7, zi_le (by omega) (by omega)]
  refine ⟨fun c => ?_, fun c => ?_⟩
  · obtain rfl : q = f 7 := by omega
    exact hK s D hD hc hr ht
  obtain ⟨⟨t1, t2, t3⟩, t4, t5⟩ := hok.tm (q := q) (by omega)
  have hvt := zvt t4 t5
  have ea : f5 (zi (46 + 4 * q)).toNatClampNeg = zi (zta f q) := (h5.at (by omega)).trans (congrArg (fun z => zi (f z)) (by omega))
  have eb : f5 (zi (46 + 4 * q + 1)).toNatClampNeg = zi (ztb f q) := (h5.at (by omega)).trans (congrArg (fun z => zi (f z)) (by omega))
  have ev : f5 (zi (46 + 4 * q + 2)).toNatClampNeg = zi (ztv f q) := (h5.at (by omega)).trans (congrArg (fun z => zi (f z)) (by omega))
  have et : f5 (zi (46 + 4 * q + 3)).toNatClampNeg = zi (ztt f q) := (h5.at (by omega)).trans (congrArg (fun z => zi (f z)) (by omega))
  rw [zq46, zq4, zi_mul, zq1, zq2, zq3, zi_add, zi_add, zi_add, zi_add, zi_add, ea, eb, ev, et, zi_mul, zi_add, zi_sub, zi_neg, zi_mul, Int.neg_mul]
  have na : zN 7 (zta f q) := by omega
  have nb : zN 7 (ztb f q) := by omega
  have rg : ∀ {j : Int} {E : Int → Int → Int}, zMc f j E → ∀ x y : Int, zN 7 x → zN 7 y → -2147483648 ≤ E x y ∧ E x y ≤ 2147483647 := fun h x y hx hy => by
    have := (h x y hx hy).1
    omega
  have hc' := hc.weak
  have c1 := hc'.up (a := zta f q) (b := ztb f q) (v := ztv f q * ztt f q + ztv f q - 1) rfl na nb (by omega) (by omega) (by omega) (fun p hp => (hp.2.2.2.2 q (by omega)).1)
  have v1 := zmu_v (D := D) (a := zta f q) (b := ztb f q) (v := ztv f q * ztt f q + ztv f q - 1) rfl
  have l1 : ∀ x y : Int, _ ≤ _ := zmu_le (D := D) (a := zta f q) (b := ztb f q) (v := ztv f q * ztt f q + ztv f q - 1) rfl
  refine ⟨zi_in (by omega), zi_in (by omega), zi_in (by omega), zi_in (by omega), m_atMost hD na nb (by omega) (rg hc _ _ na nb) (fun s1 hs1 => ?_)⟩
  generalize zmu D (zta f q) (ztb f q) (if ztv f q * ztt f q + ztv f q - 1 < D (zta f q) (ztb f q) then ztv f q * ztt f q + ztv f q - 1 else D (zta f q) (ztb f q)) = E1 at *
  have c2 := c1.up (a := ztb f q) (b := zta f q) (v := -(ztv f q * ztt f q)) rfl nb na (by omega) (by omega) (by omega) (fun p hp => (hp.2.2.2.2 q (by omega)).2)
  have v2 := zmu_v (D := E1) (a := ztb f q) (b := zta f q) (v := -(ztv f q * ztt f q)) rfl
  have l2 : ∀ x y : Int, _ ≤ _ := zmu_le (D := E1) (a := ztb f q) (b := zta f q) (v := -(ztv f q * ztt f q)) rfl
  refine ⟨zi_in (by omega), zi_in (by omega), m_atMost hs1 nb na (by omega) (rg c1 _ _ nb na) (fun s2 hs2 => ?_)⟩
  generalize zmu E1 (ztb f q) (zta f q) (if -(ztv f q * ztt f q) < E1 (ztb f q) (zta f q) then -(ztv f q * ztt f q) else E1 (ztb f q) (zta f q)) = E2 at *
  refine next (f 7 - (q + 1)).toNat _ _ (by omega) ⟨q + 1, E2, rfl, by omega, rfl, hs2, c2, fun k hk => ?_, fun r hr' => ?_⟩
  · obtain ⟨r1, r2, r3⟩ := hr k hk
    have := l1 6 k
    have := l2 6 k
    have := l1 k 6
    have := l2 k 6
    have := l1 k (k - 1)
    have := l2 k (k - 1)
    exact ⟨by omega, by omega, fun z => by have := r3 z; omega⟩
  · have := l1 (zta f r) (ztb f r)
    have := l2 (zta f r) (ztb f r)
    have := l1 (ztb f r) (zta f r)
    have := l2 (ztb f r) (zta f r)
    by_cases e : r = q
    · subst e
      constructor <;> omega
    · have := ht r (by omega)
      omega
theorem m_lay187 {f : Int → Int} {s : Nat → Int32} {Di : Int → Int → Int} {K : Int32 → (Nat → Int32) → Prop} (hok : zOK f) (hs : zD7 s Di) (hc : zMc f (f 7) Di) (hr : zMr f (f 4) Di) (hK : ∀ s D, zD7 s D → zM f 7 Di D → ∃ n, nz_it (fun _ _ => False) (S_X8_layMost_297 s K) n 1 0) : ∃ n, nz_it (fun _ _ => False) (S_X8_layMost_187 K) n 0 s := by
  have hnn := hok.nn
  refine nz_l2 (fun k x2 s => ∃ (m : Nat) (D : Int → Int → Int), x2 = zi m ∧ m ≤ 7 ∧ k = 7 - m ∧ zD7 s D ∧ zM f m Di D) ?_ (k := 7 - 0) ⟨0, Di, rfl, by omega, rfl, hs, zM.start hc⟩
  clear hs
  rintro k R _ s ⟨m, D0, rfl, hm, hk, hD0, hO⟩ next
  unfold S_X8_layMost_187
  rw [zq7, zi_le (by omega) (by omega)]
  refine ⟨fun c => ?_, fun c => ?_⟩
  · obtain rfl : m = 7 := by omega
    exact hK s D0 hD0 hO
  have hB := zbd_pos m
  have hB6 := zbd_6 m (by omega)
  have hmn : zN 7 m := by omega
  have h0 : ∀ x y : Int, zN 7 x → zN 7 y → -zbd m ≤ D0 x y := fun x y hx hy => (hO.1.1 x y hx hy).2.1
  have hu : ∀ x y : Int, zN 7 x → zN 7 y → D0 x y ≤ 100000 := fun x y hx hy => by
    have := (hO.1.1 x y hx hy).1
    have := (hc x y hx hy).1
    omega
  refine nz_l2 (fun k x3 s => ∃ (a : Int) (D : Int → Int → Int), x3 = zi a ∧ (0 ≤ a ∧ a ≤ 7) ∧ k = (7 - a).toNat ∧ zD7 s D ∧ zJ 7 100000 m (zbd m) D0 D a 0) ?_ (k := (7 - (0 : Int)).toNat) ⟨0, D0, rfl, by omega, rfl, hD0, zJ.start hB h0⟩
  clear hD0
  rintro k1 R1 _ s ⟨a, D, rfl, ha, hk1, hD, hJ⟩ next1
  unfold S_X8_layMost_195
  rw [zq7, zi_le (by omega) (by omega)]
  refine ⟨fun e => ?_, fun e => ?_⟩
  · obtain rfl : a = 7 := by omega
    exact next (7 - (m + 1)) _ _ (by omega) ⟨m + 1, D, by rw [zq1, zi_add]; rfl, by omega, rfl, hD, hO.step hok (by omega) hc hr hJ⟩
  refine nz_l2 (fun k x4 s => ∃ (b : Int) (D : Int → Int → Int), x4 = zi b ∧ (0 ≤ b ∧ b ≤ 7) ∧ k = (7 - b).toNat ∧ zD7 s D ∧ zJ 7 100000 m (zbd m) D0 D a b) ?_ (k := (7 - (0 : Int)).toNat) ⟨0, D, rfl, by omega, rfl, hD, hJ⟩
  clear hD hJ
  rintro k2 R2 _ s ⟨b, D, rfl, hb, hk2, hD, hJ⟩ next2
  unfold S_X8_layMost_204
  rw [zq7, zi_le (by omega) (by omega)]
  refine ⟨fun g => ?_, fun g => ?_⟩
  · obtain rfl : b = 7 := by omega
    exact next1 (7 - (a + 1)).toNat _ _ (by omega) ⟨a + 1, D, by rw [zq1, zi_add], by omega, rfl, hD, hJ.row⟩
  have han : zN 7 a := by omega
  have hbn : zN 7 b := by omega
  obtain ⟨r1a, -, -, ⟨r1b, -⟩, -⟩ := hJ a m han hmn
  obtain ⟨r2a, -, -, ⟨r2b, -⟩, -⟩ := hJ m b hmn hbn
  obtain ⟨r3a, -, -, ⟨r3b, -⟩, -⟩ := hJ a b han hbn
  have u1 := hu a m han hmn
  have u2 := hu m b hmn hbn
  have u3 := hu a b han hbn
  have fin : ∀ s1, zD7 s1 (zmu D a b (zf1 100000 m D a b)) → R2 (zi b + 1) s1 := fun s1 hs1 =>
    next2 (7 - (b + 1)).toNat _ _ (by omega) ⟨b + 1, _, by rw [zq1, zi_add], by omega, rfl, hs1, hJ.up hmn han hbn hB h0⟩
  have same : ¬ (D a m < 100000 ∧ D m b < 100000 ∧ D a m + D m b < D a b) → R2 (zi b + 1) s := fun w => by
    refine fin s ?_
    have e : zmu D a b (zf1 100000 m D a b) = D := by
      funext x y
      unfold zf1
      rw [if_neg w]
      unfold zmu
      by_cases q : x = a ∧ y = b
      · rw [if_pos q, q.1, q.2]
      · rw [if_neg q]
    rw [e]
    exact hD
  rw [zi_mul, zi_mul, zi_add, zi_add, hD.at han hmn, hD.at hmn hbn, zi_add, zq100000, zi_le (by omega) (by omega), zi_le (by omega) (by omega)]
  refine ⟨zi_in (by omega), fun w => same (by omega), fun w => ⟨zi_in (by omega), fun w2 => same (by omega), fun w2 => ⟨zi_in (by omega), zi_in (by omega), m_atMost hD han hbn (by omega) (by omega) (fun s1 hs1 => fin s1 ?_)⟩⟩⟩
  have e : (if D a m + D m b < D a b then D a m + D m b else D a b) = zf1 100000 m D a b := by
    unfold zf1
    by_cases w3 : D a m + D m b < D a b
    · rw [if_pos w3, if_pos ⟨by omega, by omega, w3⟩]
    · rw [if_neg w3, if_neg (fun z => w3 z.2.2)]
  rw [← e]
  exact hs1
theorem m_layMost {f : Int → Int} {f5 s : Nat → Int32} {K : Int32 → (Nat → Int32) → Prop} (hok : zOK f) (h5 : zA 94 f5 f) (h1 : ∀ s D, zD7 s D → zFit f D → K 1 s) (h0 : ∀ s, (¬ ∃ p, zsol f p) → K 0 s) : wp_X8_layMost f5 s K := by
  have hnn := hok.nn
  refine m_lay2 hok (fun s1 D1 hs1 hD1 => m_lay42 hok h5 hs1 hD1 (fun s2 D2 hs2 hc2 hr2 => m_lay89 hok h5 hs2 hc2 hr2 (fun s3 Di hs3 hc hr ht => m_lay187 hok hs3 hc hr (fun s4 D hs4 hO => ?_))))
  refine nz_l2 (fun k x2 x3 => ∃ i : Int, x3 = zi i ∧ (0 ≤ i ∧ i ≤ 7) ∧ k = (7 - i).toNat ∧ ((x2 = 1 ∧ ∀ x : Int, zN i x → 0 ≤ D x x) ∨ (x2 = 0 ∧ ¬ ∃ p, zsol f p))) ?_ (k := (7 - (0 : Int)).toNat) ⟨0, rfl, by omega, rfl, Or.inl ⟨rfl, fun x hx => by omega⟩⟩
  rintro k R x2 _ ⟨i, rfl, hi, hk, hx⟩ next
  unfold S_X8_layMost_297
  rw [zq7, zi_le (by omega) (by omega)]
  refine ⟨fun c => ?_, fun c => ⟨fun z => ?_, fun z => ?_⟩⟩
  · obtain rfl : i = 7 := by omega
    rcases hx with ⟨rfl, q⟩ | ⟨rfl, q⟩
    · exact ⟨rfl, h1 s4 D hs4 (zM_full hok hc hr ht hO q)⟩
    · exact ⟨rfl, h0 s4 q⟩
  · rcases hx with ⟨rfl, q⟩ | ⟨_, q⟩
    · exact absurd z (by decide)
    · exact next (7 - (i + 1)).toNat _ _ (by omega) ⟨i + 1, by rw [zq1, zi_add], by omega, rfl, Or.inr ⟨rfl, q⟩⟩
  · have hin : zN 7 i := by omega
    have l1 := (hO.1.1 i i hin hin).2.1
    have l2 := (hO.1.1 i i hin hin).1
    have l3 := (hc i i hin hin).1
    have l4 : zbd 7 ≤ 600000000 := zbd_le 7 (by omega)
    have e : s4 (zi (8 * i)).toNatClampNeg = zi (D i i) := by
      rw [← hs4.at hin hin]
      congr 2
      congr 1
      omega
    rw [zq8, zi_mul, e, zq0, zi_lt (by omega) (by omega)]
    refine ⟨zi_in (by omega), fun g => ?_, fun g => ?_⟩
    · refine next (7 - (i + 1)).toNat _ _ (by omega) ⟨i + 1, by rw [zq1, zi_add], by omega, rfl, Or.inr ⟨rfl, fun ⟨p, hp⟩ => ?_⟩⟩
      have := (zM_sound hok hc hO hp).2 i hin
      omega
    · rcases hx with ⟨rfl, q⟩ | ⟨rfl, q⟩
      · refine next (7 - (i + 1)).toNat _ _ (by omega) ⟨i + 1, by rw [zq1, zi_add], by omega, rfl, Or.inl ⟨rfl, fun x hx => ?_⟩⟩
        by_cases e : x = i
        · rw [e]; omega
        · exact q x (by omega)
      · exact absurd rfl z
