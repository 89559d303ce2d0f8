theorem z255 (x : Int32) : ∃ b : Int, (0 ≤ b ∧ b ≤ 255) ∧ x &&& 255 = zi b := by
  have h : x.toBitVec.toNat &&& 255 ≤ 255 := Nat.and_le_right
  refine ⟨((x.toBitVec.toNat &&& 255 : Nat) : Int), by omega, ?_⟩
  apply Int32.toBitVec_inj.mp
  rw [Int32.toBitVec_and]
  apply BitVec.eq_of_toNat_eq
  show (x.toBitVec &&& 255#32).toNat = (BitVec.ofInt 32 ((x.toBitVec.toNat &&& 255 : Nat) : Int)).toNat
  rw [BitVec.ofInt_natCast, BitVec.toNat_and, BitVec.toNat_ofNat]
  show x.toBitVec.toNat &&& 255 = (x.toBitVec.toNat &&& 255) % 2 ^ 32
  omega
theorem z255l (w : Int64) : (w &&& 255).toInt32 = w.toInt32 &&& 255 := Int64.toInt32_and w 255
theorem pub_feed {X M : Nat → Nat → Int32} (hR : nz_Rel X M) (v1 : Int64) (v3 : Int32) : wp_X7_feed X v1 v3 (fun r X1 => wp_X8_feed M v1 v3 (fun r1 M1 => r = r1 ∧ nz_Rel X1 M1)) := by
  have hR0 := hR
  obtain ⟨hRD, hRW, hTP, hTR, hla, hst⟩ := hR
  obtain ⟨f, g0, g1, W, k, hM, hok, hX, hI0, hI1, hW, hac, hk, hk8⟩ := hRD
  have hok0 := hok
  obtain ⟨ol, of', os, ofi, ons, onm, onn, ont, oz, oten, ost, oso, omv, otm⟩ := hok
  have hX0 := hX
  obtain ⟨x0, x1, x2, x3, x4, x5, x6, x7, x8, xs, xa, xh, xk, xw, xy, xr, xt⟩ := hX
  have xs : zA (f 4) (X 17) (zsay f) := xs
  have xa : zA (f 4) (X 18) (zat f) := xa
  have xh : zA (f 4) (X 19) (zho f) := xh
  have xk : zA (f 5) (X 20) (zkd f) := xk
  have xw : zA (f 5) (X 21) (zwh f) := xw
  have xy : zA (f 5) (X 22) (zwy f) := xy
  have xr : zA (f 5) (X 23) (zre f) := xr
  have xt : zA (4 * f 7) (X 24) (ztm f) := xt
  have m0 : M 4 0 = zi (f 0) := zM4 hM (by decide)
  have m1 : M 4 1 = zi (f 1) := zM4 hM (by decide)
  have m2 : M 4 2 = zi (f 2) := zM4 hM (by decide)
  have m3 : M 4 3 = zi (f 3) := zM4 hM (by decide)
  have m4 : M 4 4 = zi (f 4) := zM4 hM (by decide)
  have m5 : M 4 5 = zi (f 5) := zM4 hM (by decide)
  have m6 : M 4 6 = zi (f 6) := zM4 hM (by decide)
  have m7 : M 4 7 = zi (f 7) := zM4 hM (by decide)
  obtain ⟨t, B, tr, t1, t2, t3, t4, t5⟩ := hTP
  obtain ⟨n, rn, rfl⟩ := zi_ex v3
  obtain ⟨g, hg⟩ : ∃ g : Int → Int, ∀ j : Int, (((v1 >>> (((8 * zi j) : Int32).toInt64 &&& 63)) : Int64).toInt32 &&& 255) = zi (g j) ∧ 0 ≤ g j ∧ g j ≤ 255 :=
    ⟨fun j => (z255 ((v1 >>> (((8 * zi j) : Int32).toInt64 &&& 63)) : Int64).toInt32).choose, fun j => ⟨(z255 ((v1 >>> (((8 * zi j) : Int32).toInt64 &&& 63)) : Int64).toInt32).choose_spec.2, (z255 ((v1 >>> (((8 * zi j) : Int32).toInt64 &&& 63)) : Int64).toInt32).choose_spec.1⟩⟩
  have M8 : ∀ (K : Int32 → (Nat → Nat → Int32) → Prop), (¬ (1 ≤ n ∧ n ≤ 8) → K (-1000001 : Int32) (va_up M 0 (upd (M 0) 0 0))) → ((1 ≤ n ∧ n ≤ 8) → 400 < t + n → K (-1000003 : Int32) (va_up M 0 (upd (M 0) 0 0))) → ((1 ≤ n ∧ n ≤ 8) → t + n ≤ 400 → ∀ s, zA (t + n) s (fun x => if t ≤ x then g (n - 1 - (x - t)) else B x) → K (zi (t + n)) (va_up (va_up M 0 (upd (upd (M 0) 0 0) 10 (zi (t + n)))) 7 s)) → wp_X8_feed M v1 (zi n) K := by
    intro K k1 k2 k3
    unfold wp_X8_feed
    refine s_in (a := n) (l := 1) (u := 8) (z64 rn) rfl rfl (fun c => by1 ?_) (fun c => by0 (k1 c))
    rw [t2, zi_add, zq400, zi_le (by omega) (by decide), zq1, zi_sub]
    refine ⟨fun d => ?_, fun d => k2 c (by omega)⟩
    refine nz_l3 (fun k x4 c0 s => ∃ q : Int, x4 = zi (n - 1 - q) ∧ c0 = zi (t + q) ∧ (0 ≤ q ∧ q ≤ n) ∧ k = (n - q).toNat ∧ zA (t + q) s (fun x => if t ≤ x then g (n - 1 - (x - t)) else B x)) ?_ (k := (n - 0).toNat) ⟨0, by rw [Int.sub_zero], by rw [Int.add_zero], by omega, rfl, by rw [Int.add_zero]; exact t4.of (fun a ha => if_neg (by omega))⟩
    rintro k R _ _ s ⟨q, rfl, rfl, hq, hk, hs⟩ next
    unfold S_X8_feed_40
    rw [zq0, zi_lt (by omega) (by decide)]
    refine ⟨fun e => ?_, fun e => ⟨zi_in (by omega), ?_⟩⟩
    · obtain rfl : q = n := by omega
      exact k3 c d s hs
    · rw [z255l, (hg (n - 1 - q)).1, show (-1 : Int32) = zi (-1) from rfl, zi_add, zq1, zi_add]
      refine next (n - (q + 1)).toNat _ _ _ (by omega) ⟨q + 1, by congr 1; omega, by congr 1; omega, by omega, rfl, ?_⟩
      rw [show t + (q + 1) = t + q + 1 by omega]
      refine hs.snoc (by omega) ?_
      rw [if_pos (by omega)]
      congr 1
      omega
  unfold wp_X7_feed wX_X7_isAmong wX_X4_hasRoomFor_5 wp_X4_hasRoomFor wX_X4_append_5 wp_X4_append
  refine s_among (a := n) (l := 1) (u := 8) rfl rfl rfl (by omega) (fun c => by1 ?_) (fun c => by0 (M8 _ (fun _ => ⟨rfl, hR0.th⟩) (fun q => absurd q c) (fun q => absurd q c)))
  rw [t1, zi_add, zq400, zi_lt (by decide) (by omega), zq1, zi_sub]
  refine ⟨fun d => by0 (M8 _ (fun q => absurd c q) (fun _ _ => ⟨rfl, hR0.th⟩) (fun _ q => absurd q (by omega))), fun d => by1 ?_⟩
  refine nz_l3 (fun k x4 c0 s => ∃ q : Int, x4 = zi (n - 1 - q) ∧ c0 = zi (t + q) ∧ (0 ≤ q ∧ q ≤ n) ∧ k = (n - q).toNat ∧ zA (t + q) s (fun x => if t ≤ x then g (n - 1 - (x - t)) else B x)) ?_ (k := (n - 0).toNat) ⟨0, by rw [Int.sub_zero], by rw [Int.add_zero], by omega, rfl, by rw [Int.add_zero]; exact t3.of (fun a ha => if_neg (by omega))⟩
  rintro k1 R _ _ s ⟨q, rfl, rfl, hq, hk1, hs⟩ next
  unfold S_X4_append_5
  rw [zq0, zi_lt (by omega) (by decide)]
  refine ⟨fun e => ?_, fun e => ⟨zi_in (by omega), ?_⟩⟩
  · obtain rfl : q = n := by omega
    refine M8 _ (fun w => absurd c w) (fun _ w => absurd w (by omega)) (fun _ _ s8 hs8 => ⟨rfl, hR0.1.fr (fun i hi => (zup1 (by omega)).trans (zup1 (by omega))), hR0.2.1.fr (fun i hi => (zup1 (by omega)).trans (zup1 (by omega))), ⟨t + q, _, by omega, rfl, rfl, hs, hs8, fun i hi => ?_⟩, hR0.2.2.2.1.fr, hR0.2.2.2.2.1, hR0.2.2.2.2.2⟩)
    show 0 ≤ (if t ≤ i then g (q - 1 - (i - t)) else B i) ∧ (if t ≤ i then g (q - 1 - (i - t)) else B i) ≤ 255
    split
    · exact (hg _).2
    · exact t5 i (by omega)
  · rw [(hg (n - 1 - q)).1, show (-1 : Int32) = zi (-1) from rfl, zi_add, zq1, zi_add]
    refine next (n - (q + 1)).toNat _ _ _ (by omega) ⟨q + 1, by congr 1; omega, by congr 1; omega, by omega, rfl, ?_⟩
    rw [show t + (q + 1) = t + q + 1 by omega]
    refine hs.snoc (by omega) ?_
    rw [if_pos (by omega)]
    congr 1
    omega
theorem zA.cpy {n : Int} {m : Nat} {s g : Nat → Int32} {F : Int → Int} (h : zA n s F) (hm : n ≤ m) : zA n (va_cpy s g 0 0 m) F := fun a ha => by
  show (if 0 ≤ a.toNat ∧ a.toNat < 0 + m then s (0 + (a.toNat - 0)) else g a.toNat) = zi (F a)
  rw [if_pos (by omega), show 0 + (a.toNat - 0) = a.toNat by omega]
  exact h a ha
theorem zR.become {f : Int → Int} (hok : zOK f) {o s a h kd wh wy re tm o' s' a' h' kd' wh' wy' re' tm' : Nat → Int32} (H : zR f o s a h kd wh wy re tm) : zR f (upd (upd (upd (upd (upd (upd (upd (upd (upd o' 0 (o 0)) 1 (o 1)) 2 (o 2)) 3 (o 3)) 4 (o 4)) 5 (o 5)) 6 (o 6)) 7 (o 7)) 8 (o 8)) (va_cpy s s' 0 0 6) (va_cpy a a' 0 0 6) (va_cpy h h' 0 0 6) (va_cpy kd kd' 0 0 5) (va_cpy wh wh' 0 0 5) (va_cpy wy wy' 0 0 5) (va_cpy re re' 0 0 5) (va_cpy tm tm' 0 0 48) := by
  have hnn := hok.nn
  obtain ⟨x0, x1, x2, x3, x4, x5, x6, x7, x8, xs, xa, xh, xk, xw, xy, xr, xt⟩ := H
  exact ⟨x0, x1, x2, x3, x4, x5, x6, x7, x8, xs.cpy (by omega), xa.cpy (by omega), xh.cpy (by omega), xk.cpy (by omega), xw.cpy (by omega), xy.cpy (by omega), xr.cpy (by omega), xt.cpy (by omega)⟩
theorem m_image {X : Nat → Nat → Int32} {f h : Int → Int} {w : Int} {K : Int32 → (Nat → Nat → Int32) → Prop} (hM : zA 94 (X 4) f) (hN : zA 188 (X 12) h) (hw : 0 ≤ w ∧ w ≤ 1) (hK : ∀ s, zA 188 s (fun x => if 94 * w ≤ x ∧ x < 94 * w + 94 then f (x - 94 * w) else h x) → K 1 (va_up (va_up (va_up X 0 (upd (X 0) 0 0)) 11 (upd (X 11) (zi w).toNatClampNeg 1)) 12 s)) : ∃ n, nz_it (fun _ _ => False) (S_X8_image_30 X (zi w) 0 (X 11) K) n 0 (X 12) := by
  refine nz_l2 (fun k x2 s => ∃ q : Int, x2 = zi q ∧ (0 ≤ q ∧ q ≤ 94) ∧ k = (94 - q).toNat ∧ zA 188 s (fun x => if 94 * w ≤ x ∧ x < 94 * w + q then f (x - 94 * w) else h x)) ?_ (k := (94 - (0 : Int)).toNat) ⟨0, rfl, by omega, rfl, hN.of (fun a ha => if_neg (by omega))⟩
  rintro k R _ s ⟨q, rfl, hq, hk, hs⟩ next
  unfold S_X8_image_30
  rw [zq94, zi_le (by decide) (by omega), zi_mul, zi_add, zq1, zi_add]
  refine ⟨fun c => ⟨zi_in (by omega), ?_⟩, fun c => ⟨zi_in (by omega), zi_in (by omega), next (94 - (q + 1)).toNat _ _ (by omega) ⟨q + 1, rfl, by omega, rfl, ?_⟩⟩⟩
  · obtain rfl : q = 94 := by omega
    exact hK s hs
  · rw [hM.at (by omega)]
    refine (hs.up (i := 94 * w + q) (v := f q) (by omega)).of (fun x hx => ?_)
    by_cases e : x = 94 * w + q
    · rw [e, iup_eq, if_pos (by omega)]
      congr 1
      omega
    · rw [iup_ne e]
      by_cases e1 : 94 * w ≤ x ∧ x < 94 * w + q
      · rw [if_pos e1, if_pos (by omega)]
      · rw [if_neg e1, if_neg (by omega)]
theorem zxy (w : Int) (h : 0 ≤ w ∧ w ≤ 1) : w = 0 ∨ w = 1 := by omega
theorem zA.two {s : Nat → Int32} {g0 g1 : Int → Int} (h0 : zA 94 s g0) (h1 : zA 94 (fun j => s (94 + j)) g1) : zA 188 s (fun x => if x < 94 then g0 x else g1 (x - 94)) := fun a ha => by
  dsimp only
  by_cases e : a < 94
  · rw [if_pos e]
    exact h0 a (by omega)
  · rw [if_neg e]
    have := h1 (a - 94) (by omega)
    rw [show a.toNat = 94 + (a - 94).toNat by omega]
    exact this
theorem zth {f : Int → Int} (h : 0 < f 0) : zi (if 0 < f 0 then 1 else 0) = 1 := by rw [if_pos h]; rfl
theorem pub_image {X M : Nat → Nat → Int32} (hR : nz_Rel X M) (v1 : Int32) : wp_X7_image X v1 (fun r X1 => wp_X8_image M v1 (fun r1 M1 => r = r1 ∧ nz_Rel X1 M1)) := by
  have hR0 := hR
  obtain ⟨hRD, hRW, hTP, hTR, hla, hst⟩ := hR
  obtain ⟨f, g0, g1, W, k, hM, hok, hX, hI0, hI1, hW, hac, hk, hk8⟩ := hRD
  have hok0 := hok
  obtain ⟨ol, of', os, ofi, ons, onm, onn, ont, oz, oten, ost, oso, omv, otm⟩ := hok
  have hX0 := hX
  obtain ⟨x0, x1, x2, x3, x4, x5, x6, x7, x8, xs, xa, xh, xk, xw, xy, xr, xt⟩ := hX
  have xs : zA (f 4) (X 17) (zsay f) := xs
  have xa : zA (f 4) (X 18) (zat f) := xa
  have xh : zA (f 4) (X 19) (zho f) := xh
  have xk : zA (f 5) (X 20) (zkd f) := xk
  have xw : zA (f 5) (X 21) (zwh f) := xw
  have xy : zA (f 5) (X 22) (zwy f) := xy
  have xr : zA (f 5) (X 23) (zre f) := xr
  have xt : zA (4 * f 7) (X 24) (ztm f) := xt
  have m0 : M 4 0 = zi (f 0) := zM4 hM (by decide)
  have m1 : M 4 1 = zi (f 1) := zM4 hM (by decide)
  have m2 : M 4 2 = zi (f 2) := zM4 hM (by decide)
  have m3 : M 4 3 = zi (f 3) := zM4 hM (by decide)
  have m4 : M 4 4 = zi (f 4) := zM4 hM (by decide)
  have m5 : M 4 5 = zi (f 5) := zM4 hM (by decide)
  have m6 : M 4 6 = zi (f 6) := zM4 hM (by decide)
  have m7 : M 4 7 = zi (f 7) := zM4 hM (by decide)
  obtain ⟨w, rw', rfl⟩ := zi_ex v1
  obtain ⟨i1, i2, i3, i4⟩ := hI0
  obtain ⟨j1, j2, j3, j4⟩ := hI1
  have M8 : ∀ (K : Int32 → (Nat → Nat → Int32) → Prop), (¬ (0 ≤ w ∧ w ≤ 1) → K (-1000001 : Int32) (va_up M 0 (upd (M 0) 0 0))) → ((0 ≤ w ∧ w ≤ 1) → f 0 ≤ 0 → K (-1000002 : Int32) (va_up M 0 (upd (M 0) 0 0))) → ((0 ≤ w ∧ w ≤ 1) → 0 < f 0 → ∀ s, zA 188 s (fun x => if 94 * w ≤ x ∧ x < 94 * w + 94 then f (x - 94 * w) else if x < 94 then g0 x else g1 (x - 94)) → K 1 (va_up (va_up (va_up M 0 (upd (M 0) 0 0)) 11 (upd (M 11) (zi w).toNatClampNeg 1)) 12 s)) → wp_X8_image M (zi w) K := by
    intro K k1 k2 k3
    unfold wp_X8_image wp_X8_isThere
    refine s_in (a := w) (l := 0) (u := 1) (z64 rw') rfl rfl (fun c => by1 ?_) (fun c => by0 (k1 c))
    rw [m0, show (zi (f 0) ≤ 0) = (f 0 ≤ 0) from zi_le (b := 0) (by omega) (by decide)]
    exact ⟨fun d => by0 (k2 c d), fun d => by1 (m_image hM (i1.two j1) c (fun s hs => k3 c (by omega) s hs))⟩
  unfold wp_X7_image wX_X7_isAmong wX_X5_become_26_16 wX_X5_become_35_16 wp_X5_become
  refine s_among (a := w) (l := 0) (u := 1) rfl rfl rfl (by omega) (fun c => by1 ⟨fun d => ?_, fun d => M8 _ (fun q => absurd c q) (fun _ _ => ⟨rfl, hR0.th⟩) (fun _ q => ?_)⟩) (fun c => by0 (M8 _ (fun _ => ⟨rfl, hR0.th⟩) (fun q => absurd q c) (fun q => absurd q c)))
  · have c0 : 0 < f 0 := by
      apply Classical.byContradiction
      intro z
      rw [x0, if_neg z] at d
      exact d rfl
    rcases zxy w c with rfl | rfl
    · refine Or.inl ⟨rfl, by rw [x0, zth c0]; rfl, M8 _ (fun q => absurd c q) (fun _ q => absurd q (by omega)) (fun _ _ s hs => ⟨rfl, ?_⟩)⟩
      refine ⟨⟨f, f, g1, W, k, hM, hok0, hX0.fr (fun i hi => ?_), ⟨fun a ha => ?_, hok0, zR.become hok0 hX0, (zth c0).symm⟩, ⟨fun a ha => ?_, j2, j3.fr (fun i hi => ?_), j4⟩, hW, hac, hk, hk8⟩, hRW.fr (fun i hi => ?_), hTP.fr, hTR.fr, hla, hst⟩
      · exact (zup1 (by omega)).trans ((zup1 (by omega)).trans ((zup1 (by omega)).trans ((zup1 (by omega)).trans ((zup1 (by omega)).trans ((zup1 (by omega)).trans ((zup1 (by omega)).trans ((zup1 (by omega)).trans (zup1 (by omega)))))))))
      · have this := hs a (by omega)
        dsimp only at this
        rw [if_pos (by omega)] at this
        show s a.toNat = _
        rw [this]
        congr 2
        omega
      · have this := hs (94 + a) (by omega)
        dsimp only at this
        rw [if_neg (by omega), if_neg (by omega)] at this
        show s (94 + a.toNat) = _
        rw [show 94 + a.toNat = (94 + a).toNat by omega, this]
        congr 2
        omega
      · exact (zup1 (by omega)).trans ((zup1 (by omega)).trans ((zup1 (by omega)).trans ((zup1 (by omega)).trans ((zup1 (by omega)).trans ((zup1 (by omega)).trans ((zup1 (by omega)).trans ((zup1 (by omega)).trans (zup1 (by omega)))))))))
      · exact (zup1 (by omega)).trans ((zup1 (by omega)).trans ((zup1 (by omega)).trans ((zup1 (by omega)).trans ((zup1 (by omega)).trans ((zup1 (by omega)).trans ((zup1 (by omega)).trans ((zup1 (by omega)).trans (zup1 (by omega)))))))))
    · refine Or.inr ⟨rfl, by rw [x0, zth c0]; rfl, M8 _ (fun q => absurd c q) (fun _ q => absurd q (by omega)) (fun _ _ s hs => ⟨rfl, ?_⟩)⟩
      refine ⟨⟨f, g0, f, W, k, hM, hok0, hX0.fr (fun i hi => ?_), ⟨fun a ha => ?_, i2, i3.fr (fun i hi => ?_), i4⟩, ⟨fun a ha => ?_, hok0, zR.become hok0 hX0, (zth c0).symm⟩, hW, hac, hk, hk8⟩, hRW.fr (fun i hi => ?_), hTP.fr, hTR.fr, hla, hst⟩
      · exact (zup1 (by omega)).trans ((zup1 (by omega)).trans ((zup1 (by omega)).trans ((zup1 (by omega)).trans ((zup1 (by omega)).trans ((zup1 (by omega)).trans ((zup1 (by omega)).trans ((zup1 (by omega)).trans (zup1 (by omega)))))))))
      · have this := hs a (by omega)
        dsimp only at this
        rw [if_neg (by omega), if_pos (by omega)] at this
        exact this
      · exact (zup1 (by omega)).trans ((zup1 (by omega)).trans ((zup1 (by omega)).trans ((zup1 (by omega)).trans ((zup1 (by omega)).trans ((zup1 (by omega)).trans ((zup1 (by omega)).trans ((zup1 (by omega)).trans (zup1 (by omega)))))))))
      · have this := hs (94 + a) (by omega)
        dsimp only at this
        rw [if_pos (by omega)] at this
        show s (94 + a.toNat) = _
        rw [show 94 + a.toNat = (94 + a).toNat by omega, this]
        congr 2
        omega
      · exact (zup1 (by omega)).trans ((zup1 (by omega)).trans ((zup1 (by omega)).trans ((zup1 (by omega)).trans ((zup1 (by omega)).trans ((zup1 (by omega)).trans ((zup1 (by omega)).trans ((zup1 (by omega)).trans (zup1 (by omega)))))))))
  · rw [x0, zth q] at d
    exact absurd d (by decide)
theorem m_restore {X : Nat → Nat → Int32} {g h f : Int → Int} {w : Int} {K : Int32 → (Nat → Nat → Int32) → Prop} (hM : zA 94 (X 4) f) (hN : zA 188 (X 12) h) (hg : ∀ x : Int, 0 ≤ x ∧ x < 94 → h (94 * w + x) = g x) (hw : 0 ≤ w ∧ w ≤ 1) (hK : ∀ s, zA 94 s g → K 1 (va_up (va_up X 0 (upd (upd (X 0) 0 0) 8 0)) 4 s)) : ∃ n, nz_it (fun _ _ => False) (S_X8_restore_32 X (zi w) 0 K) n 0 (X 4) := by
  refine nz_l2 (fun k x2 s => ∃ q : Int, x2 = zi q ∧ (0 ≤ q ∧ q ≤ 94) ∧ k = (94 - q).toNat ∧ zA 94 s (fun x => if x < q then g x else f x)) ?_ (k := (94 - (0 : Int)).toNat) ⟨0, rfl, by omega, rfl, hM.of (fun a ha => if_neg (by omega))⟩
  rintro k R _ s ⟨q, rfl, hq, hk, hs⟩ next
  unfold S_X8_restore_32
  rw [zq94, zi_le (by decide) (by omega), zi_mul, zi_add, zq1, zi_add]
  refine ⟨fun c => ?_, fun c => ⟨zi_in (by omega), zi_in (by omega), next (94 - (q + 1)).toNat _ _ (by omega) ⟨q + 1, rfl, by omega, rfl, ?_⟩⟩⟩
  · obtain rfl : q = 94 := by omega
    exact hK s (hs.of (fun a ha => (if_pos (by omega)).symm))
  · rw [hN.at (by omega), hg q (by omega)]
    refine (hs.up (i := q) (v := g q) (by omega)).of (fun x hx => ?_)
    by_cases e : x = q
    · rw [e, iup_eq, if_pos (by omega)]
    · rw [iup_ne e]
      by_cases e1 : x < q
      · rw [if_pos e1, if_pos (by omega)]
      · rw [if_neg e1, if_neg (by omega)]
theorem zAC0 (g W : Int → Int) (pl nt : Nat → Int32) : zAC g W 0 pl nt := ⟨by omega, fun j i h => absurd h (by omega), fun j h => absurd h (by omega), fun j i h => absurd h (by omega), fun h => absurd h (by omega)⟩
theorem pub_restore {X M : Nat → Nat → Int32} (hR : nz_Rel X M) (v1 : Int32) : wp_X7_restore X v1 (fun r X1 => wp_X8_restore M v1 (fun r1 M1 => r = r1 ∧ nz_Rel X1 M1)) := by
  have hR0 := hR
  obtain ⟨hRD, hRW, hTP, hTR, hla, hst⟩ := hR
  obtain ⟨f, g0, g1, W, k, hM, hok, hX, hI0, hI1, hW, hac, hk, hk8⟩ := hRD
  have hok0 := hok
  obtain ⟨ol, of', os, ofi, ons, onm, onn, ont, oz, oten, ost, oso, omv, otm⟩ := hok
  have hX0 := hX
  obtain ⟨x0, x1, x2, x3, x4, x5, x6, x7, x8, xs, xa, xh, xk, xw, xy, xr, xt⟩ := hX
  have xs : zA (f 4) (X 17) (zsay f) := xs
  have xa : zA (f 4) (X 18) (zat f) := xa
  have xh : zA (f 4) (X 19) (zho f) := xh
  have xk : zA (f 5) (X 20) (zkd f) := xk
  have xw : zA (f 5) (X 21) (zwh f) := xw
  have xy : zA (f 5) (X 22) (zwy f) := xy
  have xr : zA (f 5) (X 23) (zre f) := xr
  have xt : zA (4 * f 7) (X 24) (ztm f) := xt
  have m0 : M 4 0 = zi (f 0) := zM4 hM (by decide)
  have m1 : M 4 1 = zi (f 1) := zM4 hM (by decide)
  have m2 : M 4 2 = zi (f 2) := zM4 hM (by decide)
  have m3 : M 4 3 = zi (f 3) := zM4 hM (by decide)
  have m4 : M 4 4 = zi (f 4) := zM4 hM (by decide)
  have m5 : M 4 5 = zi (f 5) := zM4 hM (by decide)
  have m6 : M 4 6 = zi (f 6) := zM4 hM (by decide)
  have m7 : M 4 7 = zi (f 7) := zM4 hM (by decide)
  obtain ⟨w, rw', rfl⟩ := zi_ex v1
  obtain ⟨i1, i2, i3, i4⟩ := hI0
  obtain ⟨j1, j2, j3, j4⟩ := hI1
  have g0r := i2.nn
  have g1r := j2.nn
  unfold wp_X7_restore wX_X7_isAmong wX_X5_become_16_26 wX_X5_become_16_35 wp_X5_become wX_X0_clear_44 wp_X0_clear
  refine s_among (a := w) (l := 0) (u := 1) rfl rfl rfl (by omega) (fun c => by1 ?_) (fun c => by0 ?_)
  · rcases zxy w c with rfl | rfl
    · refine Or.inl ⟨rfl, fun d => Or.inl ⟨rfl, ?_⟩, fun d => ?_⟩
      · have c0 : 0 < g0 0 := by
          apply Classical.byContradiction
          intro z
          rw [show X 26 0 = _ from i3.1, if_neg z] at d
          exact d rfl
        refine ⟨by rw [show X 26 0 = _ from i3.1, zth c0]; rfl, ?_⟩
        unfold wp_X8_restore
        refine s_in (a := 0) (l := 0) (u := 1) (z64 rw') rfl rfl (fun _ => by1 ⟨zi_in (by omega), fun _ => m_restore (g := g0) (w := 0) hM (i1.two j1) (fun x hx => ?_) c (fun s hs => ⟨rfl, ?_⟩), fun z => ?_⟩) (fun z => absurd c z)
        · rw [if_pos (by omega)]
          congr 1
          omega
        · exact hR0.now (f := g0) (W := W) (k := 0) hs i2 (zR.become i2 i3) hW (zAC0 _ _ _ _) rfl rfl (fun i hi => (zup1 (by omega)).trans ((zup1 (by omega)).trans ((zup1 (by omega)).trans ((zup1 (by omega)).trans ((zup1 (by omega)).trans ((zup1 (by omega)).trans ((zup1 (by omega)).trans ((zup1 (by omega)).trans ((zup1 (by omega)).trans (zup1 (by omega))))))))))) (fun i h1 h2 h3 h4 h5 h6 h7 => (zup1 (by omega)).trans (zup1 (by omega)))
        · rw [show M 11 (zi 0).toNatClampNeg = M 11 0 from rfl, i4, zth c0] at z
          exact absurd z (by decide)
      · unfold wp_X8_restore
        refine s_in (a := 0) (l := 0) (u := 1) (z64 rw') rfl rfl (fun _ => by1 ⟨zi_in (by omega), fun z => ?_, fun z => ⟨rfl, hR0.th⟩⟩) (fun z => absurd c z)
        rw [show M 11 (zi 0).toNatClampNeg = M 11 0 from rfl, i4, ← i3.1] at z
        exact absurd d z
    · refine Or.inr ⟨rfl, fun d => Or.inr ⟨rfl, ?_⟩, fun d => ?_⟩
      · have c0 : 0 < g1 0 := by
          apply Classical.byContradiction
          intro z
          rw [show X 35 0 = _ from j3.1, if_neg z] at d
          exact d rfl
        refine ⟨by rw [show X 35 0 = _ from j3.1, zth c0]; rfl, ?_⟩
        unfold wp_X8_restore
        refine s_in (a := 1) (l := 0) (u := 1) (z64 rw') rfl rfl (fun _ => by1 ⟨zi_in (by omega), fun _ => m_restore (g := g1) (w := 1) hM (i1.two j1) (fun x hx => ?_) c (fun s hs => ⟨rfl, ?_⟩), fun z => ?_⟩) (fun z => absurd c z)
        · rw [if_neg (by omega)]
          congr 1
          omega
        · exact hR0.now (f := g1) (W := W) (k := 0) hs j2 (zR.become j2 j3) hW (zAC0 _ _ _ _) rfl rfl (fun i hi => (zup1 (by omega)).trans ((zup1 (by omega)).trans ((zup1 (by omega)).trans ((zup1 (by omega)).trans ((zup1 (by omega)).trans ((zup1 (by omega)).trans ((zup1 (by omega)).trans ((zup1 (by omega)).trans ((zup1 (by omega)).trans (zup1 (by omega))))))))))) (fun i h1 h2 h3 h4 h5 h6 h7 => (zup1 (by omega)).trans (zup1 (by omega)))
        · rw [show M 11 (zi 1).toNatClampNeg = M 11 1 from rfl, j4, zth c0] at z
          exact absurd z (by decide)
      · unfold wp_X8_restore
        refine s_in (a := 1) (l := 0) (u := 1) (z64 rw') rfl rfl (fun _ => by1 ⟨zi_in (by omega), fun z => ?_, fun z => ⟨rfl, hR0.th⟩⟩) (fun z => absurd c z)
        rw [show M 11 (zi 1).toNatClampNeg = M 11 1 from rfl, j4, ← j3.1] at z
        exact absurd d z
  · unfold wp_X8_restore
    exact s_in (a := w) (l := 0) (u := 1) (z64 rw') rfl rfl (fun z => absurd z c) (fun _ => by0 ⟨rfl, hR0.th⟩)
