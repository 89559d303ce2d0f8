theorem x_pass_at {f p : Int → Int} {f11 f12 f13 f14 f15 fp : Nat → Int32} {t : Int} {a : Int32} {K : (Nat → Int32) → Prop} (hok : zOK f) (ht : 0 ≤ t ∧ t ≤ 20000) (h11 : zA (f 4) f11 (zho f)) (h12 : zA (f 5) f12 (zkd f)) (h13 : zA (f 5) f13 (zwh f)) (h14 : zA (f 5) f14 (zwy f)) (h15 : zA (f 5) f15 (zre f)) (hp : zA (f 4) fp p) (hS : zS f p) (hK : ∀ s, zA (f 4) s (zpa f a t (f 5).toNat p) → K s) : wp_X5_pass_at (zi (f 0)) (zi (f 4)) (zi (f 5)) fp f11 f12 f13 f14 f15 (zi t) a K :=
  x_pass hok ht h11 h12 h13 h14 h15 hp hS hK
theorem m_layNow {f g : Int → Int} {v : Int32} {f5 w : Nat → Int32} {K : (Nat → Int32) → Prop} (hok : zOK f) (h5 : zA 94 f5 f) (hv : ∀ (k : Int) (K : Int32 → Prop), 0 ≤ k ∧ k < f 4 → K (zi (g k)) → wp_X8_stoneOf f5 (zi k) v K) (hK : ∀ s, zA (f 4) s g → K s) : wp_X8_layNow f5 w v K := by
  have hnn := hok.nn
  have e4 : f5 4 = zi (f 4) := zM4 h5 (by decide)
  unfold wp_X8_layNow
  refine nz_l2 (fun j x2 s => ∃ i : Int, x2 = zi i ∧ (0 ≤ i ∧ i ≤ f 4) ∧ j = (f 4 - i).toNat ∧ zA i s g) ?_ (k := (f 4 - 0).toNat) ⟨0, rfl, by omega, rfl, fun a ha => by omega⟩
  rintro j R _ s ⟨i, rfl, hi, hj, hs⟩ next
  unfold S_X8_layNow_2
  rw [e4, zi_le (by omega) (by omega)]
  refine ⟨fun c => ?_, fun c => hv i _ (by omega) ⟨zi_in (by omega), ?_⟩⟩
  · obtain rfl : i = f 4 := by omega
    exact hK s hs
  · rw [zq1, zi_add]
    exact next (f 4 - (i + 1)).toNat _ _ (by omega) ⟨i + 1, rfl, by omega, rfl, hs.snoc (by omega) rfl⟩
theorem m_layAt {f : Int → Int} {f5 w : Nat → Int32} {K : (Nat → Int32) → Prop} (hok : zOK f) (h5 : zA 94 f5 f) (hK : ∀ s, zA (f 4) s (zat f) → K s) : wp_X8_layNow f5 w 1 K :=
  m_layNow hok h5 (fun k K hk h => m_at h5 (by have := hok.nn; omega) h) hK
theorem m_layHo {f : Int → Int} {f5 w : Nat → Int32} {K : (Nat → Int32) → Prop} (hok : zOK f) (h5 : zA 94 f5 f) (hK : ∀ s, zA (f 4) s (zho f) → K s) : wp_X8_layNow f5 w 2 K :=
  m_layNow hok h5 (fun k K hk h => m_ho h5 (by have := hok.nn; omega) h) hK
theorem znt_low {f p : Int → Int} {i x : Int} (h : x < 9) : znt f p i x = f x := znt_ne (fun k hk => by omega)
theorem pub_night {X M : Nat → Nat → Int32} (hR : nz_Rel X M) : wp_X7_night X (fun r X1 => wp_X8_night M (fun r1 M1 => r = r1 ∧ nz_Rel X1 M1)) := by
  have hR0 := hR
  obtain ⟨hRD, hRW, hTP, hTR, hla, hst⟩ := hR
  obtain ⟨f, g0, g1, W, k, hM, hok, hX, hI0, hI1, hW, hac, hk, hk8⟩ := hRD
  have hok0 := hok
  obtain ⟨ol, of', os, ofi, ons, onm, onn, ont, oz, oten, ost, oso, omv, otm⟩ := hok
  have hX0 := hX
  obtain ⟨x0, x1, x2, x3, x4, x5, x6, x7, x8, xs, xa, xh, xk, xw, xy, xr, xt⟩ := hX
  have xs : zA (f 4) (X 17) (zsay f) := xs
  have xa : zA (f 4) (X 18) (zat f) := xa
  have xh : zA (f 4) (X 19) (zho f) := xh
  have xk : zA (f 5) (X 20) (zkd f) := xk
  have xw : zA (f 5) (X 21) (zwh f) := xw
  have xy : zA (f 5) (X 22) (zwy f) := xy
  have xr : zA (f 5) (X 23) (zre f) := xr
  have xt : zA (4 * f 7) (X 24) (ztm f) := xt
  have m0 : M 4 0 = zi (f 0) := zM4 hM (by decide)
  have m1 : M 4 1 = zi (f 1) := zM4 hM (by decide)
  have m2 : M 4 2 = zi (f 2) := zM4 hM (by decide)
  have m3 : M 4 3 = zi (f 3) := zM4 hM (by decide)
  have m4 : M 4 4 = zi (f 4) := zM4 hM (by decide)
  have m5 : M 4 5 = zi (f 5) := zM4 hM (by decide)
  have m6 : M 4 6 = zi (f 6) := zM4 hM (by decide)
  have m7 : M 4 7 = zi (f 7) := zM4 hM (by decide)
  have M8 : ∀ (K : Int32 → (Nat → Nat → Int32) → Prop), (f 0 ≤ 0 → K (-1000002 : Int32) (va_up M 0 (upd (M 0) 0 0))) → (0 < f 0 → f 6 = 9999 → K (-1000003 : Int32) (va_up M 0 (upd (M 0) 0 0))) → (0 < f 0 → f 6 < 9999 → ∀ w6 w4 w8, zA 168 w6 (zkW f W k) → zA 94 w4 (iup (znt f (zpa f 31 (f 6) (f 5).toNat (zat f)) (f 4)) 6 (f 6 + 1)) → K (zi (zbs (fun i => decide (zpa f 31 (f 6) (f 5).toNat (zat f) i ≠ zat f i)) (f 4).toNat)) (va_up (va_up (va_up (va_up M 0 (upd (upd (M 0) 0 0) 8 (zi (zkk k)))) 4 w4) 6 w6) 8 w8)) → wp_X8_night M K := by
    intro K k1 k2 k3
    unfold wp_X8_night wp_X8_isThere
    rw [m0, show (zi (f 0) ≤ 0) = (f 0 ≤ 0) from zi_le (b := 0) (by omega) (by decide), m6, zq9999, zi_eq (by omega) (by decide)]
    refine ⟨fun d => by0 (k1 d), fun d => by1 ⟨fun c => m_keep hac.1 hk8 hM hW (fun w6 hw6 => m_layAt hok0 hM (fun w8 hw8 => m_goNight hok0 hM hw8 hok0.sa (by omega) (fun q hq => ?_))), fun c => k2 (by omega) c⟩⟩
    have hpS : zS f (zpa f 31 (f 6) (f 5).toNat (zat f)) := zS.pa hok0 _ _ hok0.sa (by omega)
    refine nz_l3 (fun j x1 x2 s => ∃ i : Nat, x2 = zi i ∧ (i : Int) ≤ f 4 ∧ j = (f 4).toNat - i ∧ x1 = zi (zbs (fun i => decide (zpa f 31 (f 6) (f 5).toNat (zat f) i ≠ zat f i)) i) ∧ zA 94 s (znt f (zpa f 31 (f 6) (f 5).toNat (zat f)) i)) ?_ (k := (f 4).toNat - 0) ⟨0, rfl, by omega, rfl, rfl, hM.of (fun a ha => znt_ne (fun k hk => by omega))⟩
    rintro j R _ _ s ⟨i, rfl, hi, hj, rfl, hs⟩ next
    unfold S_X8_night_57
    have s4 : s 4 = zi (f 4) := (zM4 hs (i := 4) (by decide)).trans (by rw [show ((4 : Nat) : Int) = 4 from rfl, znt_low (by decide)])
    have s6 : s 6 = zi (f 6) := (zM4 hs (i := 6) (by decide)).trans (by rw [show ((6 : Nat) : Int) = 6 from rfl, znt_low (by decide)])
    rw [s4, s6, zi_le (by omega) (by omega), zq1, zi_add]
    refine ⟨fun e => ?_, fun e => ⟨zi_in (by omega), m_at hs (by omega) ?_⟩⟩
    · have ei : i = (f 4).toNat := by omega
      rw [ei]
      refine k3 (by omega) (by omega) w6 _ q hw6 ?_
      have ei2 : ((i : Nat) : Int) = f 4 := by omega
      rw [ei2] at hs
      exact hs.up (i := 6) (v := f 6 + 1) (by decide)
    · have r1 := hpS.1 i (by omega)
      have r2 := (hok0.st (k := i) (by omega)).2.1
      have ea : zat (znt f (zpa f 31 (f 6) (f 5).toNat (zat f)) i) i = zat f i := by
        unfold zat
        rw [znt_at (by omega), if_neg (by omega)]
      rw [ea, hq.at (by omega), zi_eq (by omega) (by omega)]
      have fin : ∀ x : Int32, x = zi (zbs (fun i => decide (zpa f 31 (f 6) (f 5).toNat (zat f) i ≠ zat f i)) (i + 1)) → R x (zi (i + 1)) (upd s (zi (8 + 3 * i + 1)).toNatClampNeg (zi (zpa f 31 (f 6) (f 5).toNat (zat f) i))) := by
        intro x hx
        refine next ((f 4).toNat - (i + 1)) _ _ _ (by omega) ⟨i + 1, rfl, by omega, rfl, hx, ?_⟩
        have := hs.up (i := 8 + 3 * (i : Int) + 1) (v := zpa f 31 (f 6) (f 5).toNat (zat f) i) (by omega)
        rw [show 8 + 3 * (i : Int) + 1 = 9 + 3 * i by omega, znt_up (by omega)] at this
        rw [show 8 + 3 * (i : Int) + 1 = 9 + 3 * i by omega]
        exact this
      unfold S_X8_night_90
      rw [hq.at (by omega), zq8, zq3, zi_mul, zi_add, zq1, zi_add, zi_add]
      refine ⟨fun g => ⟨zi_in (by omega), zi_in (by omega), fin _ ?_⟩, fun g => ⟨zi_in (by omega), zi_in (by omega), fin _ ?_⟩⟩
      · rw [Int32.or_zero]
        exact zbs_no _ (by simp [g])
      · exact zbs_or _ (by omega) (by simp [g])
  unfold wp_X7_night wX_X0_keep_44_16
  refine ⟨fun c0 => ?_, fun c0 => ?_⟩
  · have c0 : 0 < f 0 := by
      apply Classical.byContradiction
      intro z
      rw [x0, if_neg z] at c0
      exact c0 rfl
    have hpS : zS f (zpa f 31 (f 6) (f 5).toNat (zat f)) := zS.pa hok0 _ _ hok0.sa (by omega)
    rw [x5, zq9999, zi_lt (by omega) (by decide)]
    refine ⟨fun c => ?_, fun c => M8 _ (fun q => absurd q (by omega)) (fun _ _ => ⟨rfl, hR0.th⟩) (fun _ q => absurd q c)⟩
    refine x_keep hok0 c0 hk rfl xa hac (fun pl nt hac' hpl => ?_)
    unfold wX_X5_pass_at_16
    show wp_X5_pass_at (X 16 1) (X 16 6) (X 16 7) (X 18) (X 19) (X 20) (X 21) (X 22) (X 23) (X 16 5) 31 _
    rw [x1, x6, x7, x5]
    refine x_pass_at hok0 (by omega) xh xk xw xy xr xa hok0.sa (fun s hs => ?_)
    unfold wX_X0_displacedByLatest_44_16
    show wp_X0_displacedByLatest (zi (zkk k)) pl (X 16 6) s _
    have hkk : 1 ≤ zkk k ∧ zkk k ≤ 24 := by
      have := hac.1
      unfold zkk
      split <;> omega
    refine x_displaced hok0 hkk rfl x6 hpl hs hpS (M8 _ (fun q => absurd q (by omega)) (fun _ q => absurd q (by omega)) (fun _ _ w6 w4 w8 hw6 hw4 => ⟨rfl, ?_⟩))
    have e : zEt f (iup (znt f (zpa f 31 (f 6) (f 5).toNat (zat f)) (f 4)) 6 (f 6 + 1)) := fun i hi h6 hn => by
      rw [iup_ne h6]
      exact znt_ne (fun q hq => hn q (by omega))
    have ea : ∀ i : Int, 0 ≤ i ∧ i < f 4 → zat (iup (znt f (zpa f 31 (f 6) (f 5).toNat (zat f)) (f 4)) 6 (f 6 + 1)) i = zpa f 31 (f 6) (f 5).toNat (zat f) i := fun i hi => by
      unfold zat
      rw [iup_ne (by omega), znt_at (by omega), if_pos (by omega)]
    refine hR0.now (f := iup (znt f (zpa f 31 (f 6) (f 5).toNat (zat f)) (f 4)) 6 (f 6 + 1)) (W := zkW f W k) (k := zkk k) hw4 (hok0.et e c0 (by rw [iup_eq]; omega) ⟨fun i hi => by rw [ea i hi]; exact hpS.1 i hi, fun i hi => by rw [ea i (by omega), ea (i + 1) (by omega)]; exact hpS.2 i hi⟩) (hX0.et hok0 e (fun i hi h5 => ?_) ?_ (fun i hi h18 => ?_) ?_) hw6 (hac'.eq e.all.1.2.2.2.2.1 e.all.1.1) rfl rfl (fun i hi => ?_) (fun i h1 h2 h3 h4 h5 h6 h7 => ?_)
    · show upd (X 16) 5 _ i = X 16 i
      exact if_neg h5
    · rw [iup_eq]
      show X 16 5 + 1 = zi (f 6 + 1)
      rw [x5, zq1, zi_add]
    · exact (zup1 (by omega)).trans ((zup1 (by omega)).trans ((zup1 (by omega)).trans ((zup1 (by omega)).trans (zup1 (by omega)))))
    · exact hs.of (fun a ha => ea a ha)
    · exact (zup1 (by omega)).trans ((zup1 (by omega)).trans ((zup1 (by omega)).trans ((zup1 (by omega)).trans (zup1 (by omega)))))
    · exact (zup1 (by omega)).trans ((zup1 (by omega)).trans ((zup1 (by omega)).trans (zup1 (by omega))))
  · refine M8 _ (fun _ => ⟨rfl, hR0.th⟩) (fun q => ?_) (fun q => ?_)
    · rw [x0, zth q] at c0
      exact absurd c0 (by decide)
    · rw [x0, zth q] at c0
      exact absurd c0 (by decide)
def znr (a b : Int) : Int := if a < b then a else b
def zfr (a b : Int) : Int := if a < b then b else a
abbrev zbl (f : Int → Int) (s : Int) : Prop := ∃ q : Int, 0 ≤ q ∧ q < f 4 ∧ q ≠ s ∧ znr (zat f s) (zho f s) ≤ zat f q ∧ zat f q ≤ zfr (zat f s) (zho f s)
theorem x_wayFree {f : Int → Int} {n : Int32} {f10 f11 : Nat → Int32} {s : Int} {K : Int32 → Prop} (hok : zOK f) (hn : n = zi (f 4)) (ha : zA (f 4) f10 (zat f)) (hh : zA (f 4) f11 (zho f)) (hs : 0 ≤ s ∧ s < f 4) (h1 : ¬ zbl f s → K 1) (h0 : zbl f s → K 0) : wp_X5_isWayHomeFree n f10 f11 (zi s) K := by
  have hnn := hok.nn
  have hst := hok.st hs
  unfold wp_X5_isWayHomeFree
  rw [ha.at (by omega), hh.at (by omega), zi_iflt (by omega) (by omega), zi_iflt (by omega) (by omega), hn]
  refine ⟨zi_in (by omega), zi_in (by omega), ?_⟩
  rintro _ rfl
  refine ⟨zi_in (by omega), zi_in (by omega), ?_⟩
  rintro _ rfl
  have e1 : (if zho f s < zat f s then zho f s else zat f s) = znr (zat f s) (zho f s) := by
    unfold znr
    split <;> split <;> omega
  have e2 : (if zat f s < zho f s then zho f s else zat f s) = zfr (zat f s) (zho f s) := rfl
  rw [e1, e2]
  have g1 : 0 ≤ znr (zat f s) (zho f s) ∧ znr (zat f s) (zho f s) ≤ 200 := by
    unfold znr
    split <;> omega
  have g2 : 0 ≤ zfr (zat f s) (zho f s) ∧ zfr (zat f s) (zho f s) ≤ 200 := by
    unfold zfr
    split <;> omega
  refine nz_l1 (fun j x4 => ∃ i : Int, x4 = zi i ∧ (0 ≤ i ∧ i ≤ f 4) ∧ j = (f 4 - i).toNat ∧ ∀ q : Int, 0 ≤ q ∧ q < i → q ≠ s → ¬ (znr (zat f s) (zho f s) ≤ zat f q ∧ zat f q ≤ zfr (zat f s) (zho f s))) ?_ (k := (f 4 - 0).toNat) ⟨0, rfl, by omega, rfl, fun q hq => by omega⟩
  rintro j R _ ⟨i, rfl, hi, hj, hq⟩ next
  have go : (i ≠ s → i < f 4 → ¬ (znr (zat f s) (zho f s) ≤ zat f i ∧ zat f i ≤ zfr (zat f s) (zho f s))) → i < f 4 → R (zi i + 1) := by
    intro g hif
    refine next (f 4 - (i + 1)).toNat _ (by omega) ⟨i + 1, by rw [zq1, zi_add], by omega, rfl, fun q hq' hqs => ?_⟩
    by_cases e : q = i
    · rw [e] at hqs ⊢
      exact g hqs hif
    · exact hq q (by omega) hqs
  unfold S_X5_isWayHomeFree_35
  rw [zi_le (by omega) (by omega), zi_eq (by omega) (by omega)]
  refine ⟨fun c => h1 (fun ⟨q, q1, q2, q3, q4⟩ => hq q (by omega) q3 q4), fun c => ⟨fun d => go (fun z => absurd d z) (by omega), fun d => ⟨zi_in (by omega), ?_⟩⟩⟩
  have hsi := hok.st (k := i) (by omega)
  rw [ha.at (by omega), zi_lt (by omega) (by omega), zi_lt (by omega) (by omega)]
  exact ⟨fun e => go (fun _ _ => by omega) (by omega), fun e => ⟨zi_in (by omega), fun g => go (fun _ _ => by omega) (by omega), fun g => h0 ⟨i, by omega, by omega, d, by omega, by omega⟩⟩⟩
theorem zbl_no {f : Int → Int} (hok : zOK f) {s : Int} (hs : 0 ≤ s ∧ s < f 4) (h : ¬ zbl f s) : zS f (zat (iup f (9 + 3 * s) (zho f s))) := by
  have ea : ∀ k : Int, zat (iup f (9 + 3 * s) (zho f s)) k = if k = s then zho f s else zat f k := fun k => by
    unfold zat
    by_cases e : k = s
    · rw [if_pos e, e, iup_eq]
    · rw [if_neg e, iup_ne (by omega)]
  have hss := hok.st hs
  refine ⟨fun k hk => ?_, fun k hk => ?_⟩
  · rw [ea]
    split
    · omega
    · exact (hok.st hk).2.1
  · rw [ea, ea]
    have := (hok.so hk).1
    by_cases e : k = s
    · rw [if_pos e, if_neg (by omega)]
      apply Classical.byContradiction
      intro z
      refine h ⟨k + 1, by omega, by omega, by omega, ?_⟩
      rw [← e] at z ⊢
      unfold znr zfr
      rw [if_pos (by omega), if_pos (by omega)]
      omega
    · rw [if_neg e]
      by_cases e1 : k + 1 = s
      · rw [if_pos e1]
        apply Classical.byContradiction
        intro z
        refine h ⟨k, by omega, by omega, e, ?_⟩
        rw [← e1] at z ⊢
        unfold znr zfr
        rw [if_neg (by omega), if_neg (by omega)]
        omega
      · rw [if_neg e1]
        exact this
theorem zfn {a b : Int} : (if b ≤ a then a - b else b - a) = zfr a b - znr a b := by
  unfold zfr znr
  split <;> split <;> omega
theorem pub_prove {X M : Nat → Nat → Int32} (hR : nz_Rel X M) (v1 : Int32) : wp_X7_prove X v1 (fun r X1 => wp_X8_prove M v1 (fun r1 M1 => r = r1 ∧ nz_Rel X1 M1)) := by
  have hR0 := hR
  obtain ⟨hRD, hRW, hTP, hTR, hla, hst⟩ := hR
  obtain ⟨f, g0, g1, W, k, hM, hok, hX, hI0, hI1, hW, hac, hk, hk8⟩ := hRD
  have hok0 := hok
  obtain ⟨ol, of', os, ofi, ons, onm, onn, ont, oz, oten, ost, oso, omv, otm⟩ := hok
  have hX0 := hX
  obtain ⟨x0, x1, x2, x3, x4, x5, x6, x7, x8, xs, xa, xh, xk, xw, xy, xr, xt⟩ := hX
  have xs : zA (f 4) (X 17) (zsay f) := xs
  have xa : zA (f 4) (X 18) (zat f) := xa
  have xh : zA (f 4) (X 19) (zho f) := xh
  have xk : zA (f 5) (X 20) (zkd f) := xk
  have xw : zA (f 5) (X 21) (zwh f) := xw
  have xy : zA (f 5) (X 22) (zwy f) := xy
  have xr : zA (f 5) (X 23) (zre f) := xr
  have xt : zA (4 * f 7) (X 24) (ztm f) := xt
  have m0 : M 4 0 = zi (f 0) := zM4 hM (by decide)
  have m1 : M 4 1 = zi (f 1) := zM4 hM (by decide)
  have m2 : M 4 2 = zi (f 2) := zM4 hM (by decide)
  have m3 : M 4 3 = zi (f 3) := zM4 hM (by decide)
  have m4 : M 4 4 = zi (f 4) := zM4 hM (by decide)
  have m5 : M 4 5 = zi (f 5) := zM4 hM (by decide)
  have m6 : M 4 6 = zi (f 6) := zM4 hM (by decide)
  have m7 : M 4 7 = zi (f 7) := zM4 hM (by decide)
  obtain ⟨s, rs, rfl⟩ := zi_ex v1
  have M8 : ∀ (K : Int32 → (Nat → Nat → Int32) → Prop), (¬ (0 ≤ s ∧ s < f 4) → K (-1000001 : Int32) (va_up M 0 (upd (M 0) 0 0))) → ((0 ≤ s ∧ s < f 4) → (zbl f s ∨ zat f s = zho f s) → K (-1000002 : Int32) (va_up (va_up (va_up M 0 (upd (upd (M 0) 0 0) 8 (M 0 8))) 4 (M 4)) 6 (M 6))) → ((0 ≤ s ∧ s < f 4) → ¬ zbl f s → zat f s ≠ zho f s → ∀ w6 w4, zA 168 w6 (zkW f W k) → zA 94 w4 (iup f (9 + 3 * s) (zho f s)) → K (zi (zfr (zat f s) (zho f s) - znr (zat f s) (zho f s))) (va_up (va_up (va_up M 0 (upd (upd (M 0) 0 0) 8 (zi (zkk k)))) 4 w4) 6 w6)) → wp_X8_prove M (zi s) K := by
    intro K k1 k2 k3
    unfold wp_X8_prove
    refine s8_isStone m4 (by omega) rs (fun c => by1 (m_at hM (by omega) (m_ho hM (by omega) ?_))) (fun c => by0 (k1 c))
    have hss := hok0.st c
    have loop : ∀ lo hi : Int, lo = znr (zat f s) (zho f s) → hi = zfr (zat f s) (zho f s) → ∃ n, nz_it (fun _ => False) (S_X8_prove_57 M (zi s) (zi (zat f s)) (zi (zho f s)) (zi lo) (zi hi) 0 (M 0 8) (M 4) (M 6) K) n 0 := by
      intro lo hi hlo hhi
      have g1 : 0 ≤ lo ∧ lo ≤ 200 := by
        rw [hlo]
        unfold znr
        split <;> omega
      have g2 : 0 ≤ hi ∧ hi ≤ 200 := by
        rw [hhi]
        unfold zfr
        split <;> omega
      refine nz_l1 (fun j x4 => ∃ i : Int, x4 = zi i ∧ (0 ≤ i ∧ i ≤ f 4) ∧ j = (f 4 - i).toNat ∧ ∀ q : Int, 0 ≤ q ∧ q < i → q ≠ s → ¬ (lo ≤ zat f q ∧ zat f q ≤ hi)) ?_ (k := (f 4 - 0).toNat) ⟨0, rfl, by omega, rfl, fun q hq => by omega⟩
      rintro j R _ ⟨i, rfl, hi', hj, hq⟩ next
      have go : (i ≠ s → i < f 4 → ¬ (lo ≤ zat f i ∧ zat f i ≤ hi)) → i < f 4 → R (zi i + 1) := by
        intro g hif
        refine next (f 4 - (i + 1)).toNat _ (by omega) ⟨i + 1, by rw [zq1, zi_add], by omega, rfl, fun q hq' hqs => ?_⟩
        by_cases e : q = i
        · rw [e] at hqs ⊢
          exact g hqs hif
        · exact hq q (by omega) hqs
      unfold S_X8_prove_57
      rw [m4, zi_le (by omega) (by omega), zi_eq (by omega) (by omega), zi_eq (by omega) (by omega)]
      refine ⟨fun d => ⟨fun e => ?_, fun e => k2 c (Or.inr e)⟩, fun d => ⟨fun e => go (fun z => absurd e z) (by omega), fun e => m_at hM (by omega) ?_⟩⟩
      · have nb : ¬ zbl f s := fun ⟨q, q1, q2, q3, q4⟩ => hq q (by omega) q3 (by rw [hlo, hhi]; exact q4)
        refine m_keep hac.1 hk8 hM hW (fun w6 hw6 => ⟨?_, ?_⟩)
        · rw [zq8, zq3, zi_mul, zi_add, zq1, zi_add]
          exact zi_in (by omega)
        · rw [zi_sub, hlo, hhi, zq8, zq3, zi_mul, zi_add, zq1, zi_add]
          refine k3 c nb e w6 _ hw6 ?_
          have := hM.up (i := 8 + 3 * s + 1) (v := zho f s) (by omega)
          rw [show 8 + 3 * s + 1 = 9 + 3 * s by omega] at this ⊢
          exact this
      · have hsi := hok0.st (k := i) (by omega)
        refine s_in (a := zat f i) (l := lo) (u := hi) (z64 (by omega)) (z64 (by omega)) (z64 (by omega)) (fun g => by1' (k2 c (Or.inl ⟨i, by omega, by omega, e, by rw [← hlo, ← hhi]; exact g⟩))) (fun g => by0' (go (fun _ _ => g) (by omega)))
    unfold S_X8_prove_40
    rw [zi_le (by omega) (by omega)]
    refine ⟨fun d => ⟨fun _ => loop _ _ ?_ ?_, fun z => absurd d z⟩, fun d => ⟨fun z => absurd z d, fun _ => loop _ _ ?_ ?_⟩⟩
    · unfold znr; split <;> omega
    · unfold zfr; split <;> omega
    · unfold znr; split <;> omega
    · unfold zfr; split <;> omega
  have st0 : nz_Rel X (va_up (va_up (va_up M 0 (upd (upd (M 0) 0 0) 8 (M 0 8))) 4 (M 4)) 6 (M 6)) := hR0.st (fun _ _ => rfl) rfl (fun i hi => by
    by_cases q : i = 6
    · rw [q]; rfl
    · refine (zup1 q).trans ?_
      by_cases q : i = 4
      · rw [q]; rfl
      · exact (zup1 q).trans (zup1 (by omega))) rfl rfl rfl rfl hst
  unfold wp_X7_prove wX_X5_isStone_16 wX_X5_isWayHomeFree_16 wX_X0_keep_44_16
  refine s5_isStone x6 (by omega) rs (fun c => by1 ⟨zi_in (by omega), zi_in (by omega), ?_⟩) (fun c => by0 (M8 _ (fun _ => ⟨rfl, hR0.th⟩) (fun q => absurd q c) (fun q => absurd q c)))
  have hss := hok0.st c
  have c0 : 0 < f 0 := by
    apply Classical.byContradiction
    intro z
    have := oz (by omega)
    omega
  rw [xa.at (by omega), xh.at (by omega), x_abs (by omega) (by omega), zfn]
  rintro _ rfl
  have gw : 0 ≤ zfr (zat f s) (zho f s) - znr (zat f s) (zho f s) ∧ zfr (zat f s) (zho f s) - znr (zat f s) (zho f s) ≤ 200 ∧ (zfr (zat f s) (zho f s) - znr (zat f s) (zho f s) = 0 → zat f s = zho f s) ∧ (zat f s = zho f s → zfr (zat f s) (zho f s) - znr (zat f s) (zho f s) = 0) := by
    unfold zfr znr
    split <;> omega
  refine ⟨fun d => ?_, fun d => ?_⟩
  · rw [zq0, zi_eq (by omega) (by decide)] at d
    exact M8 _ (fun q => absurd c q) (fun _ _ => ⟨rfl, st0⟩) (fun _ _ q => absurd (gw.2.2.1 d) q)
  · rw [zq0, zi_eq (by omega) (by decide)] at d
    refine x_wayFree hok0 x6 xa xh c (fun e => by1 ?_) (fun e => by0 (M8 _ (fun q => absurd c q) (fun _ _ => ⟨rfl, st0⟩) (fun _ q => absurd e q)))
    refine x_keep hok0 c0 hk x5 xa hac (fun pl nt hac' hpl => ⟨zi_in (by omega), zi_in (by omega), ?_⟩)
    refine M8 _ (fun q => absurd c q) (fun _ q => ?_) (fun _ _ _ w6 w4 hw6 hw4 => ⟨rfl, ?_⟩)
    · rcases q with q | q
      · exact absurd q e
      · exact absurd (gw.2.2.2 q) d
    · have et : zEt f (iup f (9 + 3 * s) (zho f s)) := fun i hi h6 hn => iup_ne (hn s (by omega))
      have hS := zbl_no hok0 c e
      refine hR0.now (f := iup f (9 + 3 * s) (zho f s)) (W := zkW f W k) (k := zkk k) hw4 (hok0.et et c0 (by rw [iup_ne (by omega)]; omega) hS) (hX0.et hok0 et (fun i hi h5 => rfl) ?_ (fun i hi h18 => ?_) ?_) hw6 (hac'.eq et.all.1.2.2.2.2.1 et.all.1.1) rfl rfl (fun i hi => ?_) (fun i h1 h2 h3 h4 h5 h6 h7 => ?_)
      · rw [iup_ne (by omega)]
        exact x5
      · exact (zup1 (by omega)).trans ((zup1 (by omega)).trans ((zup1 (by omega)).trans (zup1 (by omega))))
      · show zA (f 4) (upd (X 18) (zi s).toNatClampNeg (X 19 (zi s).toNatClampNeg)) _
        rw [xh.at (by omega)]
        refine (xa.up (i := s) (v := zho f s) (by omega)).of (fun a ha => ?_)
        unfold zat
        by_cases e : a = s
        · rw [e, iup_eq, iup_eq]
        · rw [iup_ne e, iup_ne (by omega)]
      · exact (zup1 (by omega)).trans ((zup1 (by omega)).trans ((zup1 (by omega)).trans (zup1 (by omega))))
      · exact (zup1 (by omega)).trans ((zup1 (by omega)).trans (zup1 (by omega)))
theorem pub_undo {X M : Nat → Nat → Int32} (hR : nz_Rel X M) : wp_X7_undo X (fun r X1 => wp_X8_undo M (fun r1 M1 => r = r1 ∧ nz_Rel X1 M1)) := by
  have hR0 := hR
  obtain ⟨hRD, hRW, hTP, hTR, hla, hst⟩ := hR
  obtain ⟨f, g0, g1, W, k, hM, hok, hX, hI0, hI1, hW, hac, hk, hk8⟩ := hRD
  have hok0 := hok
  obtain ⟨ol, of', os, ofi, ons, onm, onn, ont, oz, oten, ost, oso, omv, otm⟩ := hok
  have hX0 := hX
  obtain ⟨x0, x1, x2, x3, x4, x5, x6, x7, x8, xs, xa, xh, xk, xw, xy, xr, xt⟩ := hX
  have xs : zA (f 4) (X 17) (zsay f) := xs
  have xa : zA (f 4) (X 18) (zat f) := xa
  have xh : zA (f 4) (X 19) (zho f) := xh
  have xk : zA (f 5) (X 20) (zkd f) := xk
  have xw : zA (f 5) (X 21) (zwh f) := xw
  have xy : zA (f 5) (X 22) (zwy f) := xy
  have xr : zA (f 5) (X 23) (zre f) := xr
  have xt : zA (4 * f 7) (X 24) (ztm f) := xt
  have m0 : M 4 0 = zi (f 0) := zM4 hM (by decide)
  have m1 : M 4 1 = zi (f 1) := zM4 hM (by decide)
  have m2 : M 4 2 = zi (f 2) := zM4 hM (by decide)
  have m3 : M 4 3 = zi (f 3) := zM4 hM (by decide)
  have m4 : M 4 4 = zi (f 4) := zM4 hM (by decide)
  have m5 : M 4 5 = zi (f 5) := zM4 hM (by decide)
  have m6 : M 4 6 = zi (f 6) := zM4 hM (by decide)
  have m7 : M 4 7 = zi (f 7) := zM4 hM (by decide)
  obtain ⟨a1, a2, a3, a4, a5⟩ := hac
  have M8 : ∀ (K : Int32 → (Nat → Nat → Int32) → Prop), (k = 0 → K (-1000002 : Int32) (va_up M 0 (upd (M 0) 0 0))) → (0 < k → ∀ w4, zA 94 w4 (iup (znt f (fun i => W (7 * (k - 1) + i)) 6) 6 (W (7 * (k - 1) + 6))) → K (zi (k - 1)) (va_up (va_up M 0 (upd (upd (M 0) 0 0) 8 (zi (k - 1)))) 4 w4)) → wp_X8_undo M K := by
    intro K k1 k2
    unfold wp_X8_undo
    rw [hk8, show (zi k = 0) = (k = 0) from zi_eq (b := 0) (by omega) (by decide), zq1, zi_sub]
    refine ⟨fun c => ?_, fun c => k1 c⟩
    refine nz_l2 (fun j x1 s => ∃ i : Int, x1 = zi i ∧ (0 ≤ i ∧ i ≤ 6) ∧ j = (6 - i).toNat ∧ zA 94 s (znt f (fun i => W (7 * (k - 1) + i)) i)) ?_ (k := (6 - (0 : Int)).toNat) ⟨0, rfl, by omega, rfl, hM.of (fun a ha => znt_ne (fun k hk => by omega))⟩
    rintro j R _ s ⟨i, rfl, hi, hj, hs⟩ next
    unfold S_X8_undo_27
    rw [zq6, zi_le (by decide) (by omega), zq7, zi_mul, zi_add, zi_add, hW.at (by omega), zq8, zq3, zi_mul, zi_add, zq1, zi_add, zi_add]
    refine ⟨fun d => ⟨zi_in (by omega), k2 (by omega) _ ?_⟩, fun d => ⟨zi_in (by omega), zi_in (by omega), next (6 - (i + 1)).toNat _ _ (by omega) ⟨i + 1, rfl, by omega, rfl, ?_⟩⟩⟩
    · obtain rfl : i = 6 := by omega
      exact hs.up (i := 6) (v := W (7 * (k - 1) + 6)) (by decide)
    · rw [hW.at (by omega)]
      have := hs.up (i := 8 + 3 * i + 1) (v := W (7 * (k - 1) + i)) (by omega)
      rw [show 8 + 3 * i + 1 = 9 + 3 * i by omega] at this ⊢
      rw [show W (7 * (k - 1) + i) = (fun i => W (7 * (k - 1) + i)) i from rfl, znt_up (by omega)] at this
      exact this
  unfold wp_X7_undo wX_X0_takeBack_44_16 wp_X0_takeBack
  refine ⟨fun c => ?_, fun c => ?_⟩
  · rw [hk, show (zi k = 0) = (k = 0) from zi_eq (b := 0) (by omega) (by decide)] at c
    have c0 := a5 (by omega)
    rw [hk, zq1, zi_sub, zq6, zi_mul, zq0, zi_lt (by omega) (by decide), zi_lt (by decide) (by decide), zi_lt (by decide) (by decide), zi_cl (by omega), zi_cl (by decide), zi_cl (by decide), zi_cl (by omega)]
    refine ⟨by omega, zi_in (by omega), ?_⟩
    refine M8 _ (fun q => absurd q c) (fun _ w4 hw4 => ⟨rfl, ?_⟩)
    have e : zEt f (iup (znt f (fun i => W (7 * (k - 1) + i)) 6) 6 (W (7 * (k - 1) + 6))) := fun i hi h6 hn => by
      rw [iup_ne h6]
      exact znt_ne (fun q hq => hn q (by omega))
    have ea : ∀ i : Int, 0 ≤ i ∧ i < f 4 → zat (iup (znt f (fun i => W (7 * (k - 1) + i)) 6) 6 (W (7 * (k - 1) + 6))) i = W (7 * (k - 1) + i) := fun i hi => by
      unfold zat
      rw [iup_ne (by omega), znt_at (by omega), if_pos (by omega)]
    have a36 := a3 (k - 1) (by omega)
    refine hR0.now (f := iup (znt f (fun i => W (7 * (k - 1) + i)) 6) 6 (W (7 * (k - 1) + 6))) (W := W) (k := k - 1) hw4 (hok0.et e c0 (by rw [iup_eq]; exact a36.2) ⟨fun i hi => by rw [ea i hi]; exact (a2 (k - 1) i (by omega)).2, fun i hi => by rw [ea i (by omega), ea (i + 1) (by omega)]; exact a4 (k - 1) i (by omega)⟩) (hX0.et hok0 e (fun i hi h5 => ?_) ?_ (fun i hi h18 => ?_) ?_) hW (zAC.eq (f := f) ⟨by omega, fun j i h => a2 j i (by omega), fun j h => a3 j (by omega), fun j i h => a4 j i (by omega), fun _ => c0⟩ e.all.1.2.2.2.2.1 e.all.1.1) rfl rfl (fun i hi => ?_) (fun i h1 h2 h3 h4 h5 h6 h7 => ?_)
    · show upd (X 16) 5 _ i = X 16 i
      exact if_neg h5
    · rw [iup_eq]
      exact a36.1
    · exact (zup1 (by omega)).trans ((zup1 (by omega)).trans (zup1 (by omega)))
    · refine fun a ha => ?_
      rw [ea a ha]
      show (if 0 ≤ a.toNat ∧ a.toNat < 0 + 6 then X 45 (((k - 1) * 6).toNat + (a.toNat - 0)) else X 18 a.toNat) = _
      rw [if_pos (by omega), show ((k - 1) * 6).toNat + (a.toNat - 0) = (6 * (k - 1) + a).toNat by omega]
      exact (a2 (k - 1) a (by omega)).1
    · exact (zup1 (by omega)).trans ((zup1 (by omega)).trans (zup1 (by omega)))
    · exact (zup1 (by omega)).trans (zup1 (by omega))
  · rw [hk, show (zi k = 0) = (k = 0) from zi_eq (b := 0) (by omega) (by decide)] at c
    exact M8 _ (fun _ => ⟨rfl, hR0.th⟩) (fun q => absurd q (by omega))
