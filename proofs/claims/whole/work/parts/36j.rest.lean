abbrev zsm (f p q : Int → Int) : Prop := ∀ k : Int, 0 ≤ k ∧ k < f 4 → q k = p k
theorem x_alike {f p q : Int → Int} {n : Int32} {fp fq : Nat → Int32} {K : Int32 → Prop} (hok : zOK f) (hn : n = zi (f 4)) (hp : zA (f 4) fp q) (hq : zA (f 4) fq p) (sp : zS f q) (sq : zS f p) (h1 : zsm f p q → K 1) (h0 : ¬ zsm f p q → K 0) : wp_X5_standAlike_pq n fp fq K := by
  have hnn := hok.nn
  unfold wp_X5_standAlike_pq
  rw [hn]
  refine nz_l1 (fun j x => ∃ i : Int, x = zi i ∧ (0 ≤ i ∧ i ≤ f 4) ∧ j = (f 4 - i).toNat ∧ ∀ k : Int, 0 ≤ k ∧ k < i → q k = p k) ?_ (k := (f 4 - 0).toNat) ⟨0, rfl, by omega, rfl, fun k hk => by omega⟩
  rintro j R _ ⟨i, rfl, hi, hj, hk⟩ next
  unfold S_X5_standAlike_pq_2
  rw [zi_le (by omega) (by omega)]
  refine ⟨fun c => ?_, fun c => ⟨zi_in (by omega), zi_in (by omega), ?_⟩⟩
  · obtain rfl : i = f 4 := by omega
    exact h1 hk
  · have r1 := sp.1 i (by omega)
    have r2 := sq.1 i (by omega)
    rw [hp.at (by omega), hq.at (by omega), zi_eq (by omega) (by omega), zq1, zi_add]
    refine ⟨fun e => next (f 4 - (i + 1)).toNat _ (by omega) ⟨i + 1, rfl, by omega, rfl, fun k hk' => ?_⟩, fun e => h0 (fun z => e (z i (by omega)))⟩
    by_cases g : k = i
    · rw [g]; exact e
    · exact hk k (by omega)
noncomputable def zrr (f : Int → Int) : Nat → Int → Int → (Int → Int) → Int
  | 0, _, _, _ => -1000000
  | k + 1, n, s, p => @ite Int (zsm f p (zpa f 31 (f 6 + n) (f 5).toNat p)) (Classical.propDecidable _) (if s + 1 = 2 then n - 1 else zrr f k (n + 1) (s + 1) (zpa f 31 (f 6 + n) (f 5).toNat p)) (zrr f k (n + 1) 0 (zpa f 31 (f 6 + n) (f 5).toNat p))
theorem zrr_1 {f : Int → Int} {k : Nat} {n s : Int} {p : Int → Int} (h : zsm f p (zpa f 31 (f 6 + n) (f 5).toNat p)) : zrr f (k + 1) n s p = if s + 1 = 2 then n - 1 else zrr f k (n + 1) (s + 1) (zpa f 31 (f 6 + n) (f 5).toNat p) := if_pos h
theorem zrr_0 {f : Int → Int} {k : Nat} {n s : Int} {p : Int → Int} (h : ¬ zsm f p (zpa f 31 (f 6 + n) (f 5).toNat p)) : zrr f (k + 1) n s p = zrr f k (n + 1) 0 (zpa f 31 (f 6 + n) (f 5).toNat p) := if_neg h
theorem m_same {f p q : Int → Int} {f5 w b : Nat → Int32} {K : Int32 → (Nat → Int32) → (Nat → Int32) → Prop} (hok : zOK f) (h5 : zA 94 f5 f) (hw : zA (f 4) w q) (hb : zA (f 4) b p) (sp : zS f q) (sq : zS f p) (h1 : zsm f p q → K 1 w b) (h0 : ¬ zsm f p q → K 0 w b) : ∃ n, nz_it (fun _ _ => False) (S_X8_rests_37 f5 w b K) n 1 0 := by
  have hnn := hok.nn
  have e4 : f5 4 = zi (f 4) := zM4 h5 (by decide)
  refine nz_l2 (fun j x2 x3 => ∃ i : Int, x3 = zi i ∧ (0 ≤ i ∧ i ≤ f 4) ∧ j = (f 4 - i).toNat ∧ ((x2 = 1 ∧ ∀ k : Int, 0 ≤ k ∧ k < i → q k = p k) ∨ (x2 = 0 ∧ ¬ zsm f p q))) ?_ (k := (f 4 - 0).toNat) ⟨0, rfl, by omega, rfl, Or.inl ⟨rfl, fun k hk => by omega⟩⟩
  rintro j R x2 _ ⟨i, rfl, hi, hj, hx⟩ next
  unfold S_X8_rests_37
  rw [e4, zi_le (by omega) (by omega), zq1, zi_add]
  refine ⟨fun c => ?_, fun c => ⟨fun z => ?_, fun z => ⟨zi_in (by omega), zi_in (by omega), ?_⟩⟩⟩
  · obtain rfl : i = f 4 := by omega
    rcases hx with ⟨rfl, g⟩ | ⟨rfl, g⟩
    · exact ⟨rfl, h1 g⟩
    · exact ⟨rfl, h0 g⟩
  · rcases hx with ⟨rfl, g⟩ | ⟨_, g⟩
    · exact absurd z (by decide)
    · exact next (f 4 - (i + 1)).toNat _ _ (by omega) ⟨i + 1, rfl, by omega, rfl, Or.inr ⟨rfl, g⟩⟩
  · have r1 := sp.1 i (by omega)
    have r2 := sq.1 i (by omega)
    rw [hw.at (by omega), hb.at (by omega), zi_eq (by omega) (by omega)]
    refine ⟨fun e => next (f 4 - (i + 1)).toNat _ _ (by omega) ⟨i + 1, rfl, by omega, rfl, Or.inr ⟨rfl, fun g => e (g i (by omega))⟩⟩, fun e => ?_⟩
    rcases hx with ⟨rfl, g⟩ | ⟨rfl, g⟩
    · refine next (f 4 - (i + 1)).toNat _ _ (by omega) ⟨i + 1, rfl, by omega, rfl, Or.inl ⟨rfl, fun k hk => ?_⟩⟩
      by_cases d : k = i
      · rw [d]; exact e
      · exact g k (by omega)
    · exact absurd rfl z
theorem m_rests {f p : Int → Int} {f5 w b : Nat → Int32} {t : Int} {K : Int32 → (Nat → Int32) → (Nat → Int32) → Prop} (hok : zOK f) (h5 : zA 94 f5 f) (hw : zA (f 4) w p) (hS : zS f p) (ht : 0 ≤ t ∧ t ≤ 20000) (h1 : zsm f p (zpa f 31 t (f 5).toNat p) → ∀ s b, zA (f 4) s (zpa f 31 t (f 5).toNat p) → K 1 s b) (h0 : ¬ zsm f p (zpa f 31 t (f 5).toNat p) → ∀ s b, zA (f 4) s (zpa f 31 t (f 5).toNat p) → K 0 s b) : wp_X8_rests f5 w b (zi t) K := by
  have hnn := hok.nn
  unfold wp_X8_rests
  refine nz_l2 (fun j x2 s => ∃ i : Nat, x2 = zi i ∧ i ≤ 6 ∧ j = 6 - i ∧ ∀ k : Nat, k < i → s k = w k) ?_ (k := 6 - 0) ⟨0, rfl, by omega, rfl, fun k hk => by omega⟩
  rintro j R _ s ⟨i, rfl, hi, hj, hs⟩ next
  unfold S_X8_rests_2
  rw [zq6, zi_le (by decide) (by omega), zq1, zi_add]
  refine ⟨fun c => ?_, fun c => ⟨zi_in (by omega), zi_in (by omega), next (6 - (i + 1)) _ _ (by omega) ⟨i + 1, rfl, by omega, rfl, fun k hk => ?_⟩⟩⟩
  · have hb : zA (f 4) s p := fun a ha => by
      rw [hs a.toNat (by omega)]
      exact hw a ha
    refine m_goNight hok h5 hw hS ht (fun q hq => ?_)
    exact m_same hok h5 hq hb (zS.pa hok _ _ hS (by omega)) hS (fun g => h1 g _ _ hq) (fun g => h0 g _ _ hq)
  · rw [zi_cl (by omega)]
    show (if k = ((i : Nat) : Int).toNat then w ((i : Nat) : Int).toNat else s k) = w k
    by_cases e : k = i
    · rw [e, if_pos (by omega)]
      congr 1
    · rw [if_neg (by omega)]
      exact hs k (by omega)
theorem pub_rest {X M : Nat → Nat → Int32} (hR : nz_Rel X M) : wp_X7_rest X (fun r X1 => wp_X8_rest M (fun r1 M1 => r = r1 ∧ nz_Rel X1 M1)) := by
  have hR0 := hR
  obtain ⟨hRD, hRW, hTP, hTR, hla, hst⟩ := hR
  obtain ⟨f, g0, g1, W, k, hM, hok, hX, hI0, hI1, hW, hac, hk, hk8⟩ := hRD
  have hok0 := hok
  obtain ⟨ol, of', os, ofi, ons, onm, onn, ont, oz, oten, ost, oso, omv, otm⟩ := hok
  have hX0 := hX
  obtain ⟨x0, x1, x2, x3, x4, x5, x6, x7, x8, xs, xa, xh, xk, xw, xy, xr, xt⟩ := hX
  have xs : zA (f 4) (X 17) (zsay f) := xs
  have xa : zA (f 4) (X 18) (zat f) := xa
  have xh : zA (f 4) (X 19) (zho f) := xh
  have xk : zA (f 5) (X 20) (zkd f) := xk
  have xw : zA (f 5) (X 21) (zwh f) := xw
  have xy : zA (f 5) (X 22) (zwy f) := xy
  have xr : zA (f 5) (X 23) (zre f) := xr
  have xt : zA (4 * f 7) (X 24) (ztm f) := xt
  have m0 : M 4 0 = zi (f 0) := zM4 hM (by decide)
  have m1 : M 4 1 = zi (f 1) := zM4 hM (by decide)
  have m2 : M 4 2 = zi (f 2) := zM4 hM (by decide)
  have m3 : M 4 3 = zi (f 3) := zM4 hM (by decide)
  have m4 : M 4 4 = zi (f 4) := zM4 hM (by decide)
  have m5 : M 4 5 = zi (f 5) := zM4 hM (by decide)
  have m6 : M 4 6 = zi (f 6) := zM4 hM (by decide)
  have m7 : M 4 7 = zi (f 7) := zM4 hM (by decide)
  have M8 : ∀ (K : Int32 → (Nat → Nat → Int32) → Prop), (f 0 ≤ 0 → K (-1000002 : Int32) (va_up M 0 (upd (M 0) 0 0))) → (0 < f 0 → ∀ c8 c10, K (zi (zrr f 62 0 0 (zat f))) (va_up (va_up (va_up M 0 (upd (M 0) 0 0)) 8 c8) 10 c10)) → wp_X8_rest M K := by
    intro K k1 k2
    unfold wp_X8_rest wp_X8_isThere
    rw [m0, show (zi (f 0) ≤ 0) = (f 0 ≤ 0) from zi_le (b := 0) (by omega) (by decide)]
    refine ⟨fun d => by0 (k1 d), fun d => by1 (m_layAt hok0 hM (fun w hw => ?_))⟩
    refine nz_l4 (fun j x1 x2 c8 c10 => ∃ (n s : Int) (p : Int → Int), x1 = zi s ∧ x2 = zi n ∧ (0 ≤ n ∧ n ≤ 62) ∧ (0 ≤ s ∧ s ≤ 1) ∧ j = (62 - n).toNat ∧ zA (f 4) c8 p ∧ zS f p ∧ zrr f j n s p = zrr f 62 0 0 (zat f)) ?_ (k := 62) ⟨0, 0, zat f, rfl, rfl, by omega, by omega, rfl, hw, hok0.sa, rfl⟩
    rintro j R _ _ c8 c10 ⟨n, s, p, rfl, rfl, hn, hs, hj, hp, hS, hr⟩ next
    unfold S_X8_rest_24
    rw [m6, show (61 : Int32) = zi 61 from rfl, zi_lt (by decide) (by omega), zi_add, zq1, zi_add, zi_add, zi_sub, zq2, zi_eq (by omega) (by decide)]
    refine ⟨fun c => ?_, fun c => ?_⟩
    · have : j = 0 := by omega
      rw [this] at hr
      have := k2 (by omega) c8 c10
      rw [← hr] at this
      exact this
    · obtain ⟨i, rfl⟩ : ∃ i, j = i + 1 := ⟨j - 1, by omega⟩
      have hS' := zS.pa hok0 (a := 31) (t := f 6 + n) (f 5).toNat p hS (by omega)
      refine m_rests hok0 hM hp hS (by omega) (fun g w b hwb => by1' ⟨fun e => ?_, fun e => ?_⟩) (fun g w b hwb => by0' ?_)
      · rw [zrr_1 g, if_neg e] at hr
        exact next i _ _ _ _ rfl ⟨n + 1, s + 1, _, rfl, rfl, by omega, by omega, by omega, hwb, hS', hr⟩
      · rw [zrr_1 g, if_pos e] at hr
        rw [hr]
        exact k2 (by omega) w b
      · rw [zrr_0 g] at hr
        exact next i _ _ _ _ rfl ⟨n + 1, 0, _, rfl, rfl, by omega, by omega, by omega, hwb, hS', hr⟩
  unfold wp_X7_rest wX_X2_nightsToRest_49_16 wp_X2_nightsToRest
  refine ⟨fun c0 => ?_, fun c0 => ?_⟩
  · have c0 : 0 < f 0 := by
      apply Classical.byContradiction
      intro z
      rw [x0, if_neg z] at c0
      exact c0 rfl
    rw [x1, x5, x6, x7]
    refine nz_l4 (fun j x1 x2 c8 c10 => ∃ (n s : Int) (p : Int → Int), x1 = zi s ∧ x2 = zi n ∧ (0 ≤ n ∧ n ≤ 62) ∧ (0 ≤ s ∧ s ≤ 1) ∧ j = (62 - n).toNat ∧ zA (f 4) c8 p ∧ zS f p ∧ zrr f j n s p = zrr f 62 0 0 (zat f)) ?_ (k := 62) ⟨0, 0, zat f, rfl, rfl, by omega, by omega, rfl, xa.cpy (by omega), hok0.sa, rfl⟩
    rintro j R _ _ c8 c10 ⟨n, s, p, rfl, rfl, hn, hs, hj, hp, hS, hr⟩ next
    unfold S_X2_nightsToRest_19
    rw [zq62, zi_le (by decide) (by omega), zi_add, zq1, zi_add, zi_add, zi_sub, zq2, zi_eq (by omega) (by decide)]
    have fin : ∀ (a : Int) c8 c10, a = zrr f 62 0 0 (zat f) → wp_X8_rest M (fun r1 M1 => zi a = r1 ∧ nz_Rel (va_up (va_up X 50 c8) 51 c10) M1) := fun a c8 c10 ha => M8 _ (fun q => absurd q (by omega)) (fun _ d8 d10 => ⟨by rw [ha], hR0.scr (fun i hi => (zup1 (by omega)).trans (zup1 (by omega))) (fun i h1 h8 h9 h10 => (zup1 (by omega)).trans ((zup1 (by omega)).trans (zup1 (by omega))))⟩)
    refine ⟨fun c => ?_, fun c => ?_⟩
    · have : j = 0 := by omega
      rw [this] at hr
      exact fin _ _ _ hr
    · obtain ⟨i, rfl⟩ : ∃ i, j = i + 1 := ⟨j - 1, by omega⟩
      have hS' := zS.pa hok0 (a := 31) (t := f 6 + n) (f 5).toNat p hS (by omega)
      refine x_pass hok0 (by omega) xh xk xw xy xr hp hS (fun w hwb => ?_)
      refine x_alike hok0 rfl hwb (hp.cpy (by omega)) hS' hS (fun g => by1' ⟨fun e => ?_, fun e => ?_⟩) (fun g => by0' ?_)
      · rw [zrr_1 g, if_neg e] at hr
        exact next i _ _ _ _ rfl ⟨n + 1, s + 1, _, rfl, rfl, by omega, by omega, by omega, hwb, hS', hr⟩
      · rw [zrr_1 g, if_pos e] at hr
        exact fin _ _ _ hr
      · rw [zrr_0 g] at hr
        exact next i _ _ _ _ rfl ⟨n + 1, 0, _, rfl, rfl, by omega, by omega, by omega, hwb, hS', hr⟩
  · refine M8 _ (fun _ => ⟨rfl, hR0.th⟩) (fun q => ?_)
    rw [x0, zth q] at c0
    exact absurd c0 (by decide)
def zwn (f : Int → Int) (a : Int32) : Nat → Int → Int
  | 0 => zho f
  | j + 1 => zpa f a j (f 5).toNat (zwn f a j)
theorem zwn_S {f : Int → Int} (hok : zOK f) (a : Int32) : ∀ n : Nat, zS f (zwn f a n)
  | 0 => hok.sh
  | j + 1 => zS.pa hok _ _ (zwn_S hok a j) (by have := hok.nn; omega)
theorem x_fits {f : Int → Int} {e0 f10 f11 f12 f13 f14 f15 : Nat → Int32} {a : Int32} {n : Int} {K : Int32 → (Nat → Int32) → Prop} (hok : zOK f) (hn : 0 ≤ n ∧ n ≤ 9) (h10 : zA (f 4) f10 (zat f)) (h11 : zA (f 4) f11 (zho f)) (h12 : zA (f 5) f12 (zkd f)) (h13 : zA (f 5) f13 (zwh f)) (h14 : zA (f 5) f14 (zwy f)) (h15 : zA (f 5) f15 (zre f)) (h1 : zsm f (zat f) (zwn f a n.toNat) → ∀ s, K 1 s) (h0 : ¬ zsm f (zat f) (zwn f a n.toNat) → ∀ s, K 0 s) : wp_X2_fits e0 (zi (f 0)) (zi (f 4)) (zi (f 5)) f10 f11 f12 f13 f14 f15 (zi n) a K := by
  have hnn := hok.nn
  unfold wp_X2_fits
  refine nz_l2 (fun j x s => ∃ i : Nat, x = zi i ∧ (i : Int) ≤ n ∧ j = n.toNat - i ∧ zA (f 4) s (zwn f a i)) ?_ (k := n.toNat - 0) ⟨0, rfl, by omega, rfl, h11.cpy (by omega)⟩
  rintro j R _ s ⟨i, rfl, hi, hj, hs⟩ next
  unfold S_X2_fits_18
  rw [zi_le (by omega) (by omega), zq1, zi_add]
  refine ⟨fun c => ?_, fun c => x_pass hok (by omega) h11 h12 h13 h14 h15 hs (zwn_S hok a i) (fun w hw => next (n.toNat - (i + 1)) _ _ (by omega) ⟨i + 1, rfl, by omega, rfl, hw⟩)⟩
  obtain rfl : i = n.toNat := by omega
  show wp_X5_standAlike_pq (zi (f 4)) s f10 (fun q2 => fits .boolean (.int q2) = true ∧ K q2 s)
  exact x_alike hok rfl hs h10 (zwn_S hok a _) hok.sa (fun g => ⟨rfl, h1 g s⟩) (fun g => ⟨rfl, h0 g s⟩)
theorem m_standsBy {f : Int → Int} {f5 w : Nat → Int32} {a : Int32} {n : Int} {K : Int32 → (Nat → Int32) → Prop} (hok : zOK f) (hn : 0 ≤ n ∧ n ≤ 9) (h5 : zA 94 f5 f) (h1 : zsm f (zat f) (zwn f a n.toNat) → ∀ s, K 1 s) (h0 : ¬ zsm f (zat f) (zwn f a n.toNat) → ∀ s, K 0 s) : wp_X8_standsBy f5 w (zi n) a K := by
  have hnn := hok.nn
  have e4 : f5 4 = zi (f 4) := zM4 h5 (by decide)
  unfold wp_X8_standsBy
  refine m_layHo hok h5 (fun w hw => ?_)
  refine nz_l2 (fun j x s => ∃ i : Nat, x = zi i ∧ (i : Int) ≤ n ∧ j = n.toNat - i ∧ zA (f 4) s (zwn f a i)) ?_ (k := n.toNat - 0) ⟨0, rfl, by omega, rfl, hw⟩
  rintro j R _ s ⟨i, rfl, hi, hj, hs⟩ next
  unfold S_X8_standsBy_7
  rw [zi_le (by omega) (by omega)]
  refine ⟨fun c => ?_, fun c => m_goNight hok h5 hs (zwn_S hok a i) (by omega) (fun w hw => next (n.toNat - (i + 1)) _ _ (by omega) ⟨i + 1, by rw [zq1, zi_add]; rfl, by omega, rfl, hw⟩)⟩
  obtain rfl : i = n.toNat := by omega
  refine nz_l2 (fun j x2 x3 => ∃ i : Int, x3 = zi i ∧ (0 ≤ i ∧ i ≤ f 4) ∧ j = (f 4 - i).toNat ∧ ((x2 = 1 ∧ ∀ k : Int, 0 ≤ k ∧ k < i → zwn f a n.toNat k = zat f k) ∨ (x2 = 0 ∧ ¬ zsm f (zat f) (zwn f a n.toNat)))) ?_ (k := (f 4 - 0).toNat) ⟨0, rfl, by omega, rfl, Or.inl ⟨rfl, fun k hk => by omega⟩⟩
  rintro j1 R1 x2 _ ⟨i, rfl, hi, hj1, hx⟩ next1
  unfold S_X8_standsBy_29
  rw [e4, zi_le (by omega) (by omega)]
  refine ⟨fun c => ?_, fun c => ⟨fun z => ?_, fun z => ⟨zi_in (by omega), m_at h5 (by omega) ?_⟩⟩⟩
  · obtain rfl : i = f 4 := by omega
    rcases hx with ⟨rfl, g⟩ | ⟨rfl, g⟩
    · exact ⟨rfl, h1 g s⟩
    · exact ⟨rfl, h0 g s⟩
  · rcases hx with ⟨rfl, g⟩ | ⟨_, g⟩
    · exact absurd z (by decide)
    · exact next1 (f 4 - (i + 1)).toNat _ _ (by omega) ⟨i + 1, by rw [zq1, zi_add], by omega, rfl, Or.inr ⟨rfl, g⟩⟩
  · have r1 := (zwn_S hok a n.toNat).1 i (by omega)
    have r2 := (hok.st (k := i) (by omega)).2.1
    rw [hs.at (by omega), zi_eq (by omega) (by omega)]
    refine ⟨fun e => next1 (f 4 - (i + 1)).toNat _ _ (by omega) ⟨i + 1, by rw [zq1, zi_add], by omega, rfl, Or.inr ⟨rfl, fun g => e (g i (by omega))⟩⟩, fun e => ?_⟩
    rcases hx with ⟨rfl, g⟩ | ⟨rfl, g⟩
    · refine next1 (f 4 - (i + 1)).toNat _ _ (by omega) ⟨i + 1, by rw [zq1, zi_add], by omega, rfl, Or.inl ⟨rfl, fun k hk => ?_⟩⟩
      by_cases d : k = i
      · rw [d]; exact e
      · exact g k (by omega)
    · exact absurd rfl z
noncomputable def zcf (P : Int → Prop) : Nat → Int
  | 0 => 0
  | n + 1 => zcf P n + @ite Int (P n) (Classical.propDecidable _) 1 0
theorem zcf_1 {P : Int → Prop} {n : Nat} (h : P n) : zcf P (n + 1) = zcf P n + 1 := by
  show zcf P n + @ite Int (P n) (Classical.propDecidable _) 1 0 = _
  rw [if_pos h]
theorem zcf_0 {P : Int → Prop} {n : Nat} (h : ¬ P n) : zcf P (n + 1) = zcf P n := by
  show zcf P n + @ite Int (P n) (Classical.propDecidable _) 1 0 = _
  rw [if_neg h]
  omega
def zls (P : Int → Prop) (j N l : Int) : Prop := (l = -1000000 ∧ ∀ s : Int, j ≤ s ∧ s < N → ¬ P s) ∨ (j ≤ l ∧ l < N ∧ P l ∧ ∀ s : Int, j ≤ s ∧ s < l → ¬ P s)
theorem zls_eq {P : Int → Prop} {N l m : Int} (h : zls P 0 N l) (g : zls P 0 N m) : l = m := by
  rcases h with ⟨h1, h2⟩ | ⟨h1, h2, h3, h4⟩
  · rcases g with ⟨g1, g2⟩ | ⟨g1, g2, g3, g4⟩
    · omega
    · exact absurd g3 (h2 m (by omega))
  · rcases g with ⟨g1, g2⟩ | ⟨g1, g2, g3, g4⟩
    · exact absurd h3 (g2 l (by omega))
    · rcases Int.lt_trichotomy l m with c | c | c
      · exact absurd h3 (g4 l (by omega))
      · exact c
      · exact absurd g3 (h4 m (by omega))
theorem zpw : ∀ n, n < 6 → 2 ^ n ≤ 32 ∧ 1 ≤ 2 ^ n := by decide
theorem pub_who {X M : Nat → Nat → Int32} (hR : nz_Rel X M) (v1 : Int32) (v2 : Int32) : wp_X7_who X v1 v2 (fun r X1 => wp_X8_who M v1 v2 (fun r1 M1 => r = r1 ∧ nz_Rel X1 M1)) := by
  have hR0 := hR
  obtain ⟨hRD, hRW, hTP, hTR, hla, hst⟩ := hR
  obtain ⟨f, g0, g1, W, k, hM, hok, hX, hI0, hI1, hW, hac, hk, hk8⟩ := hRD
  have hok0 := hok
  obtain ⟨ol, of', os, ofi, ons, onm, onn, ont, oz, oten, ost, oso, omv, otm⟩ := hok
  have hX0 := hX
  obtain ⟨x0, x1, x2, x3, x4, x5, x6, x7, x8, xs, xa, xh, xk, xw, xy, xr, xt⟩ := hX
  have xs : zA (f 4) (X 17) (zsay f) := xs
  have xa : zA (f 4) (X 18) (zat f) := xa
  have xh : zA (f 4) (X 19) (zho f) := xh
  have xk : zA (f 5) (X 20) (zkd f) := xk
  have xw : zA (f 5) (X 21) (zwh f) := xw
  have xy : zA (f 5) (X 22) (zwy f) := xy
  have xr : zA (f 5) (X 23) (zre f) := xr
  have xt : zA (4 * f 7) (X 24) (ztm f) := xt
  have m0 : M 4 0 = zi (f 0) := zM4 hM (by decide)
  have m1 : M 4 1 = zi (f 1) := zM4 hM (by decide)
  have m2 : M 4 2 = zi (f 2) := zM4 hM (by decide)
  have m3 : M 4 3 = zi (f 3) := zM4 hM (by decide)
  have m4 : M 4 4 = zi (f 4) := zM4 hM (by decide)
  have m5 : M 4 5 = zi (f 5) := zM4 hM (by decide)
  have m6 : M 4 6 = zi (f 6) := zM4 hM (by decide)
  have m7 : M 4 7 = zi (f 7) := zM4 hM (by decide)
  obtain ⟨n, rn, rfl⟩ := zi_ex v1
  obtain ⟨w, rw', rfl⟩ := zi_ex v2
  obtain ⟨b, hb⟩ := Int.eq_ofNat_of_zero_le (show 0 ≤ f 5 by omega)
  have hb6 : b < 6 := by omega
  obtain ⟨N, hN⟩ : ∃ N : Nat, N = 2 ^ b := ⟨_, rfl⟩
  have hN2 := zpw b hb6
  rw [← hN] at hN2
  have sh : (1 : Int32) <<< (zi (f 5) &&& 31) = zi N := by
    rw [hb, hN]
    exact zpow5 b (by omega)
  obtain ⟨P, hP⟩ : ∃ P : Int → Prop, P = fun s => zsm f (zat f) (zwn f (zi s) n.toNat) := ⟨_, rfl⟩
  have M8 : ∀ (K : Int32 → (Nat → Nat → Int32) → Prop), (f 0 ≤ 0 → K (-1000002 : Int32) (va_up M 0 (upd (M 0) 0 0))) → (0 < f 0 → ¬ ((0 ≤ n ∧ n ≤ 9) ∧ (0 ≤ w ∧ w ≤ 1)) → K (-1000001 : Int32) (va_up M 0 (upd (M 0) 0 0))) → (0 < f 0 → (0 ≤ n ∧ n ≤ 9) ∧ (0 ≤ w ∧ w ≤ 1) → (w = 0 → ∀ c8, K (zi (zcf P N)) (va_up (va_up M 0 (upd (M 0) 0 0)) 8 c8)) ∧ (w = 1 → ∀ c8 l, zls P 0 N l → K (zi l) (va_up (va_up M 0 (upd (M 0) 0 0)) 8 c8))) → wp_X8_who M (zi n) (zi w) K := by
    intro K k1 k2 k3
    unfold wp_X8_who wp_X8_isThere
    rw [m0, show (zi (f 0) ≤ 0) = (f 0 ≤ 0) from zi_le (b := 0) (by omega) (by decide), m5, sh]
    refine ⟨fun d => by0 (k1 d), fun d => by1 (s_in (a := n) (l := 0) (u := 9) (z64 rn) rfl rfl (fun c1 => by1' (s_in (a := w) (l := 0) (u := 1) (z64 rw') rfl rfl (fun c2 => by1 ?_) (fun c2 => by0 (k2 (by omega) (by omega))))) (fun c1 => by0' (k2 (by omega) (by omega))))⟩
    obtain ⟨k4, k5⟩ := k3 (by omega) ⟨c1, c2⟩
    rw [zq1, zi_sub]
    refine nz_l4 (fun j x3 x4 x5 s => ∃ l : Int, x3 = zi (zcf P N - zcf P j) ∧ x4 = zi l ∧ x5 = zi ((j : Int) - 1) ∧ j ≤ N ∧ zls P j N l) ?_ (k := N) ⟨-1000000, by rw [Int.sub_self]; rfl, rfl, rfl, Nat.le_refl _, Or.inl ⟨rfl, fun s hs => by omega⟩⟩
    rintro j R _ _ _ s ⟨l, rfl, rfl, rfl, hj, hl⟩ next
    unfold S_X8_who_58
    rw [zq0, zi_lt (by omega) (by decide), zi_eq (by omega) (by decide)]
    refine ⟨fun e => ⟨fun g => ?_, fun g => ?_⟩, fun e => ?_⟩
    · obtain rfl : j = 0 := by omega
      exact k5 (by omega) s l hl
    · obtain rfl : j = 0 := by omega
      have := k4 g s
      rw [show zcf P N - zcf P 0 = zcf P N from Int.sub_zero _]
      exact this
    · obtain ⟨i, rfl⟩ : ∃ i, j = i + 1 := ⟨j - 1, by omega⟩
      have ei : ((i + 1 : Nat) : Int) - 1 = i := by omega
      rw [ei, show (-1 : Int32) = zi (-1) from rfl, zi_add, zq1, zi_add]
      refine m_standsBy hok0 c1 hM (fun g s => by1' ?_) (fun g s => by0' ?_)
      · have hp : P i := by rw [hP]; exact g
        refine next i _ _ _ _ rfl ⟨i, ?_, rfl, rfl, by omega, Or.inr ⟨by omega, by omega, hp, fun s hs => by omega⟩⟩
        rw [zcf_1 hp]
        congr 1
        omega
      · have hp : ¬ P i := by rw [hP]; exact g
        refine next i _ _ _ _ rfl ⟨l, by rw [zcf_0 hp], rfl, rfl, by omega, ?_⟩
        have h2 : ∀ s : Int, s = i → ¬ P s := fun s hs => by rw [hs]; exact hp
        rcases hl with ⟨l1, l2⟩ | ⟨l1, l2, l3, l4⟩
        · refine Or.inl ⟨l1, fun s hs => ?_⟩
          by_cases e : s = i
          · exact h2 s e
          · exact l2 s (by omega)
        · refine Or.inr ⟨by omega, l2, l3, fun s hs => ?_⟩
          by_cases e : s = i
          · exact h2 s e
          · exact l4 s (by omega)
  have scr : ∀ c50 c8, nz_Rel (va_up X 50 c50) (va_up (va_up M 0 (upd (M 0) 0 0)) 8 c8) := fun c50 c8 => hR0.scr (fun i hi => zup1 (by omega)) (fun i h1 h8 h9 h10 => (zup1 (by omega)).trans (zup1 (by omega)))
  unfold wp_X7_who wX_X7_isAmong wX_X2_leastSetThatFits_49_16 wX_X2_setsThatFit_49_16 wp_X2_leastSetThatFits wp_X2_setsThatFit
  refine ⟨fun c0 => ?_, fun c0 => ?_⟩
  · have c0 : 0 < f 0 := by
      apply Classical.byContradiction
      intro z
      rw [x0, if_neg z] at c0
      exact c0 rfl
    have MB : ¬ ((0 ≤ n ∧ n ≤ 9) ∧ (0 ≤ w ∧ w ≤ 1)) → wp_X8_who M (zi n) (zi w) (fun r1 M1 => (-1000001 : Int32) = r1 ∧ nz_Rel X M1) := fun h => M8 _ (fun q => absurd q (by omega)) (fun _ _ => ⟨rfl, hR0.th⟩) (fun _ q => absurd q h)
    refine s_among (a := n) (l := 0) (u := 9) rfl rfl rfl (by omega) (fun c1 => by1' (s_among (a := w) (l := 0) (u := 1) rfl rfl rfl (by omega) (fun c2 => by1 ?_) (fun c2 => by0 (MB (by omega))))) (fun c1 => by0' (MB (by omega)))
    have M9 : ∀ (K : Int32 → (Nat → Nat → Int32) → Prop), _ → wp_X8_who M (zi n) (zi w) K := fun K h => M8 K (fun q => absurd q (by omega)) (fun _ q => absurd ⟨c1, c2⟩ q) (fun _ _ => h)
    rw [x1, x6, x7, show (zi w = 0) = (w = 0) from zi_eq (b := 0) (by omega) (by decide)]
    refine ⟨fun d => ?_, fun d => ?_⟩
    · refine nz_l2 (fun j x3 s => ∃ i : Nat, x3 = zi i ∧ i ≤ N ∧ j = N - i ∧ ∀ s : Int, 0 ≤ s ∧ s < i → ¬ P s) ?_ (k := N - 0) ⟨0, rfl, by omega, rfl, fun s hs => by omega⟩
      rintro j R _ s ⟨i, rfl, hi, hj, hp⟩ next
      unfold S_X2_leastSetThatFits_2
      rw [sh, zi_le (by omega) (by omega)]
      refine ⟨fun e => ?_, fun e => ?_⟩
      · refine M9 _ ⟨fun q => absurd q d, fun _ c8 l hl => ⟨?_, scr _ _⟩⟩
        rw [zls_eq hl (Or.inl ⟨rfl, fun s hs => hp s (by omega)⟩)]
        rfl
      · refine x_fits hok0 c1 xa xh xk xw xy xr (fun g s => by1' ?_) (fun g s => by0' ?_)
        · refine M9 _ ⟨fun q => absurd q d, fun _ c8 l hl => ⟨?_, scr _ _⟩⟩
          rw [zls_eq hl (Or.inr ⟨by omega, by omega, by rw [hP]; exact g, hp⟩)]
        · refine next (N - (i + 1)) _ _ (by omega) ⟨i + 1, by rw [zq1, zi_add]; rfl, by omega, rfl, fun s hs => ?_⟩
          by_cases e : s = i
          · rw [e, hP]; exact g
          · exact hp s (by omega)
    · refine nz_l3 (fun j x3 x4 s => ∃ i : Nat, x3 = zi (zcf P i) ∧ x4 = zi i ∧ i ≤ N ∧ j = N - i) ?_ (k := N - 0) ⟨0, rfl, rfl, by omega, rfl⟩
      rintro j R _ _ s ⟨i, rfl, rfl, hi, hj⟩ next
      unfold S_X2_setsThatFit_5
      rw [sh, zi_le (by omega) (by omega)]
      refine ⟨fun e => ?_, fun e => ?_⟩
      · obtain rfl : i = N := by omega
        exact M9 _ ⟨fun _ c8 => ⟨rfl, scr _ _⟩, fun q => absurd d (by omega)⟩
      · refine x_fits hok0 c1 xa xh xk xw xy xr (fun g s => by1' ?_) (fun g s => by0' ?_)
        · have hp : P i := by rw [hP]; exact g
          exact next (N - (i + 1)) _ _ _ (by omega) ⟨i + 1, by rw [zcf_1 hp, zq1, zi_add], by rw [zq1, zi_add]; rfl, by omega, rfl⟩
        · have hp : ¬ P i := by rw [hP]; exact g
          exact next (N - (i + 1)) _ _ _ (by omega) ⟨i + 1, by rw [zcf_0 hp], by rw [zq1, zi_add]; rfl, by omega, rfl⟩
  · refine M8 _ (fun _ => ⟨rfl, hR0.th⟩) (fun q => ?_) (fun q => ?_)
    · rw [x0, zth q] at c0
      exact absurd c0 (by decide)
    · rw [x0, zth q] at c0
      exact absurd c0 (by decide)
