theorem aNu_s {t : Int} {B : Int → Int} {lo hi : Int} {u : zU} (h : ¬ u.2.2.2 = 0) : aNu t B lo hi u = u := by
  unfold aNu
  rw [aNx_1 h, aBl_1 h, aBl_1 h]
  split
  · split <;> rfl
  · rfl
theorem aEn_s {t : Int} {B : Int → Int} {u : zU} (h : ¬ u.2.2.2 = 0) : aEn t B u = u := by
  unfold aEn
  rw [aNx_1 h, aBl_1 h]
  split <;> rfl
def zPV (g : Int → Int) (n : Int) : Prop := (10 ≤ g 0 ∧ g 0 ≤ 200) ∧ (0 ≤ g 1 ∧ g 1 ≤ 20) ∧ (0 ≤ g 2 ∧ g 2 ≤ 100) ∧ (0 ≤ g 3 ∧ g 3 ≤ 99) ∧ (g 4 = n ∧ g 6 = 0 ∧ g 7 = 0) ∧ (0 ≤ n ∧ n ≤ 6) ∧
  (∀ k : Int, 0 ≤ k ∧ k < n → (0 ≤ zsay g k ∧ zsay g k ≤ 200) ∧ (0 ≤ zat g k ∧ zat g k ≤ g 0) ∧ zho g k = zat g k) ∧ (∀ k : Int, 0 ≤ k ∧ k + 1 < n → zat g k < zat g (k + 1))
def zNr (g : Int → Int) (n : Int) : Int := if n = 0 then 0 else zat g (n - 1) + 1
def zg1 (g : Int → Int) (n a b : Int) : Int → Int := iup (iup (iup (iup g (8 + 3 * n) a) (8 + 3 * n + 1) b) (8 + 3 * n + 2) b) 4 (n + 1)
theorem zg1_at {g : Int → Int} {n a b i : Int} (h : i ≠ 4) : zg1 g n a b i = if i = 8 + 3 * n + 2 then b else if i = 8 + 3 * n + 1 then b else if i = 8 + 3 * n then a else g i := by
  show (if i = 4 then _ else _) = _
  rw [if_neg h]
  rfl
theorem zg1_4 {g : Int → Int} {n a b : Int} : zg1 g n a b 4 = n + 1 := iup_eq _ _ _
theorem zg1_lo {g : Int → Int} {n a b i : Int} (hn : 0 ≤ n) (h : i ≠ 4) (h8 : i < 8) : zg1 g n a b i = g i := by
  rw [zg1_at h, if_neg (by omega), if_neg (by omega), if_neg (by omega)]
theorem zg1_st {g : Int → Int} {n a b k : Int} (hn : 0 ≤ n) (hk : 0 ≤ k) : zsay (zg1 g n a b) k = (if k = n then a else zsay g k) ∧ zat (zg1 g n a b) k = (if k = n then b else zat g k) ∧ zho (zg1 g n a b) k = (if k = n then b else zho g k) := by
  unfold zsay zat zho
  rw [zg1_at (by omega), zg1_at (by omega), zg1_at (by omega)]
  by_cases e : k = n
  · rw [if_pos e, if_pos e, if_pos e, if_neg (by omega), if_neg (by omega), if_pos (by omega), if_neg (by omega), if_pos (by omega), if_pos (by omega)]
    exact ⟨rfl, rfl, rfl⟩
  · rw [if_neg e, if_neg e, if_neg e, if_neg (by omega), if_neg (by omega), if_neg (by omega), if_neg (by omega), if_neg (by omega), if_neg (by omega), if_neg (by omega), if_neg (by omega), if_neg (by omega)]
    exact ⟨rfl, rfl, rfl⟩
theorem zPV.nr {g : Int → Int} {n : Int} (h : zPV g n) : 0 ≤ zNr g n ∧ zNr g n ≤ 201 := by
  unfold zNr
  split
  · omega
  · have := (h.2.2.2.2.2.2.1 (n - 1) (by have := h.2.2.2.2.2.1; omega)).2.1
    have := h.1
    omega
theorem zPV.up {g : Int → Int} {n a b : Int} (h : zPV g n) (hn : n < 6) (ha : 0 ≤ a ∧ a ≤ 200) (hb : zNr g n ≤ b ∧ b ≤ g 0) : zPV (zg1 g n a b) (n + 1) := by
  have hr := h.nr
  have hb' := hb
  obtain ⟨h0, h1, h2, h3, ⟨h4, h6, h7⟩, h5, hs, hm⟩ := h
  have hn0 : 0 ≤ n := h5.1
  refine ⟨by rw [zg1_lo hn0 (by decide) (by decide)]; exact h0, by rw [zg1_lo hn0 (by decide) (by decide)]; exact h1, by rw [zg1_lo hn0 (by decide) (by decide)]; exact h2, by rw [zg1_lo hn0 (by decide) (by decide)]; exact h3, ⟨zg1_4, by rw [zg1_lo hn0 (by decide) (by decide)]; exact h6, by rw [zg1_lo hn0 (by decide) (by decide)]; exact h7⟩, by omega, fun k hk => ?_, fun k hk => ?_⟩
  · obtain ⟨e1, e2, e3⟩ := zg1_st (g := g) (n := n) (a := a) (b := b) (k := k) hn0 (by omega)
    rw [e1, e2, e3, zg1_lo hn0 (by decide) (by decide)]
    by_cases e : k = n
    · rw [if_pos e, if_pos e, if_pos e]
      exact ⟨ha, by omega, rfl⟩
    · rw [if_neg e, if_neg e, if_neg e]
      exact hs k (by omega)
  · have e2 := (zg1_st (g := g) (n := n) (a := a) (b := b) (k := k) hn0 (by omega)).2.1
    have e3 := (zg1_st (g := g) (n := n) (a := a) (b := b) (k := k + 1) hn0 (by omega)).2.1
    rw [e2, e3, if_neg (by omega)]
    by_cases e : k + 1 = n
    · rw [if_pos e]
      unfold zNr at hb
      rw [if_neg (by omega), show n - 1 = k by omega] at hb
      omega
    · rw [if_neg e]
      exact hm k (by omega)
theorem zg1_A {g : Int → Int} {n a b : Int} {c : Nat → Int32} (hn : 0 ≤ n ∧ n < 6) (h : zA 94 c g) (e4 : c 4 = zi n) : zA 94 (upd (upd (upd (upd c (zi (8 + 3 * n)).toNatClampNeg (zi a)) (zi (8 + 3 * n + 1)).toNatClampNeg (zi b)) (zi (8 + 3 * n + 2)).toNatClampNeg (zi b)) 4 ((upd (upd (upd c (zi (8 + 3 * n)).toNatClampNeg (zi a)) (zi (8 + 3 * n + 1)).toNatClampNeg (zi b)) (zi (8 + 3 * n + 2)).toNatClampNeg (zi b)) 4 + 1)) (zg1 g n a b) := by
  have h1 := ((h.up (i := 8 + 3 * n) (v := a) (by omega)).up (i := 8 + 3 * n + 1) (v := b) (by omega)).up (i := 8 + 3 * n + 2) (v := b) (by omega)
  have e : (upd (upd (upd c (zi (8 + 3 * n)).toNatClampNeg (zi a)) (zi (8 + 3 * n + 1)).toNatClampNeg (zi b)) (zi (8 + 3 * n + 2)).toNatClampNeg (zi b)) 4 = zi n := by
    rw [zi_cl (by omega), zi_cl (by omega), zi_cl (by omega)]
    show (if 4 = (8 + 3 * n + 2).toNat then zi b else if 4 = (8 + 3 * n + 1).toNat then zi b else if 4 = (8 + 3 * n).toNat then zi a else c 4) = zi n
    rw [if_neg (by omega), if_neg (by omega), if_neg (by omega)]
    exact e4
  rw [e, zq1, zi_add]
  exact h1.up (i := 4) (v := n + 1) (by decide)
def zLM (u : zU) (g : Int → Int) (r13 r14 r15 r16 r17 r18 : Int32) (c5 : Nat → Int32) : Prop := zM8 u r13 r14 r15 r16 r17 r18 ∧ (u.2.2.2 = 0 → zA 94 c5 g)
theorem m_wordq {t : Int} {B : Int → Int} {ef0 f9 : Nat → Int32} {u : zU} {r13 r14 r15 r16 r17 r18 : Int32} {w : Nat} {c : Int64} {K : Int64 → Prop} (T : zTT t B ef0 f9) (V : zV t B u) (R : zM8 u r13 r14 r15 r16 r17 r18) (hw : w < 8) (hc : c = zl (zcs.getD w 0)) (h1 : u.2.2.2 = 0 → zwm B u.1 u.2.1 u.2.2.1 w → ∀ v, lg_cmp v c = 0 → K v) (h0 : ¬ (u.2.2.2 = 0 ∧ zwm B u.1 u.2.1 u.2.2.1 w) → ∀ v, ¬ lg_cmp v c = 0 → K v) : wp_X8_name r14 r15 r16 r17 f9 K := by
  refine m_name T V R ?_
  have e := zNV_cmp V hw hc
  by_cases d : u.2.2.2 = 0 ∧ zwm B u.1 u.2.1 u.2.2.1 w
  · exact h1 d.1 d.2 _ (by rw [e]; exact d)
  · exact h0 d _ (by rw [e]; exact d)
theorem m_readStone {t : Int} {B : Int → Int} {ef0 f9 c5 : Nat → Int32} {u : zU} {g : Int → Int} {n : Int} {r13 r14 r15 r16 r17 r18 : Int32} {K : Int32 → Int32 → Int32 → Int32 → Int32 → Int32 → (Nat → Int32) → Prop} (T : zTT t B ef0 f9) (V : zV t B u) (R : zM8 u r13 r14 r15 r16 r17 r18) (hP : zPV g n) (hA : zA 94 c5 g) (hq : u.2.2.2 = 0) (h6 : n = 6 → ∀ c13 c14 c15 c16 c17 c18, zM8 (aBl 3 u) c13 c14 c15 c16 c17 c18 → K c13 c14 c15 c16 c17 c18 c5) (hn : n < 6 → ∀ c13 c14 c15 c16 c17 c18 s, zLM (aEn t B (aNu t B (zNr g n) (g 0) (aNu t B 0 200 (aNx t B u)))) (zg1 g n (zVal B (aNx t B u)) (zVal B (aNu t B 0 200 (aNx t B u)))) c13 c14 c15 c16 c17 c18 s → K c13 c14 c15 c16 c17 c18 s) : wp_X8_readStone (zi t) r13 r14 r15 r16 r17 r18 c5 f9 K := by
  have e4 : c5 4 = zi n := (zM4 hA (i := 4) (by decide)).trans (by rw [← hP.2.2.2.2.1.1]; rfl)
  have e0 : c5 0 = zi (g 0) := zM4 hA (by decide)
  have rn := hP.2.2.2.2.2.1
  have r0 := hP.1
  have rr := hP.nr
  have nr : ∀ (P : Int32 → Prop), ((¬ zi n = 0 → vp_in (zi (8 + 3 * (n - 1) + 1)) 94 ∧ P (c5 (zi (8 + 3 * (n - 1) + 1)).toNatClampNeg + 1)) ∧ (zi n = 0 → P 0)) ↔ ((¬ n = 0 → P (zi (zNr g n))) ∧ (n = 0 → P (zi (zNr g n)))) := by
    intro P
    rw [show (zi n = 0) = (n = 0) from zi_eq (b := 0) (by omega) (by decide)]
    by_cases c : n = 0
    · have : zNr g n = 0 := if_pos c
      rw [this]
      exact ⟨fun h => ⟨fun z => absurd c z, h.2⟩, fun h => ⟨fun z => absurd c z, h.2⟩⟩
    · have e : c5 (zi (8 + 3 * (n - 1) + 1)).toNatClampNeg + 1 = zi (zNr g n) := by
        rw [hA.at (by omega), zq1, zi_add]
        unfold zNr
        rw [if_neg c]
        congr 2
        unfold zat
        congr 1
        omega
      rw [e]
      exact ⟨fun h => ⟨fun z => (h.1 z).2, fun z => absurd z c⟩, fun h => ⟨fun z => ⟨zi_in (by omega), h.1 z⟩, fun z => absurd z c⟩⟩
  unfold wp_X8_readStone wp_X8_begins
  rw [show c5 (4 : Int32).toNatClampNeg = c5 4 from rfl, e4, show (zi n = 6) = (n = 6) from zi_eq (b := 6) (by omega) (by decide), zq8, zq3, zq1, zi_sub, zi_mul, zi_add, zi_add]
  refine ⟨zi_in (a := 4) (by decide), fun c => ?_, fun c => ?_⟩
  · have hn := hn (by omega)
    refine m_must1 T V R (fun c13 c14 c15 c16 c17 c18 h1 => ?_)
    have V1 := V.nx T
    generalize aNx t B u = u1 at *
    refine m_nu (lo := 0) (hi := 200) T V1 h1 (by decide) (by decide) (fun v c13 c14 c15 c16 c17 c18 h2 hv => ?_)
    have V2 := V1.nu (lo := 0) (hi := 200) T
    have ok2 := aNu_ok (t := t) (B := B) (lo := 0) (hi := 200) (u := u1)
    generalize aNu t B 0 200 u1 = u2 at *
    rw [← zq1, nr (fun s0 => S_X8_readStone_49 (zi t) f9 (zi n) v s0 c13 c14 c15 c16 c17 c18 c5 K)]
    have go : S_X8_readStone_49 (zi t) f9 (zi n) v (zi (zNr g n)) c13 c14 c15 c16 c17 c18 c5 K := by
      unfold S_X8_readStone_49
      rw [e0]
      refine m_nu T V2 h2 (by omega) (by omega) (fun v2 c13 c14 c15 c16 c17 c18 h3 hv2 => ?_)
      have V3 := V2.nu (lo := zNr g n) (hi := g 0) T
      have ok3 := aNu_ok (t := t) (B := B) (lo := zNr g n) (hi := g 0) (u := u2)
      generalize aNu t B (zNr g n) (g 0) u2 = u3 at *
      refine m_en T V3 h3 (fun c13 c14 c15 c16 c17 c18 h4 => ?_)
      have ok4 := aEn_ok (t := t) (B := B) (u := u3)
      have V4 := V3.en T
      generalize aEn t B u3 = u4 at *
      have h17 := h4.2.2.2.2.1
      have q4 := V4.2.2.1
      rw [h17, show (zi u4.2.2.2 = 0) = (u4.2.2.2 = 0) from zi_eq (b := 0) (by omega) (by decide), ← h17]
      refine ⟨fun d => hn _ _ _ _ _ _ _ ⟨h4, fun z => absurd z d⟩, fun d => ?_⟩
      have o3 := ok3 (ok4 d)
      have o2 := ok2 o3.1
      rw [hv2 (ok4 d), hv o3.1, zq8, zq3, zi_mul, zi_add, zq1, zq2, zi_add, zi_add]
      refine ⟨zi_in (by omega), zi_in (by omega), zi_in (by omega), hn _ _ _ _ _ _ _ ⟨h4, fun _ => ?_⟩⟩
      rw [← zq1]
      exact zg1_A (by omega) hA e4
    exact ⟨fun _ => go, fun _ => go⟩
  · refine m_bad V R (by decide) zq3 (fun c17 c18 h1 => ?_)
    have V1 := V.bl (n := 3) (by decide)
    have hq1 : ¬ (aBl 3 u).2.2.2 = 0 := aBl_q (by decide)
    have h6 := h6 c
    generalize aBl 3 u = u1 at *
    refine m_must1 T V1 h1 (fun c13 c14 c15 c16 c17 c18 h2 => ?_)
    rw [aNx_1 hq1] at h2
    refine m_nu (lo := 0) (hi := 200) T V1 h2 (by decide) (by decide) (fun v c13 c14 c15 c16 c17 c18 h3 hv => ?_)
    rw [aNu_s hq1] at h3
    rw [← zq1, nr (fun s0 => S_X8_readStone_49 (zi t) f9 (zi n) v s0 c13 c14 c15 c16 c17 c18 c5 K)]
    have go : S_X8_readStone_49 (zi t) f9 (zi n) v (zi (zNr g n)) c13 c14 c15 c16 c17 c18 c5 K := by
      unfold S_X8_readStone_49
      rw [e0]
      refine m_nu T V1 h3 (by omega) (by omega) (fun v2 c13 c14 c15 c16 c17 c18 h4 hv2 => ?_)
      rw [aNu_s hq1] at h4
      refine m_en T V1 h4 (fun c13 c14 c15 c16 c17 c18 h5 => ?_)
      rw [aEn_s hq1] at h5
      have h17 := h5.2.2.2.2.1
      have q4 := V1.2.2.1
      rw [h17, show (zi u1.2.2.2 = 0) = (u1.2.2.2 = 0) from zi_eq (b := 0) (by omega) (by decide), ← h17]
      exact ⟨fun d => h6 _ _ _ _ _ _ h5, fun d => absurd d hq1⟩
    exact ⟨fun _ => go, fun _ => go⟩
