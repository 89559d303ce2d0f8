theorem zA.g4 {c : Nat → Int32} {a0 a1 a2 a3 : Int32} {v0 v1 v2 v3 : Int} (h : zA 94 c (fun _ => 0)) (e0 : a0 = zi v0) (e1 : a1 = zi v1) (e2 : a2 = zi v2) (e3 : a3 = zi v3) : zA 94 (upd (upd (upd (upd c 0 a0) 1 a1) 2 a2) 3 a3) (fun i => if i = 3 then v3 else if i = 2 then v2 else if i = 1 then v1 else if i = 0 then v0 else 0) := by
  intro a ha
  show (if a.toNat = 3 then a3 else if a.toNat = 2 then a2 else if a.toNat = 1 then a1 else if a.toNat = 0 then a0 else c a.toNat) = zi (if a = 3 then v3 else if a = 2 then v2 else if a = 1 then v1 else if a = 0 then v0 else 0)
  by_cases c3 : a = 3
  · rw [if_pos (by omega), if_pos c3]; exact e3
  rw [if_neg (by omega), if_neg c3]
  by_cases c2 : a = 2
  · rw [if_pos (by omega), if_pos c2]; exact e2
  rw [if_neg (by omega), if_neg c2]
  by_cases c1 : a = 1
  · rw [if_pos (by omega), if_pos c1]; exact e1
  rw [if_neg (by omega), if_neg c1]
  by_cases c0 : a = 0
  · rw [if_pos (by omega), if_pos c0]; exact e0
  rw [if_neg (by omega), if_neg c0]
  exact h a ha
theorem zPV.ok {g : Int → Int} {n m : Int} (h : zPV g n) (hm : zPM g m) : zOK g := by
  obtain ⟨h0, h1, h2, h3, ⟨h4, h6, h7⟩, h5, hs, ht⟩ := h
  obtain ⟨m5, mr, ms⟩ := hm
  refine ⟨by omega, h1, h2, h3, by omega, by omega, by omega, by omega, fun z => by omega, by omega, fun k hk => ?_, fun k hk => ?_, fun k hk => ms k (by omega), fun q hq => by omega⟩
  · obtain ⟨s1, s2, s3⟩ := hs k (by omega)
    exact ⟨s1, s2, by omega⟩
  · have := ht k (by omega)
    have := (hs k (by omega)).2.2
    have := (hs (k + 1) (by omega)).2.2
    omega
theorem m_toRoad {M : Nat → Nat → Int32} {g h : Int → Int} {c00 c010 c011 c012 c013 c014 c015 c016 c017 c018 : Int32} {c5 : Nat → Int32} {K : Int32 → (Nat → Nat → Int32) → Prop} (hM : zA 94 (M 4) h) (hg : zA 94 c5 g) (hK : ∀ c4, zA 94 c4 g → K (zi (g 4)) (va_up (va_up (va_up M 0 (upd (upd (upd (upd (upd (upd (upd (upd (upd (upd (upd (M 0) 0 c00) 8 0) 10 c010) 11 c011) 12 c012) 13 c013) 14 c014) 15 c015) 16 c016) 17 c017) 18 c018)) 4 c4) 5 c5)) : ∃ n, nz_it (fun _ _ => False) (S_X8_road_194 M c00 0 c010 c011 c012 c013 c014 c015 c016 c017 c018 c5 K) n 0 (M 4) := by
  refine nz_l2 (fun j x1 s => ∃ i : Int, x1 = zi i ∧ (0 ≤ i ∧ i ≤ 94) ∧ j = (94 - i).toNat ∧ zA 94 s (fun x => if x < i then g x else h x)) ?_ (k := (94 - (0 : Int)).toNat) ⟨0, rfl, by omega, rfl, hM.of (fun a ha => if_neg (by omega))⟩
  rintro j R _ s ⟨i, rfl, hi, hj, hs⟩ next
  unfold S_X8_road_194
  rw [zq94, zi_le (by decide) (by omega), zq1, zi_add]
  refine ⟨fun c => ?_, fun c => ⟨zi_in (by omega), zi_in (by omega), next (94 - (i + 1)).toNat _ _ (by omega) ⟨i + 1, rfl, by omega, rfl, ?_⟩⟩⟩
  · obtain rfl : i = 94 := by omega
    have hs' : zA 94 s g := hs.of (fun a ha => (if_pos (by omega)).symm)
    have e4 : s 4 = zi (g 4) := zM4 hs' (by decide)
    rw [e4]
    exact hK s hs'
  · rw [hg.at (by omega)]
    refine (hs.up (i := i) (v := g i) (by omega)).of (fun x hx => ?_)
    by_cases e : x = i
    · rw [e, iup_eq, if_pos (by omega)]
    · rw [iup_ne e]
      by_cases e1 : x < i
      · rw [if_pos e1, if_pos (by omega)]
      · rw [if_neg e1, if_neg (by omega)]
theorem l_read {t : Int} {B : Int → Int} {ef0 f9 : Nat → Int32} (T : zTT t B ef0 f9) : ∃ (uf : zU) (g : Int → Int) (n m : Int), zV t B uf ∧ (uf.2.2.2 = 0 → zPV g n ∧ zPM g m) ∧
    (∀ (a3 a5 a6 : Int32) (h9 h10 h11 h12 h13 h14 h15 : Nat → Int32) (K : Int32 → Int32 → Int32 → Int32 → Int32 → Int32 → Int32 → Int32 → Int32 → Int32 → Int32 → Int32 → Int32 → Int32 → Int32 → Int32 → (Nat → Int32) → (Nat → Int32) → (Nat → Int32) → (Nat → Int32) → (Nat → Int32) → (Nat → Int32) → (Nat → Int32) → Prop), (∀ b3 b4 b5 b6 b7 v3 v4 v5 v6 s6 s7 s9 s10 s12 s13 s14 s15, zX4 B uf b3 b4 b5 b6 b7 → (uf.2.2.2 = 0 → (v3 = zi (g 0) ∧ v4 = zi (g 1) ∧ v5 = zi (g 2) ∧ v6 = zi (g 3)) ∧ (s6 = zi n ∧ s7 = zi m) ∧ (zA n s9 (zsay g) ∧ zA n s10 (zat g)) ∧ (zA m s12 (zkd g) ∧ zA m s13 (zwh g) ∧ zA m s14 (zwy g) ∧ zA m s15 (zre g))) → K b7 0 b3 b4 b5 b6 b7 1 v3 v4 v5 v6 0 s6 s7 0 s9 s10 (va_cpy s10 h11 0 0 6) s12 s13 s14 s15) → wp_X4_read (zi t) a3 a5 a6 ef0 h9 h10 h11 h12 h13 h14 h15 K) ∧
    (∀ (M : Nat → Nat → Int32) (h : Int → Int), M 7 = f9 → M 0 10 = zi t → zA 94 (M 4) h → ∀ (K : Int32 → (Nat → Nat → Int32) → Prop), (¬ uf.2.2.2 = 0 → ∀ W : Nat → Nat → Int32, W 0 1 = M 0 1 → W 0 8 = M 0 8 → W 0 10 = 0 → W 0 11 = zi uf.2.2.2 → W 0 25 = M 0 25 → (∀ i : Nat, 1 ≤ i → i ≠ 5 → W i = M i) → K ((-1000100 : Int32) - zi uf.1) W) → (uf.2.2.2 = 0 → ∀ W : Nat → Nat → Int32, W 0 1 = M 0 1 → W 0 8 = 0 → W 0 10 = 0 → W 0 11 = M 0 11 → W 0 25 = M 0 25 → zA 94 (W 4) g → (∀ i : Nat, 1 ≤ i → i ≠ 4 → i ≠ 5 → W i = M i) → K (zi (g 4)) W) → wp_X8_road M K) := by
  have tr := T.1
  obtain ⟨u1, hu1⟩ : ∃ u1 : zU, u1 = ((znx t B 0).1, (znx t B 0).2.1, (znx t B 0).2.2, 0) := ⟨_, rfl⟩
  have V1 : zV t B u1 := by rw [hu1]; exact znx_ok T (by omega)
  have q1 : u1.2.2.2 = 0 := by rw [hu1]
  have V2 : zV t B (aWd t B 0 u1) := V1.wd T
  obtain ⟨u2, hu2⟩ : ∃ u2 : zU, u2 = aWd t B 0 u1 := ⟨_, rfl⟩
  rw [← hu2] at V2
  have V3 := V2.nu (lo := 10) (hi := 200) T
  have ok3 := aNu_ok (t := t) (B := B) (lo := 10) (hi := 200) (u := u2)
  obtain ⟨u3, hu3⟩ : ∃ u3 : zU, u3 = aNu t B 10 200 u2 := ⟨_, rfl⟩
  rw [← hu3] at V3 ok3
  have V4 := V3.nu (lo := 0) (hi := 20) T
  have ok4 := aNu_ok (t := t) (B := B) (lo := 0) (hi := 20) (u := u3)
  obtain ⟨u4, hu4⟩ : ∃ u4 : zU, u4 = aNu t B 0 20 u3 := ⟨_, rfl⟩
  rw [← hu4] at V4 ok4
  have V5 := V4.nu (lo := 0) (hi := 100) T
  have ok5 := aNu_ok (t := t) (B := B) (lo := 0) (hi := 100) (u := u4)
  obtain ⟨u5, hu5⟩ : ∃ u5 : zU, u5 = aNu t B 0 100 u4 := ⟨_, rfl⟩
  rw [← hu5] at V5 ok5
  have V6 := V5.nu (lo := 0) (hi := 99) T
  have ok6 := aNu_ok (t := t) (B := B) (lo := 0) (hi := 99) (u := u5)
  obtain ⟨u6, hu6⟩ : ∃ u6 : zU, u6 = aNu t B 0 99 u5 := ⟨_, rfl⟩
  rw [← hu6] at V6 ok6
  have V7 := V6.en T
  have ok7 := aEn_ok (t := t) (B := B) (u := u6)
  obtain ⟨u7, hu7⟩ : ∃ u7 : zU, u7 = aEn t B u6 := ⟨_, rfl⟩
  rw [← hu7] at V7 ok7
  obtain ⟨gg, hgg⟩ : ∃ gg : Int → Int, gg = fun i => if i = 3 then zVal B u5 else if i = 2 then zVal B u4 else if i = 1 then zVal B u3 else if i = 0 then zVal B u2 else 0 := ⟨_, rfl⟩
  have okg : u7.2.2.2 = 0 → zPV gg 0 ∧ gg 5 = 0 := fun z => by
    have o6 := ok6 (ok7 z)
    have o5 := ok5 o6.1
    have o4 := ok4 o5.1
    have o3 := ok3 o4.1
    rw [hgg]
    exact ⟨⟨⟨o3.2.2.1, o3.2.2.2.1⟩, ⟨o4.2.2.1, o4.2.2.2.1⟩, ⟨o5.2.2.1, o5.2.2.2.1⟩, ⟨o6.2.2.1, o6.2.2.2.1⟩, ⟨rfl, rfl, rfl⟩, by decide, fun k hk => absurd hk (by omega), fun k hk => absurd hk (by omega)⟩, rfl⟩
  obtain ⟨u8, g8, n8, V8, q8, X8, M8⟩ := l_stones T 7 u7 gg 0 rfl (Int.le_refl _) V7 okg
  obtain ⟨u9, g9, m9, V9, q9, X9, M9⟩ := l_movers T (n := n8) 6 u8 g8 0 rfl (Int.le_refl _) V8 (fun z => ⟨(q8 z).2.1, (q8 z).2.2.1, by decide, fun i hi => absurd hi (by omega)⟩)
  have VF := V9.fi
  have qF := aFi_ok (u := u9)
  obtain ⟨uf, huf⟩ : ∃ uf : zU, uf = aFi u9 := ⟨_, rfl⟩
  rw [← huf] at VF qF M9
  have hfr := VF.2.2.1
  refine ⟨uf, g9, n8, m9, VF, fun z => ⟨(q9 (qF z)).2.1, (q9 (qF z)).2.2.1⟩, ?_, ?_⟩
  · intro a3 a5 a6 h9 h10 h11 h12 h13 h14 h15 K hK
    unfold wp_X4_read wp_X4_next
    refine ⟨fun _ => ?_, fun z => absurd rfl z⟩
    refine x_next (e := 0) T (by omega) (fun b3 b4 b5 b6 R1 => ?_)
    have R1 : zX4 B u1 b3 b4 b5 b6 0 := by
      rw [hu1]
      exact R1
    unfold wp_X4_readLaw
    refine x_wd (w := 0) T V1 R1 (by decide) (fun b3 b4 b5 b6 b7 R2 => ?_)
    rw [← hu2] at R2
    refine x_nu (lo := 10) (hi := 200) T V2 R2 (by decide) (by decide) (fun v3 b3 b4 b5 b6 b7 R3 hv3 => ?_)
    rw [← hu3] at R3 hv3
    refine x_nu (lo := 0) (hi := 20) T V3 R3 (by decide) (by decide) (fun v4 b3 b4 b5 b6 b7 R4 hv4 => ?_)
    rw [← hu4] at R4 hv4
    refine x_nu (lo := 0) (hi := 100) T V4 R4 (by decide) (by decide) (fun v5 b3 b4 b5 b6 b7 R5 hv5 => ?_)
    rw [← hu5] at R5 hv5
    refine x_nu (lo := 0) (hi := 99) T V5 R5 (by decide) (by decide) (fun v6 b3 b4 b5 b6 b7 R6 hv6 => ?_)
    rw [← hu6] at R6 hv6
    refine x_en T V6 R6 (fun b3 b4 b5 b6 b7 R7 => ?_)
    rw [← hu7] at R7
    have vals : u7.2.2.2 = 0 → v3 = zi (gg 0) ∧ v4 = zi (gg 1) ∧ v5 = zi (gg 2) ∧ v6 = zi (gg 3) := fun z => by
      have z6 := ok7 z
      have z5 := (ok6 z6).1
      have z4 := (ok5 z5).1
      have z3 := (ok4 z4).1
      rw [hgg]
      exact ⟨hv3 z3, hv4 z4, hv5 z5, hv6 z6⟩
    unfold wp_X4_readStones
    refine ⟨7 + 1, X8 _ _ _ _ _ _ _ _ _ _ _ _ (fun z => (vals z).1) R7 (fun z => ⟨rfl, rfl, rfl, fun a ha => by omega, fun a ha => by omega⟩) (fun b3 b4 b5 b6 b7 s6 s9 s10 R8 hs8 => ?_)⟩
    unfold wp_X4_readMovers
    refine ⟨6 + 1, X9 _ _ _ _ _ _ _ _ _ _ _ _ _ (fun z => (hs8 z).1) R8 (fun z => ⟨rfl, rfl, fun a ha => by omega, fun a ha => by omega, fun a ha => by omega, fun a ha => by omega⟩) (fun b3 b4 b5 b6 b7 s7 s12 s13 s14 s15 R9 hs9 => ?_)⟩
    have hk9 := V9.2.1
    have e5 : (b5 = 0) = (u9.2.2.1 = 0) := by
      rw [R9.2.2.1]
      exact zi_eq (b := 0) (by omega) (by decide)
    have fin : ∀ b7', zX4 B uf b3 b4 b5 b6 b7' → S_X4_read_38 b3 b4 b5 b6 b7' v3 v4 v5 v6 s6 s7 s9 s10 h11 s12 s13 s14 s15 K := by
      intro b7' RF
      unfold S_X4_read_38
      refine hK _ _ _ _ _ _ _ _ _ _ _ _ _ _ _ _ _ RF (fun c => ?_)
      have c9 := qF c
      obtain ⟨y1, y2, y3, y4⟩ := q9 c9
      obtain ⟨w1, w2, w3, w4⟩ := q8 y1
      obtain ⟨e1, e2, e3, e4⟩ := vals w1
      obtain ⟨a6, a9, a10⟩ := hs8 y1
      obtain ⟨c7, c12, c13, c14, c15⟩ := hs9 c9
      have hn := y2.2.2.2.2.2.1
      have st : ∀ k : Int, 0 ≤ k ∧ k < n8 → zsay g9 k = zsay g8 k ∧ zat g9 k = zat g8 k := fun k hk =>
        ⟨y4 _ (by omega) (by omega), y4 _ (by omega) (by omega)⟩
      have lo : ∀ i : Int, i < 4 → g9 i = gg i := fun i hi => (y4 i (by omega) (by omega)).trans (w4 i hi)
      exact ⟨⟨e1.trans (by rw [lo 0 (by decide)]), e2.trans (by rw [lo 1 (by decide)]), e3.trans (by rw [lo 2 (by decide)]), e4.trans (by rw [lo 3 (by decide)])⟩, ⟨a6, c7⟩, ⟨a9.of (fun a ha => (st a ha).1), a10.of (fun a ha => (st a ha).2)⟩, c12, c13, c14, c15⟩
    rw [e5]
    refine ⟨fun c => ?_, fun c => ?_⟩
    · have e : uf = u9 := by rw [huf]; exact if_pos c
      rw [← e] at R9
      exact fin _ R9
    · have e : uf = aBl 1 u9 := by rw [huf]; exact if_neg c
      refine x_bl V9 R9 zq1 (fun b7' h => ?_)
      rw [← e] at h
      exact fin _ h
  · intro M h e7 t2 hM K k1 k2
    subst e7
    have fin : ∀ d13 d14 d15 d16 d17 d18 d5, zLM uf g9 d13 d14 d15 d16 d17 d18 d5 → S_X8_road_164 M 0 (M 0 8) 0 (M 0 11) (zi t) d13 d14 d15 d16 d17 d18 (M 4) d5 K := by
      intro d13 d14 d15 d16 d17 d18 d5 R
      have h17 := R.1.2.2.2.2.1
      have h18 := R.1.2.2.2.2.2
      unfold S_X8_road_164
      rw [show (d17 ≤ 0) = (uf.2.2.2 ≤ 0) from by rw [h17]; exact zi_le (b := 0) (by omega) (by decide)]
      refine ⟨fun c => ?_, fun c => ?_⟩
      · have c0 : uf.2.2.2 = 0 := by omega
        refine m_toRoad hM (R.2 c0) (fun c4 hc4 => k2 c0 _ rfl rfl rfl rfl rfl hc4 (fun i h1 h4 h5 => (zup1 h5).trans ((zup1 h4).trans (zup1 (by omega)))))
      · rw [h18 (by omega)]
        refine k1 (by omega) _ rfl rfl rfl h17 rfl (fun i h1 h5 => (zup1 h5).trans ?_)
        by_cases z : i = 4
        · rw [z]; rfl
        · exact (zup1 z).trans (zup1 (by omega))
    have rest : ∀ r13 r14 r15 r16 r17 r18 c5, zM8 u2 r13 r14 r15 r16 r17 r18 → zA 94 c5 (fun _ => 0) → wp_X8_number (zi t) r13 r14 r15 r16 r17 r18 (M 7) 10 200 (fun q17 m18 m19 m20 m21 m22 m23 => wp_X8_number (zi t) m18 m19 m20 m21 m22 m23 (M 7) 0 20 (fun q24 m25 m26 m27 m28 m29 m30 => wp_X8_number (zi t) m25 m26 m27 m28 m29 m30 (M 7) 0 100 (fun q31 m32 m33 m34 m35 m36 m37 => wp_X8_number (zi t) m32 m33 m34 m35 m36 m37 (M 7) 0 99 (fun q38 m39 m40 m41 m42 m43 m44 => wp_X8_mustEnd (zi t) m39 m40 m41 m42 m43 m44 (M 7) (fun m45 m46 m47 m48 m49 m50 => (∃ n, nz_it (fun _ _ _ _ _ _ _ => False) (S_X8_road_108 M 0 (M 0 8) 0 (M 0 11) (zi t) (M 4) K) n m45 m46 m47 m48 m49 m50 (upd (upd (upd (upd c5 0 q17) 1 q24) 2 q31) 3 q38))))))) := by
      intro r13 r14 r15 r16 r17 r18 c5 R2 hc5
      refine m_nu (lo := 10) (hi := 200) T V2 R2 (by decide) (by decide) (fun v3 c13 c14 c15 c16 c17 c18 R3 hv3 => ?_)
      rw [← hu3] at R3 hv3
      refine m_nu (lo := 0) (hi := 20) T V3 R3 (by decide) (by decide) (fun v4 c13 c14 c15 c16 c17 c18 R4 hv4 => ?_)
      rw [← hu4] at R4 hv4
      refine m_nu (lo := 0) (hi := 100) T V4 R4 (by decide) (by decide) (fun v5 c13 c14 c15 c16 c17 c18 R5 hv5 => ?_)
      rw [← hu5] at R5 hv5
      refine m_nu (lo := 0) (hi := 99) T V5 R5 (by decide) (by decide) (fun v6 c13 c14 c15 c16 c17 c18 R6 hv6 => ?_)
      rw [← hu6] at R6 hv6
      refine m_en T V6 R6 (fun c13 c14 c15 c16 c17 c18 R7 => ?_)
      rw [← hu7] at R7
      refine ⟨7 + 1, M8 M 0 (M 0 8) 0 (M 0 11) (M 4) K _ _ _ _ _ _ _ rfl ⟨R7, fun z => ?_⟩ (fun d13 d14 d15 d16 d17 d18 d5 R8 => ⟨6 + 1, M9 M 0 (M 0 8) 0 (M 0 11) (M 4) K _ _ _ _ _ _ _ rfl R8 fin⟩)⟩
      have z6 := ok7 z
      have z5 := (ok6 z6).1
      have z4 := (ok5 z5).1
      have z3 := (ok4 z4).1
      rw [hgg]
      exact hc5.g4 (hv3 z3) (hv4 z4) (hv5 z5) (hv6 z6)
    unfold wp_X8_road wp_X8_begin
    rw [t2]
    show wp_X8_next (zi t) (zi 0) (M 7) _
    refine m_next T (by omega) ?_
    refine nz_l2 (fun j x1 s => ∃ i : Int, x1 = zi i ∧ (0 ≤ i ∧ i ≤ 94) ∧ j = (94 - i).toNat ∧ zA i s (fun _ => 0)) ?_ (k := (94 - (0 : Int)).toNat) ⟨0, rfl, by omega, rfl, fun a ha => by omega⟩
    rintro j R _ s ⟨i, rfl, hi, hj, hs⟩ next
    have R1 : zM8 u1 (zi (znx t B 0).2.1) (zi (ztc (znx t B 0).2.2)) (zi (znx t B 0).1) (zi (znx t B 0).2.1) 0 (M 0 18) := by
      rw [hu1]
      exact ⟨rfl, rfl, rfl, rfl, rfl, fun z => absurd rfl z⟩
    unfold S_X8_road_11
    rw [show ((94 : Int32) ≤ zi i) = (94 ≤ i) from zi_le (a := 94) (by decide) (by omega)]
    refine ⟨fun c => ?_, fun c => ⟨zi_in (by omega), ?_⟩⟩
    · obtain rfl : i = 94 := by omega
      refine m_wordq (w := 0) (c := 7102839) T V1 R1 (by decide) rfl (fun _ cw v hv => ⟨fun z => absurd hv z, fun _ => ?_⟩) (fun cn v hv => ⟨fun _ => ?_, fun z => absurd z hv⟩)
      · unfold S_X8_road_47
        refine m_must1 T V1 R1 (fun c13 c14 c15 c16 c17 c18 R2 => ?_)
        rw [← aWd_1 cw, ← hu2] at R2
        exact rest _ _ _ _ _ _ _ R2 hs
      · unfold S_X8_road_47
        refine m_must0 T V1 R1 (fun c13 c14 c15 c16 c17 c18 R2 => ?_)
        rw [← aWd_0 (t := t) (w := 0) (fun z => cn ⟨q1, z⟩), ← hu2] at R2
        exact rest _ _ _ _ _ _ _ R2 hs
    · rw [zq1, zi_add]
      exact next (94 - (i + 1)).toNat _ _ (by omega) ⟨i + 1, rfl, by omega, rfl, hs.snoc (v := 0) (by omega) rfl⟩
theorem pub_road {X M : Nat → Nat → Int32} (hR : nz_Rel X M) : wp_X7_road X (fun r X1 => wp_X8_road M (fun r1 M1 => r = r1 ∧ nz_Rel X1 M1)) := by
  have hR0 := hR
  obtain ⟨hRD, hRW, hTP, hTR, hla, hst⟩ := hR
  obtain ⟨f, g0, g1, W, k, hM, hok, hX, hI0, hI1, hW, hac, hk, hk8⟩ := hRD
  have hok0 := hok
  obtain ⟨ol, of', os, ofi, ons, onm, onn, ont, oz, oten, ost, oso, omv, otm⟩ := hok
  have hX0 := hX
  obtain ⟨x0, x1, x2, x3, x4, x5, x6, x7, x8, xs, xa, xh, xk, xw, xy, xr, xt⟩ := hX
  have xs : zA (f 4) (X 17) (zsay f) := xs
  have xa : zA (f 4) (X 18) (zat f) := xa
  have xh : zA (f 4) (X 19) (zho f) := xh
  have xk : zA (f 5) (X 20) (zkd f) := xk
  have xw : zA (f 5) (X 21) (zwh f) := xw
  have xy : zA (f 5) (X 22) (zwy f) := xy
  have xr : zA (f 5) (X 23) (zre f) := xr
  have xt : zA (4 * f 7) (X 24) (ztm f) := xt
  have m0 : M 4 0 = zi (f 0) := zM4 hM (by decide)
  have m1 : M 4 1 = zi (f 1) := zM4 hM (by decide)
  have m2 : M 4 2 = zi (f 2) := zM4 hM (by decide)
  have m3 : M 4 3 = zi (f 3) := zM4 hM (by decide)
  have m4 : M 4 4 = zi (f 4) := zM4 hM (by decide)
  have m5 : M 4 5 = zi (f 5) := zM4 hM (by decide)
  have m6 : M 4 6 = zi (f 6) := zM4 hM (by decide)
  have m7 : M 4 7 = zi (f 7) := zM4 hM (by decide)
  obtain ⟨t, B, tr, t1, t2, t3, t4, t5⟩ := hTP
  have T : zTT t B (X 6) (M 7) := ⟨tr, t3, t4, t5⟩
  obtain ⟨uf, g9, n8, m9, VF, okF, XR, MR0⟩ := l_read T
  have MR := MR0 M f rfl t2 hM
  have hfr := VF.2.2.1
  unfold wp_X7_road wX_X4_read_5
  rw [t1]
  refine XR _ _ _ _ _ _ _ _ _ _ _ (fun b3 b4 b5 b6 b7 v3 v4 v5 v6 s6 s7 s9 s10 s12 s13 s14 s15 RF hv => ?_)
  have h3 := RF.1
  have h7 := RF.2.2.2.2
  refine ⟨fun c => ?_, fun c => ?_⟩
  · have c : uf.2.2.2 = 0 := by
      rw [h7] at c
      exact ziq (b := 0) (by omega) (by decide) c
    obtain ⟨⟨e1, e2, e3, e4⟩, ⟨a6, c7⟩, ⟨a9, a10⟩, c12, c13, c14, c15⟩ := hv c
    obtain ⟨y2, y3⟩ := okF c
    have hok := y2.ok y3
    have g4 : g9 4 = n8 := y2.2.2.2.2.1.1
    have g5 : g9 5 = m9 := y3.1
    have hn := y2.2.2.2.2.2.1
    have hD : zR g9 (upd (upd (upd (upd (upd (upd (upd (upd (upd (X 7) 0 1) 1 v3) 2 v4) 3 v5) 4 v6) 5 0) 6 s6) 7 s7) 8 0) s9 s10 (va_cpy s10 (X 10) 0 0 6) s12 s13 s14 s15 (X 15) := by
      refine ⟨?_, ?_, ?_, ?_, ?_, ?_, ?_, ?_, ?_, ?_, ?_, ?_, ?_, ?_, ?_, ?_, ?_⟩
      · exact (zth (by have := y2.1; omega)).symm
      · exact e1
      · exact e2
      · exact e3
      · exact e4
      · show (0 : Int32) = zi (g9 6)
        rw [y2.2.2.2.2.1.2.1]
        rfl
      · exact a6.trans (by rw [g4])
      · exact c7.trans (by rw [g5])
      · show (0 : Int32) = zi (g9 7)
        rw [y2.2.2.2.2.1.2.2]
        rfl
      · rw [g4]; exact a9
      · rw [g4]; exact a10
      · rw [g4]
        exact (a10.of (g := zho g9) (fun a ha => (y2.2.2.2.2.2.2.1 a ha).2.2)).cpy (by omega)
      · rw [g5]; exact c12
      · rw [g5]; exact c13
      · rw [g5]; exact c14
      · rw [g5]; exact c15
      · rw [y2.2.2.2.2.1.2.2]
        exact fun a ha => absurd ha (by omega)
    unfold wX_X4_roadRead_5 wp_X4_roadRead wX_X5_become_16_7 wp_X5_become wX_X0_clear_44 wp_X0_clear
    refine ⟨rfl, ?_⟩
    refine MR _ (fun z => absurd c z) (fun _ W' e1' e8 e10 e11 e25 e4' eW => ⟨a6.trans (by rw [g4]), ?_⟩)
    refine ⟨hR0.1.now (f := g9) (W := W) (k := 0) e4' hok (zR.become hok hD) (by rw [eW 6 (by decide) (by decide) (by decide)]; exact hW) (zAC0 _ _ _ _) rfl e8 (fun i hi => (zup1 (by omega)).trans ((zup1 (by omega)).trans ((zup1 (by omega)).trans ((zup1 (by omega)).trans ((zup1 (by omega)).trans ((zup1 (by omega)).trans ((zup1 (by omega)).trans ((zup1 (by omega)).trans ((zup1 (by omega)).trans ((zup1 (by omega)).trans ((zup1 (by omega)).trans ((zup1 (by omega)).trans ((zup1 (by omega)).trans ((zup1 (by omega)).trans ((zup1 (by omega)).trans ((zup1 (by omega)).trans ((zup1 (by omega)).trans ((zup1 (by omega)).trans (zup1 (by omega)))))))))))))))))))) (eW 11 (by decide) (by decide) (by decide)) (eW 12 (by decide) (by decide) (by decide)), hR0.2.1.fr (fun i hi => (zup1 (by omega)).trans ((zup1 (by omega)).trans ((zup1 (by omega)).trans ((zup1 (by omega)).trans ((zup1 (by omega)).trans ((zup1 (by omega)).trans ((zup1 (by omega)).trans ((zup1 (by omega)).trans ((zup1 (by omega)).trans ((zup1 (by omega)).trans ((zup1 (by omega)).trans ((zup1 (by omega)).trans ((zup1 (by omega)).trans ((zup1 (by omega)).trans ((zup1 (by omega)).trans ((zup1 (by omega)).trans ((zup1 (by omega)).trans ((zup1 (by omega)).trans (zup1 (by omega)))))))))))))))))))) rfl rfl (eW 1 (by decide) (by decide) (by decide)) (eW 2 (by decide) (by decide) (by decide)) (eW 3 (by decide) (by decide) (by decide)), ⟨0, B, by decide, rfl, e10, fun a ha => absurd ha (by omega), fun a ha => absurd ha (by omega), fun a ha => absurd ha (by omega)⟩, hR0.2.2.2.1.fr rfl rfl e25 (eW 13 (by decide) (by decide) (by decide)), ?_, ?_⟩
    · rw [e11]; exact hla
    · rw [e1']; exact hst
  · have c : ¬ uf.2.2.2 = 0 := fun z => c (by rw [h7, z]; rfl)
    unfold wX_X4_place_5 wp_X4_place
    show wp_X8_road M (fun r1 M1 => (-1000100 : Int32) - b3 = r1 ∧ nz_Rel _ M1)
    rw [h3]
    refine MR _ (fun _ W' e1' e8 e10 e11 e25 eW => ⟨rfl, ?_⟩) (fun z => absurd z c)
    refine ⟨hR0.1.fr (fun i hi => (zup1 (by omega)).trans ((zup1 (by omega)).trans ((zup1 (by omega)).trans ((zup1 (by omega)).trans ((zup1 (by omega)).trans ((zup1 (by omega)).trans ((zup1 (by omega)).trans ((zup1 (by omega)).trans ((zup1 (by omega)).trans (zup1 (by omega))))))))))) (eW 4 (by decide) (by decide)) (eW 6 (by decide) (by decide)) (eW 11 (by decide) (by decide)) (eW 12 (by decide) (by decide)) e8, hR0.2.1.fr (fun i hi => (zup1 (by omega)).trans ((zup1 (by omega)).trans ((zup1 (by omega)).trans ((zup1 (by omega)).trans ((zup1 (by omega)).trans ((zup1 (by omega)).trans ((zup1 (by omega)).trans ((zup1 (by omega)).trans ((zup1 (by omega)).trans (zup1 (by omega))))))))))) rfl rfl (eW 1 (by decide) (by decide)) (eW 2 (by decide) (by decide)) (eW 3 (by decide) (by decide)), ⟨0, B, by decide, rfl, e10, fun a ha => absurd ha (by omega), fun a ha => absurd ha (by omega), fun a ha => absurd ha (by omega)⟩, hR0.2.2.2.1.fr rfl rfl e25 (eW 13 (by decide) (by decide)), ?_, ?_⟩
    · rw [e11]; exact h7
    · rw [e1']; exact hst
