def aFi (u : zU) : zU := if u.2.2.1 = 0 then u else aBl 1 u
theorem aFi_s {u : zU} (h : ¬ u.2.2.2 = 0) : aFi u = u := by
  unfold aFi
  rw [aBl_1 h]
  split <;> rfl
theorem zV.fi {t : Int} {B : Int → Int} {u : zU} (h : zV t B u) : zV t B (aFi u) := by
  unfold aFi
  split
  · exact h
  · exact h.bl (by decide)
theorem aFi_ok {u : zU} (h : (aFi u).2.2.2 = 0) : u.2.2.2 = 0 := by
  by_cases c : u.2.2.2 = 0
  · exact c
  · rw [aFi_s c] at h
    exact h
theorem l_movers {t : Int} {B : Int → Int} {ef0 f9 : Nat → Int32} (T : zTT t B ef0 f9) {n : Int} : ∀ (j : Nat) (u : zU) (g : Int → Int) (m : Int), m + j = 6 → 0 ≤ m → zV t B u → (u.2.2.2 = 0 → zPV g n ∧ zPM g m) →
    ∃ (u' : zU) (g' : Int → Int) (m' : Int), zV t B u' ∧ (u'.2.2.2 = 0 → u.2.2.2 = 0 ∧ zPV g' n ∧ zPM g' m' ∧ (∀ i : Int, i < 26 → i ≠ 5 → g' i = g i)) ∧
    (∀ (K : Int32 → Int32 → Int32 → Int32 → Int32 → Int32 → (Nat → Int32) → (Nat → Int32) → (Nat → Int32) → (Nat → Int32) → Prop) (r6 x1 a3 a4 a5 a6 a7 r7 : Int32) (h12 h13 h14 h15 : Nat → Int32), (u.2.2.2 = 0 → r6 = zi n) → zX4 B u a3 a4 a5 a6 a7 → (u.2.2.2 = 0 → x1 = zi m ∧ r7 = zi m ∧ zA m h12 (zkd g) ∧ zA m h13 (zwh g) ∧ zA m h14 (zwy g) ∧ zA m h15 (zre g)) →
      (∀ b3 b4 b5 b6 b7 s7 s12 s13 s14 s15, zX4 B u' b3 b4 b5 b6 b7 → (u'.2.2.2 = 0 → s7 = zi m' ∧ zA m' s12 (zkd g') ∧ zA m' s13 (zwh g') ∧ zA m' s14 (zwy g') ∧ zA m' s15 (zre g')) → K b3 b4 b5 b6 b7 s7 s12 s13 s14 s15) →
      nz_it (fun _ _ _ _ _ _ _ _ _ _ _ => False) (S_X4_readMovers_10 (zi t) ef0 r6 K) (j + 1) x1 a3 a4 a5 a6 a7 r7 h12 h13 h14 h15) ∧
    (∀ (M : Nat → Nat → Int32) (c00 c08 c010 c011 : Int32) (c4 : Nat → Int32) (K : Int32 → (Nat → Nat → Int32) → Prop) (r13 r14 r15 r16 r17 r18 : Int32) (c5 : Nat → Int32), M 7 = f9 → zLM u g r13 r14 r15 r16 r17 r18 c5 →
      (∀ d13 d14 d15 d16 d17 d18 d5, zLM (aFi u') g' d13 d14 d15 d16 d17 d18 d5 → S_X8_road_164 M c00 c08 c010 c011 (zi t) d13 d14 d15 d16 d17 d18 c4 d5 K) →
      nz_it (fun _ _ _ _ _ _ _ => False) (S_X8_road_126 M c00 c08 c010 c011 (zi t) c4 K) (j + 1) r13 r14 r15 r16 r17 r18 c5) := by
  have out : ∀ (u : zU) (g : Int → Int) (M : Nat → Nat → Int32) (c00 c08 c010 c011 : Int32) (c4 : Nat → Int32) (K : Int32 → (Nat → Nat → Int32) → Prop) (r13 r14 r15 r16 r17 r18 : Int32) (c5 : Nat → Int32), zV t B u → zLM u g r13 r14 r15 r16 r17 r18 c5 → (∀ d13 d14 d15 d16 d17 d18 d5, zLM (aFi u) g d13 d14 d15 d16 d17 d18 d5 → S_X8_road_164 M c00 c08 c010 c011 (zi t) d13 d14 d15 d16 d17 d18 c4 d5 K) → ((¬ r17 = 0 → S_X8_road_164 M c00 c08 c010 c011 (zi t) r13 r14 r15 r16 r17 r18 c4 c5 K) ∧ (r17 = 0 → ((r14 = 1 → S_X8_road_164 M c00 c08 c010 c011 (zi t) r13 r14 r15 r16 r17 r18 c4 c5 K) ∧ (¬ (r14 = 1) → wp_X8_bad r15 r17 r18 1 (fun m61 m62 => S_X8_road_164 M c00 c08 c010 c011 (zi t) r13 r14 r15 r16 m61 m62 c4 c5 K))))) := by
    intro u g M c00 c08 c010 c011 c4 K r13 r14 r15 r16 r17 r18 c5 V R hK
    have h17 := R.1.2.2.2.2.1
    have h14 := R.1.2.1
    have q4 := V.2.2.1
    have k4 := V.2.1
    have rc := ztc_rg k4
    rw [show (r17 = 0) = (u.2.2.2 = 0) from by rw [h17]; exact zi_eq (b := 0) (by omega) (by decide), show (r14 = 1) = (u.2.2.1 = 0) from by rw [h14]; exact (show (zi (ztc u.2.2.1) = 1) = (ztc u.2.2.1 = 1) from zi_eq (b := 1) (by omega) (by decide)).trans (ztc_1 k4)]
    refine ⟨fun c => ?_, fun c => ⟨fun d => ?_, fun d => ?_⟩⟩
    · rw [aFi_s c] at hK
      exact hK _ _ _ _ _ _ _ R
    · have : aFi u = u := if_pos d
      rw [this] at hK
      exact hK _ _ _ _ _ _ _ R
    · have e : aFi u = aBl 1 u := if_neg d
      rw [e] at hK
      exact m_bad V R.1 (by decide) zq1 (fun c17 c18 h => hK _ _ _ _ _ _ _ ⟨h, fun z => absurd z (aBl_q (by decide))⟩)
  intro j
  induction j with
  | zero =>
    intro u g m hj hn V hP
    have hq : ¬ u.2.2.2 = 0 := fun z => by
      have := (hP z).2.2.1
      omega
    refine ⟨u, g, m, V, fun z => absurd z hq, ?_, ?_⟩
    · intro K r6 x1 a3 a4 a5 a6 a7 r7 h12 h13 h14 h15 _ R _ hK
      have h7 := R.2.2.2.2
      have q4 := V.2.2.1
      show S_X4_readMovers_10 (zi t) ef0 r6 K _ x1 a3 a4 a5 a6 a7 r7 h12 h13 h14 h15
      generalize nz_it (fun _ _ _ _ _ _ _ _ _ _ _ => False) (S_X4_readMovers_10 (zi t) ef0 r6 K) 0 = R10
      unfold S_X4_readMovers_10
      rw [h7, show (zi u.2.2.2 = 0) = (u.2.2.2 = 0) from zi_eq (b := 0) (by omega) (by decide), ← h7]
      exact ⟨fun _ => hK _ _ _ _ _ _ _ _ _ _ R (fun z => absurd z hq), fun _ => ⟨fun _ => hK _ _ _ _ _ _ _ _ _ _ R (fun z => absurd z hq), fun z => absurd z hq⟩⟩
    · intro M c00 c08 c010 c011 c4 K r13 r14 r15 r16 r17 r18 c5 e7 R hK
      show S_X8_road_126 M c00 c08 c010 c011 (zi t) c4 K _ r13 r14 r15 r16 r17 r18 c5
      generalize nz_it (fun _ _ _ _ _ _ _ => False) (S_X8_road_126 M c00 c08 c010 c011 (zi t) c4 K) 0 = R126
      unfold S_X8_road_126
      rw [e7]
      exact m_wordq (w := 2) (c := 470021465458) T V R.1 (by decide) rfl (fun z => absurd z hq) (fun _ v hv => ⟨fun _ => out u g M _ _ _ _ _ K _ _ _ _ _ _ _ V R hK, fun z => absurd z hv⟩)
  | succ j ih =>
    intro u g m hj hn V hP
    by_cases c : u.2.2.2 = 0 ∧ zwm B u.1 u.2.1 u.2.2.1 2
    · obtain ⟨cq, cw⟩ := c
      obtain ⟨hPV, hPM⟩ := hP cq
      have rn := hPV.2.2.2.2.2.1
      have rm := hPM.2.1
      by_cases c5 : m = 5
      · have hq1 : ¬ (aBl 3 u).2.2.2 = 0 := aBl_q (by decide)
        refine ⟨aBl 3 u, g, m, V.bl (by decide), fun z => absurd z hq1, ?_, ?_⟩
        · intro K r6 x1 a3 a4 a5 a6 a7 r7 h12 h13 h14 h15 _ R hx hK
          have h7 := R.2.2.2.2
          obtain ⟨e1, -⟩ := hx cq
          show S_X4_readMovers_10 (zi t) ef0 r6 K _ x1 a3 a4 a5 a6 a7 r7 h12 h13 h14 h15
          generalize nz_it (fun _ _ _ _ _ _ _ _ _ _ _ => False) (S_X4_readMovers_10 (zi t) ef0 r6 K) (j + 1) = R10
          unfold S_X4_readMovers_10
          rw [e1, show (5 < zi m) = (5 < m) from zi_lt (a := 5) (by decide) (by omega), show (zi m = 5) = (m = 5) from zi_eq (b := 5) (by omega) (by decide)]
          refine ⟨fun z => absurd z (by omega), fun _ => ⟨fun z => absurd (by rw [h7, cq]; rfl) z, fun _ => x_isWord T V R (by decide) (fun _ => by1' ⟨fun z => absurd c5 z, fun _ => x_bl V R zq3 (fun b7 h => hK _ _ _ _ _ _ _ _ _ _ h (fun z => absurd z hq1))⟩) (fun z => absurd cw z)⟩⟩
        · intro M c00 c08 c010 c011 c4 K r13 r14 r15 r16 r17 r18 c5' e7 R hK
          show S_X8_road_126 M c00 c08 c010 c011 (zi t) c4 K _ r13 r14 r15 r16 r17 r18 c5'
          generalize hR : nz_it (fun _ _ _ _ _ _ _ => False) (S_X8_road_126 M c00 c08 c010 c011 (zi t) c4 K) (j + 1) = R126
          unfold S_X8_road_126
          rw [e7]
          refine m_wordq (w := 2) (c := 470021465458) T V R.1 (by decide) rfl (fun _ _ v hv => ⟨fun z => absurd hv z, fun _ => ?_⟩) (fun z => absurd ⟨cq, cw⟩ z)
          refine m_readMover T V R.1 hPV hPM (R.2 cq) cq (fun _ d13 d14 d15 d16 d17 d18 h => ?_) (fun z => absurd c5 (by omega))
          rw [← hR]
          show S_X8_road_126 M c00 c08 c010 c011 (zi t) c4 K _ d13 d14 d15 d16 d17 d18 c5'
          generalize nz_it (fun _ _ _ _ _ _ _ => False) (S_X8_road_126 M c00 c08 c010 c011 (zi t) c4 K) j = R0
          unfold S_X8_road_126
          rw [e7]
          exact m_wordq (w := 2) (c := 470021465458) T (V.bl (by decide)) h (by decide) rfl (fun z => absurd z hq1) (fun _ v hv => ⟨fun _ => out (aBl 3 u) g M _ _ _ _ _ K _ _ _ _ _ _ _ (V.bl (by decide)) ⟨h, fun z => absurd z hq1⟩ hK, fun z => absurd z hv⟩)
      · have hm5 : m < 5 := by omega
        have V1 := V.nx T
        have V2 := V1.so T
        have V3 := V2.nu (lo := 0) (hi := n - 1) T
        have V4 := V3.nu (lo := 0) (hi := 1) T
        have V5 := V4.nu (lo := 1) (hi := 5) T
        have V6 : zV t B (aM t B n (aNx t B u)) := V5.en T
        have ok : (aM t B n (aNx t B u)).2.2.2 = 0 → zPV (zg2 g m (zSo B (aNx t B u)) (zVal B (aSo t B (aNx t B u))) (zVal B (aNu t B 0 (n - 1) (aSo t B (aNx t B u)))) (zVal B (aNu t B 0 1 (aNu t B 0 (n - 1) (aSo t B (aNx t B u)))))) n ∧ zPM (zg2 g m (zSo B (aNx t B u)) (zVal B (aSo t B (aNx t B u))) (zVal B (aNu t B 0 (n - 1) (aSo t B (aNx t B u)))) (zVal B (aNu t B 0 1 (aNu t B 0 (n - 1) (aSo t B (aNx t B u)))))) (m + 1) := fun z => by
          obtain ⟨o1, o2, o3, o4, o5, -⟩ := aM_ok z
          exact ⟨hPV.mv hn, hPM.up hm5 o2 (by rw [hPV.2.2.2.2.1.1]; exact o3) o4 o5⟩
        obtain ⟨u', g', m', V', hq', hX, hM⟩ := ih _ _ (m + 1) (by omega) (by omega) V6 ok
        refine ⟨u', g', m', V', fun z => ?_, ?_, ?_⟩
        · obtain ⟨y1, y2, y3, y4⟩ := hq' z
          exact ⟨cq, y2, y3, fun i hi h5 => by rw [y4 i hi h5, zg2_lo hn h5 hi]⟩
        · intro K r6 x1 a3 a4 a5 a6 a7 r7 h12 h13 h14 h15 hr R hx hK
          have h7 := R.2.2.2.2
          obtain ⟨e1, e2, e12, e13, e14, e15⟩ := hx cq
          have hr := hr cq
          show S_X4_readMovers_10 (zi t) ef0 r6 K _ x1 a3 a4 a5 a6 a7 r7 h12 h13 h14 h15
          generalize hR : nz_it (fun _ _ _ _ _ _ _ _ _ _ _ => False) (S_X4_readMovers_10 (zi t) ef0 r6 K) (j + 1) = R10
          unfold S_X4_readMovers_10
          rw [e1, show (5 < zi m) = (5 < m) from zi_lt (a := 5) (by decide) (by omega), show (zi m = 5) = (m = 5) from zi_eq (b := 5) (by omega) (by decide)]
          refine ⟨fun z => absurd z (by omega), fun _ => ⟨fun z => absurd (by rw [h7, cq]; rfl) z, fun _ => x_isWord T V R (by decide) (fun _ => by1' ⟨fun _ => ?_, fun z => absurd z c5⟩) (fun z => absurd cw z)⟩⟩
          refine x_wd T V R (by decide) (fun b3 b4 b5 b6 b7 R1 => ?_)
          rw [aWd_1 cw] at R1
          refine x_so T V1 R1 (fun b3 b4 b5 b6 b7 R2 => ⟨zi_in (by omega), ?_⟩)
          rw [hr, zq1, zi_sub, ← zq1]
          refine x_nu (lo := 0) (hi := n - 1) T V2 R2 (by decide) (by omega) (fun v3 b3 b4 b5 b6 b7 R3 hv3 => ⟨zi_in (by omega), ?_⟩)
          refine x_nu (lo := 0) (hi := 1) T V3 R3 (by decide) (by decide) (fun v4 b3 b4 b5 b6 b7 R4 hv4 => ⟨zi_in (by omega), ?_⟩)
          refine x_nu (lo := 1) (hi := 5) T V4 R4 (by decide) (by decide) (fun v5 b3 b4 b5 b6 b7 R5 hv5 => ⟨zi_in (by omega), ?_⟩)
          refine x_en T V5 R5 (fun b3 b4 b5 b6 b7 R6 => ?_)
          rw [← hR]
          refine hX K r6 _ _ _ _ _ _ _ _ _ _ _ (fun _ => hr) R6 (fun z => ?_) hK
          obtain ⟨o1, o2, o3, o4, o5, z3, z4, z5⟩ := aM_ok z
          have mv := fun k hk => zg2_mv (g := g) (m := m) (a := zSo B (aNx t B u)) (b := zVal B (aSo t B (aNx t B u))) (c := zVal B (aNu t B 0 (n - 1) (aSo t B (aNx t B u)))) (d := zVal B (aNu t B 0 1 (aNu t B 0 (n - 1) (aSo t B (aNx t B u))))) (k := k) hn hk
          rw [hv3 z3, hv4 z4, hv5 z5]
          refine ⟨by rw [zq1, zi_add], by rw [zq1, zi_add], ?_, ?_, ?_, ?_⟩
          · refine (e12.of (g := zkd (zg2 g m (zSo B (aNx t B u)) (zVal B (aSo t B (aNx t B u))) (zVal B (aNu t B 0 (n - 1) (aSo t B (aNx t B u)))) (zVal B (aNu t B 0 1 (aNu t B 0 (n - 1) (aSo t B (aNx t B u))))))) (fun a ha => ?_)).snoc (by omega) ?_
            · rw [(mv a (by omega)).1, if_neg (by omega)]
            · rw [(mv m hn).1, if_pos rfl]
          · refine (e13.of (g := zwh (zg2 g m (zSo B (aNx t B u)) (zVal B (aSo t B (aNx t B u))) (zVal B (aNu t B 0 (n - 1) (aSo t B (aNx t B u)))) (zVal B (aNu t B 0 1 (aNu t B 0 (n - 1) (aSo t B (aNx t B u))))))) (fun a ha => ?_)).snoc (by omega) ?_
            · rw [(mv a (by omega)).2.1, if_neg (by omega)]
            · rw [(mv m hn).2.1, if_pos rfl]
          · refine (e14.of (g := zwy (zg2 g m (zSo B (aNx t B u)) (zVal B (aSo t B (aNx t B u))) (zVal B (aNu t B 0 (n - 1) (aSo t B (aNx t B u)))) (zVal B (aNu t B 0 1 (aNu t B 0 (n - 1) (aSo t B (aNx t B u))))))) (fun a ha => ?_)).snoc (by omega) ?_
            · rw [(mv a (by omega)).2.2.1, if_neg (by omega)]
            · rw [(mv m hn).2.2.1, if_pos rfl]
          · refine (e15.of (g := zre (zg2 g m (zSo B (aNx t B u)) (zVal B (aSo t B (aNx t B u))) (zVal B (aNu t B 0 (n - 1) (aSo t B (aNx t B u)))) (zVal B (aNu t B 0 1 (aNu t B 0 (n - 1) (aSo t B (aNx t B u))))))) (fun a ha => ?_)).snoc (by omega) ?_
            · rw [(mv a (by omega)).2.2.2, if_neg (by omega)]
            · rw [(mv m hn).2.2.2, if_pos rfl]
        · intro M c00 c08 c010 c011 c4 K r13 r14 r15 r16 r17 r18 c5' e7 R hK
          show S_X8_road_126 M c00 c08 c010 c011 (zi t) c4 K _ r13 r14 r15 r16 r17 r18 c5'
          generalize hR : nz_it (fun _ _ _ _ _ _ _ => False) (S_X8_road_126 M c00 c08 c010 c011 (zi t) c4 K) (j + 1) = R126
          unfold S_X8_road_126
          rw [e7]
          refine m_wordq (w := 2) (c := 470021465458) T V R.1 (by decide) rfl (fun _ _ v hv => ⟨fun z => absurd hv z, fun _ => ?_⟩) (fun z => absurd ⟨cq, cw⟩ z)
          exact m_readMover T V R.1 hPV hPM (R.2 cq) cq (fun z => absurd z c5) (fun _ d13 d14 d15 d16 d17 d18 s h => by rw [← hR]; exact hM M c00 c08 c010 c011 c4 K _ _ _ _ _ _ _ e7 h hK)
    · refine ⟨u, g, m, V, fun z => ⟨z, (hP z).1, (hP z).2, fun _ _ _ => rfl⟩, ?_, ?_⟩
      · intro K r6 x1 a3 a4 a5 a6 a7 r7 h12 h13 h14 h15 _ R hx hK
        have h7 := R.2.2.2.2
        have q4 := V.2.2.1
        have done : K a3 a4 a5 a6 a7 r7 h12 h13 h14 h15 := hK _ _ _ _ _ _ _ _ _ _ R (fun z => (hx z).2)
        show S_X4_readMovers_10 (zi t) ef0 r6 K _ x1 a3 a4 a5 a6 a7 r7 h12 h13 h14 h15
        generalize nz_it (fun _ _ _ _ _ _ _ _ _ _ _ => False) (S_X4_readMovers_10 (zi t) ef0 r6 K) (j + 1) = R10
        unfold S_X4_readMovers_10
        rw [h7, show (zi u.2.2.2 = 0) = (u.2.2.2 = 0) from zi_eq (b := 0) (by omega) (by decide), ← h7]
        exact ⟨fun _ => done, fun _ => ⟨fun _ => done, fun z => x_isWord T V R (by decide) (fun w => absurd ⟨z, w⟩ c) (fun _ => by0' done)⟩⟩
      · intro M c00 c08 c010 c011 c4 K r13 r14 r15 r16 r17 r18 c5' e7 R hK
        show S_X8_road_126 M c00 c08 c010 c011 (zi t) c4 K _ r13 r14 r15 r16 r17 r18 c5'
        generalize nz_it (fun _ _ _ _ _ _ _ => False) (S_X8_road_126 M c00 c08 c010 c011 (zi t) c4 K) (j + 1) = R126
        unfold S_X8_road_126
        rw [e7]
        exact m_wordq (w := 2) (c := 470021465458) T V R.1 (by decide) rfl (fun z w => absurd ⟨z, w⟩ c) (fun _ v hv => ⟨fun _ => out u g M _ _ _ _ _ K _ _ _ _ _ _ _ V R hK, fun z => absurd z hv⟩)
