theorem l_stones {t : Int} {B : Int → Int} {ef0 f9 : Nat → Int32} (T : zTT t B ef0 f9) : ∀ (j : Nat) (u : zU) (g : Int → Int) (n : Int), n + j = 7 → 0 ≤ n → zV t B u → (u.2.2.2 = 0 → zPV g n ∧ g 5 = 0) →
    ∃ (u' : zU) (g' : Int → Int) (n' : Int), zV t B u' ∧ (u'.2.2.2 = 0 → u.2.2.2 = 0 ∧ zPV g' n' ∧ g' 5 = 0 ∧ (∀ i : Int, i < 4 → g' i = g i)) ∧
    (∀ (K : Int32 → Int32 → Int32 → Int32 → Int32 → Int32 → (Nat → Int32) → (Nat → Int32) → Prop) (r1 x1 x2 a3 a4 a5 a6 a7 r6 : Int32) (h9 h10 : Nat → Int32), (u.2.2.2 = 0 → r1 = zi (g 0)) → zX4 B u a3 a4 a5 a6 a7 → (u.2.2.2 = 0 → x1 = zi (zNr g n) ∧ x2 = zi n ∧ r6 = zi n ∧ zA n h9 (zsay g) ∧ zA n h10 (zat g)) →
      (∀ b3 b4 b5 b6 b7 s6 s9 s10, zX4 B u' b3 b4 b5 b6 b7 → (u'.2.2.2 = 0 → s6 = zi n' ∧ zA n' s9 (zsay g') ∧ zA n' s10 (zat g')) → K b3 b4 b5 b6 b7 s6 s9 s10) →
      nz_it (fun _ _ _ _ _ _ _ _ _ _ => False) (S_X4_readStones_12 (zi t) ef0 r1 K) (j + 1) x1 x2 a3 a4 a5 a6 a7 r6 h9 h10) ∧
    (∀ (M : Nat → Nat → Int32) (c00 c08 c010 c011 : Int32) (c4 : Nat → Int32) (K : Int32 → (Nat → Nat → Int32) → Prop) (r13 r14 r15 r16 r17 r18 : Int32) (c5 : Nat → Int32), M 7 = f9 → zLM u g r13 r14 r15 r16 r17 r18 c5 →
      (∀ d13 d14 d15 d16 d17 d18 d5, zLM u' g' d13 d14 d15 d16 d17 d18 d5 → ∃ m, nz_it (fun _ _ _ _ _ _ _ => False) (S_X8_road_126 M c00 c08 c010 c011 (zi t) c4 K) m d13 d14 d15 d16 d17 d18 d5) →
      nz_it (fun _ _ _ _ _ _ _ => False) (S_X8_road_108 M c00 c08 c010 c011 (zi t) c4 K) (j + 1) r13 r14 r15 r16 r17 r18 c5) := by
  intro j
  induction j with
  | zero =>
    intro u g n hj hn V hP
    have hq : ¬ u.2.2.2 = 0 := fun z => by
      have := (hP z).1.2.2.2.2.2.1
      omega
    refine ⟨u, g, n, V, fun z => absurd z hq, ?_, ?_⟩
    · intro K r1 x1 x2 a3 a4 a5 a6 a7 r6 h9 h10 _ R _ hK
      have h7 := R.2.2.2.2
      have q4 := V.2.2.1
      show S_X4_readStones_12 (zi t) ef0 r1 K _ x1 x2 a3 a4 a5 a6 a7 r6 h9 h10
      generalize hR : nz_it (fun _ _ _ _ _ _ _ _ _ _ => False) (S_X4_readStones_12 (zi t) ef0 r1 K) 0 = R12
      unfold S_X4_readStones_12
      rw [h7, show (zi u.2.2.2 = 0) = (u.2.2.2 = 0) from zi_eq (b := 0) (by omega) (by decide), ← h7]
      exact ⟨fun _ => hK _ _ _ _ _ _ _ _ R (fun z => absurd z hq), fun _ => ⟨fun _ => hK _ _ _ _ _ _ _ _ R (fun z => absurd z hq), fun z => absurd z hq⟩⟩
    · intro M c00 c08 c010 c011 c4 K r13 r14 r15 r16 r17 r18 c5 e7 R hK
      show S_X8_road_108 M c00 c08 c010 c011 (zi t) c4 K _ r13 r14 r15 r16 r17 r18 c5
      generalize hR : nz_it (fun _ _ _ _ _ _ _ => False) (S_X8_road_108 M c00 c08 c010 c011 (zi t) c4 K) 0 = R108
      unfold S_X8_road_108
      rw [e7]
      exact m_wordq (w := 1) (c := 495874698853) T V R.1 (by decide) rfl (fun z => absurd z hq) (fun _ v hv => ⟨fun _ => hK _ _ _ _ _ _ _ R, fun z => absurd z hv⟩)
  | succ j ih =>
    intro u g n hj hn V hP
    by_cases c : u.2.2.2 = 0 ∧ zwm B u.1 u.2.1 u.2.2.1 1
    · obtain ⟨cq, cw⟩ := c
      obtain ⟨hPV, hg5⟩ := hP cq
      have rn := hPV.2.2.2.2.2.1
      have r0 := hPV.1
      have rr := hPV.nr
      by_cases c6 : n = 6
      · have hq1 : ¬ (aBl 3 u).2.2.2 = 0 := aBl_q (by decide)
        refine ⟨aBl 3 u, g, n, V.bl (by decide), fun z => absurd z hq1, ?_, ?_⟩
        · intro K r1 x1 x2 a3 a4 a5 a6 a7 r6 h9 h10 _ R hx hK
          have h7 := R.2.2.2.2
          obtain ⟨e1, e2, -⟩ := hx cq
          show S_X4_readStones_12 (zi t) ef0 r1 K _ x1 x2 a3 a4 a5 a6 a7 r6 h9 h10
          generalize hR : nz_it (fun _ _ _ _ _ _ _ _ _ _ => False) (S_X4_readStones_12 (zi t) ef0 r1 K) (j + 1) = R12
          unfold S_X4_readStones_12
          rw [e2, show (6 < zi n) = (6 < n) from zi_lt (a := 6) (by decide) (by omega), show (zi n = 6) = (n = 6) from zi_eq (b := 6) (by omega) (by decide)]
          refine ⟨fun z => absurd z (by omega), fun _ => ⟨fun z => absurd (by rw [h7, cq]; rfl) z, fun _ => x_isWord T V R (by decide) (fun _ => by1' ⟨fun z => absurd c6 z, fun _ => x_bl V R zq3 (fun b7 h => hK _ _ _ _ _ _ _ _ h (fun z => absurd z hq1))⟩) (fun z => absurd cw z)⟩⟩
        · intro M c00 c08 c010 c011 c4 K r13 r14 r15 r16 r17 r18 c5 e7 R hK
          show S_X8_road_108 M c00 c08 c010 c011 (zi t) c4 K _ r13 r14 r15 r16 r17 r18 c5
          generalize hR : nz_it (fun _ _ _ _ _ _ _ => False) (S_X8_road_108 M c00 c08 c010 c011 (zi t) c4 K) (j + 1) = R108
          unfold S_X8_road_108
          rw [e7]
          refine m_wordq (w := 1) (c := 495874698853) T V R.1 (by decide) rfl (fun _ _ v hv => ⟨fun z => absurd hv z, fun _ => ?_⟩) (fun z => absurd ⟨cq, cw⟩ z)
          refine m_readStone T V R.1 hPV (R.2 cq) cq (fun _ d13 d14 d15 d16 d17 d18 h => ?_) (fun z => absurd c6 (by omega))
          rw [← hR]
          show S_X8_road_108 M c00 c08 c010 c011 (zi t) c4 K _ d13 d14 d15 d16 d17 d18 c5
          generalize nz_it (fun _ _ _ _ _ _ _ => False) (S_X8_road_108 M c00 c08 c010 c011 (zi t) c4 K) j = R0
          unfold S_X8_road_108
          rw [e7]
          exact m_wordq (w := 1) (c := 495874698853) T (V.bl (by decide)) h (by decide) rfl (fun z => absurd z hq1) (fun _ v hv => ⟨fun _ => hK _ _ _ _ _ _ _ ⟨h, fun z => absurd z hq1⟩, fun z => absurd z hv⟩)
      · have hn6 : n < 6 := by omega
        have V1 := V.nx T
        have V2 := V1.nu (lo := 0) (hi := 200) T
        have V3 := V2.nu (lo := zNr g n) (hi := g 0) T
        have V4 := V3.en T
        have ok : (aEn t B (aNu t B (zNr g n) (g 0) (aNu t B 0 200 (aNx t B u)))).2.2.2 = 0 → zPV (zg1 g n (zVal B (aNx t B u)) (zVal B (aNu t B 0 200 (aNx t B u)))) (n + 1) ∧ zg1 g n (zVal B (aNx t B u)) (zVal B (aNu t B 0 200 (aNx t B u))) 5 = 0 := fun z => by
          have o3 := aNu_ok (aEn_ok z)
          have o2 := aNu_ok o3.1
          refine ⟨hPV.up hn6 ⟨o2.2.2.1, o2.2.2.2.1⟩ ⟨o3.2.2.1, o3.2.2.2.1⟩, ?_⟩
          rw [zg1_lo hn (by decide) (by decide)]
          exact hg5
        obtain ⟨u', g', n', V', hq', hX, hM⟩ := ih _ (zg1 g n (zVal B (aNx t B u)) (zVal B (aNu t B 0 200 (aNx t B u)))) (n + 1) (by omega) (by omega) V4 ok
        refine ⟨u', g', n', V', fun z => ?_, ?_, ?_⟩
        · obtain ⟨y1, y2, y3, y4⟩ := hq' z
          exact ⟨cq, y2, y3, fun i hi => by rw [y4 i hi, zg1_lo hn (by omega) (by omega)]⟩
        · intro K r1 x1 x2 a3 a4 a5 a6 a7 r6 h9 h10 hr R hx hK
          have h7 := R.2.2.2.2
          obtain ⟨e1, e2, e3, e4, e5⟩ := hx cq
          have hr := hr cq
          show S_X4_readStones_12 (zi t) ef0 r1 K _ x1 x2 a3 a4 a5 a6 a7 r6 h9 h10
          generalize hR : nz_it (fun _ _ _ _ _ _ _ _ _ _ => False) (S_X4_readStones_12 (zi t) ef0 r1 K) (j + 1) = R12
          unfold S_X4_readStones_12
          rw [e2, e1, show (6 < zi n) = (6 < n) from zi_lt (a := 6) (by decide) (by omega), show (zi n = 6) = (n = 6) from zi_eq (b := 6) (by omega) (by decide)]
          refine ⟨fun z => absurd z (by omega), fun _ => ⟨fun z => absurd (by rw [h7, cq]; rfl) z, fun _ => x_isWord T V R (by decide) (fun _ => by1' ⟨fun _ => ?_, fun z => absurd z c6⟩) (fun z => absurd cw z)⟩⟩
          refine x_wd T V R (by decide) (fun b3 b4 b5 b6 b7 R1 => ?_)
          rw [aWd_1 cw] at R1
          refine x_nu (lo := 0) (hi := 200) T V1 R1 (by decide) (by decide) (fun v b3 b4 b5 b6 b7 R2 hv => ⟨zi_in (by omega), ?_⟩)
          rw [hr]
          refine x_nu T V2 R2 (by omega) (by omega) (fun v2 b3 b4 b5 b6 b7 R3 hv2 => ⟨zi_in (by omega), ?_⟩)
          refine x_en T V3 R3 (fun b3 b4 b5 b6 b7 R4 => ⟨zi_in (by omega), ?_⟩)
          rw [← hR]
          refine hX K r1 _ _ _ _ _ _ _ _ _ _ (fun _ => by rw [zg1_lo hn (by decide) (by decide)]; exact hr) R4 (fun z => ?_) hK
          have o3 := aNu_ok (aEn_ok z)
          have hv := hv o3.1
          have hv2 := hv2 (aEn_ok z)
          have st := fun k hk => zg1_st (g := g) (n := n) (a := zVal B (aNx t B u)) (b := zVal B (aNu t B 0 200 (aNx t B u))) (k := k) hn hk
          rw [hv, hv2]
          refine ⟨?_, by rw [zq1, zi_add], by rw [zq1, zi_add], ?_, ?_⟩
          · rw [show upd h10 (zi n).toNatClampNeg (zi (zVal B (aNu t B 0 200 (aNx t B u)))) (zi n).toNatClampNeg = zi (zVal B (aNu t B 0 200 (aNx t B u))) from if_pos rfl, zq1, zi_add]
            unfold zNr
            rw [if_neg (by omega), show n + 1 - 1 = n by omega, (st n hn).2.1, if_pos rfl]
          · refine (e4.of (g := zsay (zg1 g n (zVal B (aNx t B u)) (zVal B (aNu t B 0 200 (aNx t B u))))) (fun a ha => ?_)).snoc (by omega) ?_
            · rw [(st a (by omega)).1, if_neg (by omega)]
            · rw [(st n hn).1, if_pos rfl]
          · refine (e5.of (g := zat (zg1 g n (zVal B (aNx t B u)) (zVal B (aNu t B 0 200 (aNx t B u))))) (fun a ha => ?_)).snoc (by omega) ?_
            · rw [(st a (by omega)).2.1, if_neg (by omega)]
            · rw [(st n hn).2.1, if_pos rfl]
        · intro M c00 c08 c010 c011 c4 K r13 r14 r15 r16 r17 r18 c5 e7 R hK
          show S_X8_road_108 M c00 c08 c010 c011 (zi t) c4 K _ r13 r14 r15 r16 r17 r18 c5
          generalize hR : nz_it (fun _ _ _ _ _ _ _ => False) (S_X8_road_108 M c00 c08 c010 c011 (zi t) c4 K) (j + 1) = R108
          unfold S_X8_road_108
          rw [e7]
          refine m_wordq (w := 1) (c := 495874698853) T V R.1 (by decide) rfl (fun _ _ v hv => ⟨fun z => absurd hv z, fun _ => ?_⟩) (fun z => absurd ⟨cq, cw⟩ z)
          exact m_readStone T V R.1 hPV (R.2 cq) cq (fun z => absurd z c6) (fun _ d13 d14 d15 d16 d17 d18 s h => by rw [← hR]; exact hM M c00 c08 c010 c011 c4 K _ _ _ _ _ _ _ e7 h hK)
    · refine ⟨u, g, n, V, fun z => ⟨z, (hP z).1, (hP z).2, fun _ _ => rfl⟩, ?_, ?_⟩
      · intro K r1 x1 x2 a3 a4 a5 a6 a7 r6 h9 h10 _ R hx hK
        have h7 := R.2.2.2.2
        have q4 := V.2.2.1
        have done : K a3 a4 a5 a6 a7 r6 h9 h10 := hK _ _ _ _ _ _ _ _ R (fun z => (hx z).2.2)
        show S_X4_readStones_12 (zi t) ef0 r1 K _ x1 x2 a3 a4 a5 a6 a7 r6 h9 h10
        generalize hR : nz_it (fun _ _ _ _ _ _ _ _ _ _ => False) (S_X4_readStones_12 (zi t) ef0 r1 K) (j + 1) = R12
        unfold S_X4_readStones_12
        rw [h7, show (zi u.2.2.2 = 0) = (u.2.2.2 = 0) from zi_eq (b := 0) (by omega) (by decide), ← h7]
        exact ⟨fun _ => done, fun _ => ⟨fun _ => done, fun z => x_isWord T V R (by decide) (fun w => absurd ⟨z, w⟩ c) (fun _ => by0' done)⟩⟩
      · intro M c00 c08 c010 c011 c4 K r13 r14 r15 r16 r17 r18 c5 e7 R hK
        show S_X8_road_108 M c00 c08 c010 c011 (zi t) c4 K _ r13 r14 r15 r16 r17 r18 c5
        generalize hR : nz_it (fun _ _ _ _ _ _ _ => False) (S_X8_road_108 M c00 c08 c010 c011 (zi t) c4 K) (j + 1) = R108
        unfold S_X8_road_108
        rw [e7]
        exact m_wordq (w := 1) (c := 495874698853) T V R.1 (by decide) rfl (fun z w => absurd ⟨z, w⟩ c) (fun _ v hv => ⟨fun _ => hK _ _ _ _ _ _ _ R, fun z => absurd z hv⟩)
