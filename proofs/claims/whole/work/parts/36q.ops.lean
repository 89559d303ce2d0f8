abbrev zU := Int × Int × Int × Int
def zV (t : Int) (B : Int → Int) (u : zU) : Prop := zST t B u.1 u.2.1 u.2.2.1 u.2.2.2
def zX4 (B : Int → Int) (u : zU) (a3 a4 a5 a6 a7 : Int32) : Prop := zXS B u.1 u.2.1 u.2.2.1 u.2.2.2 a3 a4 a5 a6 a7
def zM8 (u : zU) (r13 r14 r15 r16 r17 r18 : Int32) : Prop := zMS u.1 u.2.1 u.2.2.1 u.2.2.2 r13 r14 r15 r16 r17 r18
def aNx (t : Int) (B : Int → Int) (u : zU) : zU := if u.2.2.2 = 0 then ((znx t B u.2.1).1, (znx t B u.2.1).2.1, (znx t B u.2.1).2.2, 0) else u
def aBl (n : Int) (u : zU) : zU := if u.2.2.2 = 0 then (u.1, u.2.1, u.2.2.1, n) else u
noncomputable def aWd (t : Int) (B : Int → Int) (w : Nat) (u : zU) : zU := @ite zU (zwm B u.1 u.2.1 u.2.2.1 w) (Classical.propDecidable _) (aNx t B u) (aBl 1 u)
def zVal (B : Int → Int) (u : zU) : Int := zvn B u.1 (u.2.1 - u.1).toNat
def aNu (t : Int) (B : Int → Int) (lo hi : Int) (u : zU) : zU := if u.2.2.1 = 2 then (if lo ≤ zVal B u ∧ zVal B u ≤ hi then aNx t B u else aBl 2 u) else aBl 1 u
def aEn (t : Int) (B : Int → Int) (u : zU) : zU := if u.2.2.1 = 3 then aNx t B u else aBl 1 u
theorem aNx_0 {t : Int} {B : Int → Int} {u : zU} (h : u.2.2.2 = 0) : aNx t B u = ((znx t B u.2.1).1, (znx t B u.2.1).2.1, (znx t B u.2.1).2.2, 0) := if_pos h
theorem aNx_1 {t : Int} {B : Int → Int} {u : zU} (h : ¬ u.2.2.2 = 0) : aNx t B u = u := if_neg h
theorem aBl_0 {n : Int} {u : zU} (h : u.2.2.2 = 0) : aBl n u = (u.1, u.2.1, u.2.2.1, n) := if_pos h
theorem aBl_1 {n : Int} {u : zU} (h : ¬ u.2.2.2 = 0) : aBl n u = u := if_neg h
theorem aWd_1 {t : Int} {B : Int → Int} {w : Nat} {u : zU} (h : zwm B u.1 u.2.1 u.2.2.1 w) : aWd t B w u = aNx t B u := if_pos h
theorem aWd_0 {t : Int} {B : Int → Int} {w : Nat} {u : zU} (h : ¬ zwm B u.1 u.2.1 u.2.2.1 w) : aWd t B w u = aBl 1 u := if_neg h
theorem aNx_q {t : Int} {B : Int → Int} {u : zU} : (aNx t B u).2.2.2 = u.2.2.2 := by
  by_cases c : u.2.2.2 = 0
  · rw [aNx_0 c, c]
  · rw [aNx_1 c]
theorem aBl_q {n : Int} {u : zU} (hn : n ≠ 0) : (aBl n u).2.2.2 ≠ 0 := by
  by_cases c : u.2.2.2 = 0
  · rw [aBl_0 c]
    exact hn
  · rw [aBl_1 c]
    exact c
theorem aNu_ok {t : Int} {B : Int → Int} {lo hi : Int} {u : zU} (h : (aNu t B lo hi u).2.2.2 = 0) : u.2.2.2 = 0 ∧ u.2.2.1 = 2 ∧ lo ≤ zVal B u ∧ zVal B u ≤ hi ∧ aNu t B lo hi u = aNx t B u := by
  unfold aNu at h ⊢
  by_cases c : u.2.2.1 = 2
  · rw [if_pos c] at h ⊢
    by_cases d : lo ≤ zVal B u ∧ zVal B u ≤ hi
    · rw [if_pos d] at h ⊢
      rw [aNx_q] at h
      exact ⟨h, c, d.1, d.2, rfl⟩
    · rw [if_neg d] at h
      exact absurd h (aBl_q (by decide))
  · rw [if_neg c] at h
    exact absurd h (aBl_q (by decide))
theorem aEn_ok {t : Int} {B : Int → Int} {u : zU} (h : (aEn t B u).2.2.2 = 0) : u.2.2.2 = 0 := by
  unfold aEn at h
  by_cases c : u.2.2.1 = 3
  · rw [if_pos c, aNx_q] at h
    exact h
  · rw [if_neg c] at h
    exact absurd h (aBl_q (by decide))
theorem aWd_ok {t : Int} {B : Int → Int} {w : Nat} {u : zU} (h : (aWd t B w u).2.2.2 = 0) : u.2.2.2 = 0 := by
  by_cases c : zwm B u.1 u.2.1 u.2.2.1 w
  · rw [aWd_1 c, aNx_q] at h
    exact h
  · rw [aWd_0 c] at h
    exact absurd h (aBl_q (by decide))
theorem zV.nx {t : Int} {B : Int → Int} {ef0 f9 : Nat → Int32} {u : zU} (T : zTT t B ef0 f9) (h : zV t B u) : zV t B (aNx t B u) := by
  by_cases c : u.2.2.2 = 0
  · rw [aNx_0 c]
    exact znx_ok T (by have := h.1; omega)
  · rw [aNx_1 c]
    exact h
theorem zV.bl {t : Int} {B : Int → Int} {u : zU} {n : Int} (hn : 1 ≤ n ∧ n ≤ 3) (h : zV t B u) : zV t B (aBl n u) := by
  by_cases c : u.2.2.2 = 0
  · rw [aBl_0 c]
    exact ⟨h.1, h.2.1, by dsimp only; omega, h.2.2.2⟩
  · rw [aBl_1 c]
    exact h
theorem zV.wd {t : Int} {B : Int → Int} {ef0 f9 : Nat → Int32} {u : zU} {w : Nat} (T : zTT t B ef0 f9) (h : zV t B u) : zV t B (aWd t B w u) := by
  by_cases c : zwm B u.1 u.2.1 u.2.2.1 w
  · rw [aWd_1 c]
    exact h.nx T
  · rw [aWd_0 c]
    exact h.bl (by decide)
theorem zV.nu {t : Int} {B : Int → Int} {ef0 f9 : Nat → Int32} {u : zU} {lo hi : Int} (T : zTT t B ef0 f9) (h : zV t B u) : zV t B (aNu t B lo hi u) := by
  unfold aNu
  split
  · split
    · exact h.nx T
    · exact h.bl (by decide)
  · exact h.bl (by decide)
theorem zV.en {t : Int} {B : Int → Int} {ef0 f9 : Nat → Int32} {u : zU} (T : zTT t B ef0 f9) (h : zV t B u) : zV t B (aEn t B u) := by
  unfold aEn
  split
  · exact h.nx T
  · exact h.bl (by decide)
theorem zvn_rg {B : Int → Int} {s : Int} : ∀ n : Nat, (∀ i : Int, 0 ≤ i ∧ i < n → 48 ≤ B (s + i) ∧ B (s + i) ≤ 57) → 0 ≤ zvn B s n ∧ zvn B s n < 10 ^ n
  | 0, _ => by
    show (0 : Int) ≤ 0 ∧ (0 : Int) < 10 ^ 0
    decide
  | k + 1, h => by
    have h1 := zvn_rg k (fun i hi => h i (by omega))
    have h2 := h k (by omega)
    have e : (10 : Int) ^ (k + 1) = 10 * 10 ^ k := by rw [Int.pow_succ]; omega
    show 0 ≤ 10 * zvn B s k + B (s + k) - 48 ∧ 10 * zvn B s k + B (s + k) - 48 < _
    omega
theorem zp10 : ∀ k, k < 4 → (10 : Int) ^ k ≤ 1000 := by decide
theorem zVal_rg {t : Int} {B : Int → Int} {u : zU} (h : zV t B u) (hk : u.2.2.1 = 2) : 0 ≤ zVal B u ∧ zVal B u ≤ 999 := by
  obtain ⟨S1, S2, S3, S4, S5⟩ := h
  obtain ⟨h1, h2⟩ := S5 hk
  have := zvn_rg (B := B) (s := u.1) (u.2.1 - u.1).toNat (fun i hi => h2 (u.1 + i) (by omega))
  have := zp10 (u.2.1 - u.1).toNat (by omega)
  unfold zVal
  omega
theorem x_nx {t : Int} {B : Int → Int} {ef0 f9 : Nat → Int32} {u : zU} {a3 a4 a5 a6 a7 : Int32} {K : Int32 → Int32 → Int32 → Int32 → Prop} (T : zTT t B ef0 f9) (V : zV t B u) (R : zX4 B u a3 a4 a5 a6 a7) (hK : ∀ b3 b4 b5 b6, zX4 B (aNx t B u) b3 b4 b5 b6 a7 → K b3 b4 b5 b6) : wp_X4_next (zi t) a3 a4 a5 a6 a7 ef0 K := by
  have R0 := R
  obtain ⟨rfl, rfl, rfl, ha, rfl⟩ := R
  have hq := V.2.2.1
  unfold wp_X4_next
  rw [show (zi u.2.2.2 = 0) = (u.2.2.2 = 0) from zi_eq (b := 0) (by omega) (by decide)]
  refine ⟨fun c => ?_, fun c => ?_⟩
  · rw [aNx_0 c, c] at hK
    exact x_next T (by have := V.1; omega) (fun b3 b4 b5 b6 h => hK b3 b4 b5 b6 h)
  · rw [aNx_1 c] at hK
    exact hK _ _ _ _ R0
theorem x_bl {B : Int → Int} {t : Int} {u : zU} {a3 a4 a5 a6 a7 v : Int32} {n : Int} {K : Int32 → Prop} (V : zV t B u) (R : zX4 B u a3 a4 a5 a6 a7) (hv : v = zi n) (hK : ∀ b7, zX4 B (aBl n u) a3 a4 a5 a6 b7 → K b7) : wp_X4_blame a7 v K := by
  have R0 := R
  obtain ⟨h3, h4, h5, ha, rfl⟩ := R
  have hq := V.2.2.1
  unfold wp_X4_blame
  rw [show (zi u.2.2.2 = 0) = (u.2.2.2 = 0) from zi_eq (b := 0) (by omega) (by decide)]
  refine ⟨fun c => ?_, fun c => ?_⟩
  · rw [aBl_1 c] at hK
    exact hK _ R0
  · rw [aBl_0 c] at hK
    exact hK _ ⟨h3, h4, h5, ha, hv⟩
theorem x_wd {t : Int} {B : Int → Int} {ef0 f9 : Nat → Int32} {u : zU} {a3 a4 a5 a6 a7 : Int32} {w : Nat} {K : Int32 → Int32 → Int32 → Int32 → Int32 → Prop} (T : zTT t B ef0 f9) (V : zV t B u) (R : zX4 B u a3 a4 a5 a6 a7) (hw : w < 8) (hK : ∀ b3 b4 b5 b6 b7, zX4 B (aWd t B w u) b3 b4 b5 b6 b7 → K b3 b4 b5 b6 b7) : wp_X4_readWord (zi t) a3 a4 a5 a6 a7 ef0 w K := by
  unfold wp_X4_readWord
  refine x_isWord T V R hw (fun c => by1' ?_) (fun c => by0' ?_)
  · rw [aWd_1 c] at hK
    exact x_nx T V R (fun b3 b4 b5 b6 h => hK _ _ _ _ _ h)
  · rw [aWd_0 c] at hK
    exact x_bl V R zq1 (fun b7 h => hK _ _ _ _ _ h)
theorem x_nu {t : Int} {B : Int → Int} {ef0 f9 : Nat → Int32} {u : zU} {a3 a4 a5 a6 a7 : Int32} {lo hi : Int} {K : Int32 → Int32 → Int32 → Int32 → Int32 → Int32 → Prop} (T : zTT t B ef0 f9) (V : zV t B u) (R : zX4 B u a3 a4 a5 a6 a7) (rl : -10000 ≤ lo ∧ lo ≤ 10000) (rh : -10000 ≤ hi ∧ hi ≤ 10000) (hK : ∀ v b3 b4 b5 b6 b7, zX4 B (aNu t B lo hi u) b3 b4 b5 b6 b7 → ((aNu t B lo hi u).2.2.2 = 0 → v = zi (zVal B u)) → K v b3 b4 b5 b6 b7) : wp_X4_readNumber (zi t) a3 a4 a5 a6 a7 ef0 (zi lo) (zi hi) K := by
  have R0 := R
  obtain ⟨h3, h4, rfl, ha, h7⟩ := R
  have hk := V.2.1
  have fin : ∀ u' x b3 b4 b5 b6 b7, zV t B u' → zX4 B u' b3 b4 b5 b6 b7 → u' = aNu t B lo hi u → (u'.2.2.2 = 0 → x = zi (zVal B u)) → S_X4_readNumber_43 x b3 b4 b5 b6 b7 K := by
    intro u' x b3 b4 b5 b6 b7 V' R' e hx
    have R1 := R'
    obtain ⟨g3, g4, g5, g6, rfl⟩ := R'
    have hq := V'.2.2.1
    unfold S_X4_readNumber_43
    rw [show (zi u'.2.2.2 = 0) = (u'.2.2.2 = 0) from zi_eq (b := 0) (by omega) (by decide)]
    rw [← e] at hK
    exact ⟨fun c => hK _ _ _ _ _ _ R1 (fun z => absurd z c), fun c => hK _ _ _ _ _ _ R1 hx⟩
  unfold wp_X4_readNumber
  rw [show (zi u.2.2.1 = 2) = (u.2.2.1 = 2) from zi_eq (b := 2) (by omega) (by decide)]
  have e2 : u.2.2.1 = 2 → aNu t B lo hi u = if lo ≤ zVal B u ∧ zVal B u ≤ hi then aNx t B u else aBl 2 u := fun c => if_pos c
  refine ⟨fun c => ?_, fun c => ?_⟩
  · have hv := zVal_rg V c
    have ha : a6 = zi (zVal B u) := ha c
    have e2 := e2 c
    rw [ha, zi_lt (by omega) (by omega), zi_le (by omega) (by omega)]
    rw [ha] at R0
    refine ⟨fun d => x_bl V R0 zq2 (fun b7 h => fin _ _ _ _ _ _ _ (V.bl (by decide)) h ?_ (fun z => absurd z (aBl_q (by decide)))), fun d => ⟨fun d2 => x_nx T V R0 (fun b3 b4 b5 b6 h => fin _ _ _ _ _ _ _ (V.nx T) h ?_ (fun _ => rfl)), fun d2 => x_bl V R0 zq2 (fun b7 h => fin _ _ _ _ _ _ _ (V.bl (by decide)) h ?_ (fun z => absurd z (aBl_q (by decide))))⟩⟩
    · rw [e2, if_neg (by omega)]
    · rw [e2, if_pos (by omega)]
    · rw [e2, if_neg (by omega)]
  · refine x_bl V R0 zq1 (fun b7 h => fin _ _ _ _ _ _ _ (V.bl (by decide)) h ?_ (fun z => absurd z (aBl_q (by decide))))
    unfold aNu
    rw [if_neg c]
theorem x_en {t : Int} {B : Int → Int} {ef0 f9 : Nat → Int32} {u : zU} {a3 a4 a5 a6 a7 : Int32} {K : Int32 → Int32 → Int32 → Int32 → Int32 → Prop} (T : zTT t B ef0 f9) (V : zV t B u) (R : zX4 B u a3 a4 a5 a6 a7) (hK : ∀ b3 b4 b5 b6 b7, zX4 B (aEn t B u) b3 b4 b5 b6 b7 → K b3 b4 b5 b6 b7) : wp_X4_readEnd (zi t) a3 a4 a5 a6 a7 ef0 K := by
  have R0 := R
  obtain ⟨h3, h4, rfl, ha, h7⟩ := R
  have hk := V.2.1
  unfold wp_X4_readEnd
  unfold aEn at hK
  rw [show (zi u.2.2.1 = 3) = (u.2.2.1 = 3) from zi_eq (b := 3) (by omega) (by decide)]
  refine ⟨fun c => ?_, fun c => ?_⟩
  · rw [if_neg c] at hK
    exact x_bl V R0 zq1 (fun b7 h => hK _ _ _ _ _ h)
  · rw [if_pos c] at hK
    exact x_nx T V R0 (fun b3 b4 b5 b6 h => hK _ _ _ _ _ h)
theorem m_bad {B : Int → Int} {t : Int} {u : zU} {r13 r14 r15 r16 r17 r18 v : Int32} {n : Int} {K : Int32 → Int32 → Prop} (V : zV t B u) (R : zM8 u r13 r14 r15 r16 r17 r18) (hn : n ≠ 0) (hv : v = zi n) (hK : ∀ c17 c18, zM8 (aBl n u) r13 r14 r15 r16 c17 c18 → K c17 c18) : wp_X8_bad r15 r17 r18 v K := by
  have R0 := R
  obtain ⟨h13, h14, h15, h16, rfl, h18⟩ := R
  have hq := V.2.2.1
  unfold wp_X8_bad
  rw [show (zi u.2.2.2 = 0) = (u.2.2.2 = 0) from zi_eq (b := 0) (by omega) (by decide)]
  refine ⟨fun c => ?_, fun c => ?_⟩
  · rw [aBl_1 c] at hK
    exact hK _ _ R0
  · rw [aBl_0 c] at hK
    exact hK _ _ ⟨h13, h14, h15, h16, hv, fun _ => h15⟩
theorem m_must1 {t : Int} {B : Int → Int} {ef0 f9 : Nat → Int32} {u : zU} {r13 r14 r15 r16 r17 r18 : Int32} {K : Int32 → Int32 → Int32 → Int32 → Int32 → Int32 → Prop} (T : zTT t B ef0 f9) (V : zV t B u) (R : zM8 u r13 r14 r15 r16 r17 r18) (hK : ∀ c13 c14 c15 c16 c17 c18, zM8 (aNx t B u) c13 c14 c15 c16 c17 c18 → K c13 c14 c15 c16 c17 c18) : wp_X8_must (zi t) r13 r14 r15 r16 r17 r18 f9 1 K := by
  have R0 := R
  obtain ⟨rfl, h14, h15, h16, rfl, h18⟩ := R
  have hq := V.2.2.1
  unfold wp_X8_must
  rw [show (zi u.2.2.2 = 0) = (u.2.2.2 = 0) from zi_eq (b := 0) (by omega) (by decide)]
  refine by1 ⟨fun c => ?_, fun c => ?_⟩
  · rw [aNx_1 c] at hK
    exact hK _ _ _ _ _ _ R0
  · rw [aNx_0 c] at hK
    exact m_next T (by have := V.1; omega) (hK _ _ _ _ _ _ ⟨rfl, rfl, rfl, rfl, by rw [c], fun z => absurd rfl z⟩)
theorem m_must0 {t : Int} {B : Int → Int} {ef0 f9 : Nat → Int32} {u : zU} {r13 r14 r15 r16 r17 r18 : Int32} {K : Int32 → Int32 → Int32 → Int32 → Int32 → Int32 → Prop} (T : zTT t B ef0 f9) (V : zV t B u) (R : zM8 u r13 r14 r15 r16 r17 r18) (hK : ∀ c13 c14 c15 c16 c17 c18, zM8 (aBl 1 u) c13 c14 c15 c16 c17 c18 → K c13 c14 c15 c16 c17 c18) : wp_X8_must (zi t) r13 r14 r15 r16 r17 r18 f9 0 K := by
  unfold wp_X8_must
  refine by0 (m_bad V R (by decide) zq1 (fun c17 c18 h => ⟨fun _ => hK _ _ _ _ _ _ h, fun z => ?_⟩))
  have h17 := h.2.2.2.2.1
  have hq := (V.bl (n := 1) (by decide)).2.2.1
  rw [h17, show (zi (aBl 1 u).2.2.2 = 0) = ((aBl 1 u).2.2.2 = 0) from zi_eq (b := 0) (by omega) (by decide)] at z
  exact absurd z (aBl_q (by decide))
theorem m_figures {t : Int} {B : Int → Int} {ef0 f9 : Nat → Int32} {u : zU} {r13 r14 r15 r16 r17 r18 : Int32} {K : Int32 → Prop} (T : zTT t B ef0 f9) (V : zV t B u) (R : zM8 u r13 r14 r15 r16 r17 r18) (hK : ∀ v, (u.2.2.1 = 2 → v = zi (zVal B u)) → K v) : wp_X8_figures r14 r15 r16 f9 K := by
  obtain ⟨ht, hX, hM, hB⟩ := T
  obtain ⟨-, rfl, rfl, rfl, -, -⟩ := R
  have V0 := V
  obtain ⟨S1, S2, S3, S4, S5⟩ := V
  have rc := ztc_rg S2
  unfold wp_X8_figures
  by_cases c : u.2.2.1 = 2
  · obtain ⟨h3, h4⟩ := S5 c
    refine nz_l2 (fun j x1 x2 => ∃ i : Nat, x1 = zi (zvn B u.1 i) ∧ x2 = zi (u.1 + i) ∧ u.1 + i ≤ u.2.1 ∧ j = (u.2.1 - u.1).toNat - i) ?_ (k := (u.2.1 - u.1).toNat - 0) ⟨0, rfl, by rw [show u.1 + ((0 : Nat) : Int) = u.1 by omega], by omega, rfl⟩
    rintro j R _ _ ⟨i, rfl, rfl, hi, hj⟩ next
    unfold S_X8_figures_7
    rw [zi_le (by omega) (by omega), show (zi (ztc u.2.2.1) = 3) = (ztc u.2.2.1 = 3) from zi_eq (b := 3) (by omega) (by decide), ztc_3 S2]
    refine ⟨fun d => hK _ (fun _ => ?_), fun d => ⟨fun z => absurd c z, fun _ => ⟨zi_in (by omega), ?_⟩⟩⟩
    · unfold zVal
      rw [show i = (u.2.1 - u.1).toNat by omega]
    · rw [hM.at (by omega), zq10, zi_mul, zi_add, zq48, zi_sub, zq1, zi_add]
      exact next ((u.2.1 - u.1).toNat - (i + 1)) _ _ (by omega) ⟨i + 1, rfl, by congr 1; omega, by omega, rfl⟩
  · refine nz_l2 (fun j x1 x2 => x1 = zi 0 ∧ x2 = zi u.1) ?_ (k := 0) ⟨rfl, rfl⟩
    rintro j R _ _ ⟨rfl, rfl⟩ next
    unfold S_X8_figures_7
    rw [show (zi (ztc u.2.2.1) = 3) = (ztc u.2.2.1 = 3) from zi_eq (b := 3) (by omega) (by decide), ztc_3 S2]
    exact ⟨fun d => hK _ (fun z => absurd z c), fun d => ⟨fun _ => hK _ (fun z => absurd z c), fun z => absurd z c⟩⟩
theorem m_nu {t : Int} {B : Int → Int} {ef0 f9 : Nat → Int32} {u : zU} {r13 r14 r15 r16 r17 r18 : Int32} {lo hi : Int} {K : Int32 → Int32 → Int32 → Int32 → Int32 → Int32 → Int32 → Prop} (T : zTT t B ef0 f9) (V : zV t B u) (R : zM8 u r13 r14 r15 r16 r17 r18) (rl : -10000 ≤ lo ∧ lo ≤ 10000) (rh : -10000 ≤ hi ∧ hi ≤ 10000) (hK : ∀ v c13 c14 c15 c16 c17 c18, zM8 (aNu t B lo hi u) c13 c14 c15 c16 c17 c18 → ((aNu t B lo hi u).2.2.2 = 0 → v = zi (zVal B u)) → K v c13 c14 c15 c16 c17 c18) : wp_X8_number (zi t) r13 r14 r15 r16 r17 r18 f9 (zi lo) (zi hi) K := by
  have h17 := R.2.2.2.2.1
  have h14 := R.2.1
  have hq := V.2.2.1
  have hk := V.2.1
  have rc := ztc_rg hk
  unfold wp_X8_number
  rw [h17, show (zi u.2.2.2 ≤ 0) = (u.2.2.2 ≤ 0) from zi_le (b := 0) (by omega) (by decide), ← h17]
  refine ⟨fun c => m_figures T V R (fun v hv => ?_), fun c => ?_⟩
  · rw [h14, show (zi (ztc u.2.2.1) = 3) = (ztc u.2.2.1 = 3) from zi_eq (b := 3) (by omega) (by decide), ztc_3 hk, ← h14]
    refine ⟨fun d => ?_, fun d => ?_⟩
    · unfold S_X8_number_39
      rw [h14, show (zi (ztc u.2.2.1) = 3) = (ztc u.2.2.1 = 3) from zi_eq (b := 3) (by omega) (by decide), ztc_3 hk, ← h14]
      refine ⟨fun _ => m_must0 T V R (fun c13 c14 c15 c16 c17 c18 h => ?_), fun z => absurd z d⟩
      unfold aNu at hK
      rw [if_neg d] at hK
      exact hK _ _ _ _ _ _ _ h (fun z => absurd z (aBl_q (by decide)))
    · have hvr := zVal_rg V d
      have hv := hv d
      unfold aNu at hK
      rw [if_pos d] at hK
      refine s_in (a := zVal B u) (l := lo) (u := hi) (by rw [hv]; exact z64 (by omega)) (z64 (by omega)) (z64 (by omega)) (fun g => by1 ?_) (fun g => by0 ?_)
      · rw [if_pos g] at hK
        unfold S_X8_number_39
        rw [h14, show (zi (ztc u.2.2.1) = 3) = (ztc u.2.2.1 = 3) from zi_eq (b := 3) (by omega) (by decide), ztc_3 hk, ← h14]
        exact ⟨fun z => absurd d z, fun _ => m_must1 T V R (fun c13 c14 c15 c16 c17 c18 h => hK _ _ _ _ _ _ _ h (fun _ => hv))⟩
      · rw [if_neg g] at hK
        refine m_bad V R (by decide) zq2 (fun c17 c18 h => ?_)
        unfold S_X8_number_39
        rw [h14, show (zi (ztc u.2.2.1) = 3) = (ztc u.2.2.1 = 3) from zi_eq (b := 3) (by omega) (by decide), ztc_3 hk, ← h14]
        refine ⟨fun z => absurd d z, fun _ => m_must1 T (V.bl (by decide)) h (fun c13 c14 c15 c16 c17 c18 h => ?_)⟩
        rw [aNx_1 (aBl_q (by decide))] at h
        exact hK _ _ _ _ _ _ _ h (fun z => absurd z (aBl_q (by decide)))
  · have c0 : ¬ u.2.2.2 = 0 := by omega
    have e : aNu t B lo hi u = u := by
      unfold aNu
      rw [aNx_1 c0, aBl_1 c0, aBl_1 c0]
      split
      · split <;> rfl
      · rfl
    rw [e] at hK
    exact hK _ _ _ _ _ _ _ R (fun z => absurd z c0)
theorem m_en {t : Int} {B : Int → Int} {ef0 f9 : Nat → Int32} {u : zU} {r13 r14 r15 r16 r17 r18 : Int32} {K : Int32 → Int32 → Int32 → Int32 → Int32 → Int32 → Prop} (T : zTT t B ef0 f9) (V : zV t B u) (R : zM8 u r13 r14 r15 r16 r17 r18) (hK : ∀ c13 c14 c15 c16 c17 c18, zM8 (aEn t B u) c13 c14 c15 c16 c17 c18 → K c13 c14 c15 c16 c17 c18) : wp_X8_mustEnd (zi t) r13 r14 r15 r16 r17 r18 f9 K := by
  have h17 := R.2.2.2.2.1
  have h14 := R.2.1
  have hq := V.2.2.1
  have hk := V.2.1
  have rc := ztc_rg hk
  unfold wp_X8_mustEnd
  rw [h17, show (zi u.2.2.2 = 0) = (u.2.2.2 = 0) from zi_eq (b := 0) (by omega) (by decide), ← h17, h14, show (zi (ztc u.2.2.1) = 4) = (ztc u.2.2.1 = 4) from zi_eq (b := 4) (by omega) (by decide), ztc_4 hk, ← h14]
  unfold aEn at hK
  refine ⟨fun c => ?_, fun c => ⟨fun d => ?_, fun d => ?_⟩⟩
  · have e : (if u.2.2.1 = 3 then aNx t B u else aBl 1 u) = u := by
      rw [aNx_1 c, aBl_1 c]
      split <;> rfl
    rw [e] at hK
    exact hK _ _ _ _ _ _ R
  · rw [if_neg d] at hK
    exact m_must0 T V R (fun c13 c14 c15 c16 c17 c18 h => hK _ _ _ _ _ _ h)
  · rw [if_pos d] at hK
    exact m_must1 T V R (fun c13 c14 c15 c16 c17 c18 h => hK _ _ _ _ _ _ h)
