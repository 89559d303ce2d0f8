def zrn (P : Int → Bool) (B : Int → Int) : Nat → Int → Int
  | 0, i => i
  | k + 1, i => if P (B i) then zrn P B k (i + 1) else i
def zws (b : Int) : Bool := b == 32 || b == 10
def zlt (b : Int) : Bool := decide (97 ≤ b ∧ b ≤ 122)
def zfg (b : Int) : Bool := decide (48 ≤ b ∧ b ≤ 57)
theorem zrn_1 {P : Int → Bool} {B : Int → Int} {k : Nat} {i : Int} (h : P (B i) = true) : zrn P B (k + 1) i = zrn P B k (i + 1) := if_pos h
theorem zrn_0 {P : Int → Bool} {B : Int → Int} {k : Nat} {i : Int} (h : ¬ P (B i) = true) : zrn P B (k + 1) i = i := if_neg h
theorem zrn_rg {P : Int → Bool} {B : Int → Int} : ∀ (k : Nat) (i : Int), i ≤ zrn P B k i ∧ zrn P B k i ≤ i + k
  | 0, i => by
    show i ≤ i ∧ i ≤ i + ((0 : Nat) : Int)
    omega
  | k + 1, i => by
    by_cases h : P (B i) = true
    · rw [zrn_1 h]
      have := zrn_rg (P := P) (B := B) k (i + 1)
      omega
    · rw [zrn_0 h]
      omega
theorem zrn_all {P : Int → Bool} {B : Int → Int} : ∀ (k : Nat) (i j : Int), i ≤ j ∧ j < zrn P B k i → P (B j) = true
  | 0, i, j, h => by
    have h : i ≤ j ∧ j < i := h
    omega
  | k + 1, i, j, h => by
    by_cases c : P (B i) = true
    · rw [zrn_1 c] at h
      by_cases e : j = i
      · rw [e]; exact c
      · exact zrn_all k (i + 1) j (by omega)
    · rw [zrn_0 c] at h
      omega
theorem zrn_end {P : Int → Bool} {B : Int → Int} : ∀ (k : Nat) (i : Int), zrn P B k i < i + k → ¬ P (B (zrn P B k i)) = true
  | 0, i, h => by
    have h : i < i + ((0 : Nat) : Int) := h
    omega
  | k + 1, i, h => by
    by_cases c : P (B i) = true
    · rw [zrn_1 c] at h ⊢
      exact zrn_end k (i + 1) (by omega)
    · rw [zrn_0 c]
      exact c
def zvn (B : Int → Int) (s : Int) : Nat → Int
  | 0 => 0
  | k + 1 => 10 * zvn B s k + B (s + k) - 48
def zTT (t : Int) (B : Int → Int) (ef0 f9 : Nat → Int32) : Prop := (0 ≤ t ∧ t ≤ 400) ∧ zA t ef0 B ∧ zA t f9 B ∧ ∀ i : Int, 0 ≤ i ∧ i < t → 0 ≤ B i ∧ B i ≤ 255
def zXS (B : Int → Int) (s e k q : Int) (a3 a4 a5 a6 a7 : Int32) : Prop := a3 = zi s ∧ a4 = zi e ∧ a5 = zi k ∧ (k = 2 → a6 = zi (zvn B s (e - s).toNat)) ∧ a7 = zi q
def ztc (k : Int) : Int := if k = 4 then 0 else k + 1
def zMS (s e k q : Int) (r13 r14 r15 r16 r17 r18 : Int32) : Prop := r13 = zi e ∧ r14 = zi (ztc k) ∧ r15 = zi s ∧ r16 = zi e ∧ r17 = zi q ∧ (q ≠ 0 → r18 = zi s)
def zST (t : Int) (B : Int → Int) (s e k q : Int) : Prop := (0 ≤ s ∧ s ≤ e ∧ e ≤ t ∧ t ≤ 400) ∧ (0 ≤ k ∧ k ≤ 4) ∧ (0 ≤ q ∧ q ≤ 3) ∧ (k = 1 → ∀ i : Int, s ≤ i ∧ i < e → 97 ≤ B i ∧ B i ≤ 122) ∧ (k = 2 → e ≤ s + 3 ∧ ∀ i : Int, s ≤ i ∧ i < e → 48 ≤ B i ∧ B i ≤ 57)
theorem x_isLetter {t : Int} {B : Int → Int} {ef0 : Nat → Int32} {i : Int} {K : Int32 → Prop} (h : zA t ef0 B) (hB : 0 ≤ B i ∧ B i ≤ 255) (hi : 0 ≤ i ∧ i < t) (ht : t ≤ 400) (h1 : zlt (B i) = true → K 1) (h0 : ¬ zlt (B i) = true → K 0) : wp_X4_isLetter ef0 (zi i) K := by
  unfold wp_X4_isLetter
  unfold zlt at h1 h0
  simp only [decide_eq_true_eq] at h1 h0
  rw [h.at (by omega), zq97, zi_lt (by omega) (by decide), zq122, zi_lt (by decide) (by omega)]
  exact ⟨zi_in (by omega), fun c => h0 (by omega), fun c => ⟨zi_in (by omega), fun d => h0 (by omega), fun d => h1 (by omega)⟩⟩
theorem x_isFigure {t : Int} {B : Int → Int} {ef0 : Nat → Int32} {i : Int} {K : Int32 → Prop} (h : zA t ef0 B) (hB : 0 ≤ B i ∧ B i ≤ 255) (hi : 0 ≤ i ∧ i < t) (ht : t ≤ 400) (h1 : zfg (B i) = true → K 1) (h0 : ¬ zfg (B i) = true → K 0) : wp_X4_isFigure ef0 (zi i) K := by
  unfold wp_X4_isFigure
  unfold zfg at h1 h0
  simp only [decide_eq_true_eq] at h1 h0
  rw [h.at (by omega), zq48, zi_lt (by omega) (by decide), zq57, zi_lt (by decide) (by omega)]
  exact ⟨zi_in (by omega), fun c => h0 (by omega), fun c => ⟨zi_in (by omega), fun d => h0 (by omega), fun d => h1 (by omega)⟩⟩
theorem m_isLetter {b : Int} {K : Int32 → Prop} (hB : -1000000 ≤ b ∧ b ≤ 255) (h1 : zlt b = true → K 1) (h0 : ¬ zlt b = true → K 0) : wp_X8_isLetter (zi b) K := by
  unfold wp_X8_isLetter
  unfold zlt at h1 h0
  simp only [decide_eq_true_eq] at h1 h0
  rw [zq97, zi_lt (by omega) (by decide), zq122, zi_lt (by decide) (by omega)]
  exact ⟨fun c => h0 (by omega), fun c => ⟨fun d => h0 (by omega), fun d => h1 (by omega)⟩⟩
theorem m_isFigure {b : Int} {K : Int32 → Prop} (hB : -1000000 ≤ b ∧ b ≤ 255) (h1 : zfg b = true → K 1) (h0 : ¬ zfg b = true → K 0) : wp_X8_isFigure (zi b) K := by
  unfold wp_X8_isFigure
  unfold zfg at h1 h0
  simp only [decide_eq_true_eq] at h1 h0
  rw [zq48, zi_lt (by omega) (by decide), zq57, zi_lt (by decide) (by omega)]
  exact ⟨fun c => h0 (by omega), fun c => ⟨fun d => h0 (by omega), fun d => h1 (by omega)⟩⟩
theorem m_byteAt {t : Int} {B : Int → Int} {f9 : Nat → Int32} {i : Int} {K : Int32 → Prop} (h : zA t f9 B) (ht : 0 ≤ t ∧ t ≤ 400) (hi : 0 ≤ i ∧ i ≤ t) (h1 : t ≤ i → K (zi (-1000000))) (h0 : i < t → K (zi (B i))) : wp_X8_byteAt (zi t) f9 (zi i) K := by
  unfold wp_X8_byteAt
  rw [zi_le (by omega) (by omega)]
  refine ⟨fun c => h1 c, fun c => ⟨zi_in (by omega), ?_⟩⟩
  rw [h.at (by omega)]
  exact h0 (by omega)
theorem zlt_ne : ¬ zlt (-1000000) = true := by decide
theorem zfg_ne : ¬ zfg (-1000000) = true := by decide
theorem x_name {t : Int} {B : Int → Int} {ef0 f9 : Nat → Int32} {s : Int} {K : Int32 → Int32 → Prop} (T : zTT t B ef0 f9) (hs : 0 ≤ s ∧ s ≤ t) (hK : K (zi (zrn zlt B (t - s).toNat s)) 1) : wp_X4_takeName (zi t) (zi s) ef0 K := by
  obtain ⟨ht, hX, hM, hB⟩ := T
  unfold wp_X4_takeName
  refine nz_l1 (fun j x => ∃ i : Int, x = zi i ∧ (s ≤ i ∧ i ≤ t) ∧ j = (t - i).toNat ∧ zrn zlt B j i = zrn zlt B (t - s).toNat s) ?_ (k := (t - s).toNat) ⟨s, rfl, by omega, rfl, rfl⟩
  rintro j R _ ⟨i, rfl, hi, hj, he⟩ next
  unfold S_X4_takeName_0
  rw [zi_le (by omega) (by omega)]
  refine ⟨fun c => ?_, fun c => ?_⟩
  · obtain rfl : j = 0 := by omega
    have he : i = _ := he
    rw [he]
    exact hK
  · obtain ⟨j, rfl⟩ : ∃ i, j = i + 1 := ⟨j - 1, by omega⟩
    refine x_isLetter hX (hB i (by omega)) (by omega) (by omega) (fun g => by1' ?_) (fun g => by0' ?_)
    · rw [zrn_1 g] at he
      exact next j _ rfl ⟨i + 1, by rw [zq1, zi_add], by omega, by omega, he⟩
    · rw [zrn_0 g] at he
      rw [he]
      exact hK
theorem x_number {t : Int} {B : Int → Int} {ef0 f9 : Nat → Int32} {s : Int} {K : Int32 → Int32 → Int32 → Prop} (T : zTT t B ef0 f9) (hs : 0 ≤ s ∧ s ≤ t) (hK : ∀ v, (zrn zfg B (t - s).toNat s - s ≤ 3 → v = zi (zvn B s (zrn zfg B (t - s).toNat s - s).toNat)) → K (zi (zrn zfg B (t - s).toNat s)) (zi (if zrn zfg B (t - s).toNat s - s ≤ 3 then 2 else 4)) v) : wp_X4_takeNumber (zi t) (zi s) (zi s) 0 ef0 K := by
  obtain ⟨ht, hX, hM, hB⟩ := T
  unfold wp_X4_takeNumber
  refine nz_l2 (fun j x v => ∃ i : Int, x = zi i ∧ (s ≤ i ∧ i ≤ t) ∧ j = (t - i).toNat ∧ (i - s ≤ 3 → v = zi (zvn B s (i - s).toNat)) ∧ zrn zfg B j i = zrn zfg B (t - s).toNat s) ?_ (k := (t - s).toNat) ⟨s, rfl, by omega, rfl, fun _ => by rw [Int.sub_self]; rfl, rfl⟩
  rintro j R _ v ⟨i, rfl, hi, hj, hv, he⟩ next
  have fin : i = zrn zfg B (t - s).toNat s → S_X4_takeNumber_72 (zi s) (zi i) v K := fun e => by
    unfold S_X4_takeNumber_72
    rw [zi_sub, zq3, zi_lt (by decide) (by omega)]
    rw [← e] at hK
    have := hK v hv
    refine ⟨fun c => ?_, fun c => ?_⟩
    · rw [if_neg (by omega)] at this
      exact this
    · rw [if_pos (by omega)] at this
      exact this
  unfold S_X4_takeNumber_0
  rw [zi_le (by omega) (by omega)]
  refine ⟨fun c => ?_, fun c => ?_⟩
  · obtain rfl : j = 0 := by omega
    exact fin he
  · obtain ⟨j, rfl⟩ : ∃ i, j = i + 1 := ⟨j - 1, by omega⟩
    refine x_isFigure hX (hB i (by omega)) (by omega) (by omega) (fun g => by1' ?_) (fun g => by0' ?_)
    · rw [zrn_1 g] at he
      rw [zi_sub, zq3, zi_le (by decide) (by omega), zq1, zi_add]
      refine ⟨fun c3 => next j _ _ rfl ⟨i + 1, rfl, by omega, by omega, fun z => absurd z (by omega), he⟩, fun c3 => ⟨zi_in (by omega), next j _ _ rfl ⟨i + 1, rfl, by omega, by omega, fun z => ?_, he⟩⟩⟩
      rw [hv (by omega), hX.at (by omega), zq10, zi_mul, zi_add, zq48, zi_sub]
      congr 1
      rw [show (i + 1 - s).toNat = (i - s).toNat + 1 by omega]
      show _ = 10 * zvn B s (i - s).toNat + B (s + ((i - s).toNat : Int)) - 48
      rw [show s + ((i - s).toNat : Int) = i by omega]
    · rw [zrn_0 g] at he
      exact fin he
theorem m_name1 {t : Int} {B : Int → Int} {ef0 f9 : Nat → Int32} {s : Int} {K : Int32 → Int32 → Int32 → Int32 → Prop} (T : zTT t B ef0 f9) (hs : 0 ≤ s ∧ s ≤ t) (hK : K (zi (zrn zlt B (t - s).toNat s)) 2 (zi s) (zi (zrn zlt B (t - s).toNat s))) : ∃ n, nz_it (fun _ => False) (S_X8_next_77 (zi t) f9 (zi s) K) n (zi s) := by
  obtain ⟨ht, hX, hM, hB⟩ := T
  refine nz_l1 (fun j x => ∃ i : Int, x = zi i ∧ (s ≤ i ∧ i ≤ t) ∧ j = (t - i).toNat ∧ zrn zlt B j i = zrn zlt B (t - s).toNat s) ?_ (k := (t - s).toNat) ⟨s, rfl, by omega, rfl, rfl⟩
  rintro j R _ ⟨i, rfl, hi, hj, he⟩ next
  unfold S_X8_next_77 S_X8_next_196
  refine m_byteAt hM ht (by omega) (fun c => m_isLetter (by decide) (fun z => absurd z zlt_ne) (fun _ => by0' ?_)) (fun c => ?_)
  · obtain rfl : j = 0 := by omega
    have he : i = _ := he
    rw [he]
    exact hK
  · obtain ⟨j, rfl⟩ : ∃ i, j = i + 1 := ⟨j - 1, by omega⟩
    have hb := hB i (by omega)
    refine m_isLetter (by omega) (fun g => by1' ?_) (fun g => by0' ?_)
    · rw [zrn_1 g] at he
      exact next j _ rfl ⟨i + 1, by rw [zq1, zi_add], by omega, by omega, he⟩
    · rw [zrn_0 g] at he
      rw [he]
      exact hK
theorem m_number1 {t : Int} {B : Int → Int} {ef0 f9 : Nat → Int32} {s : Int} {K : Int32 → Int32 → Int32 → Int32 → Prop} (T : zTT t B ef0 f9) (hs : 0 ≤ s ∧ s ≤ t) (hK : K (zi (zrn zfg B (t - s).toNat s)) (zi (if zrn zfg B (t - s).toNat s - s ≤ 3 then 3 else 0)) (zi s) (zi (zrn zfg B (t - s).toNat s))) : ∃ n, nz_it (fun _ => False) (S_X8_next_119 (zi t) f9 (zi s) K) n (zi s) := by
  obtain ⟨ht, hX, hM, hB⟩ := T
  refine nz_l1 (fun j x => ∃ i : Int, x = zi i ∧ (s ≤ i ∧ i ≤ t) ∧ j = (t - i).toNat ∧ zrn zfg B j i = zrn zfg B (t - s).toNat s) ?_ (k := (t - s).toNat) ⟨s, rfl, by omega, rfl, rfl⟩
  rintro j R _ ⟨i, rfl, hi, hj, he⟩ next
  have fin : i = zrn zfg B (t - s).toNat s → ((zi i - zi s ≤ 3 → K (zi i) 3 (zi s) (zi i)) ∧ (¬ zi i - zi s ≤ 3 → K (zi i) 0 (zi s) (zi i))) := fun e => by
    rw [zi_sub, zq3, zi_le (by omega) (by decide)]
    rw [← e] at hK
    refine ⟨fun c => ?_, fun c => ?_⟩
    · rw [if_pos c] at hK
      exact hK
    · rw [if_neg c] at hK
      exact hK
  unfold S_X8_next_119 S_X8_next_196
  refine m_byteAt hM ht (by omega) (fun c => m_isFigure (by decide) (fun z => absurd z zfg_ne) (fun _ => by0' ?_)) (fun c => ?_)
  · obtain rfl : j = 0 := by omega
    exact fin he
  · obtain ⟨j, rfl⟩ : ∃ i, j = i + 1 := ⟨j - 1, by omega⟩
    have hb := hB i (by omega)
    refine m_isFigure (by omega) (fun g => by1' ?_) (fun g => by0' ?_)
    · rw [zrn_1 g] at he
      exact next j _ rfl ⟨i + 1, by rw [zq1, zi_add], by omega, by omega, he⟩
    · rw [zrn_0 g] at he
      exact fin he
def znx (t : Int) (B : Int → Int) (e : Int) : Int × Int × Int :=
  if t ≤ zrn zws B (t - e).toNat e then (zrn zws B (t - e).toNat e, zrn zws B (t - e).toNat e, 0)
  else if zlt (B (zrn zws B (t - e).toNat e)) = true then (zrn zws B (t - e).toNat e, zrn zlt B (t - zrn zws B (t - e).toNat e).toNat (zrn zws B (t - e).toNat e), 1)
  else if zfg (B (zrn zws B (t - e).toNat e)) = true then (zrn zws B (t - e).toNat e, zrn zfg B (t - zrn zws B (t - e).toNat e).toNat (zrn zws B (t - e).toNat e), if zrn zfg B (t - zrn zws B (t - e).toNat e).toNat (zrn zws B (t - e).toNat e) - zrn zws B (t - e).toNat e ≤ 3 then 2 else 4)
  else (zrn zws B (t - e).toNat e, zrn zws B (t - e).toNat e + 1, if B (zrn zws B (t - e).toNat e) = 59 then 3 else 4)
theorem znx_ok {t : Int} {B : Int → Int} {ef0 f9 : Nat → Int32} {e : Int} (T : zTT t B ef0 f9) (he : 0 ≤ e ∧ e ≤ t) : zST t B (znx t B e).1 (znx t B e).2.1 (znx t B e).2.2 0 := by
  obtain ⟨ht, hX, hM, hB⟩ := T
  have r := zrn_rg (P := zws) (B := B) (t - e).toNat e
  unfold znx
  generalize zrn zws B (t - e).toNat e = s at *
  split
  · exact ⟨by dsimp only; omega, by dsimp only; omega, by decide, fun z => absurd (show (0 : Int) = 1 from z) (by decide), fun z => absurd (show (0 : Int) = 2 from z) (by decide)⟩
  · have r2 := zrn_rg (P := zlt) (B := B) (t - s).toNat s
    have r3 := zrn_rg (P := zfg) (B := B) (t - s).toNat s
    split
    · refine ⟨by dsimp only; omega, by dsimp only; omega, by decide, fun _ i hi => ?_, fun z => absurd (show (1 : Int) = 2 from z) (by decide)⟩
      have := zrn_all _ _ _ hi
      unfold zlt at this
      simp only [decide_eq_true_eq] at this
      exact this
    · split
      · refine ⟨by dsimp only; omega, by dsimp only; split <;> omega, by decide, fun z => ?_, fun z => ?_⟩
        · dsimp only at z
          split at z <;> omega
        · dsimp only at z ⊢
          split at z
          · refine ⟨by omega, fun i hi => ?_⟩
            have := zrn_all _ _ _ hi
            unfold zfg at this
            simp only [decide_eq_true_eq] at this
            exact this
          · omega
      · refine ⟨by dsimp only; omega, by dsimp only; split <;> omega, by decide, fun z => ?_, fun z => ?_⟩
        · dsimp only at z
          split at z <;> omega
        · dsimp only at z
          split at z <;> omega
theorem x_next {t : Int} {B : Int → Int} {ef0 f9 : Nat → Int32} {e : Int} {K : Int32 → Int32 → Int32 → Int32 → Prop} (T : zTT t B ef0 f9) (he : 0 ≤ e ∧ e ≤ t) (hK : ∀ b3 b4 b5 b6, zXS B (znx t B e).1 (znx t B e).2.1 (znx t B e).2.2 0 b3 b4 b5 b6 0 → K b3 b4 b5 b6) : ∃ n, nz_it (fun _ => False) (S_X4_next_16 (zi t) ef0 K) n (zi e) := by
  have T0 := T
  obtain ⟨ht, hX, hM, hB⟩ := T
  have r := zrn_rg (P := zws) (B := B) (t - e).toNat e
  have tail : S_X4_next_68 (zi t) ef0 (zi (zrn zws B (t - e).toNat e)) K := by
    unfold znx at hK
    generalize zrn zws B (t - e).toNat e = s at *
    unfold S_X4_next_68
    rw [zi_lt (by omega) (by omega)]
    refine ⟨fun c => ?_, fun c => ?_⟩
    · rw [if_neg (by omega)] at hK
      have hb := hB s (by omega)
      refine x_isLetter hX hb (by omega) (by omega) (fun g => by1' ?_) (fun g => by0' ?_)
      · rw [if_pos g] at hK
        exact x_name T0 (by omega) (hK _ _ _ _ ⟨rfl, rfl, rfl, fun z => absurd (show (1 : Int) = 2 from z) (by decide), rfl⟩)
      · rw [if_neg g] at hK
        refine x_isFigure hX hb (by omega) (by omega) (fun g2 => by1' ?_) (fun g2 => by0' ?_)
        · rw [if_pos g2] at hK
          refine x_number T0 (by omega) (fun v hv => hK _ _ _ _ ⟨rfl, rfl, rfl, fun z => hv ?_, rfl⟩)
          dsimp only at z
          split at z <;> omega
        · rw [if_neg g2] at hK
          rw [hX.at (by omega), zq59, zi_eq (by omega) (by decide), zq1, zi_add]
          refine ⟨zi_in (by omega), fun g3 => ?_, fun g3 => ?_⟩
          · rw [if_neg g3] at hK
            exact hK _ _ _ _ ⟨rfl, rfl, rfl, fun z => absurd (show (4 : Int) = 2 from z) (by decide), rfl⟩
          · rw [if_pos g3] at hK
            exact hK _ _ _ _ ⟨rfl, rfl, rfl, fun z => absurd (show (3 : Int) = 2 from z) (by decide), rfl⟩
    · rw [if_pos (by omega)] at hK
      exact hK _ _ _ _ ⟨rfl, rfl, rfl, fun z => absurd (show (0 : Int) = 2 from z) (by decide), rfl⟩
  refine nz_l1 (fun j x => ∃ i : Int, x = zi i ∧ (e ≤ i ∧ i ≤ t) ∧ j = (t - i).toNat ∧ zrn zws B j i = zrn zws B (t - e).toNat e) ?_ (k := (t - e).toNat) ⟨e, rfl, by omega, rfl, rfl⟩
  rintro j R _ ⟨i, rfl, hi, hj, hz⟩ next
  unfold S_X4_next_16
  rw [zi_le (by omega) (by omega)]
  refine ⟨fun c => ?_, fun c => ⟨zi_in (by omega), ?_⟩⟩
  · obtain rfl : j = 0 := by omega
    have hz : i = _ := hz
    rw [hz]
    exact tail
  · obtain ⟨j, rfl⟩ : ∃ i, j = i + 1 := ⟨j - 1, by omega⟩
    have hb := hB i (by omega)
    rw [hX.at (by omega), zq32, zi_eq (by omega) (by decide), zq10, zi_eq (by omega) (by decide)]
    have go : zws (B i) = true → R (zi i + 1) := fun g => by
      rw [zrn_1 g] at hz
      exact next j _ rfl ⟨i + 1, by rw [zq1, zi_add], by omega, by omega, hz⟩
    refine ⟨fun g => go (by unfold zws; rw [g]; rfl), fun g => ⟨zi_in (by omega), fun g2 => ?_, fun g2 => go (by unfold zws; rw [g2]; rfl)⟩⟩
    rw [zrn_0 (by unfold zws; simp [g, g2])] at hz
    rw [hz]
    exact tail
theorem m_next {t : Int} {B : Int → Int} {ef0 f9 : Nat → Int32} {e : Int} {K : Int32 → Int32 → Int32 → Int32 → Prop} (T : zTT t B ef0 f9) (he : 0 ≤ e ∧ e ≤ t) (hK : K (zi (znx t B e).2.1) (zi (ztc (znx t B e).2.2)) (zi (znx t B e).1) (zi (znx t B e).2.1)) : wp_X8_next (zi t) (zi e) f9 K := by
  have T0 := T
  obtain ⟨ht, hX, hM, hB⟩ := T
  have r := zrn_rg (P := zws) (B := B) (t - e).toNat e
  have rend := zrn_end (P := zws) (B := B) (t - e).toNat e
  unfold wp_X8_next
  refine nz_l1 (fun j x => ∃ i : Int, x = zi i ∧ (e ≤ i ∧ i ≤ t) ∧ j = (t - i).toNat ∧ zrn zws B j i = zrn zws B (t - e).toNat e) ?_ (k := (t - e).toNat) ⟨e, rfl, by omega, rfl, rfl⟩
  rintro j R _ ⟨i, rfl, hi, hj, hz⟩ next
  unfold S_X8_next_0
  refine m_byteAt hM ht (by omega) (fun c => ?_) (fun c => ?_)
  · obtain rfl : j = 0 := by omega
    have hz : i = _ := hz
    refine ⟨fun z => absurd z (by decide), fun _ => m_byteAt hM ht (by omega) (fun _ => ⟨fun _ => m_byteAt hM ht (by omega) (fun _ => ⟨fun z => absurd rfl z, fun _ => ?_⟩) (fun z => absurd c (by omega)), fun z => absurd z (by decide)⟩) (fun z => absurd c (by omega))⟩
    unfold znx at hK
    rw [← hz] at hK
    rw [if_pos c] at hK
    exact hK
  · obtain ⟨j, rfl⟩ : ∃ i, j = i + 1 := ⟨j - 1, by omega⟩
    have hb := hB i (by omega)
    have go : zws (B i) = true → R (zi i + 1) := fun g => by
      rw [zrn_1 g] at hz
      exact next j _ rfl ⟨i + 1, by rw [zq1, zi_add], by omega, by omega, hz⟩
    rw [zq32, zi_eq (by omega) (by decide)]
    refine ⟨fun g => go (by unfold zws; rw [g]; rfl), fun g => m_byteAt hM ht (by omega) (fun z => absurd c (by omega)) (fun _ => ?_)⟩
    rw [zq10, zi_eq (by omega) (by decide)]
    refine ⟨fun g2 => ?_, fun g2 => go (by unfold zws; rw [g2]; rfl)⟩
    rw [zrn_0 (by unfold zws; simp [g, g2])] at hz
    unfold znx at hK
    rw [← hz] at hK
    rw [if_neg (by omega)] at hK
    refine m_byteAt hM ht (by omega) (fun z => absurd c (by omega)) (fun _ => ⟨fun _ => ?_, fun z => ?_⟩)
    · refine m_isLetter (by omega) (fun g3 => by1' ?_) (fun g3 => by0' ?_)
      · rw [if_pos g3] at hK
        exact m_name1 T0 (by omega) hK
      · rw [if_neg g3] at hK
        refine m_isFigure (by omega) (fun g4 => by1' ?_) (fun g4 => by0' ?_)
        · rw [if_pos g4] at hK
          refine m_number1 T0 (by omega) ?_
          have : (if zrn zfg B (t - i).toNat i - i ≤ 3 then (3 : Int) else 0) = ztc (if zrn zfg B (t - i).toNat i - i ≤ 3 then 2 else 4) := by
            split <;> rfl
          rw [this]
          exact hK
        · rw [if_neg g4] at hK
          rw [zq59, zi_eq (by omega) (by decide), zq1, zi_add]
          refine ⟨fun g5 => ?_, fun g5 => ?_⟩
          · rw [if_neg g5] at hK
            exact hK
          · rw [if_pos g5] at hK
            exact hK
    · rw [show (-1000000 : Int32) = zi (-1000000) from rfl, zi_eq (by omega) (by decide)] at z
      omega
