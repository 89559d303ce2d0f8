theorem u_tn {n : Nat} (h : n < 2 ^ 64) : (UInt64.ofNat n).toNat = n := Nat.mod_eq_of_lt h
theorem g_or {k p a b : Nat} (hp : 2 ^ k = p) (ha : a < p) (h : b * p + a < 2 ^ 64) : lN (b * p) ||| lN a = lN (b * p + a) := by
  subst hp
  have h1 : b * 2 ^ k ||| a = b * 2 ^ k + a := by rw [← Nat.shiftLeft_eq, Nat.shiftLeft_add_eq_or_of_lt ha]
  have h3 : UInt64.ofNat (b * 2 ^ k) ||| UInt64.ofNat a = UInt64.ofNat (b * 2 ^ k + a) := UInt64.toNat_inj.mp (by rw [UInt64.toNat_or, u_tn (by omega), u_tn (by omega), u_tn h, h1])
  have h2 := congrArg UInt64.toInt64 h3
  exact h2
theorem g_shl {a k p : Nat} {y : Int64} (hy : y.toBitVec.smod 64 = BitVec.ofNat 64 k) (hk : k < 64) (hp : 2 ^ k = p) (ha : a < 2 ^ 64) : lN a <<< y = lN (a * p) := by
  subst hp
  apply Int64.toBitVec_inj.mp
  rw [Int64.toBitVec_shiftLeft, hy]
  apply BitVec.eq_of_toNat_eq
  have hb : (lN a).toBitVec.toNat = a := Nat.mod_eq_of_lt ha
  have hk' : (BitVec.ofNat 64 k).toNat = k := Nat.mod_eq_of_lt (by omega)
  have h : ((lN a).toBitVec <<< BitVec.ofNat 64 k).toNat = (a * 2 ^ k) % 2 ^ 64 := by simp only [BitVec.shiftLeft_eq', BitVec.toNat_shiftLeft, hb, hk', Nat.shiftLeft_eq]
  exact h
theorem zlN (n : Nat) : zl (n : Int) = lN n := Int64.ofInt_eq_ofNat
theorem zsh8 {x b : Int} (hx : 0 ≤ x ∧ x < 72057594037927936) (hb : 0 ≤ b ∧ b ≤ 255) : ((zl x <<< ((8 : Int32).toInt64 &&& 63)) ||| ((zi b : Int32).toInt64)) = zl (256 * x + b) := by
  obtain ⟨n, rfl⟩ := Int.eq_ofNat_of_zero_le hx.1
  obtain ⟨m, rfl⟩ := Int.eq_ofNat_of_zero_le hb.1
  have e : (256 * (n : Int) + (m : Int)) = ((n * 256 + m : Nat) : Int) := by omega
  rw [zl_zi (by omega), e, zlN, zlN, zlN, g_shl (k := 8) (p := 256) (by decide) (by decide) (by decide) (by omega)]
  exact g_or (k := 8) (by decide) (by omega) (by omega)
def znm (B : Int → Int) (s : Int) : Nat → Int
  | 0 => 0
  | k + 1 => 256 * znm B s k + B (s + k)
theorem znm_rg {B : Int → Int} {s : Int} : ∀ n : Nat, (∀ i : Int, 0 ≤ i ∧ i < n → 0 ≤ B (s + i) ∧ B (s + i) ≤ 255) → 0 ≤ znm B s n ∧ znm B s n < 256 ^ n
  | 0, _ => by
    show (0 : Int) ≤ 0 ∧ (0 : Int) < 256 ^ 0
    decide
  | k + 1, h => by
    have h1 := znm_rg k (fun i hi => h i (by omega))
    have h2 := h k (by omega)
    have e : (256 : Int) ^ (k + 1) = 256 * 256 ^ k := by rw [Int.pow_succ]; omega
    show 0 ≤ 256 * znm B s k + B (s + k) ∧ 256 * znm B s k + B (s + k) < _
    omega
theorem zp256 : ∀ k, k < 8 → (256 : Int) ^ k ≤ 72057594037927936 := by decide
theorem znm_inj {B C : Int → Int} {s r : Int} : ∀ n m : Nat, (∀ i : Int, 0 ≤ i ∧ i < n → 1 ≤ B (s + i) ∧ B (s + i) ≤ 255) → (∀ i : Int, 0 ≤ i ∧ i < m → 1 ≤ C (r + i) ∧ C (r + i) ≤ 255) → znm B s n = znm C r m → n = m ∧ ∀ i : Int, 0 ≤ i ∧ i < n → B (s + i) = C (r + i)
  | 0, 0, _, _, _ => ⟨rfl, fun i hi => by omega⟩
  | 0, m + 1, _, hC, h => by
    have h1 := znm_rg (B := C) (s := r) m (fun i hi => by have := hC i (by omega); omega)
    have h2 := hC m (by omega)
    have h : (0 : Int) = 256 * znm C r m + C (r + m) := h
    omega
  | n + 1, 0, hB, _, h => by
    have h1 := znm_rg (B := B) (s := s) n (fun i hi => by have := hB i (by omega); omega)
    have h2 := hB n (by omega)
    have h : 256 * znm B s n + B (s + n) = (0 : Int) := h
    omega
  | n + 1, m + 1, hB, hC, h => by
    have h2 := hB n (by omega)
    have h3 := hC m (by omega)
    have h : 256 * znm B s n + B (s + n) = 256 * znm C r m + C (r + m) := h
    obtain ⟨e1, e2⟩ := znm_inj n m (fun i hi => hB i (by omega)) (fun i hi => hC i (by omega)) (by omega)
    have hh : B (s + n) = C (r + m) := by omega
    refine ⟨by omega, fun i hi => ?_⟩
    by_cases c : i = n
    · rw [c, hh, e1]
    · exact e2 i (by omega)
def zwl : List (List Int) := [[108, 97, 119], [115, 116, 111, 110, 101], [109, 111, 118, 101, 114], [105, 110, 110], [99, 97, 114, 116, 101, 114], [112, 97, 114, 105, 115, 104], [116, 104, 105, 101, 102], [112, 114, 105, 101, 115, 116]]
def zwc (w : Nat) (i : Int) : Int := (zwl.getD w []).getD i.toNat 0
def zwk (w : Nat) : Nat := (zwl.getD w []).length
def zcs : List Int := [7102839, 495874698853, 470021465458, 6909550, 109270183208306, 123563833652072, 499967944038, 123636696839028]
theorem zcs_eq : ∀ w, w < 8 → znm (zwc w) 0 (zwk w) = zcs.getD w 0 := by decide +kernel
theorem zwk_le : ∀ w, w < 8 → 3 ≤ zwk w ∧ zwk w ≤ 6 := by decide +kernel
theorem zwc_rg : ∀ w, w < 8 → ∀ j, j < zwk w → 1 ≤ zwc w (j : Nat) ∧ zwc w (j : Nat) ≤ 255 := by decide +kernel
theorem zwk_len : ∀ w, w < 8 → nz_len.getD w 0 = zwk w ∧ nI (nz_len.getD w 0) = zi (zwk w) := by decide +kernel
theorem zwk_ch : ∀ w, w < 8 → ∀ j, j < zwk w → nz_ch w (zi (j : Nat)) = zi (zwc w (j : Nat)) := by decide +kernel
theorem zcs_rg : ∀ w, w < 8 → 0 < zcs.getD w 0 ∧ zcs.getD w 0 < 9223372036854775807 := by decide +kernel
abbrev zwm (B : Int → Int) (s e k : Int) (w : Nat) : Prop := k = 1 ∧ e - s = zwk w ∧ ∀ j : Int, 0 ≤ j ∧ j < zwk w → B (s + j) = zwc w j
theorem x_isWord {t : Int} {B : Int → Int} {ef0 f9 : Nat → Int32} {s e k q : Int} {a3 a4 a5 a6 a7 : Int32} {w : Nat} {K : Int32 → Prop} (T : zTT t B ef0 f9) (S : zST t B s e k q) (R : zXS B s e k q a3 a4 a5 a6 a7) (hw : w < 8) (h1 : zwm B s e k w → K 1) (h0 : ¬ zwm B s e k w → K 0) : wp_X4_isWord (zi t) a3 a4 a5 ef0 w K := by
  obtain ⟨ht, hX, hM, hB⟩ := T
  obtain ⟨S1, S2, S3, S4, S5⟩ := S
  obtain ⟨rfl, rfl, rfl, -, -⟩ := R
  obtain ⟨l1, l2⟩ := zwk_len w hw
  have l3 := zwk_le w hw
  unfold wp_X4_isWord wp_J0_length_8abf5
  rw [show (zi k = 1) = (k = 1) from zi_eq (b := 1) (by omega) (by decide), l2, zi_sub]
  dsimp only
  rw [zi_eq (by omega) (by omega)]
  refine ⟨fun c => h0 (fun z => c z.1), fun c => ⟨hw, fun d => ?_, fun d => h0 (fun z => d z.2.1)⟩⟩
  refine nz_l1 (fun j x => ∃ i : Nat, x = zi i ∧ i ≤ zwk w ∧ j = zwk w - i ∧ ∀ j : Int, 0 ≤ j ∧ j < i → B (s + j) = zwc w j) ?_ (k := zwk w - 0) ⟨0, rfl, by omega, rfl, fun j hj => by omega⟩
  rintro j R _ ⟨i, rfl, hi, hj, he⟩ next
  unfold S_X4_isWord_28 wp_J0_length_8abf5 wp_J0_charAt_5068e
  rw [l2]
  dsimp only
  rw [zi_le (by omega) (by omega), zi_add, zi_le (by omega) (by omega)]
  refine ⟨hw, fun g => h1 ⟨c, d, fun j hj => he j (by omega)⟩, fun g => ⟨fun g2 => absurd g2 (by omega), fun g2 => ⟨zi_in (by omega), hw, ?_, ?_⟩⟩⟩
  · rw [l1]
    exact zi_in (by omega)
  · have hb := hB (s + i) (by omega)
    have hc := zwc_rg w hw i (by omega)
    rw [hX.at (by omega), zwk_ch w hw i (by omega), zi_eq (by omega) (by omega), zq1, zi_add]
    refine ⟨fun g3 => next (zwk w - (i + 1)) _ (by omega) ⟨i + 1, rfl, by omega, rfl, fun j hj => ?_⟩, fun g3 => h0 (fun z => g3 (z.2.2 i (by omega)))⟩
    by_cases z : j = i
    · rw [z]; exact g3
    · exact he j (by omega)
def zNV (B : Int → Int) (s e k q : Int) : Int := if q = 0 ∧ k = 1 ∧ e - s < 8 then znm B s (e - s).toNat else 0
theorem ztc_2 {k : Int} (hk : 0 ≤ k ∧ k ≤ 4) : (ztc k = 2) = (k = 1) := by
  unfold ztc
  apply propext
  split <;> omega
theorem ztc_3 {k : Int} (hk : 0 ≤ k ∧ k ≤ 4) : (ztc k = 3) = (k = 2) := by
  unfold ztc
  apply propext
  split <;> omega
theorem ztc_4 {k : Int} (hk : 0 ≤ k ∧ k ≤ 4) : (ztc k = 4) = (k = 3) := by
  unfold ztc
  apply propext
  split <;> omega
theorem ztc_1 {k : Int} (hk : 0 ≤ k ∧ k ≤ 4) : (ztc k = 1) = (k = 0) := by
  unfold ztc
  apply propext
  split <;> omega
theorem ztc_rg {k : Int} (hk : 0 ≤ k ∧ k ≤ 4) : 0 ≤ ztc k ∧ ztc k ≤ 4 := by
  unfold ztc
  split <;> omega
theorem m_name {t : Int} {B : Int → Int} {ef0 f9 : Nat → Int32} {s e k q : Int} {r13 r14 r15 r16 r17 r18 : Int32} {K : Int64 → Prop} (T : zTT t B ef0 f9) (S : zST t B s e k q) (R : zMS s e k q r13 r14 r15 r16 r17 r18) (hK : K (zl (zNV B s e k q))) : wp_X8_name r14 r15 r16 r17 f9 K := by
  obtain ⟨ht, hX, hM, hB⟩ := T
  obtain ⟨S1, S2, S3, S4, S5⟩ := S
  obtain ⟨-, rfl, rfl, rfl, rfl, -⟩ := R
  have fin : ∀ v : Int, (q = 0 → v = zNV B s e k q) → S_X8_name_56 (zi q) (zl v) K := fun v hv => by
    unfold S_X8_name_56
    rw [show (zi q = 0) = (q = 0) from zi_eq (b := 0) (by omega) (by decide)]
    refine ⟨fun c => ?_, fun c => ?_⟩
    · unfold zNV at hK
      rw [if_neg (fun z => c z.1)] at hK
      exact hK
    · rw [hv c]
      exact hK
  unfold wp_X8_name
  have rc := ztc_rg S2
  by_cases c : k = 1 ∧ e - s < 8
  · refine nz_l2 (fun j x1 x3 => ∃ i : Nat, x1 = zl (znm B s i) ∧ x3 = zi (s + i) ∧ s + i ≤ e ∧ j = (e - s).toNat - i) ?_ (k := (e - s).toNat - 0) ⟨0, rfl, by rw [show s + ((0 : Nat) : Int) = s by omega], by omega, rfl⟩
    rintro j R _ _ ⟨i, rfl, rfl, hi, hj⟩ next
    unfold S_X8_name_7
    rw [zi_le (by omega) (by omega), show (zi (ztc k) = 2) = (ztc k = 2) from zi_eq (b := 2) (by omega) (by decide), ztc_2 S2, zi_sub, show ((8 : Int32) ≤ zi (e - s)) = (8 ≤ e - s) from zi_le (a := 8) (by decide) (by omega)]
    refine ⟨fun d => fin _ (fun hq => ?_), fun d => ⟨fun z => absurd c.1 z, fun _ => ⟨fun z => absurd c.2 (by omega), fun _ => ⟨zi_in (by omega), ?_⟩⟩⟩⟩
    · unfold zNV
      rw [if_pos ⟨hq, c⟩, show i = (e - s).toNat by omega]
    · have hb := S4 c.1 (s + i) (by omega)
      have hn := znm_rg (B := B) (s := s) i (fun z hz => by have := S4 c.1 (s + z) (by omega); omega)
      have hp := zp256 i (by omega)
      rw [hM.at (by omega), zsh8 (by omega) (by omega), zq1, zi_add]
      exact next ((e - s).toNat - (i + 1)) _ _ (by omega) ⟨i + 1, rfl, by congr 1; omega, by omega, rfl⟩
  · have fin0 : S_X8_name_56 (zi q) (zl 0) K := fin 0 (fun hq => by
      unfold zNV
      rw [if_neg (fun z => c z.2)])
    refine nz_l2 (fun j x1 x3 => x1 = zl 0 ∧ x3 = zi s) ?_ (k := 0) ⟨rfl, rfl⟩
    rintro j R _ _ ⟨rfl, rfl⟩ next
    unfold S_X8_name_7
    rw [zi_le (by omega) (by omega), show (zi (ztc k) = 2) = (ztc k = 2) from zi_eq (b := 2) (by omega) (by decide), ztc_2 S2, zi_sub, show ((8 : Int32) ≤ zi (e - s)) = (8 ≤ e - s) from zi_le (a := 8) (by decide) (by omega)]
    exact ⟨fun d => fin0, fun d => ⟨fun z => fin0, fun z => ⟨fun _ => fin0, fun z2 => absurd ⟨z, by omega⟩ c⟩⟩⟩
theorem zNV_rg {t : Int} {B : Int → Int} {s e k q : Int} (S : zST t B s e k q) : 0 ≤ zNV B s e k q ∧ zNV B s e k q < 72057594037927936 := by
  obtain ⟨S1, S2, S3, S4, S5⟩ := S
  unfold zNV
  split
  · rename_i c
    have hn := znm_rg (B := B) (s := s) (e - s).toNat (fun z hz => by have := S4 c.2.1 (s + z) (by omega); omega)
    have hp := zp256 (e - s).toNat (by omega)
    omega
  · decide
theorem zNV_iff {t : Int} {B : Int → Int} {s e k q : Int} {w : Nat} (S : zST t B s e k q) (hw : w < 8) : zNV B s e k q = zcs.getD w 0 ↔ (q = 0 ∧ zwm B s e k w) := by
  obtain ⟨S1, S2, S3, S4, S5⟩ := S
  have l3 := zwk_le w hw
  have hc := zcs_rg w hw
  have hC : ∀ i : Int, 0 ≤ i ∧ i < zwk w → 1 ≤ zwc w (0 + i) ∧ zwc w (0 + i) ≤ 255 := fun i hi => by
    have := zwc_rg w hw i.toNat (by omega)
    rw [show (i.toNat : Int) = 0 + i by omega] at this
    exact this
  unfold zNV
  constructor
  · intro h
    by_cases c : q = 0 ∧ k = 1 ∧ e - s < 8
    · rw [if_pos c, ← zcs_eq w hw] at h
      obtain ⟨e1, e2⟩ := znm_inj _ _ (fun i hi => by have := S4 c.2.1 (s + i) (by omega); omega) hC h
      refine ⟨c.1, c.2.1, by omega, fun j hj => ?_⟩
      have := e2 j (by omega)
      rw [show (0 : Int) + j = j by omega] at this
      exact this
    · rw [if_neg c] at h
      omega
  · rintro ⟨h1, h2, h3, h4⟩
    rw [if_pos ⟨h1, h2, by omega⟩, ← zcs_eq w hw, show (e - s).toNat = zwk w by omega]
    have key : ∀ n : Nat, n ≤ zwk w → znm B s n = znm (zwc w) 0 n := by
      intro n
      induction n with
      | zero => intro _; rfl
      | succ n ih =>
        intro hn
        show 256 * znm B s n + B (s + n) = 256 * znm (zwc w) 0 n + zwc w (0 + n)
        rw [ih (by omega), h4 n (by omega), show (0 : Int) + (n : Int) = n by omega]
    exact key _ (Nat.le_refl _)
theorem zNV_cmp {t : Int} {B : Int → Int} {s e k q : Int} {w : Nat} {c : Int64} (S : zST t B s e k q) (hw : w < 8) (hc : c = zl (zcs.getD w 0)) : (lg_cmp (zl (zNV B s e k q)) c = 0) = (q = 0 ∧ zwm B s e k w) := by
  have h1 := zNV_rg S
  have h2 := zcs_rg w hw
  rw [lg_cmp_eq, hc, ← Int64.toInt_inj, zl_to (by omega), zl_to (by omega)]
  exact propext (zNV_iff S hw)
