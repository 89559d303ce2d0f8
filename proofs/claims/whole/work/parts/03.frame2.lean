/-! MY FRAME, second part: small facts of the rows -/
theorem nz_inC {i : Int32} {n : Nat} (h : (decide (0 ≤ i.toInt) && decide (i.toInt < n)) = true) : vp_in i n := by
  simp only [Bool.and_eq_true, decide_eq_true_eq] at h
  exact vp_in_iff.mpr h
theorem nz_nq {x v : Int32} (h : ¬ x = v) : ¬ x.toInt = v.toInt := fun q => h (Int32.toInt_inj.mp q)
theorem nz_osw {x : Int32} {lo hi : Int} (h : ∀ j : Int, x.toInt = j → lo ≤ j → j ≤ hi → False) : x.toInt < lo ∨ hi < x.toInt := by
  rcases Int.lt_or_le x.toInt lo with q | q
  · exact Or.inl q
  · rcases Int.lt_or_le hi x.toInt with r | r
    · exact Or.inr r
    · exact absurd (h _ rfl q r) (fun z => z)
theorem nz_nar {v : Int32} (h : fits .boolean (.int v) = true) : narrow .boolean (.int v) = .int v := by
  simp only [fits, Bool.or_eq_true, beq_iff_eq] at h
  rcases h with rfl | rfl <;> rfl
theorem nz_ldcS {y : nz_Y} {g : nz_G} {k n : Nat} {ws : va_W} {pc : Nat} {ls : List (Nat × Value)} {st : List Value} {cc : ByteArray} {nL : Nat} {Ts : List Cond} {ret : Option FieldType} {rm : Room} {i idx : Nat} {tx : String} (F : nz_F y g cc nL Ts RX4 ret rm) (hi : nz_txt[i]? = some (idx, tx)) (d : decode cc pc = .ok (.ldc idx, 2)) (h : nz_V y g k n ws (pc + 2) ls (.ref (nz_aK g i) :: st)) : nz_V y g k n ws pc ls st := fun H locs la hP hD hS hL => va_ldcS F.1 F.2.1 F.2.2.2.2.1 (F.2.2.2.2.2.2.2.2.2.2.1.1.2 i _ hi) d (h H locs la hP hD hS hL)
/-- n turns of a step, from a last goal on -/
def nz_it {P : Type} (bot : P) (f : P → P) : Nat → P
  | 0 => bot
  | n + 1 => f (nz_it bot f n)
