def z0f : Int → Int := fun _ => 0
theorem z0_ok : zOK z0f := ⟨by decide, by decide, by decide, by decide, by decide, by decide, by decide, by decide, fun _ => by decide, fun z => absurd z (by decide), fun k hk => absurd hk (by show ¬ (0 ≤ k ∧ k < 0); omega), fun k hk => absurd hk (by show ¬ (0 ≤ k ∧ k + 1 < 0); omega), fun k hk => absurd hk (by show ¬ (0 ≤ k ∧ k < 0); omega), fun k hk => absurd hk (by show ¬ (0 ≤ k ∧ k < 0); omega)⟩
theorem z0_zA {n : Int} {s : Nat → Int32} {f : Int → Int} (h : n ≤ 0) : zA n s f := fun a ha => absurd ha (by omega)
theorem z0_R (o s a h kd wh wy re tm : Nat → Int32) (ho : o = fun _ => 0) : zR z0f o s a h kd wh wy re tm := by
  subst ho
  exact ⟨rfl, rfl, rfl, rfl, rfl, rfl, rfl, rfl, rfl, z0_zA (by decide), z0_zA (by decide), z0_zA (by decide), z0_zA (by decide), z0_zA (by decide), z0_zA (by decide), z0_zA (by decide), z0_zA (by decide)⟩
theorem z0_M1 : ∀ n : Nat, n < 8 → nz_M0 1 n = zi (-1) := by decide +kernel
theorem nz_start_rel : wp_X7_init (fun X => nz_Rel X nz_M0) := by
  unfold wp_X7_init wp_X6_init wp_J7_fill_53178_8
  refine nz_l2 (fun j x s => ∃ i : Int, x = zi i ∧ (0 ≤ i ∧ i ≤ 8) ∧ j = (8 - i).toNat ∧ zA i s (fun _ => -1)) ?_ (k := (8 - (0 : Int)).toNat) ⟨0, rfl, by omega, rfl, fun a ha => absurd ha (by omega)⟩
  rintro j R _ s ⟨i, rfl, hi, hj, hs⟩ next
  unfold S_J7_fill_53178_8_5
  rw [show (-1 : Int32) = zi (-1) from rfl, zq8, zi_le (by decide) (by omega), zq1, zi_add]
  refine ⟨fun c => ?_, fun c => ⟨zi_in (by omega), next (8 - (i + 1)).toNat _ _ (by omega) ⟨i + 1, rfl, by omega, rfl, ?_⟩⟩⟩
  · obtain rfl : i = 8 := by omega
    have hz : ∀ k : Nat, k ≠ 2 → nz_X0 s k = fun _ => 0 := fun k hk => if_neg hk
    have hm : ∀ k : Nat, k ≠ 1 → nz_M0 k = fun _ => 0 := fun k hk => if_neg hk
    have zz : ∀ (n : Int) (k : Nat), k ≠ 2 → zA n (nz_X0 s k) z0f := fun n k hk a ha => by rw [hz k hk]; rfl
    have zm : ∀ (n : Int) (k : Nat), k ≠ 1 → zA n (nz_M0 k) z0f := fun n k hk a ha => by rw [hm k hk]; rfl
    refine ⟨⟨z0f, z0f, z0f, z0f, 0, zm _ _ (by decide), z0_ok, z0_R _ _ _ _ _ _ _ _ _ (hz 16 (by decide)), ⟨zm _ _ (by decide), z0_ok, z0_R _ _ _ _ _ _ _ _ _ (hz 26 (by decide)), rfl⟩, ⟨fun a ha => rfl, z0_ok, z0_R _ _ _ _ _ _ _ _ _ (hz 35 (by decide)), rfl⟩, zm _ _ (by decide), zAC0 _ _ _ _, rfl, rfl⟩,
      ⟨fun _ => -1, z0f, z0f, hs, fun a ha => ?_, zz _ _ (by decide), zm _ _ (by decide), zm _ _ (by decide), fun r hr => ⟨show (-1 : Int) ≤ -1 ∧ (-1 : Int) ≤ 2 from by decide, show (0 : Int) ≤ 0 ∧ (0 : Int) ≤ 40 from by decide⟩, fun j => by show -2147483648 ≤ (0 : Int) ∧ (0 : Int) ≤ 2147483647; decide, fun r hr => ?_⟩, ⟨0, z0f, by decide, rfl, rfl, zz _ _ (by decide), zm _ _ (by decide), fun i hi => absurd hi (by omega)⟩, ⟨0, z0f, by decide, rfl, rfl, zz _ _ (by decide), zm _ _ (by decide)⟩, rfl, rfl⟩
    · exact z0_M1 a.toNat (by omega)
    · rw [hz (54 + r.toNat) (by omega)]
      exact fun a ha => rfl
  · exact hs.snoc (by omega) rfl
