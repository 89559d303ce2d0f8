def nz_Rel (X M : Nat → Nat → Int32) : Prop := X 0 9 = M 0 1
theorem pub_row {X M : Nat → Nat → Int32} (hR : nz_Rel X M) (v1 : Int32) (v2 : Int32) (v3 : Int32) : wp_X7_row X v1 v2 v3 (fun r X1 => wp_X8_row M v1 v2 v3 (fun r1 M1 => r = r1 ∧ nz_Rel X1 M1)) := by
  sorry
theorem pub_set {X M : Nat → Nat → Int32} (hR : nz_Rel X M) (v1 : Int32) (v2 : Int32) (v3 : Int32) : wp_X7_set X v1 v2 v3 (fun r X1 => wp_X8_set M v1 v2 v3 (fun r1 M1 => r = r1 ∧ nz_Rel X1 M1)) := by
  sorry
theorem pub_copy {X M : Nat → Nat → Int32} (hR : nz_Rel X M) (v1 : Int32) (v2 : Int32) (v3 : Int32) (v4 : Int32) (v5 : Int32) : wp_X7_copy X v1 v2 v3 v4 v5 (fun r X1 => wp_X8_copy M v1 v2 v3 v4 v5 (fun r1 M1 => r = r1 ∧ nz_Rel X1 M1)) := by
  sorry
theorem pub_drop {X M : Nat → Nat → Int32} (hR : nz_Rel X M) (v1 : Int32) : wp_X7_drop X v1 (fun r X1 => wp_X8_drop M v1 (fun r1 M1 => r = r1 ∧ nz_Rel X1 M1)) := by
  sorry
theorem pub_feed {X M : Nat → Nat → Int32} (hR : nz_Rel X M) (v1 : Int64) (v3 : Int32) : wp_X7_feed X v1 v3 (fun r X1 => wp_X8_feed M v1 v3 (fun r1 M1 => r = r1 ∧ nz_Rel X1 M1)) := by
  sorry
theorem pub_road {X M : Nat → Nat → Int32} (hR : nz_Rel X M) : wp_X7_road X (fun r X1 => wp_X8_road M (fun r1 M1 => r = r1 ∧ nz_Rel X1 M1)) := by
  sorry
theorem pub_fault {X M : Nat → Nat → Int32} (hR : nz_Rel X M) : wp_X7_fault X (fun r X1 => wp_X8_fault M (fun r1 M1 => r = r1 ∧ nz_Rel X1 M1)) := by
  sorry
theorem pub_night {X M : Nat → Nat → Int32} (hR : nz_Rel X M) : wp_X7_night X (fun r X1 => wp_X8_night M (fun r1 M1 => r = r1 ∧ nz_Rel X1 M1)) := by
  sorry
theorem pub_prove {X M : Nat → Nat → Int32} (hR : nz_Rel X M) (v1 : Int32) : wp_X7_prove X v1 (fun r X1 => wp_X8_prove M v1 (fun r1 M1 => r = r1 ∧ nz_Rel X1 M1)) := by
  sorry
theorem pub_undo {X M : Nat → Nat → Int32} (hR : nz_Rel X M) : wp_X7_undo X (fun r X1 => wp_X8_undo M (fun r1 M1 => r = r1 ∧ nz_Rel X1 M1)) := by
  sorry
theorem pub_stone {X M : Nat → Nat → Int32} (hR : nz_Rel X M) (v1 : Int32) (v2 : Int32) : wp_X7_stone X v1 v2 (fun r X1 => wp_X8_stone M v1 v2 (fun r1 M1 => r = r1 ∧ nz_Rel X1 M1)) := by
  sorry
theorem pub_carry {X M : Nat → Nat → Int32} (hR : nz_Rel X M) (v1 : Int32) (v2 : Int32) (v3 : Int32) : wp_X7_carry X v1 v2 v3 (fun r X1 => wp_X8_carry M v1 v2 v3 (fun r1 M1 => r = r1 ∧ nz_Rel X1 M1)) := by
  sorry
theorem pub_time {X M : Nat → Nat → Int32} (hR : nz_Rel X M) (v1 : Int32) (v2 : Int32) (v3 : Int32) (v4 : Int32) : wp_X7_time X v1 v2 v3 v4 (fun r X1 => wp_X8_time M v1 v2 v3 v4 (fun r1 M1 => r = r1 ∧ nz_Rel X1 M1)) := by
  sorry
theorem pub_times {X M : Nat → Nat → Int32} (hR : nz_Rel X M) (v1 : Int32) (v2 : Int32) (v3 : Int32) : wp_X7_times X v1 v2 v3 (fun r X1 => wp_X8_times M v1 v2 v3 (fun r1 M1 => r = r1 ∧ nz_Rel X1 M1)) := by
  sorry
theorem pub_forget {X M : Nat → Nat → Int32} (hR : nz_Rel X M) : wp_X7_forget X (fun r X1 => wp_X8_forget M (fun r1 M1 => r = r1 ∧ nz_Rel X1 M1)) := by
  sorry
theorem pub_ends {X M : Nat → Nat → Int32} (hR : nz_Rel X M) (v1 : Int32) (v2 : Int32) (v3 : Int32) : wp_X7_ends X v1 v2 v3 (fun r X1 => wp_X8_ends M v1 v2 v3 (fun r1 M1 => r = r1 ∧ nz_Rel X1 M1)) := by
  sorry
theorem pub_widest {X M : Nat → Nat → Int32} (hR : nz_Rel X M) : wp_X7_widest X (fun r X1 => wp_X8_widest M (fun r1 M1 => r = r1 ∧ nz_Rel X1 M1)) := by
  sorry
theorem pub_rest {X M : Nat → Nat → Int32} (hR : nz_Rel X M) : wp_X7_rest X (fun r X1 => wp_X8_rest M (fun r1 M1 => r = r1 ∧ nz_Rel X1 M1)) := by
  sorry
theorem pub_moved {X M : Nat → Nat → Int32} (hR : nz_Rel X M) (v1 : Int32) : wp_X7_moved X v1 (fun r X1 => wp_X8_moved M v1 (fun r1 M1 => r = r1 ∧ nz_Rel X1 M1)) := by
  sorry
theorem pub_who {X M : Nat → Nat → Int32} (hR : nz_Rel X M) (v1 : Int32) (v2 : Int32) : wp_X7_who X v1 v2 (fun r X1 => wp_X8_who M v1 v2 (fun r1 M1 => r = r1 ∧ nz_Rel X1 M1)) := by
  sorry
theorem pub_dare {X M : Nat → Nat → Int32} (hR : nz_Rel X M) (v1 : Int32) (v2 : Int32) : wp_X7_dare X v1 v2 (fun r X1 => wp_X8_dare M v1 v2 (fun r1 M1 => r = r1 ∧ nz_Rel X1 M1)) := by
  sorry
theorem pub_best {X M : Nat → Nat → Int32} (hR : nz_Rel X M) (v1 : Int32) : wp_X7_best X v1 (fun r X1 => wp_X8_best M v1 (fun r1 M1 => r = r1 ∧ nz_Rel X1 M1)) := by
  sorry
theorem pub_image {X M : Nat → Nat → Int32} (hR : nz_Rel X M) (v1 : Int32) : wp_X7_image X v1 (fun r X1 => wp_X8_image M v1 (fun r1 M1 => r = r1 ∧ nz_Rel X1 M1)) := by
  sorry
theorem pub_restore {X M : Nat → Nat → Int32} (hR : nz_Rel X M) (v1 : Int32) : wp_X7_restore X v1 (fun r X1 => wp_X8_restore M v1 (fun r1 M1 => r = r1 ∧ nz_Rel X1 M1)) := by
  sorry
theorem pub_kind {X M : Nat → Nat → Int32} (hR : nz_Rel X M) (v1 : Int32) : wp_X7_kind X v1 (fun r X1 => wp_X8_kind M v1 (fun r1 M1 => r = r1 ∧ nz_Rel X1 M1)) := by
  sorry
theorem pub_as {X M : Nat → Nat → Int32} (hR : nz_Rel X M) (v1 : Int32) (v2 : Int32) : wp_X7_as X v1 v2 (fun r X1 => wp_X8_as M v1 v2 (fun r1 M1 => r = r1 ∧ nz_Rel X1 M1)) := by
  sorry
theorem pub_ask {X M : Nat → Nat → Int32} (hR : nz_Rel X M) (v1 : Int32) (v2 : Int32) : wp_X7_ask X v1 v2 (fun r X1 => wp_X8_ask M v1 v2 (fun r1 M1 => r = r1 ∧ nz_Rel X1 M1)) := by
  sorry
theorem pub_trace {X M : Nat → Nat → Int32} (hR : nz_Rel X M) (v1 : Int32) : wp_X7_trace X v1 (fun r X1 => wp_X8_trace M v1 (fun r1 M1 => r = r1 ∧ nz_Rel X1 M1)) := by
  sorry
theorem pub_count {X M : Nat → Nat → Int32} (hR : nz_Rel X M) (v1 : Int32) : wp_X7_count X v1 (fun r X1 => wp_X8_count M v1 (fun r1 M1 => r = r1 ∧ nz_Rel X1 M1)) := by
  sorry
theorem pub_status {X M : Nat → Nat → Int32} (hR : nz_Rel X M) : wp_X7_status X (fun r X1 => wp_X8_status M (fun r1 M1 => r = r1 ∧ nz_Rel X1 M1)) := by
  sorry
theorem nz_start_rel : wp_X7_init (fun X => nz_Rel X nz_M0) := by
  sorry
