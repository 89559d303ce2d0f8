theorem dX7_restore_0 : decode cX7_restore 0 = .ok (.iload_n 1, 1) := by decide +kernel
theorem dX7_restore_1 : decode cX7_restore 1 = .ok (.iconst 0, 1) := by decide +kernel
theorem dX7_restore_2 : decode cX7_restore 2 = .ok (.aload_n 0, 1) := by decide +kernel
theorem dX7_restore_3 : decode cX7_restore 3 = .ok (.getfield 30, 3) := by decide +kernel
theorem dX7_restore_6 : decode cX7_restore 6 = .ok (.arraylength, 1) := by decide +kernel
theorem dX7_restore_7 : decode cX7_restore 7 = .ok (.iconst 1, 1) := by decide +kernel
theorem dX7_restore_8 : decode cX7_restore 8 = .ok (.isub, 1) := by decide +kernel
theorem dX7_restore_9 : decode cX7_restore 9 = .ok (.invokestatic 66, 3) := by decide +kernel
theorem dX7_restore_12 : decode cX7_restore 12 = .ok (.ifCond .ne 6, 3) := by decide +kernel
theorem dX7_restore_15 : decode cX7_restore 15 = .ok (.ldc 70, 2) := by decide +kernel
theorem dX7_restore_17 : decode cX7_restore 17 = .ok (.ireturn, 1) := by decide +kernel
theorem dX7_restore_18 : decode cX7_restore 18 = .ok (.aload_n 0, 1) := by decide +kernel
theorem dX7_restore_19 : decode cX7_restore 19 = .ok (.getfield 30, 3) := by decide +kernel
theorem dX7_restore_22 : decode cX7_restore 22 = .ok (.iload_n 1, 1) := by decide +kernel
theorem dX7_restore_23 : decode cX7_restore 23 = .ok (.aaload, 1) := by decide +kernel
theorem dX7_restore_24 : decode cX7_restore 24 = .ok (.getfield 137, 3) := by decide +kernel
theorem dX7_restore_27 : decode cX7_restore 27 = .ok (.ifCond .ne 6, 3) := by decide +kernel
theorem dX7_restore_30 : decode cX7_restore 30 = .ok (.ldc 141, 2) := by decide +kernel
theorem dX7_restore_32 : decode cX7_restore 32 = .ok (.ireturn, 1) := by decide +kernel
theorem dX7_restore_33 : decode cX7_restore 33 = .ok (.aload_n 0, 1) := by decide +kernel
theorem dX7_restore_34 : decode cX7_restore 34 = .ok (.getfield 26, 3) := by decide +kernel
theorem dX7_restore_37 : decode cX7_restore 37 = .ok (.aload_n 0, 1) := by decide +kernel
theorem dX7_restore_38 : decode cX7_restore 38 = .ok (.getfield 30, 3) := by decide +kernel
theorem dX7_restore_41 : decode cX7_restore 41 = .ok (.iload_n 1, 1) := by decide +kernel
theorem dX7_restore_42 : decode cX7_restore 42 = .ok (.aaload, 1) := by decide +kernel
theorem dX7_restore_43 : decode cX7_restore 43 = .ok (.invokevirtual 127, 3) := by decide +kernel
theorem dX7_restore_46 : decode cX7_restore 46 = .ok (.aload_n 0, 1) := by decide +kernel
theorem dX7_restore_47 : decode cX7_restore 47 = .ok (.getfield 37, 3) := by decide +kernel
theorem dX7_restore_50 : decode cX7_restore 50 = .ok (.invokevirtual 131, 3) := by decide +kernel
theorem dX7_restore_53 : decode cX7_restore 53 = .ok (.iconst 1, 1) := by decide +kernel
theorem dX7_restore_54 : decode cX7_restore 54 = .ok (.ireturn, 1) := by decide +kernel
set_option maxRecDepth 20000 in
theorem ggX7_restore_X0_clear : GoodIn wsX7_restore wsX0_clear := goodIn_r _ [38, 39, 67, 68, 69] rfl (by decide +kernel)
set_option maxRecDepth 20000 in
theorem gX7_restore_X0_clear_n131 : GoodIn wsX7_restore (wsX0_clear) := ggX7_restore_X0_clear
set_option maxRecDepth 20000 in
theorem ggX7_restore_X5_become : GoodIn wsX7_restore wsX5_become := goodIn_r _ [13, 14, 15, 16, 17, 18, 19, 20, 21, 22, 23, 24, 25, 26, 27, 28, 29, 30, 31, 32, 33, 34, 50, 51, 52, 53, 54, 55, 56, 57, 58, 59, 60, 61, 62, 63, 64, 65, 66] rfl (by decide +kernel)
set_option maxRecDepth 20000 in
theorem gX7_restore_X5_become_n127 : GoodIn wsX7_restore (wsX5_become) := ggX7_restore_X5_become
set_option maxRecDepth 20000 in
theorem ggX7_restore_X7_isAmong : GoodIn wsX7_restore wsX7_isAmong := goodIn_r _ [9] rfl (by decide +kernel)
set_option maxRecDepth 20000 in
theorem gX7_restore_X7_isAmong : GoodIn wsX7_restore (va_wsS RX7 66 yX7_isAmong wsX7_isAmong) := goodIn_app (goodIn_r _ [6, 7, 8] rfl (by decide +kernel)) ggX7_restore_X7_isAmong
theorem nd_16_9_26_9 : va_nd (List.range' 16 9 ++ List.range' 26 9) = true := by decide +kernel
theorem hC_X5_become_16_26 (g : nz_G) (a : Nat → Nat) (X : Nat → Nat → Int32) : (List.range' 16 9 ++ List.range' 26 9).map (fun i => (nz_wX g a X)[i]?) = (([((a 16), .inr (5, [.int (X 16 0), .int (X 16 1), .int (X 16 2), .int (X 16 3), .int (X 16 4), .int (X 16 5), .int (X 16 6), .int (X 16 7), .int (X 16 8), .ref (a 17), .ref (a 18), .ref (a 19), .ref (a 20), .ref (a 21), .ref (a 22), .ref (a 23), .ref (a 24)])), ((a 17), .inl (nz_cI g, 6, .inl (X 17))), ((a 18), .inl (nz_cI g, 6, .inl (X 18))), ((a 19), .inl (nz_cI g, 6, .inl (X 19))), ((a 20), .inl (nz_cI g, 5, .inl (X 20))), ((a 21), .inl (nz_cI g, 5, .inl (X 21))), ((a 22), .inl (nz_cI g, 5, .inl (X 22))), ((a 23), .inl (nz_cI g, 5, .inl (X 23))), ((a 24), .inl (nz_cI g, 48, .inl (X 24))), ((a 26), .inr (5, [.int (X 26 0), .int (X 26 1), .int (X 26 2), .int (X 26 3), .int (X 26 4), .int (X 26 5), .int (X 26 6), .int (X 26 7), .int (X 26 8), .ref (a 27), .ref (a 28), .ref (a 29), .ref (a 30), .ref (a 31), .ref (a 32), .ref (a 33), .ref (a 34)])), ((a 27), .inl (nz_cI g, 6, .inl (X 27))), ((a 28), .inl (nz_cI g, 6, .inl (X 28))), ((a 29), .inl (nz_cI g, 6, .inl (X 29))), ((a 30), .inl (nz_cI g, 5, .inl (X 30))), ((a 31), .inl (nz_cI g, 5, .inl (X 31))), ((a 32), .inl (nz_cI g, 5, .inl (X 32))), ((a 33), .inl (nz_cI g, 5, .inl (X 33))), ((a 34), .inl (nz_cI g, 48, .inl (X 34)))] : va_W)).map some := rfl
def wX_X5_become_16_26 (X : Nat → Nat → Int32) (K : (Nat → Nat → Int32) → Prop) : Prop := wp_X5_become (X 17) (X 18) (X 19) (X 20) (X 21) (X 22) (X 23) (X 24) (X 26 0) (X 26 1) (X 26 2) (X 26 3) (X 26 4) (X 26 5) (X 26 6) (X 26 7) (X 26 8) (X 27) (X 28) (X 29) (X 30) (X 31) (X 32) (X 33) (X 34) (fun m0 m1 m2 m3 m4 m5 m6 m7 m8 m9 m10 m11 m12 m13 m14 m15 m16 => K (va_up (va_up (va_up (va_up (va_up (va_up (va_up (va_up (va_up X 16 (upd (upd (upd (upd (upd (upd (upd (upd (upd (X 16) 0 m0) 1 m1) 2 m2) 3 m3) 4 m4) 5 m5) 6 m6) 7 m7) 8 m8)) 17 m9) 18 m10) 19 m11) 20 m12) 21 m13) 22 m14) 23 m15) 24 m16))
theorem kX_X5_become_16_26 {y : nz_Y} {g : nz_G} {k n pc : Nat} {ls : List (Nat × Value)} {st rest : List Value} {av : Array Value} {K : (Nat → Nat → Int32) → Prop} (a : Nat → Nat) (X : Nat → Nat → Int32) (run : ∀ Q : Nat → Array Value → State → Outcome → State → Prop, nz_M (yz_l y) yX5_become wsX5_become rm_X5_become g [.ref (a 16), .ref (a 26)] [((a 16), .inr (5, [.int (X 16 0), .int (X 16 1), .int (X 16 2), .int (X 16 3), .int (X 16 4), .int (X 16 5), .int (X 16 6), .int (X 16 7), .int (X 16 8), .ref (a 17), .ref (a 18), .ref (a 19), .ref (a 20), .ref (a 21), .ref (a 22), .ref (a 23), .ref (a 24)])), ((a 17), .inl (nz_cI g, 6, .inl (X 17))), ((a 18), .inl (nz_cI g, 6, .inl (X 18))), ((a 19), .inl (nz_cI g, 6, .inl (X 19))), ((a 20), .inl (nz_cI g, 5, .inl (X 20))), ((a 21), .inl (nz_cI g, 5, .inl (X 21))), ((a 22), .inl (nz_cI g, 5, .inl (X 22))), ((a 23), .inl (nz_cI g, 5, .inl (X 23))), ((a 24), .inl (nz_cI g, 48, .inl (X 24))), ((a 26), .inr (5, [.int (X 26 0), .int (X 26 1), .int (X 26 2), .int (X 26 3), .int (X 26 4), .int (X 26 5), .int (X 26 6), .int (X 26 7), .int (X 26 8), .ref (a 27), .ref (a 28), .ref (a 29), .ref (a 30), .ref (a 31), .ref (a 32), .ref (a 33), .ref (a 34)])), ((a 27), .inl (nz_cI g, 6, .inl (X 27))), ((a 28), .inl (nz_cI g, 6, .inl (X 28))), ((a 29), .inl (nz_cI g, 6, .inl (X 29))), ((a 30), .inl (nz_cI g, 5, .inl (X 30))), ((a 31), .inl (nz_cI g, 5, .inl (X 31))), ((a 32), .inl (nz_cI g, 5, .inl (X 32))), ((a 33), .inl (nz_cI g, 5, .inl (X 33))), ((a 34), .inl (nz_cI g, 48, .inl (X 34)))] Q → nz_C y g k n (nz_wX g a X) pc ls st rest [((a 16), .inr (5, [.int (X 16 0), .int (X 16 1), .int (X 16 2), .int (X 16 3), .int (X 16 4), .int (X 16 5), .int (X 16 6), .int (X 16 7), .int (X 16 8), .ref (a 17), .ref (a 18), .ref (a 19), .ref (a 20), .ref (a 21), .ref (a 22), .ref (a 23), .ref (a 24)])), ((a 17), .inl (nz_cI g, 6, .inl (X 17))), ((a 18), .inl (nz_cI g, 6, .inl (X 18))), ((a 19), .inl (nz_cI g, 6, .inl (X 19))), ((a 20), .inl (nz_cI g, 5, .inl (X 20))), ((a 21), .inl (nz_cI g, 5, .inl (X 21))), ((a 22), .inl (nz_cI g, 5, .inl (X 22))), ((a 23), .inl (nz_cI g, 5, .inl (X 23))), ((a 24), .inl (nz_cI g, 48, .inl (X 24))), ((a 26), .inr (5, [.int (X 26 0), .int (X 26 1), .int (X 26 2), .int (X 26 3), .int (X 26 4), .int (X 26 5), .int (X 26 6), .int (X 26 7), .int (X 26 8), .ref (a 27), .ref (a 28), .ref (a 29), .ref (a 30), .ref (a 31), .ref (a 32), .ref (a 33), .ref (a 34)])), ((a 27), .inl (nz_cI g, 6, .inl (X 27))), ((a 28), .inl (nz_cI g, 6, .inl (X 28))), ((a 29), .inl (nz_cI g, 6, .inl (X 29))), ((a 30), .inl (nz_cI g, 5, .inl (X 30))), ((a 31), .inl (nz_cI g, 5, .inl (X 31))), ((a 32), .inl (nz_cI g, 5, .inl (X 32))), ((a 33), .inl (nz_cI g, 5, .inl (X 33))), ((a 34), .inl (nz_cI g, 48, .inl (X 34)))] Q av (List.range' 16 9 ++ List.range' 26 9)) (h : wX_X5_become_16_26 X K) (kk : ∀ (X1 : Nat → Nat → Int32), K X1 → nz_V y g k n (nz_wX g a X1) (pc + 3) ls (rest)) : nz_V y g k n (nz_wX g a X) pc ls st :=
 k_X5_become (a 16) (a 17) (a 18) (a 19) (a 20) (a 21) (a 22) (a 23) (a 24) (a 26) (a 27) (a 28) (a 29) (a 30) (a 31) (a 32) (a 33) (a 34) (X 16 0) (X 16 1) (X 16 2) (X 16 3) (X 16 4) (X 16 5) (X 16 6) (X 16 7) (X 16 8) (X 17) (X 18) (X 19) (X 20) (X 21) (X 22) (X 23) (X 24) (X 26 0) (X 26 1) (X 26 2) (X 26 3) (X 26 4) (X 26 5) (X 26 6) (X 26 7) (X 26 8) (X 27) (X 28) (X 29) (X 30) (X 31) (X 32) (X 33) (X 34) (run _) h (fun m0 m1 m2 m3 m4 m5 m6 m7 m8 m9 m10 m11 m12 m13 m14 m15 m16 => nz_wX g a (va_up (va_up (va_up (va_up (va_up (va_up (va_up (va_up (va_up X 16 (upd (upd (upd (upd (upd (upd (upd (upd (upd (X 16) 0 m0) 1 m1) 2 m2) 3 m3) 4 m4) 5 m5) 6 m6) 7 m7) 8 m8)) 17 m9) 18 m10) 19 m11) 20 m12) 21 m13) 22 m14) 23 m15) 24 m16)) (fun m0 m1 m2 m3 m4 m5 m6 m7 m8 m9 m10 m11 m12 m13 m14 m15 m16 => nz_xm (hC_X5_become_16_26 g a (va_up (va_up (va_up (va_up (va_up (va_up (va_up (va_up (va_up X 16 (upd (upd (upd (upd (upd (upd (upd (upd (upd (X 16) 0 m0) 1 m1) 2 m2) 3 m3) 4 m4) 5 m5) 6 m6) 7 m7) 8 m8)) 17 m9) 18 m10) 19 m11) 20 m12) 21 m13) 22 m14) 23 m15) 24 m16)) (nz_ag.up (nz_ag.up (nz_ag.up (nz_ag.up (nz_ag.up (nz_ag.up (nz_ag.up (nz_ag.up (nz_ag.up nz_ag.refl rfl) rfl) rfl) rfl) rfl) rfl) rfl) rfl) rfl)) (fun m0 m1 m2 m3 m4 m5 m6 m7 m8 m9 m10 m11 m12 m13 m14 m15 m16 h => kk (va_up (va_up (va_up (va_up (va_up (va_up (va_up (va_up (va_up X 16 (upd (upd (upd (upd (upd (upd (upd (upd (upd (X 16) 0 m0) 1 m1) 2 m2) 3 m3) 4 m4) 5 m5) 6 m6) 7 m7) 8 m8)) 17 m9) 18 m10) 19 m11) 20 m12) 21 m13) 22 m14) 23 m15) 24 m16) h)
theorem nd_16_9_35_9 : va_nd (List.range' 16 9 ++ List.range' 35 9) = true := by decide +kernel
theorem hC_X5_become_16_35 (g : nz_G) (a : Nat → Nat) (X : Nat → Nat → Int32) : (List.range' 16 9 ++ List.range' 35 9).map (fun i => (nz_wX g a X)[i]?) = (([((a 16), .inr (5, [.int (X 16 0), .int (X 16 1), .int (X 16 2), .int (X 16 3), .int (X 16 4), .int (X 16 5), .int (X 16 6), .int (X 16 7), .int (X 16 8), .ref (a 17), .ref (a 18), .ref (a 19), .ref (a 20), .ref (a 21), .ref (a 22), .ref (a 23), .ref (a 24)])), ((a 17), .inl (nz_cI g, 6, .inl (X 17))), ((a 18), .inl (nz_cI g, 6, .inl (X 18))), ((a 19), .inl (nz_cI g, 6, .inl (X 19))), ((a 20), .inl (nz_cI g, 5, .inl (X 20))), ((a 21), .inl (nz_cI g, 5, .inl (X 21))), ((a 22), .inl (nz_cI g, 5, .inl (X 22))), ((a 23), .inl (nz_cI g, 5, .inl (X 23))), ((a 24), .inl (nz_cI g, 48, .inl (X 24))), ((a 35), .inr (5, [.int (X 35 0), .int (X 35 1), .int (X 35 2), .int (X 35 3), .int (X 35 4), .int (X 35 5), .int (X 35 6), .int (X 35 7), .int (X 35 8), .ref (a 36), .ref (a 37), .ref (a 38), .ref (a 39), .ref (a 40), .ref (a 41), .ref (a 42), .ref (a 43)])), ((a 36), .inl (nz_cI g, 6, .inl (X 36))), ((a 37), .inl (nz_cI g, 6, .inl (X 37))), ((a 38), .inl (nz_cI g, 6, .inl (X 38))), ((a 39), .inl (nz_cI g, 5, .inl (X 39))), ((a 40), .inl (nz_cI g, 5, .inl (X 40))), ((a 41), .inl (nz_cI g, 5, .inl (X 41))), ((a 42), .inl (nz_cI g, 5, .inl (X 42))), ((a 43), .inl (nz_cI g, 48, .inl (X 43)))] : va_W)).map some := rfl
def wX_X5_become_16_35 (X : Nat → Nat → Int32) (K : (Nat → Nat → Int32) → Prop) : Prop := wp_X5_become (X 17) (X 18) (X 19) (X 20) (X 21) (X 22) (X 23) (X 24) (X 35 0) (X 35 1) (X 35 2) (X 35 3) (X 35 4) (X 35 5) (X 35 6) (X 35 7) (X 35 8) (X 36) (X 37) (X 38) (X 39) (X 40) (X 41) (X 42) (X 43) (fun m0 m1 m2 m3 m4 m5 m6 m7 m8 m9 m10 m11 m12 m13 m14 m15 m16 => K (va_up (va_up (va_up (va_up (va_up (va_up (va_up (va_up (va_up X 16 (upd (upd (upd (upd (upd (upd (upd (upd (upd (X 16) 0 m0) 1 m1) 2 m2) 3 m3) 4 m4) 5 m5) 6 m6) 7 m7) 8 m8)) 17 m9) 18 m10) 19 m11) 20 m12) 21 m13) 22 m14) 23 m15) 24 m16))
theorem kX_X5_become_16_35 {y : nz_Y} {g : nz_G} {k n pc : Nat} {ls : List (Nat × Value)} {st rest : List Value} {av : Array Value} {K : (Nat → Nat → Int32) → Prop} (a : Nat → Nat) (X : Nat → Nat → Int32) (run : ∀ Q : Nat → Array Value → State → Outcome → State → Prop, nz_M (yz_l y) yX5_become wsX5_become rm_X5_become g [.ref (a 16), .ref (a 35)] [((a 16), .inr (5, [.int (X 16 0), .int (X 16 1), .int (X 16 2), .int (X 16 3), .int (X 16 4), .int (X 16 5), .int (X 16 6), .int (X 16 7), .int (X 16 8), .ref (a 17), .ref (a 18), .ref (a 19), .ref (a 20), .ref (a 21), .ref (a 22), .ref (a 23), .ref (a 24)])), ((a 17), .inl (nz_cI g, 6, .inl (X 17))), ((a 18), .inl (nz_cI g, 6, .inl (X 18))), ((a 19), .inl (nz_cI g, 6, .inl (X 19))), ((a 20), .inl (nz_cI g, 5, .inl (X 20))), ((a 21), .inl (nz_cI g, 5, .inl (X 21))), ((a 22), .inl (nz_cI g, 5, .inl (X 22))), ((a 23), .inl (nz_cI g, 5, .inl (X 23))), ((a 24), .inl (nz_cI g, 48, .inl (X 24))), ((a 35), .inr (5, [.int (X 35 0), .int (X 35 1), .int (X 35 2), .int (X 35 3), .int (X 35 4), .int (X 35 5), .int (X 35 6), .int (X 35 7), .int (X 35 8), .ref (a 36), .ref (a 37), .ref (a 38), .ref (a 39), .ref (a 40), .ref (a 41), .ref (a 42), .ref (a 43)])), ((a 36), .inl (nz_cI g, 6, .inl (X 36))), ((a 37), .inl (nz_cI g, 6, .inl (X 37))), ((a 38), .inl (nz_cI g, 6, .inl (X 38))), ((a 39), .inl (nz_cI g, 5, .inl (X 39))), ((a 40), .inl (nz_cI g, 5, .inl (X 40))), ((a 41), .inl (nz_cI g, 5, .inl (X 41))), ((a 42), .inl (nz_cI g, 5, .inl (X 42))), ((a 43), .inl (nz_cI g, 48, .inl (X 43)))] Q → nz_C y g k n (nz_wX g a X) pc ls st rest [((a 16), .inr (5, [.int (X 16 0), .int (X 16 1), .int (X 16 2), .int (X 16 3), .int (X 16 4), .int (X 16 5), .int (X 16 6), .int (X 16 7), .int (X 16 8), .ref (a 17), .ref (a 18), .ref (a 19), .ref (a 20), .ref (a 21), .ref (a 22), .ref (a 23), .ref (a 24)])), ((a 17), .inl (nz_cI g, 6, .inl (X 17))), ((a 18), .inl (nz_cI g, 6, .inl (X 18))), ((a 19), .inl (nz_cI g, 6, .inl (X 19))), ((a 20), .inl (nz_cI g, 5, .inl (X 20))), ((a 21), .inl (nz_cI g, 5, .inl (X 21))), ((a 22), .inl (nz_cI g, 5, .inl (X 22))), ((a 23), .inl (nz_cI g, 5, .inl (X 23))), ((a 24), .inl (nz_cI g, 48, .inl (X 24))), ((a 35), .inr (5, [.int (X 35 0), .int (X 35 1), .int (X 35 2), .int (X 35 3), .int (X 35 4), .int (X 35 5), .int (X 35 6), .int (X 35 7), .int (X 35 8), .ref (a 36), .ref (a 37), .ref (a 38), .ref (a 39), .ref (a 40), .ref (a 41), .ref (a 42), .ref (a 43)])), ((a 36), .inl (nz_cI g, 6, .inl (X 36))), ((a 37), .inl (nz_cI g, 6, .inl (X 37))), ((a 38), .inl (nz_cI g, 6, .inl (X 38))), ((a 39), .inl (nz_cI g, 5, .inl (X 39))), ((a 40), .inl (nz_cI g, 5, .inl (X 40))), ((a 41), .inl (nz_cI g, 5, .inl (X 41))), ((a 42), .inl (nz_cI g, 5, .inl (X 42))), ((a 43), .inl (nz_cI g, 48, .inl (X 43)))] Q av (List.range' 16 9 ++ List.range' 35 9)) (h : wX_X5_become_16_35 X K) (kk : ∀ (X1 : Nat → Nat → Int32), K X1 → nz_V y g k n (nz_wX g a X1) (pc + 3) ls (rest)) : nz_V y g k n (nz_wX g a X) pc ls st :=
 k_X5_become (a 16) (a 17) (a 18) (a 19) (a 20) (a 21) (a 22) (a 23) (a 24) (a 35) (a 36) (a 37) (a 38) (a 39) (a 40) (a 41) (a 42) (a 43) (X 16 0) (X 16 1) (X 16 2) (X 16 3) (X 16 4) (X 16 5) (X 16 6) (X 16 7) (X 16 8) (X 17) (X 18) (X 19) (X 20) (X 21) (X 22) (X 23) (X 24) (X 35 0) (X 35 1) (X 35 2) (X 35 3) (X 35 4) (X 35 5) (X 35 6) (X 35 7) (X 35 8) (X 36) (X 37) (X 38) (X 39) (X 40) (X 41) (X 42) (X 43) (run _) h (fun m0 m1 m2 m3 m4 m5 m6 m7 m8 m9 m10 m11 m12 m13 m14 m15 m16 => nz_wX g a (va_up (va_up (va_up (va_up (va_up (va_up (va_up (va_up (va_up X 16 (upd (upd (upd (upd (upd (upd (upd (upd (upd (X 16) 0 m0) 1 m1) 2 m2) 3 m3) 4 m4) 5 m5) 6 m6) 7 m7) 8 m8)) 17 m9) 18 m10) 19 m11) 20 m12) 21 m13) 22 m14) 23 m15) 24 m16)) (fun m0 m1 m2 m3 m4 m5 m6 m7 m8 m9 m10 m11 m12 m13 m14 m15 m16 => nz_xm (hC_X5_become_16_35 g a (va_up (va_up (va_up (va_up (va_up (va_up (va_up (va_up (va_up X 16 (upd (upd (upd (upd (upd (upd (upd (upd (upd (X 16) 0 m0) 1 m1) 2 m2) 3 m3) 4 m4) 5 m5) 6 m6) 7 m7) 8 m8)) 17 m9) 18 m10) 19 m11) 20 m12) 21 m13) 22 m14) 23 m15) 24 m16)) (nz_ag.up (nz_ag.up (nz_ag.up (nz_ag.up (nz_ag.up (nz_ag.up (nz_ag.up (nz_ag.up (nz_ag.up nz_ag.refl rfl) rfl) rfl) rfl) rfl) rfl) rfl) rfl) rfl)) (fun m0 m1 m2 m3 m4 m5 m6 m7 m8 m9 m10 m11 m12 m13 m14 m15 m16 h => kk (va_up (va_up (va_up (va_up (va_up (va_up (va_up (va_up (va_up X 16 (upd (upd (upd (upd (upd (upd (upd (upd (upd (X 16) 0 m0) 1 m1) 2 m2) 3 m3) 4 m4) 5 m5) 6 m6) 7 m7) 8 m8)) 17 m9) 18 m10) 19 m11) 20 m12) 21 m13) 22 m14) 23 m15) 24 m16) h)
/-! X7_restore -/
abbrev rm_X7_restore : Room := { frames := 2, cells := 0, slots := 0, locals := 47 }
theorem iw_X7_restore_7 : ∀ w ∈ wsX70, w ∈ wsX7_restore := fun _ h => List.mem_cons_of_mem _ (List.mem_append_left _ (List.mem_append_left _ (List.mem_append_right _ h)))
theorem iw_X7_restore_5 : ∀ w ∈ wsX50, w ∈ wsX7_restore := fun _ h => List.mem_cons_of_mem _ (List.mem_append_left _ (List.mem_append_right _ h))
theorem fl_X7_restore_30 : Cond.fieldLink RX7 30 "NightStones" "images" "[LNightStones$Road;" ∈ wsX7_restore := List.mem_of_getElem? (i := 1) rfl
theorem fn_X7_restore_137 : Cond.fieldLinkNest RX7 137 "NightStones$Road" "isThere" "Z" RX7 ∈ nz_nest := List.mem_of_getElem? (i := 4) rfl
theorem fl_X7_restore_26 : Cond.fieldLink RX7 26 "NightStones" "now" "LNightStones$Road;" ∈ wsX7_restore := List.mem_of_getElem? (i := 4) rfl
theorem nt_X7_restore_X5_become_127 : Cond.methodLinkNest RX7 127 yX5_become RX7 ∈ nz_nest := List.mem_of_getElem? (i := 68) rfl
theorem wd_X7_restore_in_RX5 : Cond.initialized RX5 ∈ wsX7_restore := List.mem_of_getElem? (i := 11) rfl
theorem wd_X7_restore_im_X5_become : Cond.instanceMethod yX5_become ∈ wsX7_restore := List.mem_of_getElem? (i := 10) rfl
theorem wd_X7_restore_se_X5_become : Cond.selects RX5 yX5_become yX5_become ∈ wsX7_restore := List.mem_of_getElem? (i := 12) rfl
theorem fl_X7_restore_37 : Cond.fieldLink RX7 37 "NightStones" "acts" "LNightStones$Acts;" ∈ wsX7_restore := List.mem_of_getElem? (i := 5) rfl
theorem nt_X7_restore_X0_clear_131 : Cond.methodLinkNest RX7 131 yX0_clear RX7 ∈ nz_nest := List.mem_of_getElem? (i := 69) rfl
theorem wd_X7_restore_in_RX0 : Cond.initialized RX0 ∈ wsX7_restore := List.mem_of_getElem? (i := 36) rfl
theorem wd_X7_restore_im_X0_clear : Cond.instanceMethod yX0_clear ∈ wsX7_restore := List.mem_of_getElem? (i := 35) rfl
theorem wd_X7_restore_se_X0_clear : Cond.selects RX0 yX0_clear yX0_clear ∈ wsX7_restore := List.mem_of_getElem? (i := 37) rfl
theorem wd_X7_restore_c141 : Cond.constant RX7 141 (-1000002) ∈ wsX7_restore := List.mem_of_getElem? (i := 3) rfl
theorem wd_X7_restore_c70 : Cond.constant RX7 70 (-1000001) ∈ wsX7_restore := List.mem_of_getElem? (i := 2) rfl
def wp_X7_restore (X : Nat → Nat → Int32) (v1 : Int32) (K : Int32 → (Nat → Nat → Int32) → Prop) : Prop := wX_X7_isAmong v1 0 (2 - 1) (fun q1 => ((¬ q1 = 0 → ((v1 = 0 ∧ ((¬ (X 26 0) = 0 → ((v1 = 0 ∧ wX_X5_become_16_26 X (fun X4 => wX_X0_clear_44 X4 (fun X5 => K 1 X5))) ∨ (v1 = 1 ∧ wX_X5_become_16_35 X (fun X6 => wX_X0_clear_44 X6 (fun X7 => K 1 X7))))) ∧ ((X 26 0) = 0 → K (-1000002 : Int32) X))) ∨ (v1 = 1 ∧ ((¬ (X 35 0) = 0 → ((v1 = 0 ∧ wX_X5_become_16_26 X (fun X9 => wX_X0_clear_44 X9 (fun X10 => K 1 X10))) ∨ (v1 = 1 ∧ wX_X5_become_16_35 X (fun X11 => wX_X0_clear_44 X11 (fun X12 => K 1 X12))))) ∧ ((X 35 0) = 0 → K (-1000002 : Int32) X))))) ∧ (q1 = 0 → K (-1000001 : Int32) X)))
set_option maxHeartbeats 4000000 in
set_option maxRecDepth 100000 in
theorem c_X7_restore (l : Launch) (g : nz_G) (a : Nat → Nat) (X : Nat → Nat → Int32) (v1 : Int32) (K : Int32 → (Nat → Nat → Int32) → Prop) (h : wp_X7_restore X v1 K) : nz_M l yX7_restore wsX7_restore rm_X7_restore g [.ref (a 0), .int v1] (nz_wX g a X) (nz_Qi g (nz_wX g a X) (fun r (u : Nat → Nat → Int32) => K r u) (fun u => nz_wX g a u)) := by
  refine nz_M.of (bytes := cX7_restore) (nL := 2) (ret := (some .int)) (own := RX7) (by decide) rfl rfl ⟨rfl, rfl⟩ rfl ?_
  intro y F hl hQ
  obtain ⟨sz, hQ⟩ := hQ
  refine nz_ent (lv' := [(0, .ref (a 0)), (1, .int v1)]) rfl ?_
  unfold wp_X7_restore at h
  refine nz_iload_n F dX7_restore_0 rfl 1 rfl ?_
  refine nz_iconst (v := 0) F dX7_restore_1 (by decide) ?_
  refine nz_aload_n F dX7_restore_2 rfl 0 rfl ?_
  refine nz_get F iw_X7_restore_7 0 (nz_xg0 g a X) rfl 3 (by decide) rfl fl_X7_restore_30 rfl dX7_restore_3 ?_
  refine nz_alen (v := 2) F 25 2 (nz_xg25 g a X) rfl rfl dX7_restore_6 ?_
  refine nz_iconst (v := 1) F dX7_restore_7 (by decide) ?_
  refine nz_isub F dX7_restore_8 ?_
  refine kX_X7_isAmong a X v1 0 (2 - 1) (fun Q hM => nz_runS F gX7_restore_X7_isAmong rfl hd_X7_isAmong.2 rfl hM dX7_restore_9 ([] : List Nat) rfl rfl rfl (Nat.le_of_ble_eq_true rfl) rfl) h (fun q1 h => ?_)
  refine nz_if_ne (tgt := 18) F dX7_restore_12 (by decide) (fun c2 => ?_) (fun c2 => ?_)
  · have h := h.1 c2
    refine nz_aload_n F dX7_restore_18 rfl 0 rfl ?_
    refine nz_get F iw_X7_restore_7 0 (nz_xg0 g a X) rfl 3 (by decide) rfl fl_X7_restore_30 rfl dX7_restore_19 ?_
    refine nz_iload_n F dX7_restore_22 rfl 1 rfl ?_
    rcases h with ⟨e1, h⟩ | ⟨e1, h⟩
    · refine nz_aald (b := (a 26)) F 25 (nz_xg25 g a X) (by rw [e1]; exact nz_inC rfl) (by rw [e1]; rfl) dX7_restore_23 ?_
      refine nz_getN F iw_X7_restore_5 26 (nz_xg26 g a X) rfl 0 (by decide) rfl fn_X7_restore_137 rfl dX7_restore_24 ?_
      refine nz_if_ne (tgt := 33) F dX7_restore_27 (by decide) (fun c3 => ?_) (fun c3 => ?_)
      · have h := h.1 c3
        refine nz_aload_n F dX7_restore_33 rfl 0 rfl ?_
        refine nz_get F iw_X7_restore_7 0 (nz_xg0 g a X) rfl 2 (by decide) rfl fl_X7_restore_26 rfl dX7_restore_34 ?_
        refine nz_aload_n F dX7_restore_37 rfl 0 rfl ?_
        refine nz_get F iw_X7_restore_7 0 (nz_xg0 g a X) rfl 3 (by decide) rfl fl_X7_restore_30 rfl dX7_restore_38 ?_
        refine nz_iload_n F dX7_restore_41 rfl 1 rfl ?_
        rcases h with ⟨e1, h⟩ | ⟨e1, h⟩
        · refine nz_aald (b := (a 26)) F 25 (nz_xg25 g a X) (by rw [e1]; exact nz_inC rfl) (by rw [e1]; rfl) dX7_restore_42 ?_
          refine kX_X5_become_16_26 a X (fun Q hM => nz_runVN F gX7_restore_X5_become_n127 rfl nt_X7_restore_X5_become_127 wd_X7_restore_in_RX5 wd_X7_restore_im_X5_become wd_X7_restore_se_X5_become hd_X5_become rfl hM dX7_restore_43 (List.range' 16 9 ++ List.range' 26 9) (hC_X5_become_16_26 g a X) nd_16_9_26_9 16 (nz_xg16 g a X) rfl rfl (Nat.le_of_ble_eq_true rfl) rfl) h (fun X4 h => ?_)
          refine nz_aload_n F dX7_restore_46 rfl 0 rfl ?_
          refine nz_get F iw_X7_restore_7 0 (nz_xg0 g a X4) rfl 4 (by decide) rfl fl_X7_restore_37 rfl dX7_restore_47 ?_
          refine kX_X0_clear_44 a X4 (fun Q hM => nz_runVN F gX7_restore_X0_clear_n131 rfl nt_X7_restore_X0_clear_131 wd_X7_restore_in_RX0 wd_X7_restore_im_X0_clear wd_X7_restore_se_X0_clear hd_X0_clear rfl hM dX7_restore_50 (List.range' 44 3) (hC_X0_clear_44 g a X4) nd_44_3 44 (nz_xg44 g a X4) rfl rfl (Nat.le_of_ble_eq_true rfl) rfl) h (fun X5 h => ?_)
          refine nz_iconst (v := 1) F dX7_restore_53 (by decide) ?_
          exact nz_iret F hQ X5 h rfl dX7_restore_54
        · refine nz_aald (b := (a 35)) F 25 (nz_xg25 g a X) (by rw [e1]; exact nz_inC rfl) (by rw [e1]; rfl) dX7_restore_42 ?_
          refine kX_X5_become_16_35 a X (fun Q hM => nz_runVN F gX7_restore_X5_become_n127 rfl nt_X7_restore_X5_become_127 wd_X7_restore_in_RX5 wd_X7_restore_im_X5_become wd_X7_restore_se_X5_become hd_X5_become rfl hM dX7_restore_43 (List.range' 16 9 ++ List.range' 35 9) (hC_X5_become_16_35 g a X) nd_16_9_35_9 16 (nz_xg16 g a X) rfl rfl (Nat.le_of_ble_eq_true rfl) rfl) h (fun X6 h => ?_)
          refine nz_aload_n F dX7_restore_46 rfl 0 rfl ?_
          refine nz_get F iw_X7_restore_7 0 (nz_xg0 g a X6) rfl 4 (by decide) rfl fl_X7_restore_37 rfl dX7_restore_47 ?_
          refine kX_X0_clear_44 a X6 (fun Q hM => nz_runVN F gX7_restore_X0_clear_n131 rfl nt_X7_restore_X0_clear_131 wd_X7_restore_in_RX0 wd_X7_restore_im_X0_clear wd_X7_restore_se_X0_clear hd_X0_clear rfl hM dX7_restore_50 (List.range' 44 3) (hC_X0_clear_44 g a X6) nd_44_3 44 (nz_xg44 g a X6) rfl rfl (Nat.le_of_ble_eq_true rfl) rfl) h (fun X7 h => ?_)
          refine nz_iconst (v := 1) F dX7_restore_53 (by decide) ?_
          exact nz_iret F hQ X7 h rfl dX7_restore_54
      · have h := h.2 c3
        refine nz_ldc (v := (-1000002 : Int32)) F wd_X7_restore_c141 dX7_restore_30 ?_
        exact nz_iret F hQ X h rfl dX7_restore_32
    · refine nz_aald (b := (a 35)) F 25 (nz_xg25 g a X) (by rw [e1]; exact nz_inC rfl) (by rw [e1]; rfl) dX7_restore_23 ?_
      refine nz_getN F iw_X7_restore_5 35 (nz_xg35 g a X) rfl 0 (by decide) rfl fn_X7_restore_137 rfl dX7_restore_24 ?_
      refine nz_if_ne (tgt := 33) F dX7_restore_27 (by decide) (fun c8 => ?_) (fun c8 => ?_)
      · have h := h.1 c8
        refine nz_aload_n F dX7_restore_33 rfl 0 rfl ?_
        refine nz_get F iw_X7_restore_7 0 (nz_xg0 g a X) rfl 2 (by decide) rfl fl_X7_restore_26 rfl dX7_restore_34 ?_
        refine nz_aload_n F dX7_restore_37 rfl 0 rfl ?_
        refine nz_get F iw_X7_restore_7 0 (nz_xg0 g a X) rfl 3 (by decide) rfl fl_X7_restore_30 rfl dX7_restore_38 ?_
        refine nz_iload_n F dX7_restore_41 rfl 1 rfl ?_
        rcases h with ⟨e1, h⟩ | ⟨e1, h⟩
        · refine nz_aald (b := (a 26)) F 25 (nz_xg25 g a X) (by rw [e1]; exact nz_inC rfl) (by rw [e1]; rfl) dX7_restore_42 ?_
          refine kX_X5_become_16_26 a X (fun Q hM => nz_runVN F gX7_restore_X5_become_n127 rfl nt_X7_restore_X5_become_127 wd_X7_restore_in_RX5 wd_X7_restore_im_X5_become wd_X7_restore_se_X5_become hd_X5_become rfl hM dX7_restore_43 (List.range' 16 9 ++ List.range' 26 9) (hC_X5_become_16_26 g a X) nd_16_9_26_9 16 (nz_xg16 g a X) rfl rfl (Nat.le_of_ble_eq_true rfl) rfl) h (fun X9 h => ?_)
          refine nz_aload_n F dX7_restore_46 rfl 0 rfl ?_
          refine nz_get F iw_X7_restore_7 0 (nz_xg0 g a X9) rfl 4 (by decide) rfl fl_X7_restore_37 rfl dX7_restore_47 ?_
          refine kX_X0_clear_44 a X9 (fun Q hM => nz_runVN F gX7_restore_X0_clear_n131 rfl nt_X7_restore_X0_clear_131 wd_X7_restore_in_RX0 wd_X7_restore_im_X0_clear wd_X7_restore_se_X0_clear hd_X0_clear rfl hM dX7_restore_50 (List.range' 44 3) (hC_X0_clear_44 g a X9) nd_44_3 44 (nz_xg44 g a X9) rfl rfl (Nat.le_of_ble_eq_true rfl) rfl) h (fun X10 h => ?_)
          refine nz_iconst (v := 1) F dX7_restore_53 (by decide) ?_
          exact nz_iret F hQ X10 h rfl dX7_restore_54
        · refine nz_aald (b := (a 35)) F 25 (nz_xg25 g a X) (by rw [e1]; exact nz_inC rfl) (by rw [e1]; rfl) dX7_restore_42 ?_
          refine kX_X5_become_16_35 a X (fun Q hM => nz_runVN F gX7_restore_X5_become_n127 rfl nt_X7_restore_X5_become_127 wd_X7_restore_in_RX5 wd_X7_restore_im_X5_become wd_X7_restore_se_X5_become hd_X5_become rfl hM dX7_restore_43 (List.range' 16 9 ++ List.range' 35 9) (hC_X5_become_16_35 g a X) nd_16_9_35_9 16 (nz_xg16 g a X) rfl rfl (Nat.le_of_ble_eq_true rfl) rfl) h (fun X11 h => ?_)
          refine nz_aload_n F dX7_restore_46 rfl 0 rfl ?_
          refine nz_get F iw_X7_restore_7 0 (nz_xg0 g a X11) rfl 4 (by decide) rfl fl_X7_restore_37 rfl dX7_restore_47 ?_
          refine kX_X0_clear_44 a X11 (fun Q hM => nz_runVN F gX7_restore_X0_clear_n131 rfl nt_X7_restore_X0_clear_131 wd_X7_restore_in_RX0 wd_X7_restore_im_X0_clear wd_X7_restore_se_X0_clear hd_X0_clear rfl hM dX7_restore_50 (List.range' 44 3) (hC_X0_clear_44 g a X11) nd_44_3 44 (nz_xg44 g a X11) rfl rfl (Nat.le_of_ble_eq_true rfl) rfl) h (fun X12 h => ?_)
          refine nz_iconst (v := 1) F dX7_restore_53 (by decide) ?_
          exact nz_iret F hQ X12 h rfl dX7_restore_54
      · have h := h.2 c8
        refine nz_ldc (v := (-1000002 : Int32)) F wd_X7_restore_c141 dX7_restore_30 ?_
        exact nz_iret F hQ X h rfl dX7_restore_32
  · have h := h.2 c2
    refine nz_ldc (v := (-1000001 : Int32)) F wd_X7_restore_c70 dX7_restore_15 ?_
    exact nz_iret F hQ X h rfl dX7_restore_17
theorem k_X7_restore {y : nz_Y} {g : nz_G} {k n : Nat} {ws : va_W} {pc : Nat} {ls : List (Nat × Value)} {st rest : List Value} {av : Array Value} {isC : List Nat} {K : Int32 → (Nat → Nat → Int32) → Prop} (a : Nat → Nat) (X : Nat → Nat → Int32) (v1 : Int32) (run : nz_M (yz_l y) yX7_restore wsX7_restore rm_X7_restore g [.ref (a 0), .int v1] (nz_wX g a X) (nz_Qi g (nz_wX g a X) (fun r (u : Nat → Nat → Int32) => K r u) (fun u => nz_wX g a u)) → nz_C y g k n ws pc ls st rest (nz_wX g a X) (nz_Qi g (nz_wX g a X) (fun r (u : Nat → Nat → Int32) => K r u) (fun u => nz_wX g a u)) av isC) (h : wp_X7_restore X v1 K) (ws' : (Nat → Nat → Int32) → va_W) (hm : ∀ (m0 : (Nat → Nat → Int32)), nz_mrg ws isC (nz_wX g a m0) = ws' m0) (kk : ∀ (r : Int32) (m0 : (Nat → Nat → Int32)), K r m0 → nz_V y g k n (ws' m0) (pc + 3) ls (.int r :: rest)) : nz_V y g k n ws pc ls st :=
  nz_ci (ws' := fun u => ws' u) (run (c_X7_restore (yz_l y) g a X v1 K h)) (fun _ => rfl) (fun u => hm u) (fun r u h => kk r u h)
theorem dX7_kind_0 : decode cX7_kind 0 = .ok (.aload_n 0, 1) := by decide +kernel
theorem dX7_kind_1 : decode cX7_kind 1 = .ok (.getfield 26, 3) := by decide +kernel
theorem dX7_kind_4 : decode cX7_kind 4 = .ok (.iload_n 1, 1) := by decide +kernel
theorem dX7_kind_5 : decode cX7_kind 5 = .ok (.invokevirtual 254, 3) := by decide +kernel
theorem dX7_kind_8 : decode cX7_kind 8 = .ok (.ifCond .eq 15, 3) := by decide +kernel
theorem dX7_kind_11 : decode cX7_kind 11 = .ok (.aload_n 0, 1) := by decide +kernel
theorem dX7_kind_12 : decode cX7_kind 12 = .ok (.getfield 26, 3) := by decide +kernel
theorem dX7_kind_15 : decode cX7_kind 15 = .ok (.getfield 257, 3) := by decide +kernel
theorem dX7_kind_18 : decode cX7_kind 18 = .ok (.iload_n 1, 1) := by decide +kernel
theorem dX7_kind_19 : decode cX7_kind 19 = .ok (.iaload, 1) := by decide +kernel
theorem dX7_kind_20 : decode cX7_kind 20 = .ok (.goto 5, 3) := by decide +kernel
theorem dX7_kind_23 : decode cX7_kind 23 = .ok (.ldc 70, 2) := by decide +kernel
theorem dX7_kind_25 : decode cX7_kind 25 = .ok (.ireturn, 1) := by decide +kernel
set_option maxRecDepth 20000 in
theorem ggX7_kind_X5_isMover : GoodIn wsX7_kind wsX5_isMover := goodIn_r _ [6, 7, 18, 19, 20, 21, 22, 23, 24, 25, 26, 27, 28, 29, 30, 31, 32, 33, 34] rfl (by decide +kernel)
set_option maxRecDepth 20000 in
theorem gX7_kind_X5_isMover_n254 : GoodIn wsX7_kind (wsX5_isMover) := ggX7_kind_X5_isMover
theorem hd_X5_isMover : yX5_isMover.cls = RX5 ∧ yX5_isMover.cls ≠ "java/lang/invoke/MethodHandle" ∧ yX5_isMover.cls ≠ "java/lang/invoke/VarHandle" ∧ (parseMethodDescriptor yX5_isMover.desc).map (fun d => d.parameters.length) = some 1 := by decide +kernel
theorem hC_X5_isMover_16 (g : nz_G) (a : Nat → Nat) (X : Nat → Nat → Int32) : (List.range' 16 9).map (fun i => (nz_wX g a X)[i]?) = (([((a 16), .inr (5, [.int (X 16 0), .int (X 16 1), .int (X 16 2), .int (X 16 3), .int (X 16 4), .int (X 16 5), .int (X 16 6), .int (X 16 7), .int (X 16 8), .ref (a 17), .ref (a 18), .ref (a 19), .ref (a 20), .ref (a 21), .ref (a 22), .ref (a 23), .ref (a 24)])), ((a 17), .inl (nz_cI g, 6, .inl (X 17))), ((a 18), .inl (nz_cI g, 6, .inl (X 18))), ((a 19), .inl (nz_cI g, 6, .inl (X 19))), ((a 20), .inl (nz_cI g, 5, .inl (X 20))), ((a 21), .inl (nz_cI g, 5, .inl (X 21))), ((a 22), .inl (nz_cI g, 5, .inl (X 22))), ((a 23), .inl (nz_cI g, 5, .inl (X 23))), ((a 24), .inl (nz_cI g, 48, .inl (X 24)))] : va_W)).map some := rfl
def wX_X5_isMover_16 (X : Nat → Nat → Int32) (v1 : Int32) (K : Int32 → Prop) : Prop := wp_X5_isMover (X 16 7) v1 (fun r => K r)
theorem kX_X5_isMover_16 {y : nz_Y} {g : nz_G} {k n pc : Nat} {ls : List (Nat × Value)} {st rest : List Value} {av : Array Value} {K : Int32 → Prop} (a : Nat → Nat) (X : Nat → Nat → Int32) (v1 : Int32) (run : ∀ Q : Nat → Array Value → State → Outcome → State → Prop, nz_M (yz_l y) yX5_isMover wsX5_isMover rm_X5_isMover g [.ref (a 16), .int v1] [((a 16), .inr (5, [.int (X 16 0), .int (X 16 1), .int (X 16 2), .int (X 16 3), .int (X 16 4), .int (X 16 5), .int (X 16 6), .int (X 16 7), .int (X 16 8), .ref (a 17), .ref (a 18), .ref (a 19), .ref (a 20), .ref (a 21), .ref (a 22), .ref (a 23), .ref (a 24)])), ((a 17), .inl (nz_cI g, 6, .inl (X 17))), ((a 18), .inl (nz_cI g, 6, .inl (X 18))), ((a 19), .inl (nz_cI g, 6, .inl (X 19))), ((a 20), .inl (nz_cI g, 5, .inl (X 20))), ((a 21), .inl (nz_cI g, 5, .inl (X 21))), ((a 22), .inl (nz_cI g, 5, .inl (X 22))), ((a 23), .inl (nz_cI g, 5, .inl (X 23))), ((a 24), .inl (nz_cI g, 48, .inl (X 24)))] Q → nz_C y g k n (nz_wX g a X) pc ls st rest [((a 16), .inr (5, [.int (X 16 0), .int (X 16 1), .int (X 16 2), .int (X 16 3), .int (X 16 4), .int (X 16 5), .int (X 16 6), .int (X 16 7), .int (X 16 8), .ref (a 17), .ref (a 18), .ref (a 19), .ref (a 20), .ref (a 21), .ref (a 22), .ref (a 23), .ref (a 24)])), ((a 17), .inl (nz_cI g, 6, .inl (X 17))), ((a 18), .inl (nz_cI g, 6, .inl (X 18))), ((a 19), .inl (nz_cI g, 6, .inl (X 19))), ((a 20), .inl (nz_cI g, 5, .inl (X 20))), ((a 21), .inl (nz_cI g, 5, .inl (X 21))), ((a 22), .inl (nz_cI g, 5, .inl (X 22))), ((a 23), .inl (nz_cI g, 5, .inl (X 23))), ((a 24), .inl (nz_cI g, 48, .inl (X 24)))] Q av (List.range' 16 9)) (h : wX_X5_isMover_16 X v1 K) (kk : ∀ (r : Int32), K r → nz_V y g k n (nz_wX g a X) (pc + 3) ls (.int r :: rest)) : nz_V y g k n (nz_wX g a X) pc ls st :=
 k_X5_isMover (a 16) (a 17) (a 18) (a 19) (a 20) (a 21) (a 22) (a 23) (a 24) (X 16 0) (X 16 1) (X 16 2) (X 16 3) (X 16 4) (X 16 5) (X 16 6) (X 16 7) (X 16 8) (X 17) (X 18) (X 19) (X 20) (X 21) (X 22) (X 23) (X 24) v1 (run _) h (nz_wX g a X) (nz_xm (hC_X5_isMover_16 g a X) nz_ag.refl) (fun r h => kk r h)
theorem nz_xg20 (g : nz_G) (a : Nat → Nat) (X : Nat → Nat → Int32) : (nz_wX g a X)[20]? = some ((a 20), .inl (nz_cI g, 5, .inl (X 20))) := rfl
/-! X7_kind -/
abbrev rm_X7_kind : Room := { frames := 1, cells := 0, slots := 0, locals := 21 }
theorem iw_X7_kind_7 : ∀ w ∈ wsX70, w ∈ wsX7_kind := fun _ h => List.mem_cons_of_mem _ (List.mem_append_left _ (List.mem_append_right _ h))
theorem iw_X7_kind_5 : ∀ w ∈ wsX50, w ∈ wsX7_kind := fun _ h => List.mem_cons_of_mem _ (List.mem_append_right _ h)
theorem fl_X7_kind_26 : Cond.fieldLink RX7 26 "NightStones" "now" "LNightStones$Road;" ∈ wsX7_kind := List.mem_of_getElem? (i := 1) rfl
theorem nt_X7_kind_X5_isMover_254 : Cond.methodLinkNest RX7 254 yX5_isMover RX7 ∈ nz_nest := List.mem_of_getElem? (i := 96) rfl
theorem wd_X7_kind_in_RX5 : Cond.initialized RX5 ∈ wsX7_kind := List.mem_of_getElem? (i := 4) rfl
theorem wd_X7_kind_im_X5_isMover : Cond.instanceMethod yX5_isMover ∈ wsX7_kind := List.mem_of_getElem? (i := 3) rfl
theorem wd_X7_kind_se_X5_isMover : Cond.selects RX5 yX5_isMover yX5_isMover ∈ wsX7_kind := List.mem_of_getElem? (i := 5) rfl
theorem wd_X7_kind_c70 : Cond.constant RX7 70 (-1000001) ∈ wsX7_kind := List.mem_of_getElem? (i := 2) rfl
theorem fn_X7_kind_257 : Cond.fieldLinkNest RX7 257 "NightStones$Road" "kinds" "[I" RX7 ∈ nz_nest := List.mem_of_getElem? (i := 41) rfl
def wp_X7_kind (X : Nat → Nat → Int32) (v1 : Int32) (K : Int32 → (Nat → Nat → Int32) → Prop) : Prop := wX_X5_isMover_16 X v1 (fun q1 => ((q1 = 0 → K (-1000001 : Int32) X) ∧ (¬ (q1 = 0) → (vp_in v1 5 ∧ K ((X 20) v1.toNatClampNeg) X))))
set_option maxHeartbeats 4000000 in
set_option maxRecDepth 100000 in
theorem c_X7_kind (l : Launch) (g : nz_G) (a : Nat → Nat) (X : Nat → Nat → Int32) (v1 : Int32) (K : Int32 → (Nat → Nat → Int32) → Prop) (h : wp_X7_kind X v1 K) : nz_M l yX7_kind wsX7_kind rm_X7_kind g [.ref (a 0), .int v1] (nz_wX g a X) (nz_Qi g (nz_wX g a X) (fun r (u : Nat → Nat → Int32) => K r u) (fun u => nz_wX g a u)) := by
  refine nz_M.of (bytes := cX7_kind) (nL := 2) (ret := (some .int)) (own := RX7) (by decide) rfl rfl ⟨rfl, rfl⟩ rfl ?_
  intro y F hl hQ
  obtain ⟨sz, hQ⟩ := hQ
  refine nz_ent (lv' := [(0, .ref (a 0)), (1, .int v1)]) rfl ?_
  unfold wp_X7_kind at h
  refine nz_aload_n F dX7_kind_0 rfl 0 rfl ?_
  refine nz_get F iw_X7_kind_7 0 (nz_xg0 g a X) rfl 2 (by decide) rfl fl_X7_kind_26 rfl dX7_kind_1 ?_
  refine nz_iload_n F dX7_kind_4 rfl 1 rfl ?_
  refine kX_X5_isMover_16 a X v1 (fun Q hM => nz_runVN F gX7_kind_X5_isMover_n254 rfl nt_X7_kind_X5_isMover_254 wd_X7_kind_in_RX5 wd_X7_kind_im_X5_isMover wd_X7_kind_se_X5_isMover hd_X5_isMover rfl hM dX7_kind_5 (List.range' 16 9) (hC_X5_isMover_16 g a X) nd_16_9 16 (nz_xg16 g a X) rfl rfl (Nat.le_of_ble_eq_true rfl) rfl) h (fun q1 h => ?_)
  refine nz_if_eq (tgt := 23) F dX7_kind_8 (by decide) (fun c2 => ?_) (fun c2 => ?_)
  · have h := h.1 c2
    refine nz_ldc (v := (-1000001 : Int32)) F wd_X7_kind_c70 dX7_kind_23 ?_
    exact nz_iret F hQ X h rfl dX7_kind_25
  · have h := h.2 c2
    refine nz_aload_n F dX7_kind_11 rfl 0 rfl ?_
    refine nz_get F iw_X7_kind_7 0 (nz_xg0 g a X) rfl 2 (by decide) rfl fl_X7_kind_26 rfl dX7_kind_12 ?_
    refine nz_getN F iw_X7_kind_5 16 (nz_xg16 g a X) rfl 12 (by decide) rfl fn_X7_kind_257 rfl dX7_kind_15 ?_
    refine nz_iload_n F dX7_kind_18 rfl 1 rfl ?_
    obtain ⟨i3, h⟩ := h
    refine nz_iald F 20 (nz_xg20 g a X) i3 dX7_kind_19 ?_
    refine nz_goto (tgt := 25) F dX7_kind_20 (by decide) ?_
    exact nz_iret F hQ X h rfl dX7_kind_25
theorem k_X7_kind {y : nz_Y} {g : nz_G} {k n : Nat} {ws : va_W} {pc : Nat} {ls : List (Nat × Value)} {st rest : List Value} {av : Array Value} {isC : List Nat} {K : Int32 → (Nat → Nat → Int32) → Prop} (a : Nat → Nat) (X : Nat → Nat → Int32) (v1 : Int32) (run : nz_M (yz_l y) yX7_kind wsX7_kind rm_X7_kind g [.ref (a 0), .int v1] (nz_wX g a X) (nz_Qi g (nz_wX g a X) (fun r (u : Nat → Nat → Int32) => K r u) (fun u => nz_wX g a u)) → nz_C y g k n ws pc ls st rest (nz_wX g a X) (nz_Qi g (nz_wX g a X) (fun r (u : Nat → Nat → Int32) => K r u) (fun u => nz_wX g a u)) av isC) (h : wp_X7_kind X v1 K) (ws' : (Nat → Nat → Int32) → va_W) (hm : ∀ (m0 : (Nat → Nat → Int32)), nz_mrg ws isC (nz_wX g a m0) = ws' m0) (kk : ∀ (r : Int32) (m0 : (Nat → Nat → Int32)), K r m0 → nz_V y g k n (ws' m0) (pc + 3) ls (.int r :: rest)) : nz_V y g k n ws pc ls st :=
  nz_ci (ws' := fun u => ws' u) (run (c_X7_kind (yz_l y) g a X v1 K h)) (fun _ => rfl) (fun u => hm u) (fun r u h => kk r u h)
theorem dX7_as_0 : decode cX7_as 0 = .ok (.aload_n 0, 1) := by decide +kernel
theorem dX7_as_1 : decode cX7_as 1 = .ok (.getfield 26, 3) := by decide +kernel
theorem dX7_as_4 : decode cX7_as 4 = .ok (.iload_n 1, 1) := by decide +kernel
theorem dX7_as_5 : decode cX7_as 5 = .ok (.invokevirtual 254, 3) := by decide +kernel
theorem dX7_as_8 : decode cX7_as 8 = .ok (.ifCond .eq 12, 3) := by decide +kernel
theorem dX7_as_11 : decode cX7_as 11 = .ok (.iload_n 2, 1) := by decide +kernel
theorem dX7_as_12 : decode cX7_as 12 = .ok (.iconst 0, 1) := by decide +kernel
theorem dX7_as_13 : decode cX7_as 13 = .ok (.iconst 5, 1) := by decide +kernel
theorem dX7_as_14 : decode cX7_as 14 = .ok (.invokestatic 66, 3) := by decide +kernel
theorem dX7_as_17 : decode cX7_as 17 = .ok (.ifCond .ne 6, 3) := by decide +kernel
theorem dX7_as_20 : decode cX7_as 20 = .ok (.ldc 70, 2) := by decide +kernel
theorem dX7_as_22 : decode cX7_as 22 = .ok (.ireturn, 1) := by decide +kernel
theorem dX7_as_23 : decode cX7_as 23 = .ok (.aload_n 0, 1) := by decide +kernel
theorem dX7_as_24 : decode cX7_as 24 = .ok (.getfield 26, 3) := by decide +kernel
theorem dX7_as_27 : decode cX7_as 27 = .ok (.getfield 257, 3) := by decide +kernel
theorem dX7_as_30 : decode cX7_as 30 = .ok (.iload_n 1, 1) := by decide +kernel
theorem dX7_as_31 : decode cX7_as 31 = .ok (.iaload, 1) := by decide +kernel
theorem dX7_as_32 : decode cX7_as 32 = .ok (.iload_n 2, 1) := by decide +kernel
theorem dX7_as_33 : decode cX7_as 33 = .ok (.invokestatic 260, 3) := by decide +kernel
theorem dX7_as_36 : decode cX7_as 36 = .ok (.ifCond .eq 11, 3) := by decide +kernel
theorem dX7_as_39 : decode cX7_as 39 = .ok (.aload_n 0, 1) := by decide +kernel
theorem dX7_as_40 : decode cX7_as 40 = .ok (.iload_n 1, 1) := by decide +kernel
theorem dX7_as_41 : decode cX7_as 41 = .ok (.invokevirtual 79, 3) := by decide +kernel
theorem dX7_as_44 : decode cX7_as 44 = .ok (.goto 8, 3) := by decide +kernel
theorem dX7_as_47 : decode cX7_as 47 = .ok (.aload_n 0, 1) := by decide +kernel
theorem dX7_as_48 : decode cX7_as 48 = .ok (.iconst 3, 1) := by decide +kernel
theorem dX7_as_49 : decode cX7_as 49 = .ok (.invokevirtual 71, 3) := by decide +kernel
theorem dX7_as_52 : decode cX7_as 52 = .ok (.ireturn, 1) := by decide +kernel
set_option maxRecDepth 20000 in
theorem ggX7_as_X1_isOne : GoodIn wsX7_as wsX1_isOne := goodIn_r _ [14, 15, 9, 10, 11] rfl (by decide +kernel)
set_option maxRecDepth 20000 in
theorem gX7_as_X1_isOne_n260 : GoodIn wsX7_as (wsX1_isOne) := ggX7_as_X1_isOne
set_option maxRecDepth 20000 in
theorem ggX7_as_X5_isMover : GoodIn wsX7_as wsX5_isMover := goodIn_r _ [6, 7, 36, 37, 38, 39, 40, 41, 42, 43, 44, 45, 46, 47, 48, 49, 50, 51, 52] rfl (by decide +kernel)
set_option maxRecDepth 20000 in
theorem gX7_as_X5_isMover_n254 : GoodIn wsX7_as (wsX5_isMover) := ggX7_as_X5_isMover
set_option maxRecDepth 20000 in
theorem ggX7_as_X7_found : GoodIn wsX7_as wsX7_found := goodIn_r _ [24, 20, 25, 26, 27, 28, 29, 30, 31, 32, 33, 34, 35] rfl (by decide +kernel)
set_option maxRecDepth 20000 in
theorem gX7_as_X7_found : GoodIn wsX7_as (wsV RX7 71 RX7 yX7_found wsX7_found) := goodIn_app (goodIn_r _ [21, 22, 23, 10] rfl (by decide +kernel)) ggX7_as_X7_found
set_option maxRecDepth 20000 in
theorem ggX7_as_X7_isAmong : GoodIn wsX7_as wsX7_isAmong := goodIn_r _ [11] rfl (by decide +kernel)
set_option maxRecDepth 20000 in
theorem gX7_as_X7_isAmong : GoodIn wsX7_as (va_wsS RX7 66 yX7_isAmong wsX7_isAmong) := goodIn_app (goodIn_r _ [8, 9, 10] rfl (by decide +kernel)) ggX7_as_X7_isAmong
set_option maxRecDepth 20000 in
theorem ggX7_as_X7_well : GoodIn wsX7_as wsX7_well := goodIn_r _ [19, 20, 26, 27, 28, 29, 30, 31, 32, 33, 34, 35] rfl (by decide +kernel)
set_option maxRecDepth 20000 in
theorem gX7_as_X7_well : GoodIn wsX7_as (wsV RX7 79 RX7 yX7_well wsX7_well) := goodIn_app (goodIn_r _ [16, 17, 18, 10] rfl (by decide +kernel)) ggX7_as_X7_well
def wX_X1_isOne (v0 : Int32) (v1 : Int32) (K : Int32 → Prop) : Prop := wp_X1_isOne v0 v1 (fun r => K r)
theorem kX_X1_isOne {y : nz_Y} {g : nz_G} {k n pc : Nat} {ls : List (Nat × Value)} {st rest : List Value} {av : Array Value} {K : Int32 → Prop} (a : Nat → Nat) (X : Nat → Nat → Int32) (v0 : Int32) (v1 : Int32) (run : ∀ Q : Nat → Array Value → State → Outcome → State → Prop, nz_M (yz_l y) yX1_isOne wsX1_isOne rm_X1_isOne g [.int v0, .int v1] [] Q → nz_C y g k n (nz_wX g a X) pc ls st rest [] Q av ([] : List Nat)) (h : wX_X1_isOne v0 v1 K) (kk : ∀ (r : Int32), K r → nz_V y g k n (nz_wX g a X) (pc + 3) ls (.int r :: rest)) : nz_V y g k n (nz_wX g a X) pc ls st :=
 k_X1_isOne v0 v1 (run _) h (nz_wX g a X) rfl (fun r h => kk r h)
/-! X7_as -/
abbrev rm_X7_as : Room := { frames := 2, cells := 0, slots := 0, locals := 43 }
theorem iw_X7_as_7 : ∀ w ∈ wsX70, w ∈ wsX7_as := fun _ h => List.mem_cons_of_mem _ (List.mem_append_left _ (List.mem_append_right _ h))
theorem iw_X7_as_5 : ∀ w ∈ wsX50, w ∈ wsX7_as := fun _ h => List.mem_cons_of_mem _ (List.mem_append_right _ h)
theorem fl_X7_as_26 : Cond.fieldLink RX7 26 "NightStones" "now" "LNightStones$Road;" ∈ wsX7_as := List.mem_of_getElem? (i := 1) rfl
theorem nt_X7_as_X5_isMover_254 : Cond.methodLinkNest RX7 254 yX5_isMover RX7 ∈ nz_nest := List.mem_of_getElem? (i := 96) rfl
theorem wd_X7_as_in_RX5 : Cond.initialized RX5 ∈ wsX7_as := List.mem_of_getElem? (i := 4) rfl
theorem wd_X7_as_im_X5_isMover : Cond.instanceMethod yX5_isMover ∈ wsX7_as := List.mem_of_getElem? (i := 3) rfl
theorem wd_X7_as_se_X5_isMover : Cond.selects RX5 yX5_isMover yX5_isMover ∈ wsX7_as := List.mem_of_getElem? (i := 5) rfl
theorem wd_X7_as_c70 : Cond.constant RX7 70 (-1000001) ∈ wsX7_as := List.mem_of_getElem? (i := 2) rfl
theorem fn_X7_as_257 : Cond.fieldLinkNest RX7 257 "NightStones$Road" "kinds" "[I" RX7 ∈ nz_nest := List.mem_of_getElem? (i := 41) rfl
theorem nt_X7_as_X1_isOne_260 : Cond.methodLinkNest RX7 260 yX1_isOne RX7 ∈ nz_nest := List.mem_of_getElem? (i := 97) rfl
theorem wd_X7_as_in_RX1 : Cond.initialized RX1 ∈ wsX7_as := List.mem_of_getElem? (i := 13) rfl
theorem wd_X7_as_im_X1_isOne : Cond.static yX1_isOne ∈ wsX7_as := List.mem_of_getElem? (i := 12) rfl
def wp_X7_as (X : Nat → Nat → Int32) (v1 : Int32) (v2 : Int32) (K : Int32 → (Nat → Nat → Int32) → Prop) : Prop := wX_X5_isMover_16 X v1 (fun q1 => ((q1 = 0 → K (-1000001 : Int32) X) ∧ (¬ (q1 = 0) → wX_X7_isAmong v2 0 5 (fun q3 => ((¬ q3 = 0 → (vp_in v1 5 ∧ wX_X1_isOne ((X 20) v1.toNatClampNeg) v2 (fun q6 => ((q6 = 0 → wX_X7_found_0 X 3 (fun q8 X9 => K q8 X9)) ∧ (¬ (q6 = 0) → wX_X7_well_0 X v1 (fun q10 X11 => K q10 X11)))))) ∧ (q3 = 0 → K (-1000001 : Int32) X))))))
set_option maxHeartbeats 4000000 in
set_option maxRecDepth 100000 in
theorem c_X7_as (l : Launch) (g : nz_G) (a : Nat → Nat) (X : Nat → Nat → Int32) (v1 : Int32) (v2 : Int32) (K : Int32 → (Nat → Nat → Int32) → Prop) (h : wp_X7_as X v1 v2 K) : nz_M l yX7_as wsX7_as rm_X7_as g [.ref (a 0), .int v1, .int v2] (nz_wX g a X) (nz_Qi g (nz_wX g a X) (fun r (u : Nat → Nat → Int32) => K r u) (fun u => nz_wX g a u)) := by
  refine nz_M.of (bytes := cX7_as) (nL := 3) (ret := (some .int)) (own := RX7) (by decide) rfl rfl ⟨rfl, rfl⟩ rfl ?_
  intro y F hl hQ
  obtain ⟨sz, hQ⟩ := hQ
  refine nz_ent (lv' := [(0, .ref (a 0)), (1, .int v1), (2, .int v2)]) rfl ?_
  unfold wp_X7_as at h
  refine nz_aload_n F dX7_as_0 rfl 0 rfl ?_
  refine nz_get F iw_X7_as_7 0 (nz_xg0 g a X) rfl 2 (by decide) rfl fl_X7_as_26 rfl dX7_as_1 ?_
  refine nz_iload_n F dX7_as_4 rfl 1 rfl ?_
  refine kX_X5_isMover_16 a X v1 (fun Q hM => nz_runVN F gX7_as_X5_isMover_n254 rfl nt_X7_as_X5_isMover_254 wd_X7_as_in_RX5 wd_X7_as_im_X5_isMover wd_X7_as_se_X5_isMover hd_X5_isMover rfl hM dX7_as_5 (List.range' 16 9) (hC_X5_isMover_16 g a X) nd_16_9 16 (nz_xg16 g a X) rfl rfl (Nat.le_of_ble_eq_true rfl) rfl) h (fun q1 h => ?_)
  refine nz_if_eq (tgt := 20) F dX7_as_8 (by decide) (fun c2 => ?_) (fun c2 => ?_)
  · have h := h.1 c2
    refine nz_ldc (v := (-1000001 : Int32)) F wd_X7_as_c70 dX7_as_20 ?_
    exact nz_iret F hQ X h rfl dX7_as_22
  · have h := h.2 c2
    refine nz_iload_n F dX7_as_11 rfl 2 rfl ?_
    refine nz_iconst (v := 0) F dX7_as_12 (by decide) ?_
    refine nz_iconst (v := 5) F dX7_as_13 (by decide) ?_
    refine kX_X7_isAmong a X v2 0 5 (fun Q hM => nz_runS F gX7_as_X7_isAmong rfl hd_X7_isAmong.2 rfl hM dX7_as_14 ([] : List Nat) rfl rfl rfl (Nat.le_of_ble_eq_true rfl) rfl) h (fun q3 h => ?_)
    refine nz_if_ne (tgt := 23) F dX7_as_17 (by decide) (fun c4 => ?_) (fun c4 => ?_)
    · have h := h.1 c4
      refine nz_aload_n F dX7_as_23 rfl 0 rfl ?_
      refine nz_get F iw_X7_as_7 0 (nz_xg0 g a X) rfl 2 (by decide) rfl fl_X7_as_26 rfl dX7_as_24 ?_
      refine nz_getN F iw_X7_as_5 16 (nz_xg16 g a X) rfl 12 (by decide) rfl fn_X7_as_257 rfl dX7_as_27 ?_
      refine nz_iload_n F dX7_as_30 rfl 1 rfl ?_
      obtain ⟨i5, h⟩ := h
      refine nz_iald F 20 (nz_xg20 g a X) i5 dX7_as_31 ?_
      refine nz_iload_n F dX7_as_32 rfl 2 rfl ?_
      refine kX_X1_isOne a X ((X 20) v1.toNatClampNeg) v2 (fun Q hM => nz_runSN F gX7_as_X1_isOne_n260 rfl nt_X7_as_X1_isOne_260 wd_X7_as_in_RX1 wd_X7_as_im_X1_isOne hd_X1_isOne.2 rfl hM dX7_as_33 ([] : List Nat) rfl rfl rfl (Nat.le_of_ble_eq_true rfl) rfl) h (fun q6 h => ?_)
      refine nz_if_eq (tgt := 47) F dX7_as_36 (by decide) (fun c7 => ?_) (fun c7 => ?_)
      · have h := h.1 c7
        refine nz_aload_n F dX7_as_47 rfl 0 rfl ?_
        refine nz_iconst (v := 3) F dX7_as_48 (by decide) ?_
        refine kX_X7_found_0 a X 3 (fun Q hM => nz_runV F gX7_as_X7_found rfl hd_X7_found rfl hM dX7_as_49 (List.range' 0 1) (hC_X7_found_0 g a X) nd_0_1 0 (nz_xg0 g a X) rfl rfl (Nat.le_of_ble_eq_true rfl) rfl) h (fun q8 X9 h => ?_)
        exact nz_iret F hQ X9 h rfl dX7_as_52
      · have h := h.2 c7
        refine nz_aload_n F dX7_as_39 rfl 0 rfl ?_
        refine nz_iload_n F dX7_as_40 rfl 1 rfl ?_
        refine kX_X7_well_0 a X v1 (fun Q hM => nz_runV F gX7_as_X7_well rfl hd_X7_well rfl hM dX7_as_41 (List.range' 0 1) (hC_X7_well_0 g a X) nd_0_1 0 (nz_xg0 g a X) rfl rfl (Nat.le_of_ble_eq_true rfl) rfl) h (fun q10 X11 h => ?_)
        refine nz_goto (tgt := 52) F dX7_as_44 (by decide) ?_
        exact nz_iret F hQ X11 h rfl dX7_as_52
    · have h := h.2 c4
      refine nz_ldc (v := (-1000001 : Int32)) F wd_X7_as_c70 dX7_as_20 ?_
      exact nz_iret F hQ X h rfl dX7_as_22
theorem k_X7_as {y : nz_Y} {g : nz_G} {k n : Nat} {ws : va_W} {pc : Nat} {ls : List (Nat × Value)} {st rest : List Value} {av : Array Value} {isC : List Nat} {K : Int32 → (Nat → Nat → Int32) → Prop} (a : Nat → Nat) (X : Nat → Nat → Int32) (v1 : Int32) (v2 : Int32) (run : nz_M (yz_l y) yX7_as wsX7_as rm_X7_as g [.ref (a 0), .int v1, .int v2] (nz_wX g a X) (nz_Qi g (nz_wX g a X) (fun r (u : Nat → Nat → Int32) => K r u) (fun u => nz_wX g a u)) → nz_C y g k n ws pc ls st rest (nz_wX g a X) (nz_Qi g (nz_wX g a X) (fun r (u : Nat → Nat → Int32) => K r u) (fun u => nz_wX g a u)) av isC) (h : wp_X7_as X v1 v2 K) (ws' : (Nat → Nat → Int32) → va_W) (hm : ∀ (m0 : (Nat → Nat → Int32)), nz_mrg ws isC (nz_wX g a m0) = ws' m0) (kk : ∀ (r : Int32) (m0 : (Nat → Nat → Int32)), K r m0 → nz_V y g k n (ws' m0) (pc + 3) ls (.int r :: rest)) : nz_V y g k n ws pc ls st :=
  nz_ci (ws' := fun u => ws' u) (run (c_X7_as (yz_l y) g a X v1 v2 K h)) (fun _ => rfl) (fun u => hm u) (fun r u h => kk r u h)
theorem dX7_ask_0 : decode cX7_ask 0 = .ok (.aload_n 0, 1) := by decide +kernel
theorem dX7_ask_1 : decode cX7_ask 1 = .ok (.getfield 26, 3) := by decide +kernel
theorem dX7_ask_4 : decode cX7_ask 4 = .ok (.iload_n 1, 1) := by decide +kernel
theorem dX7_ask_5 : decode cX7_ask 5 = .ok (.invokevirtual 254, 3) := by decide +kernel
theorem dX7_ask_8 : decode cX7_ask 8 = .ok (.ifCond .eq 12, 3) := by decide +kernel
theorem dX7_ask_11 : decode cX7_ask 11 = .ok (.iload_n 2, 1) := by decide +kernel
theorem dX7_ask_12 : decode cX7_ask 12 = .ok (.iconst 0, 1) := by decide +kernel
theorem dX7_ask_13 : decode cX7_ask 13 = .ok (.iconst 1, 1) := by decide +kernel
theorem dX7_ask_14 : decode cX7_ask 14 = .ok (.invokestatic 66, 3) := by decide +kernel
theorem dX7_ask_17 : decode cX7_ask 17 = .ok (.ifCond .ne 6, 3) := by decide +kernel
theorem dX7_ask_20 : decode cX7_ask 20 = .ok (.ldc 70, 2) := by decide +kernel
theorem dX7_ask_22 : decode cX7_ask 22 = .ok (.ireturn, 1) := by decide +kernel
theorem dX7_ask_23 : decode cX7_ask 23 = .ok (.aload_n 0, 1) := by decide +kernel
theorem dX7_ask_24 : decode cX7_ask 24 = .ok (.getfield 58, 3) := by decide +kernel
theorem dX7_ask_27 : decode cX7_ask 27 = .ok (.invokevirtual 263, 3) := by decide +kernel
theorem dX7_ask_30 : decode cX7_ask 30 = .ok (.iload_n 2, 1) := by decide +kernel
theorem dX7_ask_31 : decode cX7_ask 31 = .ok (.ifCond .ne 18, 3) := by decide +kernel
theorem dX7_ask_34 : decode cX7_ask 34 = .ok (.aload_n 0, 1) := by decide +kernel
theorem dX7_ask_35 : decode cX7_ask 35 = .ok (.getfield 58, 3) := by decide +kernel
theorem dX7_ask_38 : decode cX7_ask 38 = .ok (.aload_n 0, 1) := by decide +kernel
theorem dX7_ask_39 : decode cX7_ask 39 = .ok (.getfield 26, 3) := by decide +kernel
theorem dX7_ask_42 : decode cX7_ask 42 = .ok (.iload_n 1, 1) := by decide +kernel
theorem dX7_ask_43 : decode cX7_ask 43 = .ok (.invokevirtual 264, 3) := by decide +kernel
theorem dX7_ask_46 : decode cX7_ask 46 = .ok (.goto 15, 3) := by decide +kernel
theorem dX7_ask_49 : decode cX7_ask 49 = .ok (.aload_n 0, 1) := by decide +kernel
theorem dX7_ask_50 : decode cX7_ask 50 = .ok (.getfield 58, 3) := by decide +kernel
theorem dX7_ask_53 : decode cX7_ask 53 = .ok (.aload_n 0, 1) := by decide +kernel
theorem dX7_ask_54 : decode cX7_ask 54 = .ok (.getfield 26, 3) := by decide +kernel
theorem dX7_ask_57 : decode cX7_ask 57 = .ok (.iload_n 1, 1) := by decide +kernel
theorem dX7_ask_58 : decode cX7_ask 58 = .ok (.invokevirtual 267, 3) := by decide +kernel
theorem dX7_ask_61 : decode cX7_ask 61 = .ok (.ireturn, 1) := by decide +kernel
set_option maxRecDepth 20000 in
theorem ggX7_ask_X1_clear : GoodIn wsX7_ask wsX1_clear := goodIn_r _ [16, 17, 84, 85] rfl (by decide +kernel)
set_option maxRecDepth 20000 in
theorem gX7_ask_X1_clear_n263 : GoodIn wsX7_ask (wsX1_clear) := ggX7_ask_X1_clear
set_option maxRecDepth 20000 in
theorem ggX7_ask_X1_markOf : GoodIn wsX7_ask wsX1_markOf := goodIn_r _ [52, 21, 22, 14, 23, 24, 10, 11, 12, 53, 54, 55, 56, 29, 30, 31, 32, 17, 33, 25, 26, 27, 28, 42, 43, 44, 45, 46, 47, 48, 49, 67, 68, 69, 70, 71, 72, 73, 74, 75, 76, 77, 78, 79, 80, 81, 82, 83, 84, 85] rfl (by decide +kernel)
set_option maxRecDepth 20000 in
theorem gX7_ask_X1_markOf_n267 : GoodIn wsX7_ask (wsX1_markOf) := ggX7_ask_X1_markOf
set_option maxRecDepth 20000 in
theorem ggX7_ask_X1_sizeOf : GoodIn wsX7_ask wsX1_sizeOf := goodIn_r _ [20, 21, 22, 14, 23, 24, 10, 11, 12, 25, 26, 27, 28, 29, 30, 31, 32, 17, 33, 34, 35, 36, 37, 38, 39, 40, 41, 42, 43, 44, 45, 46, 47, 48, 49, 67, 68, 69, 70, 71, 72, 73, 74, 75, 76, 77, 78, 79, 80, 81, 82, 83, 84, 85] rfl (by decide +kernel)
set_option maxRecDepth 20000 in
theorem gX7_ask_X1_sizeOf_n264 : GoodIn wsX7_ask (wsX1_sizeOf) := ggX7_ask_X1_sizeOf
set_option maxRecDepth 20000 in
theorem ggX7_ask_X5_isMover : GoodIn wsX7_ask wsX5_isMover := goodIn_r _ [7, 8, 67, 68, 69, 70, 71, 72, 73, 74, 75, 76, 77, 78, 79, 80, 81, 82, 83] rfl (by decide +kernel)
set_option maxRecDepth 20000 in
theorem gX7_ask_X5_isMover_n254 : GoodIn wsX7_ask (wsX5_isMover) := ggX7_ask_X5_isMover
set_option maxRecDepth 20000 in
theorem ggX7_ask_X7_isAmong : GoodIn wsX7_ask wsX7_isAmong := goodIn_r _ [12] rfl (by decide +kernel)
set_option maxRecDepth 20000 in
theorem gX7_ask_X7_isAmong : GoodIn wsX7_ask (va_wsS RX7 66 yX7_isAmong wsX7_isAmong) := goodIn_app (goodIn_r _ [9, 10, 11] rfl (by decide +kernel)) ggX7_ask_X7_isAmong
theorem hd_X1_clear : yX1_clear.cls = RX1 ∧ yX1_clear.cls ≠ "java/lang/invoke/MethodHandle" ∧ yX1_clear.cls ≠ "java/lang/invoke/VarHandle" ∧ (parseMethodDescriptor yX1_clear.desc).map (fun d => d.parameters.length) = some 0 := by decide +kernel
theorem hd_X1_markOf : yX1_markOf.cls = RX1 ∧ yX1_markOf.cls ≠ "java/lang/invoke/MethodHandle" ∧ yX1_markOf.cls ≠ "java/lang/invoke/VarHandle" ∧ (parseMethodDescriptor yX1_markOf.desc).map (fun d => d.parameters.length) = some 2 := by decide +kernel
theorem hd_X1_sizeOf : yX1_sizeOf.cls = RX1 ∧ yX1_sizeOf.cls ≠ "java/lang/invoke/MethodHandle" ∧ yX1_sizeOf.cls ≠ "java/lang/invoke/VarHandle" ∧ (parseMethodDescriptor yX1_sizeOf.desc).map (fun d => d.parameters.length) = some 2 := by decide +kernel
theorem nd_52_2 : va_nd (List.range' 52 2) = true := by decide +kernel
theorem nz_xg52 (g : nz_G) (a : Nat → Nat) (X : Nat → Nat → Int32) : (nz_wX g a X)[52]? = some ((a 52), .inr (1, [.ref (a 53), .int (X 52 1)])) := rfl
theorem hC_X1_clear_52 (g : nz_G) (a : Nat → Nat) (X : Nat → Nat → Int32) : (List.range' 52 2).map (fun i => (nz_wX g a X)[i]?) = (([((a 52), .inr (1, [.ref (a 53), .int (X 52 1)])), ((a 53), .inl (nz_cI g, 16, .inl (X 53)))] : va_W)).map some := rfl
def wX_X1_clear_52 (X : Nat → Nat → Int32) (K : (Nat → Nat → Int32) → Prop) : Prop := wp_X1_clear (fun m0 => K (va_up X 52 (upd (X 52) 1 m0)))
theorem kX_X1_clear_52 {y : nz_Y} {g : nz_G} {k n pc : Nat} {ls : List (Nat × Value)} {st rest : List Value} {av : Array Value} {K : (Nat → Nat → Int32) → Prop} (a : Nat → Nat) (X : Nat → Nat → Int32) (run : ∀ Q : Nat → Array Value → State → Outcome → State → Prop, nz_M (yz_l y) yX1_clear wsX1_clear rm_X1_clear g [.ref (a 52)] [((a 52), .inr (1, [.ref (a 53), .int (X 52 1)])), ((a 53), .inl (nz_cI g, 16, .inl (X 53)))] Q → nz_C y g k n (nz_wX g a X) pc ls st rest [((a 52), .inr (1, [.ref (a 53), .int (X 52 1)])), ((a 53), .inl (nz_cI g, 16, .inl (X 53)))] Q av (List.range' 52 2)) (h : wX_X1_clear_52 X K) (kk : ∀ (X1 : Nat → Nat → Int32), K X1 → nz_V y g k n (nz_wX g a X1) (pc + 3) ls (rest)) : nz_V y g k n (nz_wX g a X) pc ls st :=
 k_X1_clear (a 52) (a 53) (X 52 1) (X 53) (run _) h (fun m0 => nz_wX g a (va_up X 52 (upd (X 52) 1 m0))) (fun m0 => nz_xm (hC_X1_clear_52 g a (va_up X 52 (upd (X 52) 1 m0))) (nz_ag.up nz_ag.refl rfl)) (fun m0 h => kk (va_up X 52 (upd (X 52) 1 m0)) h)
theorem nd_52_2_16_9 : va_nd (List.range' 52 2 ++ List.range' 16 9) = true := by decide +kernel
theorem hC_X1_markOf_52_16 (g : nz_G) (a : Nat → Nat) (X : Nat → Nat → Int32) : (List.range' 52 2 ++ List.range' 16 9).map (fun i => (nz_wX g a X)[i]?) = (([((a 52), .inr (1, [.ref (a 53), .int (X 52 1)])), ((a 53), .inl (nz_cI g, 16, .inl (X 53))), ((a 16), .inr (5, [.int (X 16 0), .int (X 16 1), .int (X 16 2), .int (X 16 3), .int (X 16 4), .int (X 16 5), .int (X 16 6), .int (X 16 7), .int (X 16 8), .ref (a 17), .ref (a 18), .ref (a 19), .ref (a 20), .ref (a 21), .ref (a 22), .ref (a 23), .ref (a 24)])), ((a 17), .inl (nz_cI g, 6, .inl (X 17))), ((a 18), .inl (nz_cI g, 6, .inl (X 18))), ((a 19), .inl (nz_cI g, 6, .inl (X 19))), ((a 20), .inl (nz_cI g, 5, .inl (X 20))), ((a 21), .inl (nz_cI g, 5, .inl (X 21))), ((a 22), .inl (nz_cI g, 5, .inl (X 22))), ((a 23), .inl (nz_cI g, 5, .inl (X 23))), ((a 24), .inl (nz_cI g, 48, .inl (X 24)))] : va_W)).map some := rfl
def wX_X1_markOf_52_16 (X : Nat → Nat → Int32) (v2 : Int32) (K : Int32 → (Nat → Nat → Int32) → Prop) : Prop := wp_X1_markOf (X 52 1) (X 53) (X 18) (X 20) (X 21) (X 23) v2 (fun r m0 m1 => K r (va_up (va_up X 52 (upd (X 52) 1 m0)) 53 m1))
theorem kX_X1_markOf_52_16 {y : nz_Y} {g : nz_G} {k n pc : Nat} {ls : List (Nat × Value)} {st rest : List Value} {av : Array Value} {K : Int32 → (Nat → Nat → Int32) → Prop} (a : Nat → Nat) (X : Nat → Nat → Int32) (v2 : Int32) (run : ∀ Q : Nat → Array Value → State → Outcome → State → Prop, nz_M (yz_l y) yX1_markOf wsX1_markOf rm_X1_markOf g [.ref (a 52), .ref (a 16), .int v2] [((a 52), .inr (1, [.ref (a 53), .int (X 52 1)])), ((a 53), .inl (nz_cI g, 16, .inl (X 53))), ((a 16), .inr (5, [.int (X 16 0), .int (X 16 1), .int (X 16 2), .int (X 16 3), .int (X 16 4), .int (X 16 5), .int (X 16 6), .int (X 16 7), .int (X 16 8), .ref (a 17), .ref (a 18), .ref (a 19), .ref (a 20), .ref (a 21), .ref (a 22), .ref (a 23), .ref (a 24)])), ((a 17), .inl (nz_cI g, 6, .inl (X 17))), ((a 18), .inl (nz_cI g, 6, .inl (X 18))), ((a 19), .inl (nz_cI g, 6, .inl (X 19))), ((a 20), .inl (nz_cI g, 5, .inl (X 20))), ((a 21), .inl (nz_cI g, 5, .inl (X 21))), ((a 22), .inl (nz_cI g, 5, .inl (X 22))), ((a 23), .inl (nz_cI g, 5, .inl (X 23))), ((a 24), .inl (nz_cI g, 48, .inl (X 24)))] Q → nz_C y g k n (nz_wX g a X) pc ls st rest [((a 52), .inr (1, [.ref (a 53), .int (X 52 1)])), ((a 53), .inl (nz_cI g, 16, .inl (X 53))), ((a 16), .inr (5, [.int (X 16 0), .int (X 16 1), .int (X 16 2), .int (X 16 3), .int (X 16 4), .int (X 16 5), .int (X 16 6), .int (X 16 7), .int (X 16 8), .ref (a 17), .ref (a 18), .ref (a 19), .ref (a 20), .ref (a 21), .ref (a 22), .ref (a 23), .ref (a 24)])), ((a 17), .inl (nz_cI g, 6, .inl (X 17))), ((a 18), .inl (nz_cI g, 6, .inl (X 18))), ((a 19), .inl (nz_cI g, 6, .inl (X 19))), ((a 20), .inl (nz_cI g, 5, .inl (X 20))), ((a 21), .inl (nz_cI g, 5, .inl (X 21))), ((a 22), .inl (nz_cI g, 5, .inl (X 22))), ((a 23), .inl (nz_cI g, 5, .inl (X 23))), ((a 24), .inl (nz_cI g, 48, .inl (X 24)))] Q av (List.range' 52 2 ++ List.range' 16 9)) (h : wX_X1_markOf_52_16 X v2 K) (kk : ∀ (r : Int32) (X1 : Nat → Nat → Int32), K r X1 → nz_V y g k n (nz_wX g a X1) (pc + 3) ls (.int r :: rest)) : nz_V y g k n (nz_wX g a X) pc ls st :=
 k_X1_markOf (a 52) (a 53) (a 16) (a 17) (a 18) (a 19) (a 20) (a 21) (a 22) (a 23) (a 24) (X 52 1) (X 53) (X 16 0) (X 16 1) (X 16 2) (X 16 3) (X 16 4) (X 16 5) (X 16 6) (X 16 7) (X 16 8) (X 17) (X 18) (X 19) (X 20) (X 21) (X 22) (X 23) (X 24) v2 (run _) h (fun m0 m1 => nz_wX g a (va_up (va_up X 52 (upd (X 52) 1 m0)) 53 m1)) (fun m0 m1 => nz_xm (hC_X1_markOf_52_16 g a (va_up (va_up X 52 (upd (X 52) 1 m0)) 53 m1)) (nz_ag.up (nz_ag.up nz_ag.refl rfl) rfl)) (fun r m0 m1 h => kk r (va_up (va_up X 52 (upd (X 52) 1 m0)) 53 m1) h)
theorem hC_X1_sizeOf_52_16 (g : nz_G) (a : Nat → Nat) (X : Nat → Nat → Int32) : (List.range' 52 2 ++ List.range' 16 9).map (fun i => (nz_wX g a X)[i]?) = (([((a 52), .inr (1, [.ref (a 53), .int (X 52 1)])), ((a 53), .inl (nz_cI g, 16, .inl (X 53))), ((a 16), .inr (5, [.int (X 16 0), .int (X 16 1), .int (X 16 2), .int (X 16 3), .int (X 16 4), .int (X 16 5), .int (X 16 6), .int (X 16 7), .int (X 16 8), .ref (a 17), .ref (a 18), .ref (a 19), .ref (a 20), .ref (a 21), .ref (a 22), .ref (a 23), .ref (a 24)])), ((a 17), .inl (nz_cI g, 6, .inl (X 17))), ((a 18), .inl (nz_cI g, 6, .inl (X 18))), ((a 19), .inl (nz_cI g, 6, .inl (X 19))), ((a 20), .inl (nz_cI g, 5, .inl (X 20))), ((a 21), .inl (nz_cI g, 5, .inl (X 21))), ((a 22), .inl (nz_cI g, 5, .inl (X 22))), ((a 23), .inl (nz_cI g, 5, .inl (X 23))), ((a 24), .inl (nz_cI g, 48, .inl (X 24)))] : va_W)).map some := rfl
def wX_X1_sizeOf_52_16 (X : Nat → Nat → Int32) (v2 : Int32) (K : Int32 → (Nat → Nat → Int32) → Prop) : Prop := wp_X1_sizeOf (X 52 1) (X 53) (X 18) (X 20) (X 21) (X 23) v2 (fun r m0 m1 => K r (va_up (va_up X 52 (upd (X 52) 1 m0)) 53 m1))
theorem kX_X1_sizeOf_52_16 {y : nz_Y} {g : nz_G} {k n pc : Nat} {ls : List (Nat × Value)} {st rest : List Value} {av : Array Value} {K : Int32 → (Nat → Nat → Int32) → Prop} (a : Nat → Nat) (X : Nat → Nat → Int32) (v2 : Int32) (run : ∀ Q : Nat → Array Value → State → Outcome → State → Prop, nz_M (yz_l y) yX1_sizeOf wsX1_sizeOf rm_X1_sizeOf g [.ref (a 52), .ref (a 16), .int v2] [((a 52), .inr (1, [.ref (a 53), .int (X 52 1)])), ((a 53), .inl (nz_cI g, 16, .inl (X 53))), ((a 16), .inr (5, [.int (X 16 0), .int (X 16 1), .int (X 16 2), .int (X 16 3), .int (X 16 4), .int (X 16 5), .int (X 16 6), .int (X 16 7), .int (X 16 8), .ref (a 17), .ref (a 18), .ref (a 19), .ref (a 20), .ref (a 21), .ref (a 22), .ref (a 23), .ref (a 24)])), ((a 17), .inl (nz_cI g, 6, .inl (X 17))), ((a 18), .inl (nz_cI g, 6, .inl (X 18))), ((a 19), .inl (nz_cI g, 6, .inl (X 19))), ((a 20), .inl (nz_cI g, 5, .inl (X 20))), ((a 21), .inl (nz_cI g, 5, .inl (X 21))), ((a 22), .inl (nz_cI g, 5, .inl (X 22))), ((a 23), .inl (nz_cI g, 5, .inl (X 23))), ((a 24), .inl (nz_cI g, 48, .inl (X 24)))] Q → nz_C y g k n (nz_wX g a X) pc ls st rest [((a 52), .inr (1, [.ref (a 53), .int (X 52 1)])), ((a 53), .inl (nz_cI g, 16, .inl (X 53))), ((a 16), .inr (5, [.int (X 16 0), .int (X 16 1), .int (X 16 2), .int (X 16 3), .int (X 16 4), .int (X 16 5), .int (X 16 6), .int (X 16 7), .int (X 16 8), .ref (a 17), .ref (a 18), .ref (a 19), .ref (a 20), .ref (a 21), .ref (a 22), .ref (a 23), .ref (a 24)])), ((a 17), .inl (nz_cI g, 6, .inl (X 17))), ((a 18), .inl (nz_cI g, 6, .inl (X 18))), ((a 19), .inl (nz_cI g, 6, .inl (X 19))), ((a 20), .inl (nz_cI g, 5, .inl (X 20))), ((a 21), .inl (nz_cI g, 5, .inl (X 21))), ((a 22), .inl (nz_cI g, 5, .inl (X 22))), ((a 23), .inl (nz_cI g, 5, .inl (X 23))), ((a 24), .inl (nz_cI g, 48, .inl (X 24)))] Q av (List.range' 52 2 ++ List.range' 16 9)) (h : wX_X1_sizeOf_52_16 X v2 K) (kk : ∀ (r : Int32) (X1 : Nat → Nat → Int32), K r X1 → nz_V y g k n (nz_wX g a X1) (pc + 3) ls (.int r :: rest)) : nz_V y g k n (nz_wX g a X) pc ls st :=
 k_X1_sizeOf (a 52) (a 53) (a 16) (a 17) (a 18) (a 19) (a 20) (a 21) (a 22) (a 23) (a 24) (X 52 1) (X 53) (X 16 0) (X 16 1) (X 16 2) (X 16 3) (X 16 4) (X 16 5) (X 16 6) (X 16 7) (X 16 8) (X 17) (X 18) (X 19) (X 20) (X 21) (X 22) (X 23) (X 24) v2 (run _) h (fun m0 m1 => nz_wX g a (va_up (va_up X 52 (upd (X 52) 1 m0)) 53 m1)) (fun m0 m1 => nz_xm (hC_X1_sizeOf_52_16 g a (va_up (va_up X 52 (upd (X 52) 1 m0)) 53 m1)) (nz_ag.up (nz_ag.up nz_ag.refl rfl) rfl)) (fun r m0 m1 h => kk r (va_up (va_up X 52 (upd (X 52) 1 m0)) 53 m1) h)
/-! X7_ask -/
abbrev rm_X7_ask : Room := { frames := 6, cells := 0, slots := 0, locals := 131 }
theorem iw_X7_ask_7 : ∀ w ∈ wsX70, w ∈ wsX7_ask := fun _ h => List.mem_cons_of_mem _ (List.mem_append_left _ (List.mem_append_left _ (List.mem_append_right _ h)))
theorem fl_X7_ask_26 : Cond.fieldLink RX7 26 "NightStones" "now" "LNightStones$Road;" ∈ wsX7_ask := List.mem_of_getElem? (i := 1) rfl
theorem nt_X7_ask_X5_isMover_254 : Cond.methodLinkNest RX7 254 yX5_isMover RX7 ∈ nz_nest := List.mem_of_getElem? (i := 96) rfl
theorem wd_X7_ask_in_RX5 : Cond.initialized RX5 ∈ wsX7_ask := List.mem_of_getElem? (i := 5) rfl
theorem wd_X7_ask_im_X5_isMover : Cond.instanceMethod yX5_isMover ∈ wsX7_ask := List.mem_of_getElem? (i := 4) rfl
theorem wd_X7_ask_se_X5_isMover : Cond.selects RX5 yX5_isMover yX5_isMover ∈ wsX7_ask := List.mem_of_getElem? (i := 6) rfl
theorem wd_X7_ask_c70 : Cond.constant RX7 70 (-1000001) ∈ wsX7_ask := List.mem_of_getElem? (i := 2) rfl
theorem fl_X7_ask_58 : Cond.fieldLink RX7 58 "NightStones" "asker" "LNightStones$Asker;" ∈ wsX7_ask := List.mem_of_getElem? (i := 3) rfl
theorem nt_X7_ask_X1_clear_263 : Cond.methodLinkNest RX7 263 yX1_clear RX7 ∈ nz_nest := List.mem_of_getElem? (i := 99) rfl
theorem wd_X7_ask_in_RX1 : Cond.initialized RX1 ∈ wsX7_ask := List.mem_of_getElem? (i := 14) rfl
theorem wd_X7_ask_im_X1_clear : Cond.instanceMethod yX1_clear ∈ wsX7_ask := List.mem_of_getElem? (i := 13) rfl
theorem wd_X7_ask_se_X1_clear : Cond.selects RX1 yX1_clear yX1_clear ∈ wsX7_ask := List.mem_of_getElem? (i := 15) rfl
theorem nt_X7_ask_X1_markOf_267 : Cond.methodLinkNest RX7 267 yX1_markOf RX7 ∈ nz_nest := List.mem_of_getElem? (i := 101) rfl
theorem wd_X7_ask_im_X1_markOf : Cond.instanceMethod yX1_markOf ∈ wsX7_ask := List.mem_of_getElem? (i := 50) rfl
theorem wd_X7_ask_se_X1_markOf : Cond.selects RX1 yX1_markOf yX1_markOf ∈ wsX7_ask := List.mem_of_getElem? (i := 51) rfl
theorem nt_X7_ask_X1_sizeOf_264 : Cond.methodLinkNest RX7 264 yX1_sizeOf RX7 ∈ nz_nest := List.mem_of_getElem? (i := 100) rfl
theorem wd_X7_ask_im_X1_sizeOf : Cond.instanceMethod yX1_sizeOf ∈ wsX7_ask := List.mem_of_getElem? (i := 18) rfl
theorem wd_X7_ask_se_X1_sizeOf : Cond.selects RX1 yX1_sizeOf yX1_sizeOf ∈ wsX7_ask := List.mem_of_getElem? (i := 19) rfl
def wp_X7_ask (X : Nat → Nat → Int32) (v1 : Int32) (v2 : Int32) (K : Int32 → (Nat → Nat → Int32) → Prop) : Prop := wX_X5_isMover_16 X v1 (fun q1 => ((q1 = 0 → K (-1000001 : Int32) X) ∧ (¬ (q1 = 0) → wX_X7_isAmong v2 0 1 (fun q3 => ((¬ q3 = 0 → wX_X1_clear_52 X (fun X5 => ((¬ v2 = 0 → wX_X1_markOf_52_16 X5 v1 (fun q7 X8 => K q7 X8)) ∧ (v2 = 0 → wX_X1_sizeOf_52_16 X5 v1 (fun q9 X10 => K q9 X10))))) ∧ (q3 = 0 → K (-1000001 : Int32) X))))))
set_option maxHeartbeats 4000000 in
set_option maxRecDepth 100000 in
theorem c_X7_ask (l : Launch) (g : nz_G) (a : Nat → Nat) (X : Nat → Nat → Int32) (v1 : Int32) (v2 : Int32) (K : Int32 → (Nat → Nat → Int32) → Prop) (h : wp_X7_ask X v1 v2 K) : nz_M l yX7_ask wsX7_ask rm_X7_ask g [.ref (a 0), .int v1, .int v2] (nz_wX g a X) (nz_Qi g (nz_wX g a X) (fun r (u : Nat → Nat → Int32) => K r u) (fun u => nz_wX g a u)) := by
  refine nz_M.of (bytes := cX7_ask) (nL := 3) (ret := (some .int)) (own := RX7) (by decide) rfl rfl ⟨rfl, rfl⟩ rfl ?_
  intro y F hl hQ
  obtain ⟨sz, hQ⟩ := hQ
  refine nz_ent (lv' := [(0, .ref (a 0)), (1, .int v1), (2, .int v2)]) rfl ?_
  unfold wp_X7_ask at h
  refine nz_aload_n F dX7_ask_0 rfl 0 rfl ?_
  refine nz_get F iw_X7_ask_7 0 (nz_xg0 g a X) rfl 2 (by decide) rfl fl_X7_ask_26 rfl dX7_ask_1 ?_
  refine nz_iload_n F dX7_ask_4 rfl 1 rfl ?_
  refine kX_X5_isMover_16 a X v1 (fun Q hM => nz_runVN F gX7_ask_X5_isMover_n254 rfl nt_X7_ask_X5_isMover_254 wd_X7_ask_in_RX5 wd_X7_ask_im_X5_isMover wd_X7_ask_se_X5_isMover hd_X5_isMover rfl hM dX7_ask_5 (List.range' 16 9) (hC_X5_isMover_16 g a X) nd_16_9 16 (nz_xg16 g a X) rfl rfl (Nat.le_of_ble_eq_true rfl) rfl) h (fun q1 h => ?_)
  refine nz_if_eq (tgt := 20) F dX7_ask_8 (by decide) (fun c2 => ?_) (fun c2 => ?_)
  · have h := h.1 c2
    refine nz_ldc (v := (-1000001 : Int32)) F wd_X7_ask_c70 dX7_ask_20 ?_
    exact nz_iret F hQ X h rfl dX7_ask_22
  · have h := h.2 c2
    refine nz_iload_n F dX7_ask_11 rfl 2 rfl ?_
    refine nz_iconst (v := 0) F dX7_ask_12 (by decide) ?_
    refine nz_iconst (v := 1) F dX7_ask_13 (by decide) ?_
    refine kX_X7_isAmong a X v2 0 1 (fun Q hM => nz_runS F gX7_ask_X7_isAmong rfl hd_X7_isAmong.2 rfl hM dX7_ask_14 ([] : List Nat) rfl rfl rfl (Nat.le_of_ble_eq_true rfl) rfl) h (fun q3 h => ?_)
    refine nz_if_ne (tgt := 23) F dX7_ask_17 (by decide) (fun c4 => ?_) (fun c4 => ?_)
    · have h := h.1 c4
      refine nz_aload_n F dX7_ask_23 rfl 0 rfl ?_
      refine nz_get F iw_X7_ask_7 0 (nz_xg0 g a X) rfl 7 (by decide) rfl fl_X7_ask_58 rfl dX7_ask_24 ?_
      refine kX_X1_clear_52 a X (fun Q hM => nz_runVN F gX7_ask_X1_clear_n263 rfl nt_X7_ask_X1_clear_263 wd_X7_ask_in_RX1 wd_X7_ask_im_X1_clear wd_X7_ask_se_X1_clear hd_X1_clear rfl hM dX7_ask_27 (List.range' 52 2) (hC_X1_clear_52 g a X) nd_52_2 52 (nz_xg52 g a X) rfl rfl (Nat.le_of_ble_eq_true rfl) rfl) h (fun X5 h => ?_)
      refine nz_iload_n F dX7_ask_30 rfl 2 rfl ?_
      refine nz_if_ne (tgt := 49) F dX7_ask_31 (by decide) (fun c6 => ?_) (fun c6 => ?_)
      · have h := h.1 c6
        refine nz_aload_n F dX7_ask_49 rfl 0 rfl ?_
        refine nz_get F iw_X7_ask_7 0 (nz_xg0 g a X5) rfl 7 (by decide) rfl fl_X7_ask_58 rfl dX7_ask_50 ?_
        refine nz_aload_n F dX7_ask_53 rfl 0 rfl ?_
        refine nz_get F iw_X7_ask_7 0 (nz_xg0 g a X5) rfl 2 (by decide) rfl fl_X7_ask_26 rfl dX7_ask_54 ?_
        refine nz_iload_n F dX7_ask_57 rfl 1 rfl ?_
        refine kX_X1_markOf_52_16 a X5 v1 (fun Q hM => nz_runVN F gX7_ask_X1_markOf_n267 rfl nt_X7_ask_X1_markOf_267 wd_X7_ask_in_RX1 wd_X7_ask_im_X1_markOf wd_X7_ask_se_X1_markOf hd_X1_markOf rfl hM dX7_ask_58 (List.range' 52 2 ++ List.range' 16 9) (hC_X1_markOf_52_16 g a X5) nd_52_2_16_9 52 (nz_xg52 g a X5) rfl rfl (Nat.le_of_ble_eq_true rfl) rfl) h (fun q7 X8 h => ?_)
        exact nz_iret F hQ X8 h rfl dX7_ask_61
      · have h := h.2 c6
        refine nz_aload_n F dX7_ask_34 rfl 0 rfl ?_
        refine nz_get F iw_X7_ask_7 0 (nz_xg0 g a X5) rfl 7 (by decide) rfl fl_X7_ask_58 rfl dX7_ask_35 ?_
        refine nz_aload_n F dX7_ask_38 rfl 0 rfl ?_
        refine nz_get F iw_X7_ask_7 0 (nz_xg0 g a X5) rfl 2 (by decide) rfl fl_X7_ask_26 rfl dX7_ask_39 ?_
        refine nz_iload_n F dX7_ask_42 rfl 1 rfl ?_
        refine kX_X1_sizeOf_52_16 a X5 v1 (fun Q hM => nz_runVN F gX7_ask_X1_sizeOf_n264 rfl nt_X7_ask_X1_sizeOf_264 wd_X7_ask_in_RX1 wd_X7_ask_im_X1_sizeOf wd_X7_ask_se_X1_sizeOf hd_X1_sizeOf rfl hM dX7_ask_43 (List.range' 52 2 ++ List.range' 16 9) (hC_X1_sizeOf_52_16 g a X5) nd_52_2_16_9 52 (nz_xg52 g a X5) rfl rfl (Nat.le_of_ble_eq_true rfl) rfl) h (fun q9 X10 h => ?_)
        refine nz_goto (tgt := 61) F dX7_ask_46 (by decide) ?_
        exact nz_iret F hQ X10 h rfl dX7_ask_61
    · have h := h.2 c4
      refine nz_ldc (v := (-1000001 : Int32)) F wd_X7_ask_c70 dX7_ask_20 ?_
      exact nz_iret F hQ X h rfl dX7_ask_22
theorem k_X7_ask {y : nz_Y} {g : nz_G} {k n : Nat} {ws : va_W} {pc : Nat} {ls : List (Nat × Value)} {st rest : List Value} {av : Array Value} {isC : List Nat} {K : Int32 → (Nat → Nat → Int32) → Prop} (a : Nat → Nat) (X : Nat → Nat → Int32) (v1 : Int32) (v2 : Int32) (run : nz_M (yz_l y) yX7_ask wsX7_ask rm_X7_ask g [.ref (a 0), .int v1, .int v2] (nz_wX g a X) (nz_Qi g (nz_wX g a X) (fun r (u : Nat → Nat → Int32) => K r u) (fun u => nz_wX g a u)) → nz_C y g k n ws pc ls st rest (nz_wX g a X) (nz_Qi g (nz_wX g a X) (fun r (u : Nat → Nat → Int32) => K r u) (fun u => nz_wX g a u)) av isC) (h : wp_X7_ask X v1 v2 K) (ws' : (Nat → Nat → Int32) → va_W) (hm : ∀ (m0 : (Nat → Nat → Int32)), nz_mrg ws isC (nz_wX g a m0) = ws' m0) (kk : ∀ (r : Int32) (m0 : (Nat → Nat → Int32)), K r m0 → nz_V y g k n (ws' m0) (pc + 3) ls (.int r :: rest)) : nz_V y g k n ws pc ls st :=
  nz_ci (ws' := fun u => ws' u) (run (c_X7_ask (yz_l y) g a X v1 v2 K h)) (fun _ => rfl) (fun u => hm u) (fun r u h => kk r u h)
