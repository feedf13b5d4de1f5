section SQ
variable {o pl kp : Bool} {L : Nat} {I A : Nat → Nat → Int32} {G : kg_G} {S : ks_S} {lv : List (Option Value)} {st : List Value} {P : Option Value → ks_S → Prop} {x x2 : Int32} {y y2 : Int64} {z z2 c a : Nat} {a0 a1 a2 a3 a4 a5 a6 a7 a8 a9 a10 a11 a12 a13 a14 a15 a16 a17 a18 a19 a20 a21 a22 a23 : Option Value}
theorem dq_Integer_bitCount_0 : decode (km_c mm_Integer_bitCount) 0 = .ok (.iload_n 0, 1) := by decide +kernel
theorem sq_Integer_bitCount_0 : rn G mm_Integer_bitCount 0 [some (.int x)] st S P ↔ rn G mm_Integer_bitCount 1 [some (.int x)] (.int x :: st) S P := rn_s dq_Integer_bitCount_0 rfl rfl rfl
theorem dq_Integer_bitCount_1 : decode (km_c mm_Integer_bitCount) 1 = .ok (.iload_n 0, 1) := by decide +kernel
theorem sq_Integer_bitCount_1 : rn G mm_Integer_bitCount 1 [some (.int x)] st S P ↔ rn G mm_Integer_bitCount 2 [some (.int x)] (.int x :: st) S P := rn_s dq_Integer_bitCount_1 rfl rfl rfl
theorem dq_Integer_bitCount_2 : decode (km_c mm_Integer_bitCount) 2 = .ok (.iconst 1, 1) := by decide +kernel
theorem sq_Integer_bitCount_2 : rn G mm_Integer_bitCount 2 lv st S P ↔ rn G mm_Integer_bitCount 3 lv (.int (nI 1) :: st) S P := rn_s dq_Integer_bitCount_2 rfl rfl rfl
theorem dq_Integer_bitCount_3 : decode (km_c mm_Integer_bitCount) 3 = .ok (.iushr, 1) := by decide +kernel
theorem sq_Integer_bitCount_3 : rn G mm_Integer_bitCount 3 lv (.int x2 :: .int x :: st) S P ↔ rn G mm_Integer_bitCount 4 lv (.int ((x.toUInt32 >>> (x2.toUInt32 &&& Int32.toUInt32 31)).toInt32) :: st) S P := rn_s dq_Integer_bitCount_3 rfl rfl rfl
theorem dq_Integer_bitCount_4 : decode (km_c mm_Integer_bitCount) 4 = .ok (.ldc_w 265, 3) := by decide +kernel
theorem sq_Integer_bitCount_4 : rn G mm_Integer_bitCount 4 lv st S P ↔ rn G mm_Integer_bitCount 7 lv (.int (nI 1431655765) :: st) S P := rn_s dq_Integer_bitCount_4 rfl rfl rfl
theorem dq_Integer_bitCount_7 : decode (km_c mm_Integer_bitCount) 7 = .ok (.iand, 1) := by decide +kernel
theorem sq_Integer_bitCount_7 : rn G mm_Integer_bitCount 7 lv (.int x2 :: .int x :: st) S P ↔ rn G mm_Integer_bitCount 8 lv (.int (x &&& x2) :: st) S P := rn_s dq_Integer_bitCount_7 rfl rfl rfl
theorem dq_Integer_bitCount_8 : decode (km_c mm_Integer_bitCount) 8 = .ok (.isub, 1) := by decide +kernel
theorem sq_Integer_bitCount_8 : rn G mm_Integer_bitCount 8 lv (.int x2 :: .int x :: st) S P ↔ rn G mm_Integer_bitCount 9 lv (.int (x - x2) :: st) S P := rn_s dq_Integer_bitCount_8 rfl rfl rfl
theorem dq_Integer_bitCount_9 : decode (km_c mm_Integer_bitCount) 9 = .ok (.istore_n 0, 1) := by decide +kernel
theorem sq_Integer_bitCount_9 : rn G mm_Integer_bitCount 9 [a0] (.int x :: st) S P ↔ rn G mm_Integer_bitCount 10 [some (.int x)] st S P := rn_s dq_Integer_bitCount_9 rfl rfl rfl
theorem dq_Integer_bitCount_10 : decode (km_c mm_Integer_bitCount) 10 = .ok (.iload_n 0, 1) := by decide +kernel
theorem sq_Integer_bitCount_10 : rn G mm_Integer_bitCount 10 [some (.int x)] st S P ↔ rn G mm_Integer_bitCount 11 [some (.int x)] (.int x :: st) S P := rn_s dq_Integer_bitCount_10 rfl rfl rfl
theorem dq_Integer_bitCount_11 : decode (km_c mm_Integer_bitCount) 11 = .ok (.ldc_w 266, 3) := by decide +kernel
theorem sq_Integer_bitCount_11 : rn G mm_Integer_bitCount 11 lv st S P ↔ rn G mm_Integer_bitCount 14 lv (.int (nI 858993459) :: st) S P := rn_s dq_Integer_bitCount_11 rfl rfl rfl
theorem dq_Integer_bitCount_14 : decode (km_c mm_Integer_bitCount) 14 = .ok (.iand, 1) := by decide +kernel
theorem sq_Integer_bitCount_14 : rn G mm_Integer_bitCount 14 lv (.int x2 :: .int x :: st) S P ↔ rn G mm_Integer_bitCount 15 lv (.int (x &&& x2) :: st) S P := rn_s dq_Integer_bitCount_14 rfl rfl rfl
theorem dq_Integer_bitCount_15 : decode (km_c mm_Integer_bitCount) 15 = .ok (.iload_n 0, 1) := by decide +kernel
theorem sq_Integer_bitCount_15 : rn G mm_Integer_bitCount 15 [some (.int x)] st S P ↔ rn G mm_Integer_bitCount 16 [some (.int x)] (.int x :: st) S P := rn_s dq_Integer_bitCount_15 rfl rfl rfl
theorem dq_Integer_bitCount_16 : decode (km_c mm_Integer_bitCount) 16 = .ok (.iconst 2, 1) := by decide +kernel
theorem sq_Integer_bitCount_16 : rn G mm_Integer_bitCount 16 lv st S P ↔ rn G mm_Integer_bitCount 17 lv (.int (nI 2) :: st) S P := rn_s dq_Integer_bitCount_16 rfl rfl rfl
theorem dq_Integer_bitCount_17 : decode (km_c mm_Integer_bitCount) 17 = .ok (.iushr, 1) := by decide +kernel
theorem sq_Integer_bitCount_17 : rn G mm_Integer_bitCount 17 lv (.int x2 :: .int x :: st) S P ↔ rn G mm_Integer_bitCount 18 lv (.int ((x.toUInt32 >>> (x2.toUInt32 &&& Int32.toUInt32 31)).toInt32) :: st) S P := rn_s dq_Integer_bitCount_17 rfl rfl rfl
theorem dq_Integer_bitCount_18 : decode (km_c mm_Integer_bitCount) 18 = .ok (.ldc_w 266, 3) := by decide +kernel
theorem sq_Integer_bitCount_18 : rn G mm_Integer_bitCount 18 lv st S P ↔ rn G mm_Integer_bitCount 21 lv (.int (nI 858993459) :: st) S P := rn_s dq_Integer_bitCount_18 rfl rfl rfl
theorem dq_Integer_bitCount_21 : decode (km_c mm_Integer_bitCount) 21 = .ok (.iand, 1) := by decide +kernel
theorem sq_Integer_bitCount_21 : rn G mm_Integer_bitCount 21 lv (.int x2 :: .int x :: st) S P ↔ rn G mm_Integer_bitCount 22 lv (.int (x &&& x2) :: st) S P := rn_s dq_Integer_bitCount_21 rfl rfl rfl
theorem dq_Integer_bitCount_22 : decode (km_c mm_Integer_bitCount) 22 = .ok (.iadd, 1) := by decide +kernel
theorem sq_Integer_bitCount_22 : rn G mm_Integer_bitCount 22 lv (.int x2 :: .int x :: st) S P ↔ rn G mm_Integer_bitCount 23 lv (.int (x + x2) :: st) S P := rn_s dq_Integer_bitCount_22 rfl rfl rfl
theorem dq_Integer_bitCount_23 : decode (km_c mm_Integer_bitCount) 23 = .ok (.istore_n 0, 1) := by decide +kernel
theorem sq_Integer_bitCount_23 : rn G mm_Integer_bitCount 23 [a0] (.int x :: st) S P ↔ rn G mm_Integer_bitCount 24 [some (.int x)] st S P := rn_s dq_Integer_bitCount_23 rfl rfl rfl
theorem dq_Integer_bitCount_24 : decode (km_c mm_Integer_bitCount) 24 = .ok (.iload_n 0, 1) := by decide +kernel
theorem sq_Integer_bitCount_24 : rn G mm_Integer_bitCount 24 [some (.int x)] st S P ↔ rn G mm_Integer_bitCount 25 [some (.int x)] (.int x :: st) S P := rn_s dq_Integer_bitCount_24 rfl rfl rfl
theorem dq_Integer_bitCount_25 : decode (km_c mm_Integer_bitCount) 25 = .ok (.iload_n 0, 1) := by decide +kernel
theorem sq_Integer_bitCount_25 : rn G mm_Integer_bitCount 25 [some (.int x)] st S P ↔ rn G mm_Integer_bitCount 26 [some (.int x)] (.int x :: st) S P := rn_s dq_Integer_bitCount_25 rfl rfl rfl
theorem dq_Integer_bitCount_26 : decode (km_c mm_Integer_bitCount) 26 = .ok (.iconst 4, 1) := by decide +kernel
theorem sq_Integer_bitCount_26 : rn G mm_Integer_bitCount 26 lv st S P ↔ rn G mm_Integer_bitCount 27 lv (.int (nI 4) :: st) S P := rn_s dq_Integer_bitCount_26 rfl rfl rfl
theorem dq_Integer_bitCount_27 : decode (km_c mm_Integer_bitCount) 27 = .ok (.iushr, 1) := by decide +kernel
theorem sq_Integer_bitCount_27 : rn G mm_Integer_bitCount 27 lv (.int x2 :: .int x :: st) S P ↔ rn G mm_Integer_bitCount 28 lv (.int ((x.toUInt32 >>> (x2.toUInt32 &&& Int32.toUInt32 31)).toInt32) :: st) S P := rn_s dq_Integer_bitCount_27 rfl rfl rfl
theorem dq_Integer_bitCount_28 : decode (km_c mm_Integer_bitCount) 28 = .ok (.iadd, 1) := by decide +kernel
theorem sq_Integer_bitCount_28 : rn G mm_Integer_bitCount 28 lv (.int x2 :: .int x :: st) S P ↔ rn G mm_Integer_bitCount 29 lv (.int (x + x2) :: st) S P := rn_s dq_Integer_bitCount_28 rfl rfl rfl
theorem dq_Integer_bitCount_29 : decode (km_c mm_Integer_bitCount) 29 = .ok (.ldc_w 267, 3) := by decide +kernel
theorem sq_Integer_bitCount_29 : rn G mm_Integer_bitCount 29 lv st S P ↔ rn G mm_Integer_bitCount 32 lv (.int (nI 252645135) :: st) S P := rn_s dq_Integer_bitCount_29 rfl rfl rfl
theorem dq_Integer_bitCount_32 : decode (km_c mm_Integer_bitCount) 32 = .ok (.iand, 1) := by decide +kernel
theorem sq_Integer_bitCount_32 : rn G mm_Integer_bitCount 32 lv (.int x2 :: .int x :: st) S P ↔ rn G mm_Integer_bitCount 33 lv (.int (x &&& x2) :: st) S P := rn_s dq_Integer_bitCount_32 rfl rfl rfl
theorem dq_Integer_bitCount_33 : decode (km_c mm_Integer_bitCount) 33 = .ok (.istore_n 0, 1) := by decide +kernel
theorem sq_Integer_bitCount_33 : rn G mm_Integer_bitCount 33 [a0] (.int x :: st) S P ↔ rn G mm_Integer_bitCount 34 [some (.int x)] st S P := rn_s dq_Integer_bitCount_33 rfl rfl rfl
theorem dq_Integer_bitCount_34 : decode (km_c mm_Integer_bitCount) 34 = .ok (.iload_n 0, 1) := by decide +kernel
theorem sq_Integer_bitCount_34 : rn G mm_Integer_bitCount 34 [some (.int x)] st S P ↔ rn G mm_Integer_bitCount 35 [some (.int x)] (.int x :: st) S P := rn_s dq_Integer_bitCount_34 rfl rfl rfl
theorem dq_Integer_bitCount_35 : decode (km_c mm_Integer_bitCount) 35 = .ok (.iload_n 0, 1) := by decide +kernel
theorem sq_Integer_bitCount_35 : rn G mm_Integer_bitCount 35 [some (.int x)] st S P ↔ rn G mm_Integer_bitCount 36 [some (.int x)] (.int x :: st) S P := rn_s dq_Integer_bitCount_35 rfl rfl rfl
theorem dq_Integer_bitCount_36 : decode (km_c mm_Integer_bitCount) 36 = .ok (.bipush 8, 2) := by decide +kernel
theorem sq_Integer_bitCount_36 : rn G mm_Integer_bitCount 36 lv st S P ↔ rn G mm_Integer_bitCount 38 lv (.int (nI 8) :: st) S P := rn_s dq_Integer_bitCount_36 rfl rfl rfl
theorem dq_Integer_bitCount_38 : decode (km_c mm_Integer_bitCount) 38 = .ok (.iushr, 1) := by decide +kernel
theorem sq_Integer_bitCount_38 : rn G mm_Integer_bitCount 38 lv (.int x2 :: .int x :: st) S P ↔ rn G mm_Integer_bitCount 39 lv (.int ((x.toUInt32 >>> (x2.toUInt32 &&& Int32.toUInt32 31)).toInt32) :: st) S P := rn_s dq_Integer_bitCount_38 rfl rfl rfl
theorem dq_Integer_bitCount_39 : decode (km_c mm_Integer_bitCount) 39 = .ok (.iadd, 1) := by decide +kernel
theorem sq_Integer_bitCount_39 : rn G mm_Integer_bitCount 39 lv (.int x2 :: .int x :: st) S P ↔ rn G mm_Integer_bitCount 40 lv (.int (x + x2) :: st) S P := rn_s dq_Integer_bitCount_39 rfl rfl rfl
theorem dq_Integer_bitCount_40 : decode (km_c mm_Integer_bitCount) 40 = .ok (.istore_n 0, 1) := by decide +kernel
theorem sq_Integer_bitCount_40 : rn G mm_Integer_bitCount 40 [a0] (.int x :: st) S P ↔ rn G mm_Integer_bitCount 41 [some (.int x)] st S P := rn_s dq_Integer_bitCount_40 rfl rfl rfl
theorem dq_Integer_bitCount_41 : decode (km_c mm_Integer_bitCount) 41 = .ok (.iload_n 0, 1) := by decide +kernel
theorem sq_Integer_bitCount_41 : rn G mm_Integer_bitCount 41 [some (.int x)] st S P ↔ rn G mm_Integer_bitCount 42 [some (.int x)] (.int x :: st) S P := rn_s dq_Integer_bitCount_41 rfl rfl rfl
theorem dq_Integer_bitCount_42 : decode (km_c mm_Integer_bitCount) 42 = .ok (.iload_n 0, 1) := by decide +kernel
theorem sq_Integer_bitCount_42 : rn G mm_Integer_bitCount 42 [some (.int x)] st S P ↔ rn G mm_Integer_bitCount 43 [some (.int x)] (.int x :: st) S P := rn_s dq_Integer_bitCount_42 rfl rfl rfl
theorem dq_Integer_bitCount_43 : decode (km_c mm_Integer_bitCount) 43 = .ok (.bipush 16, 2) := by decide +kernel
theorem sq_Integer_bitCount_43 : rn G mm_Integer_bitCount 43 lv st S P ↔ rn G mm_Integer_bitCount 45 lv (.int (nI 16) :: st) S P := rn_s dq_Integer_bitCount_43 rfl rfl rfl
theorem dq_Integer_bitCount_45 : decode (km_c mm_Integer_bitCount) 45 = .ok (.iushr, 1) := by decide +kernel
theorem sq_Integer_bitCount_45 : rn G mm_Integer_bitCount 45 lv (.int x2 :: .int x :: st) S P ↔ rn G mm_Integer_bitCount 46 lv (.int ((x.toUInt32 >>> (x2.toUInt32 &&& Int32.toUInt32 31)).toInt32) :: st) S P := rn_s dq_Integer_bitCount_45 rfl rfl rfl
theorem dq_Integer_bitCount_46 : decode (km_c mm_Integer_bitCount) 46 = .ok (.iadd, 1) := by decide +kernel
theorem sq_Integer_bitCount_46 : rn G mm_Integer_bitCount 46 lv (.int x2 :: .int x :: st) S P ↔ rn G mm_Integer_bitCount 47 lv (.int (x + x2) :: st) S P := rn_s dq_Integer_bitCount_46 rfl rfl rfl
theorem dq_Integer_bitCount_47 : decode (km_c mm_Integer_bitCount) 47 = .ok (.istore_n 0, 1) := by decide +kernel
theorem sq_Integer_bitCount_47 : rn G mm_Integer_bitCount 47 [a0] (.int x :: st) S P ↔ rn G mm_Integer_bitCount 48 [some (.int x)] st S P := rn_s dq_Integer_bitCount_47 rfl rfl rfl
theorem dq_Integer_bitCount_48 : decode (km_c mm_Integer_bitCount) 48 = .ok (.iload_n 0, 1) := by decide +kernel
theorem sq_Integer_bitCount_48 : rn G mm_Integer_bitCount 48 [some (.int x)] st S P ↔ rn G mm_Integer_bitCount 49 [some (.int x)] (.int x :: st) S P := rn_s dq_Integer_bitCount_48 rfl rfl rfl
theorem dq_Integer_bitCount_49 : decode (km_c mm_Integer_bitCount) 49 = .ok (.bipush 63, 2) := by decide +kernel
theorem sq_Integer_bitCount_49 : rn G mm_Integer_bitCount 49 lv st S P ↔ rn G mm_Integer_bitCount 51 lv (.int (nI 63) :: st) S P := rn_s dq_Integer_bitCount_49 rfl rfl rfl
theorem dq_Integer_bitCount_51 : decode (km_c mm_Integer_bitCount) 51 = .ok (.iand, 1) := by decide +kernel
theorem sq_Integer_bitCount_51 : rn G mm_Integer_bitCount 51 lv (.int x2 :: .int x :: st) S P ↔ rn G mm_Integer_bitCount 52 lv (.int (x &&& x2) :: st) S P := rn_s dq_Integer_bitCount_51 rfl rfl rfl
theorem dq_Integer_bitCount_52 : decode (km_c mm_Integer_bitCount) 52 = .ok (.ireturn, 1) := by decide +kernel
theorem sq_Integer_bitCount_52 : rn G mm_Integer_bitCount 52 lv [.int x] S P ↔ P (some (.int x)) S := rn_ir dq_Integer_bitCount_52 rfl
theorem dq_Arrays_fill_0 : decode (km_c mm_Arrays_fill) 0 = .ok (.iconst 0, 1) := by decide +kernel
theorem sq_Arrays_fill_0 : rn G mm_Arrays_fill 0 lv st S P ↔ rn G mm_Arrays_fill 1 lv (.int (nI 0) :: st) S P := rn_s dq_Arrays_fill_0 rfl rfl rfl
theorem dq_Arrays_fill_1 : decode (km_c mm_Arrays_fill) 1 = .ok (.istore_n 2, 1) := by decide +kernel
theorem sq_Arrays_fill_1n : rn G mm_Arrays_fill 1 [a0, none, a2, a3] (.int x :: st) S P ↔ rn G mm_Arrays_fill 2 [a0, none, some (.int x), a3] st S P := rn_s dq_Arrays_fill_1 rfl rfl rfl
theorem sq_Arrays_fill_1i : rn G mm_Arrays_fill 1 [a0, some (.int x2), a2, a3] (.int x :: st) S P ↔ rn G mm_Arrays_fill 2 [a0, some (.int x2), some (.int x), a3] st S P := rn_s dq_Arrays_fill_1 rfl rfl rfl
theorem sq_Arrays_fill_1r : rn G mm_Arrays_fill 1 [a0, some (.ref z2), a2, a3] (.int x :: st) S P ↔ rn G mm_Arrays_fill 2 [a0, some (.ref z2), some (.int x), a3] st S P := rn_s dq_Arrays_fill_1 rfl rfl rfl
theorem dq_Arrays_fill_2 : decode (km_c mm_Arrays_fill) 2 = .ok (.aload_n 0, 1) := by decide +kernel
theorem sq_Arrays_fill_2 : rn G mm_Arrays_fill 2 [some (.ref z), a1, a2, a3] st S P ↔ rn G mm_Arrays_fill 3 [some (.ref z), a1, a2, a3] (.ref z :: st) S P := rn_s dq_Arrays_fill_2 rfl rfl rfl
theorem dq_Arrays_fill_3 : decode (km_c mm_Arrays_fill) 3 = .ok (.arraylength, 1) := by decide +kernel
theorem sq_Arrays_fill_3 (ho : sx_o o pl kp) (hk : ak L a = 0) (hu : sx_up pl kp a = true ∨ 1000 ≤ a) : rn (lt_G o L) mm_Arrays_fill 3 lv (.ref a :: st) (sx pl kp I A) P ↔ rn (lt_G o L) mm_Arrays_fill 4 lv (.int (nI (ln L a)) :: st) (sx pl kp I A) P := rx_len dq_Arrays_fill_3 ho hk hu
theorem dq_Arrays_fill_4 : decode (km_c mm_Arrays_fill) 4 = .ok (.istore_n 3, 1) := by decide +kernel
theorem sq_Arrays_fill_4n : rn G mm_Arrays_fill 4 [a0, a1, none, a3] (.int x :: st) S P ↔ rn G mm_Arrays_fill 5 [a0, a1, none, some (.int x)] st S P := rn_s dq_Arrays_fill_4 rfl rfl rfl
theorem sq_Arrays_fill_4i : rn G mm_Arrays_fill 4 [a0, a1, some (.int x2), a3] (.int x :: st) S P ↔ rn G mm_Arrays_fill 5 [a0, a1, some (.int x2), some (.int x)] st S P := rn_s dq_Arrays_fill_4 rfl rfl rfl
theorem sq_Arrays_fill_4r : rn G mm_Arrays_fill 4 [a0, a1, some (.ref z2), a3] (.int x :: st) S P ↔ rn G mm_Arrays_fill 5 [a0, a1, some (.ref z2), some (.int x)] st S P := rn_s dq_Arrays_fill_4 rfl rfl rfl
theorem dq_Arrays_fill_5 : decode (km_c mm_Arrays_fill) 5 = .ok (.iload_n 2, 1) := by decide +kernel
theorem sq_Arrays_fill_5 : rn G mm_Arrays_fill 5 [a0, a1, some (.int x), a3] st S P ↔ rn G mm_Arrays_fill 6 [a0, a1, some (.int x), a3] (.int x :: st) S P := rn_s dq_Arrays_fill_5 rfl rfl rfl
theorem dq_Arrays_fill_6 : decode (km_c mm_Arrays_fill) 6 = .ok (.iload_n 3, 1) := by decide +kernel
theorem sq_Arrays_fill_6 : rn G mm_Arrays_fill 6 [a0, a1, a2, some (.int x)] st S P ↔ rn G mm_Arrays_fill 7 [a0, a1, a2, some (.int x)] (.int x :: st) S P := rn_s dq_Arrays_fill_6 rfl rfl rfl
theorem dq_Arrays_fill_7 : decode (km_c mm_Arrays_fill) 7 = .ok (.if_icmp .ge 13, 3) := by decide +kernel
theorem sq_Arrays_fill_7 : rn G mm_Arrays_fill 7 lv (.int x2 :: .int x :: st) S P ↔ ((x2 ≤ x → rn G mm_Arrays_fill 20 lv st S P) ∧ (¬ (x2 ≤ x) → rn G mm_Arrays_fill 10 lv st S P)) := rn_b (off := 13) dq_Arrays_fill_7 rfl rfl rfl rfl
theorem dq_Arrays_fill_10 : decode (km_c mm_Arrays_fill) 10 = .ok (.aload_n 0, 1) := by decide +kernel
theorem sq_Arrays_fill_10 : rn G mm_Arrays_fill 10 [some (.ref z), a1, a2, a3] st S P ↔ rn G mm_Arrays_fill 11 [some (.ref z), a1, a2, a3] (.ref z :: st) S P := rn_s dq_Arrays_fill_10 rfl rfl rfl
theorem dq_Arrays_fill_11 : decode (km_c mm_Arrays_fill) 11 = .ok (.iload_n 2, 1) := by decide +kernel
theorem sq_Arrays_fill_11 : rn G mm_Arrays_fill 11 [a0, a1, some (.int x), a3] st S P ↔ rn G mm_Arrays_fill 12 [a0, a1, some (.int x), a3] (.int x :: st) S P := rn_s dq_Arrays_fill_11 rfl rfl rfl
theorem dq_Arrays_fill_12 : decode (km_c mm_Arrays_fill) 12 = .ok (.iload_n 1, 1) := by decide +kernel
theorem sq_Arrays_fill_12 : rn G mm_Arrays_fill 12 [a0, some (.int x), a2, a3] st S P ↔ rn G mm_Arrays_fill 13 [a0, some (.int x), a2, a3] (.int x :: st) S P := rn_s dq_Arrays_fill_12 rfl rfl rfl
theorem dq_Arrays_fill_13 : decode (km_c mm_Arrays_fill) 13 = .ok (.iastore, 1) := by decide +kernel
theorem sq_Arrays_fill_13 (ho : sx_o o pl kp) (hk : ak L a = 0) (hu : sx_up pl kp a = true) (hc : c < ln L a) (hn : ln L a < 2 ^ 31) : rn (lt_G o L) mm_Arrays_fill 13 lv (.int x :: .int (nI c) :: .ref a :: st) (sx pl kp I A) P ↔ rn (lt_G o L) mm_Arrays_fill 14 lv st (sx pl kp I (u2 A a c x)) P := rx_ist dq_Arrays_fill_13 ho hk hu hc hn
theorem dq_Arrays_fill_14 : decode (km_c mm_Arrays_fill) 14 = .ok (.iinc 2 1, 3) := by decide +kernel
theorem sq_Arrays_fill_14n : rn G mm_Arrays_fill 14 [a0, none, some (.int x), a3] st S P ↔ rn G mm_Arrays_fill 17 [a0, none, some (.int (x + nI 1)), a3] st S P := rn_s dq_Arrays_fill_14 rfl rfl rfl
theorem sq_Arrays_fill_14i : rn G mm_Arrays_fill 14 [a0, some (.int x2), some (.int x), a3] st S P ↔ rn G mm_Arrays_fill 17 [a0, some (.int x2), some (.int (x + nI 1)), a3] st S P := rn_s dq_Arrays_fill_14 rfl rfl rfl
theorem sq_Arrays_fill_14r : rn G mm_Arrays_fill 14 [a0, some (.ref z2), some (.int x), a3] st S P ↔ rn G mm_Arrays_fill 17 [a0, some (.ref z2), some (.int (x + nI 1)), a3] st S P := rn_s dq_Arrays_fill_14 rfl rfl rfl
theorem dq_Arrays_fill_17 : decode (km_c mm_Arrays_fill) 17 = .ok (.goto (-12), 3) := by decide +kernel
theorem sq_Arrays_fill_17 : rn G mm_Arrays_fill 17 lv st S P ↔ rn G mm_Arrays_fill 5 lv st S P := rn_s dq_Arrays_fill_17 rfl rfl rfl
theorem dq_Arrays_fill_20 : decode (km_c mm_Arrays_fill) 20 = .ok (.return_, 1) := by decide +kernel
theorem sq_Arrays_fill_20 : rn G mm_Arrays_fill 20 lv [] S P ↔ P none S := rn_vr dq_Arrays_fill_20 rfl
end SQ
