section SQ
variable {o pl kp : Bool} {L : Nat} {I A : Nat → Nat → Int32} {G : kg_G} {S : ks_S} {lv : List (Option Value)} {st : List Value} {P : Option Value → ks_S → Prop} {x x2 : Int32} {y y2 : Int64} {z z2 c a : Nat} {a0 a1 a2 a3 a4 a5 a6 a7 a8 a9 a10 a11 a12 a13 a14 a15 a16 a17 a18 a19 a20 a21 a22 a23 : Option Value}
theorem dq_Tape_canStand_0 : decode (km_c mm_Tape_canStand) 0 = .ok (.iconst 0, 1) := by decide +kernel
theorem sq_Tape_canStand_0 : rn G mm_Tape_canStand 0 lv st S P ↔ rn G mm_Tape_canStand 1 lv (.int (nI 0) :: st) S P := rn_s dq_Tape_canStand_0 rfl rfl rfl
theorem dq_Tape_canStand_1 : decode (km_c mm_Tape_canStand) 1 = .ok (.istore_n 3, 1) := by decide +kernel
theorem sq_Tape_canStand_1n : rn G mm_Tape_canStand 1 [a0, a1, none, a3] (.int x :: st) S P ↔ rn G mm_Tape_canStand 2 [a0, a1, none, some (.int x)] st S P := rn_s dq_Tape_canStand_1 rfl rfl rfl
theorem sq_Tape_canStand_1i : rn G mm_Tape_canStand 1 [a0, a1, some (.int x2), a3] (.int x :: st) S P ↔ rn G mm_Tape_canStand 2 [a0, a1, some (.int x2), some (.int x)] st S P := rn_s dq_Tape_canStand_1 rfl rfl rfl
theorem sq_Tape_canStand_1r : rn G mm_Tape_canStand 1 [a0, a1, some (.ref z2), a3] (.int x :: st) S P ↔ rn G mm_Tape_canStand 2 [a0, a1, some (.ref z2), some (.int x)] st S P := rn_s dq_Tape_canStand_1 rfl rfl rfl
theorem sq_Tape_canStand_1l : rn G mm_Tape_canStand 1 [a0, a1, some (.long y2), a3] (.int x :: st) S P ↔ rn G mm_Tape_canStand 2 [a0, a1, none, some (.int x)] st S P := rn_s dq_Tape_canStand_1 rfl rfl rfl
theorem dq_Tape_canStand_2 : decode (km_c mm_Tape_canStand) 2 = .ok (.iload_n 3, 1) := by decide +kernel
theorem sq_Tape_canStand_2 : rn G mm_Tape_canStand 2 [a0, a1, a2, some (.int x)] st S P ↔ rn G mm_Tape_canStand 3 [a0, a1, a2, some (.int x)] (.int x :: st) S P := rn_s dq_Tape_canStand_2 rfl rfl rfl
theorem dq_Tape_canStand_3 : decode (km_c mm_Tape_canStand) 3 = .ok (.iload_n 2, 1) := by decide +kernel
theorem sq_Tape_canStand_3 : rn G mm_Tape_canStand 3 [a0, a1, some (.int x), a3] st S P ↔ rn G mm_Tape_canStand 4 [a0, a1, some (.int x), a3] (.int x :: st) S P := rn_s dq_Tape_canStand_3 rfl rfl rfl
theorem dq_Tape_canStand_4 : decode (km_c mm_Tape_canStand) 4 = .ok (.if_icmp .ge 32, 3) := by decide +kernel
theorem sq_Tape_canStand_4 : rn G mm_Tape_canStand 4 lv (.int x2 :: .int x :: st) S P ↔ ((x2 ≤ x → rn G mm_Tape_canStand 36 lv st S P) ∧ (¬ (x2 ≤ x) → rn G mm_Tape_canStand 7 lv st S P)) := rn_b (off := 32) dq_Tape_canStand_4 rfl rfl rfl rfl
theorem dq_Tape_canStand_7 : decode (km_c mm_Tape_canStand) 7 = .ok (.lload_n 0, 1) := by decide +kernel
theorem sq_Tape_canStand_7 : rn G mm_Tape_canStand 7 [some (.long y), a1, a2, a3] st S P ↔ rn G mm_Tape_canStand 8 [some (.long y), a1, a2, a3] (.long y :: st) S P := rn_s dq_Tape_canStand_7 rfl rfl rfl
theorem dq_Tape_canStand_8 : decode (km_c mm_Tape_canStand) 8 = .ok (.bipush 8, 2) := by decide +kernel
theorem sq_Tape_canStand_8 : rn G mm_Tape_canStand 8 lv st S P ↔ rn G mm_Tape_canStand 10 lv (.int (nI 8) :: st) S P := rn_s dq_Tape_canStand_8 rfl rfl rfl
theorem dq_Tape_canStand_10 : decode (km_c mm_Tape_canStand) 10 = .ok (.iload_n 3, 1) := by decide +kernel
theorem sq_Tape_canStand_10 : rn G mm_Tape_canStand 10 [a0, a1, a2, some (.int x)] st S P ↔ rn G mm_Tape_canStand 11 [a0, a1, a2, some (.int x)] (.int x :: st) S P := rn_s dq_Tape_canStand_10 rfl rfl rfl
theorem dq_Tape_canStand_11 : decode (km_c mm_Tape_canStand) 11 = .ok (.imul, 1) := by decide +kernel
theorem sq_Tape_canStand_11 : rn G mm_Tape_canStand 11 lv (.int x2 :: .int x :: st) S P ↔ rn G mm_Tape_canStand 12 lv (.int (x * x2) :: st) S P := rn_s dq_Tape_canStand_11 rfl rfl rfl
theorem dq_Tape_canStand_12 : decode (km_c mm_Tape_canStand) 12 = .ok (.lshr, 1) := by decide +kernel
theorem sq_Tape_canStand_12 : rn G mm_Tape_canStand 12 lv (.int x :: .long y :: st) S P ↔ rn G mm_Tape_canStand 13 lv (.long (y >>> (x.toInt64 &&& 63)) :: st) S P := rn_s dq_Tape_canStand_12 rfl rfl rfl
theorem dq_Tape_canStand_13 : decode (km_c mm_Tape_canStand) 13 = .ok (.ldc2_w 22, 3) := by decide +kernel
theorem sq_Tape_canStand_13 : rn G mm_Tape_canStand 13 lv st S P ↔ rn G mm_Tape_canStand 16 lv (.long (255) :: st) S P := rn_s dq_Tape_canStand_13 rfl rfl rfl
theorem dq_Tape_canStand_16 : decode (km_c mm_Tape_canStand) 16 = .ok (.land, 1) := by decide +kernel
theorem sq_Tape_canStand_16 : rn G mm_Tape_canStand 16 lv (.long y2 :: .long y :: st) S P ↔ rn G mm_Tape_canStand 17 lv (.long (y &&& y2) :: st) S P := rn_s dq_Tape_canStand_16 rfl rfl rfl
theorem dq_Tape_canStand_17 : decode (km_c mm_Tape_canStand) 17 = .ok (.l2i, 1) := by decide +kernel
theorem sq_Tape_canStand_17 : rn G mm_Tape_canStand 17 lv (.long y :: st) S P ↔ rn G mm_Tape_canStand 18 lv (.int y.toInt32 :: st) S P := rn_s dq_Tape_canStand_17 rfl rfl rfl
theorem dq_Tape_canStand_18 : decode (km_c mm_Tape_canStand) 18 = .ok (.bipush 32, 2) := by decide +kernel
theorem sq_Tape_canStand_18 : rn G mm_Tape_canStand 18 lv st S P ↔ rn G mm_Tape_canStand 20 lv (.int (nI 32) :: st) S P := rn_s dq_Tape_canStand_18 rfl rfl rfl
theorem dq_Tape_canStand_20 : decode (km_c mm_Tape_canStand) 20 = .ok (.bipush 126, 2) := by decide +kernel
theorem sq_Tape_canStand_20 : rn G mm_Tape_canStand 20 lv st S P ↔ rn G mm_Tape_canStand 22 lv (.int (nI 126) :: st) S P := rn_s dq_Tape_canStand_20 rfl rfl rfl
theorem dq_Tape_canStand_22 : decode (km_c mm_Tape_canStand) 22 = .ok (.invokestatic 24, 3) := by decide +kernel
theorem sq_Tape_canStand_22 {x1 : Int32} {x2 : Int32} {x3 : Int32} {v : Option Value} {S2 : ks_S} (hc : ev G mm_Road_outside [.int x1, .int x2, .int x3] S v S2) (hst : kx_cat st ≤ 8) : rn G mm_Tape_canStand 22 lv (.int x3 :: .int x2 :: .int x1 :: st) S P ↔ rn G mm_Tape_canStand 25 lv (v.toList ++ st) S2 P := rn_cs (k := 1) (host := "DeltaRoad") (E' := mm_Road_outside) dq_Tape_canStand_22 (by decide) (by decide) rfl (ok_v rfl (by decide) (by decide) (Nat.le_add_left _ _) hst (Nat.le_of_ble_eq_true rfl) (Or.inl rfl)) rfl rfl hc
theorem dq_Tape_canStand_25 : decode (km_c mm_Tape_canStand) 25 = .ok (.ifCond .eq 5, 3) := by decide +kernel
theorem sq_Tape_canStand_25 : rn G mm_Tape_canStand 25 lv (.int x :: st) S P ↔ ((x = 0 → rn G mm_Tape_canStand 30 lv st S P) ∧ (¬ (x = 0) → rn G mm_Tape_canStand 28 lv st S P)) := rn_b (off := 5) dq_Tape_canStand_25 rfl rfl rfl rfl
theorem dq_Tape_canStand_28 : decode (km_c mm_Tape_canStand) 28 = .ok (.iconst 0, 1) := by decide +kernel
theorem sq_Tape_canStand_28 : rn G mm_Tape_canStand 28 lv st S P ↔ rn G mm_Tape_canStand 29 lv (.int (nI 0) :: st) S P := rn_s dq_Tape_canStand_28 rfl rfl rfl
theorem dq_Tape_canStand_29 : decode (km_c mm_Tape_canStand) 29 = .ok (.ireturn, 1) := by decide +kernel
theorem sq_Tape_canStand_29_0 : rn G mm_Tape_canStand 29 lv [.int (nI 0)] S P ↔ P (some (.int (nI 0))) S := rn_ir dq_Tape_canStand_29 (by decide)
theorem sq_Tape_canStand_29_1 : rn G mm_Tape_canStand 29 lv [.int (nI 1)] S P ↔ P (some (.int (nI 1))) S := rn_ir dq_Tape_canStand_29 (by decide)
theorem dq_Tape_canStand_30 : decode (km_c mm_Tape_canStand) 30 = .ok (.iinc 3 1, 3) := by decide +kernel
theorem sq_Tape_canStand_30n : rn G mm_Tape_canStand 30 [a0, a1, none, some (.int x)] st S P ↔ rn G mm_Tape_canStand 33 [a0, a1, none, some (.int (x + nI 1))] st S P := rn_s dq_Tape_canStand_30 rfl rfl rfl
theorem sq_Tape_canStand_30i : rn G mm_Tape_canStand 30 [a0, a1, some (.int x2), some (.int x)] st S P ↔ rn G mm_Tape_canStand 33 [a0, a1, some (.int x2), some (.int (x + nI 1))] st S P := rn_s dq_Tape_canStand_30 rfl rfl rfl
theorem sq_Tape_canStand_30r : rn G mm_Tape_canStand 30 [a0, a1, some (.ref z2), some (.int x)] st S P ↔ rn G mm_Tape_canStand 33 [a0, a1, some (.ref z2), some (.int (x + nI 1))] st S P := rn_s dq_Tape_canStand_30 rfl rfl rfl
theorem sq_Tape_canStand_30l : rn G mm_Tape_canStand 30 [a0, a1, some (.long y2), some (.int x)] st S P ↔ rn G mm_Tape_canStand 33 [a0, a1, none, some (.int (x + nI 1))] st S P := rn_s dq_Tape_canStand_30 rfl rfl rfl
theorem dq_Tape_canStand_33 : decode (km_c mm_Tape_canStand) 33 = .ok (.goto (-31), 3) := by decide +kernel
theorem sq_Tape_canStand_33 : rn G mm_Tape_canStand 33 lv st S P ↔ rn G mm_Tape_canStand 2 lv st S P := rn_s dq_Tape_canStand_33 rfl rfl rfl
theorem dq_Tape_canStand_36 : decode (km_c mm_Tape_canStand) 36 = .ok (.iconst 1, 1) := by decide +kernel
theorem sq_Tape_canStand_36 : rn G mm_Tape_canStand 36 lv st S P ↔ rn G mm_Tape_canStand 37 lv (.int (nI 1) :: st) S P := rn_s dq_Tape_canStand_36 rfl rfl rfl
theorem dq_Tape_canStand_37 : decode (km_c mm_Tape_canStand) 37 = .ok (.ireturn, 1) := by decide +kernel
theorem sq_Tape_canStand_37_0 : rn G mm_Tape_canStand 37 lv [.int (nI 0)] S P ↔ P (some (.int (nI 0))) S := rn_ir dq_Tape_canStand_37 (by decide)
theorem sq_Tape_canStand_37_1 : rn G mm_Tape_canStand 37 lv [.int (nI 1)] S P ↔ P (some (.int (nI 1))) S := rn_ir dq_Tape_canStand_37 (by decide)
theorem dq_Tape_append_0 : decode (km_c mm_Tape_append) 0 = .ok (.iload_n 3, 1) := by decide +kernel
theorem sq_Tape_append_0 : rn G mm_Tape_append 0 [a0, a1, a2, some (.int x), a4] st S P ↔ rn G mm_Tape_append 1 [a0, a1, a2, some (.int x), a4] (.int x :: st) S P := rn_s dq_Tape_append_0 rfl rfl rfl
theorem dq_Tape_append_1 : decode (km_c mm_Tape_append) 1 = .ok (.iconst 1, 1) := by decide +kernel
theorem sq_Tape_append_1 : rn G mm_Tape_append 1 lv st S P ↔ rn G mm_Tape_append 2 lv (.int (nI 1) :: st) S P := rn_s dq_Tape_append_1 rfl rfl rfl
theorem dq_Tape_append_2 : decode (km_c mm_Tape_append) 2 = .ok (.isub, 1) := by decide +kernel
theorem sq_Tape_append_2 : rn G mm_Tape_append 2 lv (.int x2 :: .int x :: st) S P ↔ rn G mm_Tape_append 3 lv (.int (x - x2) :: st) S P := rn_s dq_Tape_append_2 rfl rfl rfl
theorem dq_Tape_append_3 : decode (km_c mm_Tape_append) 3 = .ok (.istore 4, 2) := by decide +kernel
theorem sq_Tape_append_3n : rn G mm_Tape_append 3 [a0, a1, a2, none, a4] (.int x :: st) S P ↔ rn G mm_Tape_append 5 [a0, a1, a2, none, some (.int x)] st S P := rn_s dq_Tape_append_3 rfl rfl rfl
theorem sq_Tape_append_3i : rn G mm_Tape_append 3 [a0, a1, a2, some (.int x2), a4] (.int x :: st) S P ↔ rn G mm_Tape_append 5 [a0, a1, a2, some (.int x2), some (.int x)] st S P := rn_s dq_Tape_append_3 rfl rfl rfl
theorem sq_Tape_append_3r : rn G mm_Tape_append 3 [a0, a1, a2, some (.ref z2), a4] (.int x :: st) S P ↔ rn G mm_Tape_append 5 [a0, a1, a2, some (.ref z2), some (.int x)] st S P := rn_s dq_Tape_append_3 rfl rfl rfl
theorem sq_Tape_append_3l : rn G mm_Tape_append 3 [a0, a1, a2, some (.long y2), a4] (.int x :: st) S P ↔ rn G mm_Tape_append 5 [a0, a1, a2, none, some (.int x)] st S P := rn_s dq_Tape_append_3 rfl rfl rfl
theorem dq_Tape_append_5 : decode (km_c mm_Tape_append) 5 = .ok (.iload 4, 2) := by decide +kernel
theorem sq_Tape_append_5 : rn G mm_Tape_append 5 [a0, a1, a2, a3, some (.int x)] st S P ↔ rn G mm_Tape_append 7 [a0, a1, a2, a3, some (.int x)] (.int x :: st) S P := rn_s dq_Tape_append_5 rfl rfl rfl
theorem dq_Tape_append_7 : decode (km_c mm_Tape_append) 7 = .ok (.ifCond .lt 47, 3) := by decide +kernel
theorem sq_Tape_append_7 : rn G mm_Tape_append 7 lv (.int x :: st) S P ↔ ((x < 0 → rn G mm_Tape_append 54 lv st S P) ∧ (¬ (x < 0) → rn G mm_Tape_append 10 lv st S P)) := rn_b (off := 47) dq_Tape_append_7 rfl rfl rfl rfl
theorem dq_Tape_append_10 : decode (km_c mm_Tape_append) 10 = .ok (.aload_n 0, 1) := by decide +kernel
theorem sq_Tape_append_10 : rn G mm_Tape_append 10 [some (.ref z), a1, a2, a3, a4] st S P ↔ rn G mm_Tape_append 11 [some (.ref z), a1, a2, a3, a4] (.ref z :: st) S P := rn_s dq_Tape_append_10 rfl rfl rfl
theorem dq_Tape_append_11 : decode (km_c mm_Tape_append) 11 = .ok (.getfield 15, 3) := by decide +kernel
theorem sq_Tape_append_11_24 (ho : sx_o o pl kp) : rn (lt_G o L) mm_Tape_append 11 lv (.ref 24 :: st) (sx pl kp I A) P ↔ rn (lt_G o L) mm_Tape_append 14 lv (.int (I 24 1) :: st) (sx pl kp I A) P := rx_get (h := "") (ci := 4) (k := 1) dq_Tape_append_11 (by decide +kernel) ho (up_b (by decide)) rfl rfl (fl_i (by decide))
theorem dq_Tape_append_14 : decode (km_c mm_Tape_append) 14 = .ok (.sipush 140, 3) := by decide +kernel
theorem sq_Tape_append_14 : rn G mm_Tape_append 14 lv st S P ↔ rn G mm_Tape_append 17 lv (.int (nI 140) :: st) S P := rn_s dq_Tape_append_14 rfl rfl rfl
theorem dq_Tape_append_17 : decode (km_c mm_Tape_append) 17 = .ok (.if_icmp .ge 37, 3) := by decide +kernel
theorem sq_Tape_append_17 : rn G mm_Tape_append 17 lv (.int x2 :: .int x :: st) S P ↔ ((x2 ≤ x → rn G mm_Tape_append 54 lv st S P) ∧ (¬ (x2 ≤ x) → rn G mm_Tape_append 20 lv st S P)) := rn_b (off := 37) dq_Tape_append_17 rfl rfl rfl rfl
theorem dq_Tape_append_20 : decode (km_c mm_Tape_append) 20 = .ok (.aload_n 0, 1) := by decide +kernel
theorem sq_Tape_append_20 : rn G mm_Tape_append 20 [some (.ref z), a1, a2, a3, a4] st S P ↔ rn G mm_Tape_append 21 [some (.ref z), a1, a2, a3, a4] (.ref z :: st) S P := rn_s dq_Tape_append_20 rfl rfl rfl
theorem dq_Tape_append_21 : decode (km_c mm_Tape_append) 21 = .ok (.getfield 9, 3) := by decide +kernel
theorem sq_Tape_append_21_24 (ho : sx_o o pl kp) : rn (lt_G o L) mm_Tape_append 21 lv (.ref 24 :: st) (sx pl kp I A) P ↔ rn (lt_G o L) mm_Tape_append 24 lv (.ref 25 :: st) (sx pl kp I A) P := rx_get (h := "") (ci := 4) (k := 0) dq_Tape_append_21 (by decide +kernel) ho (up_b (by decide)) rfl rfl (fl_r (by decide) (by decide) (by decide) (by decide))
theorem dq_Tape_append_24 : decode (km_c mm_Tape_append) 24 = .ok (.aload_n 0, 1) := by decide +kernel
theorem sq_Tape_append_24 : rn G mm_Tape_append 24 [some (.ref z), a1, a2, a3, a4] st S P ↔ rn G mm_Tape_append 25 [some (.ref z), a1, a2, a3, a4] (.ref z :: st) S P := rn_s dq_Tape_append_24 rfl rfl rfl
theorem dq_Tape_append_25 : decode (km_c mm_Tape_append) 25 = .ok (.getfield 15, 3) := by decide +kernel
theorem sq_Tape_append_25_24 (ho : sx_o o pl kp) : rn (lt_G o L) mm_Tape_append 25 lv (.ref 24 :: st) (sx pl kp I A) P ↔ rn (lt_G o L) mm_Tape_append 28 lv (.int (I 24 1) :: st) (sx pl kp I A) P := rx_get (h := "") (ci := 4) (k := 1) dq_Tape_append_25 (by decide +kernel) ho (up_b (by decide)) rfl rfl (fl_i (by decide))
theorem dq_Tape_append_28 : decode (km_c mm_Tape_append) 28 = .ok (.lload_n 1, 1) := by decide +kernel
theorem sq_Tape_append_28 : rn G mm_Tape_append 28 [a0, some (.long y), a2, a3, a4] st S P ↔ rn G mm_Tape_append 29 [a0, some (.long y), a2, a3, a4] (.long y :: st) S P := rn_s dq_Tape_append_28 rfl rfl rfl
theorem dq_Tape_append_29 : decode (km_c mm_Tape_append) 29 = .ok (.bipush 8, 2) := by decide +kernel
theorem sq_Tape_append_29 : rn G mm_Tape_append 29 lv st S P ↔ rn G mm_Tape_append 31 lv (.int (nI 8) :: st) S P := rn_s dq_Tape_append_29 rfl rfl rfl
theorem dq_Tape_append_31 : decode (km_c mm_Tape_append) 31 = .ok (.iload 4, 2) := by decide +kernel
theorem sq_Tape_append_31 : rn G mm_Tape_append 31 [a0, a1, a2, a3, some (.int x)] st S P ↔ rn G mm_Tape_append 33 [a0, a1, a2, a3, some (.int x)] (.int x :: st) S P := rn_s dq_Tape_append_31 rfl rfl rfl
theorem dq_Tape_append_33 : decode (km_c mm_Tape_append) 33 = .ok (.imul, 1) := by decide +kernel
theorem sq_Tape_append_33 : rn G mm_Tape_append 33 lv (.int x2 :: .int x :: st) S P ↔ rn G mm_Tape_append 34 lv (.int (x * x2) :: st) S P := rn_s dq_Tape_append_33 rfl rfl rfl
theorem dq_Tape_append_34 : decode (km_c mm_Tape_append) 34 = .ok (.lshr, 1) := by decide +kernel
theorem sq_Tape_append_34 : rn G mm_Tape_append 34 lv (.int x :: .long y :: st) S P ↔ rn G mm_Tape_append 35 lv (.long (y >>> (x.toInt64 &&& 63)) :: st) S P := rn_s dq_Tape_append_34 rfl rfl rfl
theorem dq_Tape_append_35 : decode (km_c mm_Tape_append) 35 = .ok (.l2i, 1) := by decide +kernel
theorem sq_Tape_append_35 : rn G mm_Tape_append 35 lv (.long y :: st) S P ↔ rn G mm_Tape_append 36 lv (.int y.toInt32 :: st) S P := rn_s dq_Tape_append_35 rfl rfl rfl
theorem dq_Tape_append_36 : decode (km_c mm_Tape_append) 36 = .ok (.i2b, 1) := by decide +kernel
theorem sq_Tape_append_36 : rn G mm_Tape_append 36 lv (.int x :: st) S P ↔ rn G mm_Tape_append 37 lv (.int x.toInt8.toInt32 :: st) S P := rn_s dq_Tape_append_36 rfl rfl rfl
theorem dq_Tape_append_37 : decode (km_c mm_Tape_append) 37 = .ok (.bastore, 1) := by decide +kernel
theorem sq_Tape_append_37 (ho : sx_o o pl kp) (hk : ak L a = 1 ∨ ak L a = 2) (hu : sx_up pl kp a = true) (hc : c < ln L a) (hn : ln L a < 2 ^ 31) : rn (lt_G o L) mm_Tape_append 37 lv (.int x :: .int (nI c) :: .ref a :: st) (sx pl kp I A) P ↔ rn (lt_G o L) mm_Tape_append 38 lv st (sx pl kp I (u2 A a c (vp_nar (kx_ty (ak L a)) x))) P := rx_bst dq_Tape_append_37 ho hk hu hc hn
theorem dq_Tape_append_38 : decode (km_c mm_Tape_append) 38 = .ok (.aload_n 0, 1) := by decide +kernel
theorem sq_Tape_append_38 : rn G mm_Tape_append 38 [some (.ref z), a1, a2, a3, a4] st S P ↔ rn G mm_Tape_append 39 [some (.ref z), a1, a2, a3, a4] (.ref z :: st) S P := rn_s dq_Tape_append_38 rfl rfl rfl
theorem dq_Tape_append_39 : decode (km_c mm_Tape_append) 39 = .ok (.dup, 1) := by decide +kernel
theorem sq_Tape_append_39i : rn G mm_Tape_append 39 lv (.int x :: st) S P ↔ rn G mm_Tape_append 40 lv (.int x :: .int x :: st) S P := rn_s dq_Tape_append_39 rfl rfl rfl
theorem sq_Tape_append_39r : rn G mm_Tape_append 39 lv (.ref z :: st) S P ↔ rn G mm_Tape_append 40 lv (.ref z :: .ref z :: st) S P := rn_s dq_Tape_append_39 rfl rfl rfl
theorem dq_Tape_append_40 : decode (km_c mm_Tape_append) 40 = .ok (.getfield 15, 3) := by decide +kernel
theorem sq_Tape_append_40_24 (ho : sx_o o pl kp) : rn (lt_G o L) mm_Tape_append 40 lv (.ref 24 :: st) (sx pl kp I A) P ↔ rn (lt_G o L) mm_Tape_append 43 lv (.int (I 24 1) :: st) (sx pl kp I A) P := rx_get (h := "") (ci := 4) (k := 1) dq_Tape_append_40 (by decide +kernel) ho (up_b (by decide)) rfl rfl (fl_i (by decide))
theorem dq_Tape_append_43 : decode (km_c mm_Tape_append) 43 = .ok (.iconst 1, 1) := by decide +kernel
theorem sq_Tape_append_43 : rn G mm_Tape_append 43 lv st S P ↔ rn G mm_Tape_append 44 lv (.int (nI 1) :: st) S P := rn_s dq_Tape_append_43 rfl rfl rfl
theorem dq_Tape_append_44 : decode (km_c mm_Tape_append) 44 = .ok (.iadd, 1) := by decide +kernel
theorem sq_Tape_append_44 : rn G mm_Tape_append 44 lv (.int x2 :: .int x :: st) S P ↔ rn G mm_Tape_append 45 lv (.int (x + x2) :: st) S P := rn_s dq_Tape_append_44 rfl rfl rfl
theorem dq_Tape_append_45 : decode (km_c mm_Tape_append) 45 = .ok (.putfield 15, 3) := by decide +kernel
theorem sq_Tape_append_45_24 (ho : sx_o o pl kp) : rn (lt_G o L) mm_Tape_append 45 lv (.int x :: .ref 24 :: st) (sx pl kp I A) P ↔ rn (lt_G o L) mm_Tape_append 48 lv st (sx pl kp (u2 I 24 1 x) A) P := rx_put (h := "") (ci := 4) (k := 1) dq_Tape_append_45 (by decide +kernel) ho (up_b (by decide)) rfl rfl (by decide) (by decide)
theorem dq_Tape_append_48 : decode (km_c mm_Tape_append) 48 = .ok (.iinc 4 (-1), 3) := by decide +kernel
theorem sq_Tape_append_48n : rn G mm_Tape_append 48 [a0, a1, a2, none, some (.int x)] st S P ↔ rn G mm_Tape_append 51 [a0, a1, a2, none, some (.int (x + (-1)))] st S P := rn_s dq_Tape_append_48 rfl rfl rfl
theorem sq_Tape_append_48i : rn G mm_Tape_append 48 [a0, a1, a2, some (.int x2), some (.int x)] st S P ↔ rn G mm_Tape_append 51 [a0, a1, a2, some (.int x2), some (.int (x + (-1)))] st S P := rn_s dq_Tape_append_48 rfl rfl rfl
theorem sq_Tape_append_48r : rn G mm_Tape_append 48 [a0, a1, a2, some (.ref z2), some (.int x)] st S P ↔ rn G mm_Tape_append 51 [a0, a1, a2, some (.ref z2), some (.int (x + (-1)))] st S P := rn_s dq_Tape_append_48 rfl rfl rfl
theorem sq_Tape_append_48l : rn G mm_Tape_append 48 [a0, a1, a2, some (.long y2), some (.int x)] st S P ↔ rn G mm_Tape_append 51 [a0, a1, a2, none, some (.int (x + (-1)))] st S P := rn_s dq_Tape_append_48 rfl rfl rfl
theorem dq_Tape_append_51 : decode (km_c mm_Tape_append) 51 = .ok (.goto (-46), 3) := by decide +kernel
theorem sq_Tape_append_51 : rn G mm_Tape_append 51 lv st S P ↔ rn G mm_Tape_append 5 lv st S P := rn_s dq_Tape_append_51 rfl rfl rfl
theorem dq_Tape_append_54 : decode (km_c mm_Tape_append) 54 = .ok (.return_, 1) := by decide +kernel
theorem sq_Tape_append_54 : rn G mm_Tape_append 54 lv [] S P ↔ P none S := rn_vr dq_Tape_append_54 rfl
theorem dq_Tape_readDelta_0 : decode (km_c mm_Tape_readDelta) 0 = .ok (.iconst 0, 1) := by decide +kernel
theorem sq_Tape_readDelta_0 : rn G mm_Tape_readDelta 0 lv st S P ↔ rn G mm_Tape_readDelta 1 lv (.int (nI 0) :: st) S P := rn_s dq_Tape_readDelta_0 rfl rfl rfl
theorem dq_Tape_readDelta_1 : decode (km_c mm_Tape_readDelta) 1 = .ok (.istore_n 2, 1) := by decide +kernel
theorem sq_Tape_readDelta_1n : rn G mm_Tape_readDelta 1 [a0, none, a2, a3, a4] (.int x :: st) S P ↔ rn G mm_Tape_readDelta 2 [a0, none, some (.int x), a3, a4] st S P := rn_s dq_Tape_readDelta_1 rfl rfl rfl
theorem sq_Tape_readDelta_1i : rn G mm_Tape_readDelta 1 [a0, some (.int x2), a2, a3, a4] (.int x :: st) S P ↔ rn G mm_Tape_readDelta 2 [a0, some (.int x2), some (.int x), a3, a4] st S P := rn_s dq_Tape_readDelta_1 rfl rfl rfl
theorem sq_Tape_readDelta_1r : rn G mm_Tape_readDelta 1 [a0, some (.ref z2), a2, a3, a4] (.int x :: st) S P ↔ rn G mm_Tape_readDelta 2 [a0, some (.ref z2), some (.int x), a3, a4] st S P := rn_s dq_Tape_readDelta_1 rfl rfl rfl
theorem dq_Tape_readDelta_2 : decode (km_c mm_Tape_readDelta) 2 = .ok (.iconst 0, 1) := by decide +kernel
theorem sq_Tape_readDelta_2 : rn G mm_Tape_readDelta 2 lv st S P ↔ rn G mm_Tape_readDelta 3 lv (.int (nI 0) :: st) S P := rn_s dq_Tape_readDelta_2 rfl rfl rfl
theorem dq_Tape_readDelta_3 : decode (km_c mm_Tape_readDelta) 3 = .ok (.istore_n 3, 1) := by decide +kernel
theorem sq_Tape_readDelta_3n : rn G mm_Tape_readDelta 3 [a0, a1, none, a3, a4] (.int x :: st) S P ↔ rn G mm_Tape_readDelta 4 [a0, a1, none, some (.int x), a4] st S P := rn_s dq_Tape_readDelta_3 rfl rfl rfl
theorem sq_Tape_readDelta_3i : rn G mm_Tape_readDelta 3 [a0, a1, some (.int x2), a3, a4] (.int x :: st) S P ↔ rn G mm_Tape_readDelta 4 [a0, a1, some (.int x2), some (.int x), a4] st S P := rn_s dq_Tape_readDelta_3 rfl rfl rfl
theorem sq_Tape_readDelta_3r : rn G mm_Tape_readDelta 3 [a0, a1, some (.ref z2), a3, a4] (.int x :: st) S P ↔ rn G mm_Tape_readDelta 4 [a0, a1, some (.ref z2), some (.int x), a4] st S P := rn_s dq_Tape_readDelta_3 rfl rfl rfl
theorem dq_Tape_readDelta_4 : decode (km_c mm_Tape_readDelta) 4 = .ok (.iload_n 3, 1) := by decide +kernel
theorem sq_Tape_readDelta_4 : rn G mm_Tape_readDelta 4 [a0, a1, a2, some (.int x), a4] st S P ↔ rn G mm_Tape_readDelta 5 [a0, a1, a2, some (.int x), a4] (.int x :: st) S P := rn_s dq_Tape_readDelta_4 rfl rfl rfl
theorem dq_Tape_readDelta_5 : decode (km_c mm_Tape_readDelta) 5 = .ok (.bipush 7, 2) := by decide +kernel
theorem sq_Tape_readDelta_5 : rn G mm_Tape_readDelta 5 lv st S P ↔ rn G mm_Tape_readDelta 7 lv (.int (nI 7) :: st) S P := rn_s dq_Tape_readDelta_5 rfl rfl rfl
theorem dq_Tape_readDelta_7 : decode (km_c mm_Tape_readDelta) 7 = .ok (.if_icmp .ge 62, 3) := by decide +kernel
theorem sq_Tape_readDelta_7 : rn G mm_Tape_readDelta 7 lv (.int x2 :: .int x :: st) S P ↔ ((x2 ≤ x → rn G mm_Tape_readDelta 69 lv st S P) ∧ (¬ (x2 ≤ x) → rn G mm_Tape_readDelta 10 lv st S P)) := rn_b (off := 62) dq_Tape_readDelta_7 rfl rfl rfl rfl
theorem dq_Tape_readDelta_10 : decode (km_c mm_Tape_readDelta) 10 = .ok (.iload_n 3, 1) := by decide +kernel
theorem sq_Tape_readDelta_10 : rn G mm_Tape_readDelta 10 [a0, a1, a2, some (.int x), a4] st S P ↔ rn G mm_Tape_readDelta 11 [a0, a1, a2, some (.int x), a4] (.int x :: st) S P := rn_s dq_Tape_readDelta_10 rfl rfl rfl
theorem dq_Tape_readDelta_11 : decode (km_c mm_Tape_readDelta) 11 = .ok (.ifCond .le 17, 3) := by decide +kernel
theorem sq_Tape_readDelta_11 : rn G mm_Tape_readDelta 11 lv (.int x :: st) S P ↔ ((x ≤ 0 → rn G mm_Tape_readDelta 28 lv st S P) ∧ (¬ (x ≤ 0) → rn G mm_Tape_readDelta 14 lv st S P)) := rn_b (off := 17) dq_Tape_readDelta_11 rfl rfl rfl rfl
theorem dq_Tape_readDelta_14 : decode (km_c mm_Tape_readDelta) 14 = .ok (.aload_n 0, 1) := by decide +kernel
theorem sq_Tape_readDelta_14 : rn G mm_Tape_readDelta 14 [some (.ref z), a1, a2, a3, a4] st S P ↔ rn G mm_Tape_readDelta 15 [some (.ref z), a1, a2, a3, a4] (.ref z :: st) S P := rn_s dq_Tape_readDelta_14 rfl rfl rfl
theorem dq_Tape_readDelta_15 : decode (km_c mm_Tape_readDelta) 15 = .ok (.bipush 47, 2) := by decide +kernel
theorem sq_Tape_readDelta_15 : rn G mm_Tape_readDelta 15 lv st S P ↔ rn G mm_Tape_readDelta 17 lv (.int (nI 47) :: st) S P := rn_s dq_Tape_readDelta_15 rfl rfl rfl
theorem dq_Tape_readDelta_17 : decode (km_c mm_Tape_readDelta) 17 = .ok (.invokevirtual 28, 3) := by decide +kernel
theorem sq_Tape_readDelta_17_24 {x1 : Int32} {v : Option Value} {S2 : ks_S} (hc : ev (lt_G o L) mm_Tape_take [.ref 24, .int x1] (sx pl kp I A) v S2) (ho : sx_o o pl kp) (hst : kx_cat st ≤ 8) : rn (lt_G o L) mm_Tape_readDelta 17 lv (.int x1 :: .ref 24 :: st) (sx pl kp I A) P ↔ rn (lt_G o L) mm_Tape_readDelta 20 lv (v.toList ++ st) S2 P := rn_cv (k := 0) (host := "") (E' := mm_Tape_take) dq_Tape_readDelta_17 rfl (ok_v rfl (by decide) (by decide) (Nat.le_add_left _ _) hst (Nat.le_of_ble_eq_true rfl) (Or.inr (rc_v ho (up_b (by decide)) rfl))) rfl rfl hc
theorem dq_Tape_readDelta_20 : decode (km_c mm_Tape_readDelta) 20 = .ok (.ifCond .ne 8, 3) := by decide +kernel
theorem sq_Tape_readDelta_20 : rn G mm_Tape_readDelta 20 lv (.int x :: st) S P ↔ ((¬ x = 0 → rn G mm_Tape_readDelta 28 lv st S P) ∧ (¬ (¬ x = 0) → rn G mm_Tape_readDelta 23 lv st S P)) := rn_b (off := 8) dq_Tape_readDelta_20 rfl rfl rfl rfl
theorem dq_Tape_readDelta_23 : decode (km_c mm_Tape_readDelta) 23 = .ok (.aload_n 0, 1) := by decide +kernel
theorem sq_Tape_readDelta_23 : rn G mm_Tape_readDelta 23 [some (.ref z), a1, a2, a3, a4] st S P ↔ rn G mm_Tape_readDelta 24 [some (.ref z), a1, a2, a3, a4] (.ref z :: st) S P := rn_s dq_Tape_readDelta_23 rfl rfl rfl
theorem dq_Tape_readDelta_24 : decode (km_c mm_Tape_readDelta) 24 = .ok (.invokevirtual 32, 3) := by decide +kernel
theorem sq_Tape_readDelta_24_24  {v : Option Value} {S2 : ks_S} (hc : ev (lt_G o L) mm_Tape_fault [.ref 24] (sx pl kp I A) v S2) (ho : sx_o o pl kp) (hst : kx_cat st ≤ 8) : rn (lt_G o L) mm_Tape_readDelta 24 lv (.ref 24 :: st) (sx pl kp I A) P ↔ rn (lt_G o L) mm_Tape_readDelta 27 lv (v.toList ++ st) S2 P := rn_cv (k := 0) (host := "") (E' := mm_Tape_fault) dq_Tape_readDelta_24 rfl (ok_v rfl (by decide) (by decide) (Nat.le_add_left _ _) hst (Nat.le_of_ble_eq_true rfl) (Or.inr (rc_v ho (up_b (by decide)) rfl))) rfl rfl hc
theorem dq_Tape_readDelta_27 : decode (km_c mm_Tape_readDelta) 27 = .ok (.ireturn, 1) := by decide +kernel
theorem sq_Tape_readDelta_27 : rn G mm_Tape_readDelta 27 lv [.int x] S P ↔ P (some (.int x)) S := rn_ir dq_Tape_readDelta_27 rfl
theorem dq_Tape_readDelta_28 : decode (km_c mm_Tape_readDelta) 28 = .ok (.aload_n 0, 1) := by decide +kernel
theorem sq_Tape_readDelta_28 : rn G mm_Tape_readDelta 28 [some (.ref z), a1, a2, a3, a4] st S P ↔ rn G mm_Tape_readDelta 29 [some (.ref z), a1, a2, a3, a4] (.ref z :: st) S P := rn_s dq_Tape_readDelta_28 rfl rfl rfl
theorem dq_Tape_readDelta_29 : decode (km_c mm_Tape_readDelta) 29 = .ok (.aload_n 1, 1) := by decide +kernel
theorem sq_Tape_readDelta_29 : rn G mm_Tape_readDelta 29 [a0, some (.ref z), a2, a3, a4] st S P ↔ rn G mm_Tape_readDelta 30 [a0, some (.ref z), a2, a3, a4] (.ref z :: st) S P := rn_s dq_Tape_readDelta_29 rfl rfl rfl
theorem dq_Tape_readDelta_30 : decode (km_c mm_Tape_readDelta) 30 = .ok (.bipush 7, 2) := by decide +kernel
theorem sq_Tape_readDelta_30 : rn G mm_Tape_readDelta 30 lv st S P ↔ rn G mm_Tape_readDelta 32 lv (.int (nI 7) :: st) S P := rn_s dq_Tape_readDelta_30 rfl rfl rfl
theorem dq_Tape_readDelta_32 : decode (km_c mm_Tape_readDelta) 32 = .ok (.iload_n 3, 1) := by decide +kernel
theorem sq_Tape_readDelta_32 : rn G mm_Tape_readDelta 32 [a0, a1, a2, some (.int x), a4] st S P ↔ rn G mm_Tape_readDelta 33 [a0, a1, a2, some (.int x), a4] (.int x :: st) S P := rn_s dq_Tape_readDelta_32 rfl rfl rfl
theorem dq_Tape_readDelta_33 : decode (km_c mm_Tape_readDelta) 33 = .ok (.imul, 1) := by decide +kernel
theorem sq_Tape_readDelta_33 : rn G mm_Tape_readDelta 33 lv (.int x2 :: .int x :: st) S P ↔ rn G mm_Tape_readDelta 34 lv (.int (x * x2) :: st) S P := rn_s dq_Tape_readDelta_33 rfl rfl rfl
theorem dq_Tape_readDelta_34 : decode (km_c mm_Tape_readDelta) 34 = .ok (.invokevirtual 36, 3) := by decide +kernel
theorem sq_Tape_readDelta_34_24 {z1 : Nat} {x2 : Int32} {v : Option Value} {S2 : ks_S} (hc : ev (lt_G o L) mm_Tape_readRow [.ref 24, .ref z1, .int x2] (sx pl kp I A) v S2) (ho : sx_o o pl kp) (hst : kx_cat st ≤ 8) : rn (lt_G o L) mm_Tape_readDelta 34 lv (.int x2 :: .ref z1 :: .ref 24 :: st) (sx pl kp I A) P ↔ rn (lt_G o L) mm_Tape_readDelta 37 lv (v.toList ++ st) S2 P := rn_cv (k := 0) (host := "") (E' := mm_Tape_readRow) dq_Tape_readDelta_34 rfl (ok_v rfl (by decide) (by decide) (Nat.le_add_left _ _) hst (Nat.le_of_ble_eq_true rfl) (Or.inr (rc_v ho (up_b (by decide)) rfl))) rfl rfl hc
theorem dq_Tape_readDelta_37 : decode (km_c mm_Tape_readDelta) 37 = .ok (.istore 4, 2) := by decide +kernel
theorem sq_Tape_readDelta_37n : rn G mm_Tape_readDelta 37 [a0, a1, a2, none, a4] (.int x :: st) S P ↔ rn G mm_Tape_readDelta 39 [a0, a1, a2, none, some (.int x)] st S P := rn_s dq_Tape_readDelta_37 rfl rfl rfl
theorem sq_Tape_readDelta_37i : rn G mm_Tape_readDelta 37 [a0, a1, a2, some (.int x2), a4] (.int x :: st) S P ↔ rn G mm_Tape_readDelta 39 [a0, a1, a2, some (.int x2), some (.int x)] st S P := rn_s dq_Tape_readDelta_37 rfl rfl rfl
theorem sq_Tape_readDelta_37r : rn G mm_Tape_readDelta 37 [a0, a1, a2, some (.ref z2), a4] (.int x :: st) S P ↔ rn G mm_Tape_readDelta 39 [a0, a1, a2, some (.ref z2), some (.int x)] st S P := rn_s dq_Tape_readDelta_37 rfl rfl rfl
theorem dq_Tape_readDelta_39 : decode (km_c mm_Tape_readDelta) 39 = .ok (.iload 4, 2) := by decide +kernel
theorem sq_Tape_readDelta_39 : rn G mm_Tape_readDelta 39 [a0, a1, a2, a3, some (.int x)] st S P ↔ rn G mm_Tape_readDelta 41 [a0, a1, a2, a3, some (.int x)] (.int x :: st) S P := rn_s dq_Tape_readDelta_39 rfl rfl rfl
theorem dq_Tape_readDelta_41 : decode (km_c mm_Tape_readDelta) 41 = .ok (.ifCond .ne 8, 3) := by decide +kernel
theorem sq_Tape_readDelta_41 : rn G mm_Tape_readDelta 41 lv (.int x :: st) S P ↔ ((¬ x = 0 → rn G mm_Tape_readDelta 49 lv st S P) ∧ (¬ (¬ x = 0) → rn G mm_Tape_readDelta 44 lv st S P)) := rn_b (off := 8) dq_Tape_readDelta_41 rfl rfl rfl rfl
theorem dq_Tape_readDelta_44 : decode (km_c mm_Tape_readDelta) 44 = .ok (.aload_n 0, 1) := by decide +kernel
theorem sq_Tape_readDelta_44 : rn G mm_Tape_readDelta 44 [some (.ref z), a1, a2, a3, a4] st S P ↔ rn G mm_Tape_readDelta 45 [some (.ref z), a1, a2, a3, a4] (.ref z :: st) S P := rn_s dq_Tape_readDelta_44 rfl rfl rfl
theorem dq_Tape_readDelta_45 : decode (km_c mm_Tape_readDelta) 45 = .ok (.invokevirtual 32, 3) := by decide +kernel
theorem sq_Tape_readDelta_45_24  {v : Option Value} {S2 : ks_S} (hc : ev (lt_G o L) mm_Tape_fault [.ref 24] (sx pl kp I A) v S2) (ho : sx_o o pl kp) (hst : kx_cat st ≤ 8) : rn (lt_G o L) mm_Tape_readDelta 45 lv (.ref 24 :: st) (sx pl kp I A) P ↔ rn (lt_G o L) mm_Tape_readDelta 48 lv (v.toList ++ st) S2 P := rn_cv (k := 0) (host := "") (E' := mm_Tape_fault) dq_Tape_readDelta_45 rfl (ok_v rfl (by decide) (by decide) (Nat.le_add_left _ _) hst (Nat.le_of_ble_eq_true rfl) (Or.inr (rc_v ho (up_b (by decide)) rfl))) rfl rfl hc
theorem dq_Tape_readDelta_48 : decode (km_c mm_Tape_readDelta) 48 = .ok (.ireturn, 1) := by decide +kernel
theorem sq_Tape_readDelta_48 : rn G mm_Tape_readDelta 48 lv [.int x] S P ↔ P (some (.int x)) S := rn_ir dq_Tape_readDelta_48 rfl
theorem dq_Tape_readDelta_49 : decode (km_c mm_Tape_readDelta) 49 = .ok (.iload_n 2, 1) := by decide +kernel
theorem sq_Tape_readDelta_49 : rn G mm_Tape_readDelta 49 [a0, a1, some (.int x), a3, a4] st S P ↔ rn G mm_Tape_readDelta 50 [a0, a1, some (.int x), a3, a4] (.int x :: st) S P := rn_s dq_Tape_readDelta_49 rfl rfl rfl
theorem dq_Tape_readDelta_50 : decode (km_c mm_Tape_readDelta) 50 = .ok (.iload 4, 2) := by decide +kernel
theorem sq_Tape_readDelta_50 : rn G mm_Tape_readDelta 50 [a0, a1, a2, a3, some (.int x)] st S P ↔ rn G mm_Tape_readDelta 52 [a0, a1, a2, a3, some (.int x)] (.int x :: st) S P := rn_s dq_Tape_readDelta_50 rfl rfl rfl
theorem dq_Tape_readDelta_52 : decode (km_c mm_Tape_readDelta) 52 = .ok (.iadd, 1) := by decide +kernel
theorem sq_Tape_readDelta_52 : rn G mm_Tape_readDelta 52 lv (.int x2 :: .int x :: st) S P ↔ rn G mm_Tape_readDelta 53 lv (.int (x + x2) :: st) S P := rn_s dq_Tape_readDelta_52 rfl rfl rfl
theorem dq_Tape_readDelta_53 : decode (km_c mm_Tape_readDelta) 53 = .ok (.istore_n 2, 1) := by decide +kernel
theorem sq_Tape_readDelta_53n : rn G mm_Tape_readDelta 53 [a0, none, a2, a3, a4] (.int x :: st) S P ↔ rn G mm_Tape_readDelta 54 [a0, none, some (.int x), a3, a4] st S P := rn_s dq_Tape_readDelta_53 rfl rfl rfl
theorem sq_Tape_readDelta_53i : rn G mm_Tape_readDelta 53 [a0, some (.int x2), a2, a3, a4] (.int x :: st) S P ↔ rn G mm_Tape_readDelta 54 [a0, some (.int x2), some (.int x), a3, a4] st S P := rn_s dq_Tape_readDelta_53 rfl rfl rfl
theorem sq_Tape_readDelta_53r : rn G mm_Tape_readDelta 53 [a0, some (.ref z2), a2, a3, a4] (.int x :: st) S P ↔ rn G mm_Tape_readDelta 54 [a0, some (.ref z2), some (.int x), a3, a4] st S P := rn_s dq_Tape_readDelta_53 rfl rfl rfl
theorem dq_Tape_readDelta_54 : decode (km_c mm_Tape_readDelta) 54 = .ok (.aload_n 0, 1) := by decide +kernel
theorem sq_Tape_readDelta_54 : rn G mm_Tape_readDelta 54 [some (.ref z), a1, a2, a3, a4] st S P ↔ rn G mm_Tape_readDelta 55 [some (.ref z), a1, a2, a3, a4] (.ref z :: st) S P := rn_s dq_Tape_readDelta_54 rfl rfl rfl
theorem dq_Tape_readDelta_55 : decode (km_c mm_Tape_readDelta) 55 = .ok (.invokevirtual 40, 3) := by decide +kernel
theorem sq_Tape_readDelta_55_24  {v : Option Value} {S2 : ks_S} (hc : ev (lt_G o L) mm_Tape_ended [.ref 24] (sx pl kp I A) v S2) (ho : sx_o o pl kp) (hst : kx_cat st ≤ 8) : rn (lt_G o L) mm_Tape_readDelta 55 lv (.ref 24 :: st) (sx pl kp I A) P ↔ rn (lt_G o L) mm_Tape_readDelta 58 lv (v.toList ++ st) S2 P := rn_cv (k := 0) (host := "") (E' := mm_Tape_ended) dq_Tape_readDelta_55 rfl (ok_v rfl (by decide) (by decide) (Nat.le_add_left _ _) hst (Nat.le_of_ble_eq_true rfl) (Or.inr (rc_v ho (up_b (by decide)) rfl))) rfl rfl hc
theorem dq_Tape_readDelta_58 : decode (km_c mm_Tape_readDelta) 58 = .ok (.ifCond .eq 5, 3) := by decide +kernel
theorem sq_Tape_readDelta_58 : rn G mm_Tape_readDelta 58 lv (.int x :: st) S P ↔ ((x = 0 → rn G mm_Tape_readDelta 63 lv st S P) ∧ (¬ (x = 0) → rn G mm_Tape_readDelta 61 lv st S P)) := rn_b (off := 5) dq_Tape_readDelta_58 rfl rfl rfl rfl
theorem dq_Tape_readDelta_61 : decode (km_c mm_Tape_readDelta) 61 = .ok (.iload_n 2, 1) := by decide +kernel
theorem sq_Tape_readDelta_61 : rn G mm_Tape_readDelta 61 [a0, a1, some (.int x), a3, a4] st S P ↔ rn G mm_Tape_readDelta 62 [a0, a1, some (.int x), a3, a4] (.int x :: st) S P := rn_s dq_Tape_readDelta_61 rfl rfl rfl
theorem dq_Tape_readDelta_62 : decode (km_c mm_Tape_readDelta) 62 = .ok (.ireturn, 1) := by decide +kernel
theorem sq_Tape_readDelta_62 : rn G mm_Tape_readDelta 62 lv [.int x] S P ↔ P (some (.int x)) S := rn_ir dq_Tape_readDelta_62 rfl
theorem dq_Tape_readDelta_63 : decode (km_c mm_Tape_readDelta) 63 = .ok (.iinc 3 1, 3) := by decide +kernel
theorem sq_Tape_readDelta_63n : rn G mm_Tape_readDelta 63 [a0, a1, none, some (.int x), a4] st S P ↔ rn G mm_Tape_readDelta 66 [a0, a1, none, some (.int (x + nI 1)), a4] st S P := rn_s dq_Tape_readDelta_63 rfl rfl rfl
theorem sq_Tape_readDelta_63i : rn G mm_Tape_readDelta 63 [a0, a1, some (.int x2), some (.int x), a4] st S P ↔ rn G mm_Tape_readDelta 66 [a0, a1, some (.int x2), some (.int (x + nI 1)), a4] st S P := rn_s dq_Tape_readDelta_63 rfl rfl rfl
theorem sq_Tape_readDelta_63r : rn G mm_Tape_readDelta 63 [a0, a1, some (.ref z2), some (.int x), a4] st S P ↔ rn G mm_Tape_readDelta 66 [a0, a1, some (.ref z2), some (.int (x + nI 1)), a4] st S P := rn_s dq_Tape_readDelta_63 rfl rfl rfl
theorem dq_Tape_readDelta_66 : decode (km_c mm_Tape_readDelta) 66 = .ok (.goto (-62), 3) := by decide +kernel
theorem sq_Tape_readDelta_66 : rn G mm_Tape_readDelta 66 lv st S P ↔ rn G mm_Tape_readDelta 4 lv st S P := rn_s dq_Tape_readDelta_66 rfl rfl rfl
theorem dq_Tape_readDelta_69 : decode (km_c mm_Tape_readDelta) 69 = .ok (.aload_n 0, 1) := by decide +kernel
theorem sq_Tape_readDelta_69 : rn G mm_Tape_readDelta 69 [some (.ref z), a1, a2, a3, a4] st S P ↔ rn G mm_Tape_readDelta 70 [some (.ref z), a1, a2, a3, a4] (.ref z :: st) S P := rn_s dq_Tape_readDelta_69 rfl rfl rfl
theorem dq_Tape_readDelta_70 : decode (km_c mm_Tape_readDelta) 70 = .ok (.invokevirtual 32, 3) := by decide +kernel
theorem sq_Tape_readDelta_70_24  {v : Option Value} {S2 : ks_S} (hc : ev (lt_G o L) mm_Tape_fault [.ref 24] (sx pl kp I A) v S2) (ho : sx_o o pl kp) (hst : kx_cat st ≤ 8) : rn (lt_G o L) mm_Tape_readDelta 70 lv (.ref 24 :: st) (sx pl kp I A) P ↔ rn (lt_G o L) mm_Tape_readDelta 73 lv (v.toList ++ st) S2 P := rn_cv (k := 0) (host := "") (E' := mm_Tape_fault) dq_Tape_readDelta_70 rfl (ok_v rfl (by decide) (by decide) (Nat.le_add_left _ _) hst (Nat.le_of_ble_eq_true rfl) (Or.inr (rc_v ho (up_b (by decide)) rfl))) rfl rfl hc
theorem dq_Tape_readDelta_73 : decode (km_c mm_Tape_readDelta) 73 = .ok (.ireturn, 1) := by decide +kernel
theorem sq_Tape_readDelta_73 : rn G mm_Tape_readDelta 73 lv [.int x] S P ↔ P (some (.int x)) S := rn_ir dq_Tape_readDelta_73 rfl
theorem dq_Tape_take_0 : decode (km_c mm_Tape_take) 0 = .ok (.aload_n 0, 1) := by decide +kernel
theorem sq_Tape_take_0 : rn G mm_Tape_take 0 [some (.ref z), a1] st S P ↔ rn G mm_Tape_take 1 [some (.ref z), a1] (.ref z :: st) S P := rn_s dq_Tape_take_0 rfl rfl rfl
theorem dq_Tape_take_1 : decode (km_c mm_Tape_take) 1 = .ok (.invokevirtual 40, 3) := by decide +kernel
theorem sq_Tape_take_1_24  {v : Option Value} {S2 : ks_S} (hc : ev (lt_G o L) mm_Tape_ended [.ref 24] (sx pl kp I A) v S2) (ho : sx_o o pl kp) (hst : kx_cat st ≤ 8) : rn (lt_G o L) mm_Tape_take 1 lv (.ref 24 :: st) (sx pl kp I A) P ↔ rn (lt_G o L) mm_Tape_take 4 lv (v.toList ++ st) S2 P := rn_cv (k := 0) (host := "") (E' := mm_Tape_ended) dq_Tape_take_1 rfl (ok_v rfl (by decide) (by decide) (Nat.le_add_left _ _) hst (Nat.le_of_ble_eq_true rfl) (Or.inr (rc_v ho (up_b (by decide)) rfl))) rfl rfl hc
theorem dq_Tape_take_4 : decode (km_c mm_Tape_take) 4 = .ok (.ifCond .ne 16, 3) := by decide +kernel
theorem sq_Tape_take_4 : rn G mm_Tape_take 4 lv (.int x :: st) S P ↔ ((¬ x = 0 → rn G mm_Tape_take 20 lv st S P) ∧ (¬ (¬ x = 0) → rn G mm_Tape_take 7 lv st S P)) := rn_b (off := 16) dq_Tape_take_4 rfl rfl rfl rfl
theorem dq_Tape_take_7 : decode (km_c mm_Tape_take) 7 = .ok (.aload_n 0, 1) := by decide +kernel
theorem sq_Tape_take_7 : rn G mm_Tape_take 7 [some (.ref z), a1] st S P ↔ rn G mm_Tape_take 8 [some (.ref z), a1] (.ref z :: st) S P := rn_s dq_Tape_take_7 rfl rfl rfl
theorem dq_Tape_take_8 : decode (km_c mm_Tape_take) 8 = .ok (.getfield 9, 3) := by decide +kernel
theorem sq_Tape_take_8_24 (ho : sx_o o pl kp) : rn (lt_G o L) mm_Tape_take 8 lv (.ref 24 :: st) (sx pl kp I A) P ↔ rn (lt_G o L) mm_Tape_take 11 lv (.ref 25 :: st) (sx pl kp I A) P := rx_get (h := "") (ci := 4) (k := 0) dq_Tape_take_8 (by decide +kernel) ho (up_b (by decide)) rfl rfl (fl_r (by decide) (by decide) (by decide) (by decide))
theorem dq_Tape_take_11 : decode (km_c mm_Tape_take) 11 = .ok (.aload_n 0, 1) := by decide +kernel
theorem sq_Tape_take_11 : rn G mm_Tape_take 11 [some (.ref z), a1] st S P ↔ rn G mm_Tape_take 12 [some (.ref z), a1] (.ref z :: st) S P := rn_s dq_Tape_take_11 rfl rfl rfl
theorem dq_Tape_take_12 : decode (km_c mm_Tape_take) 12 = .ok (.getfield 19, 3) := by decide +kernel
theorem sq_Tape_take_12_24 (ho : sx_o o pl kp) : rn (lt_G o L) mm_Tape_take 12 lv (.ref 24 :: st) (sx pl kp I A) P ↔ rn (lt_G o L) mm_Tape_take 15 lv (.int (I 24 2) :: st) (sx pl kp I A) P := rx_get (h := "") (ci := 4) (k := 2) dq_Tape_take_12 (by decide +kernel) ho (up_b (by decide)) rfl rfl (fl_i (by decide))
theorem dq_Tape_take_15 : decode (km_c mm_Tape_take) 15 = .ok (.baload, 1) := by decide +kernel
theorem sq_Tape_take_15 (ho : sx_o o pl kp) (hk : ak L a = 1 ∨ ak L a = 2) (hu : sx_up pl kp a = true) (hc : c < ln L a) (hn : ln L a < 2 ^ 31) : rn (lt_G o L) mm_Tape_take 15 lv (.int (nI c) :: .ref a :: st) (sx pl kp I A) P ↔ rn (lt_G o L) mm_Tape_take 16 lv (.int (A a c) :: st) (sx pl kp I A) P := rx_bld dq_Tape_take_15 ho hk hu hc hn
theorem dq_Tape_take_16 : decode (km_c mm_Tape_take) 16 = .ok (.iload_n 1, 1) := by decide +kernel
theorem sq_Tape_take_16 : rn G mm_Tape_take 16 [a0, some (.int x)] st S P ↔ rn G mm_Tape_take 17 [a0, some (.int x)] (.int x :: st) S P := rn_s dq_Tape_take_16 rfl rfl rfl
theorem dq_Tape_take_17 : decode (km_c mm_Tape_take) 17 = .ok (.if_icmp .eq 5, 3) := by decide +kernel
theorem sq_Tape_take_17 : rn G mm_Tape_take 17 lv (.int x2 :: .int x :: st) S P ↔ ((x = x2 → rn G mm_Tape_take 22 lv st S P) ∧ (¬ (x = x2) → rn G mm_Tape_take 20 lv st S P)) := rn_b (off := 5) dq_Tape_take_17 rfl rfl rfl rfl
theorem dq_Tape_take_20 : decode (km_c mm_Tape_take) 20 = .ok (.iconst 0, 1) := by decide +kernel
theorem sq_Tape_take_20 : rn G mm_Tape_take 20 lv st S P ↔ rn G mm_Tape_take 21 lv (.int (nI 0) :: st) S P := rn_s dq_Tape_take_20 rfl rfl rfl
theorem dq_Tape_take_21 : decode (km_c mm_Tape_take) 21 = .ok (.ireturn, 1) := by decide +kernel
theorem sq_Tape_take_21_0 : rn G mm_Tape_take 21 lv [.int (nI 0)] S P ↔ P (some (.int (nI 0))) S := rn_ir dq_Tape_take_21 (by decide)
theorem sq_Tape_take_21_1 : rn G mm_Tape_take 21 lv [.int (nI 1)] S P ↔ P (some (.int (nI 1))) S := rn_ir dq_Tape_take_21 (by decide)
theorem dq_Tape_take_22 : decode (km_c mm_Tape_take) 22 = .ok (.aload_n 0, 1) := by decide +kernel
theorem sq_Tape_take_22 : rn G mm_Tape_take 22 [some (.ref z), a1] st S P ↔ rn G mm_Tape_take 23 [some (.ref z), a1] (.ref z :: st) S P := rn_s dq_Tape_take_22 rfl rfl rfl
theorem dq_Tape_take_23 : decode (km_c mm_Tape_take) 23 = .ok (.dup, 1) := by decide +kernel
theorem sq_Tape_take_23i : rn G mm_Tape_take 23 lv (.int x :: st) S P ↔ rn G mm_Tape_take 24 lv (.int x :: .int x :: st) S P := rn_s dq_Tape_take_23 rfl rfl rfl
theorem sq_Tape_take_23r : rn G mm_Tape_take 23 lv (.ref z :: st) S P ↔ rn G mm_Tape_take 24 lv (.ref z :: .ref z :: st) S P := rn_s dq_Tape_take_23 rfl rfl rfl
theorem dq_Tape_take_24 : decode (km_c mm_Tape_take) 24 = .ok (.getfield 19, 3) := by decide +kernel
theorem sq_Tape_take_24_24 (ho : sx_o o pl kp) : rn (lt_G o L) mm_Tape_take 24 lv (.ref 24 :: st) (sx pl kp I A) P ↔ rn (lt_G o L) mm_Tape_take 27 lv (.int (I 24 2) :: st) (sx pl kp I A) P := rx_get (h := "") (ci := 4) (k := 2) dq_Tape_take_24 (by decide +kernel) ho (up_b (by decide)) rfl rfl (fl_i (by decide))
theorem dq_Tape_take_27 : decode (km_c mm_Tape_take) 27 = .ok (.iconst 1, 1) := by decide +kernel
theorem sq_Tape_take_27 : rn G mm_Tape_take 27 lv st S P ↔ rn G mm_Tape_take 28 lv (.int (nI 1) :: st) S P := rn_s dq_Tape_take_27 rfl rfl rfl
theorem dq_Tape_take_28 : decode (km_c mm_Tape_take) 28 = .ok (.iadd, 1) := by decide +kernel
theorem sq_Tape_take_28 : rn G mm_Tape_take 28 lv (.int x2 :: .int x :: st) S P ↔ rn G mm_Tape_take 29 lv (.int (x + x2) :: st) S P := rn_s dq_Tape_take_28 rfl rfl rfl
theorem dq_Tape_take_29 : decode (km_c mm_Tape_take) 29 = .ok (.putfield 19, 3) := by decide +kernel
theorem sq_Tape_take_29_24 (ho : sx_o o pl kp) : rn (lt_G o L) mm_Tape_take 29 lv (.int x :: .ref 24 :: st) (sx pl kp I A) P ↔ rn (lt_G o L) mm_Tape_take 32 lv st (sx pl kp (u2 I 24 2 x) A) P := rx_put (h := "") (ci := 4) (k := 2) dq_Tape_take_29 (by decide +kernel) ho (up_b (by decide)) rfl rfl (by decide) (by decide)
theorem dq_Tape_take_32 : decode (km_c mm_Tape_take) 32 = .ok (.iconst 1, 1) := by decide +kernel
theorem sq_Tape_take_32 : rn G mm_Tape_take 32 lv st S P ↔ rn G mm_Tape_take 33 lv (.int (nI 1) :: st) S P := rn_s dq_Tape_take_32 rfl rfl rfl
theorem dq_Tape_take_33 : decode (km_c mm_Tape_take) 33 = .ok (.ireturn, 1) := by decide +kernel
theorem sq_Tape_take_33_0 : rn G mm_Tape_take 33 lv [.int (nI 0)] S P ↔ P (some (.int (nI 0))) S := rn_ir dq_Tape_take_33 (by decide)
theorem sq_Tape_take_33_1 : rn G mm_Tape_take 33 lv [.int (nI 1)] S P ↔ P (some (.int (nI 1))) S := rn_ir dq_Tape_take_33 (by decide)
theorem dq_Tape_ended_0 : decode (km_c mm_Tape_ended) 0 = .ok (.aload_n 0, 1) := by decide +kernel
theorem sq_Tape_ended_0 : rn G mm_Tape_ended 0 [some (.ref z)] st S P ↔ rn G mm_Tape_ended 1 [some (.ref z)] (.ref z :: st) S P := rn_s dq_Tape_ended_0 rfl rfl rfl
theorem dq_Tape_ended_1 : decode (km_c mm_Tape_ended) 1 = .ok (.invokevirtual 70, 3) := by decide +kernel
theorem sq_Tape_ended_1_24  {v : Option Value} {S2 : ks_S} (hc : ev (lt_G o L) mm_Tape_skipBlanks [.ref 24] (sx pl kp I A) v S2) (ho : sx_o o pl kp) (hst : kx_cat st ≤ 8) : rn (lt_G o L) mm_Tape_ended 1 lv (.ref 24 :: st) (sx pl kp I A) P ↔ rn (lt_G o L) mm_Tape_ended 4 lv (v.toList ++ st) S2 P := rn_cv (k := 0) (host := "") (E' := mm_Tape_skipBlanks) dq_Tape_ended_1 rfl (ok_v rfl (by decide) (by decide) (Nat.le_add_left _ _) hst (Nat.le_of_ble_eq_true rfl) (Or.inr (rc_v ho (up_b (by decide)) rfl))) rfl rfl hc
theorem dq_Tape_ended_4 : decode (km_c mm_Tape_ended) 4 = .ok (.aload_n 0, 1) := by decide +kernel
theorem sq_Tape_ended_4 : rn G mm_Tape_ended 4 [some (.ref z)] st S P ↔ rn G mm_Tape_ended 5 [some (.ref z)] (.ref z :: st) S P := rn_s dq_Tape_ended_4 rfl rfl rfl
theorem dq_Tape_ended_5 : decode (km_c mm_Tape_ended) 5 = .ok (.getfield 19, 3) := by decide +kernel
theorem sq_Tape_ended_5_24 (ho : sx_o o pl kp) : rn (lt_G o L) mm_Tape_ended 5 lv (.ref 24 :: st) (sx pl kp I A) P ↔ rn (lt_G o L) mm_Tape_ended 8 lv (.int (I 24 2) :: st) (sx pl kp I A) P := rx_get (h := "") (ci := 4) (k := 2) dq_Tape_ended_5 (by decide +kernel) ho (up_b (by decide)) rfl rfl (fl_i (by decide))
theorem dq_Tape_ended_8 : decode (km_c mm_Tape_ended) 8 = .ok (.aload_n 0, 1) := by decide +kernel
theorem sq_Tape_ended_8 : rn G mm_Tape_ended 8 [some (.ref z)] st S P ↔ rn G mm_Tape_ended 9 [some (.ref z)] (.ref z :: st) S P := rn_s dq_Tape_ended_8 rfl rfl rfl
theorem dq_Tape_ended_9 : decode (km_c mm_Tape_ended) 9 = .ok (.getfield 15, 3) := by decide +kernel
theorem sq_Tape_ended_9_24 (ho : sx_o o pl kp) : rn (lt_G o L) mm_Tape_ended 9 lv (.ref 24 :: st) (sx pl kp I A) P ↔ rn (lt_G o L) mm_Tape_ended 12 lv (.int (I 24 1) :: st) (sx pl kp I A) P := rx_get (h := "") (ci := 4) (k := 1) dq_Tape_ended_9 (by decide +kernel) ho (up_b (by decide)) rfl rfl (fl_i (by decide))
theorem dq_Tape_ended_12 : decode (km_c mm_Tape_ended) 12 = .ok (.if_icmp .lt 7, 3) := by decide +kernel
theorem sq_Tape_ended_12 : rn G mm_Tape_ended 12 lv (.int x2 :: .int x :: st) S P ↔ ((x < x2 → rn G mm_Tape_ended 19 lv st S P) ∧ (¬ (x < x2) → rn G mm_Tape_ended 15 lv st S P)) := rn_b (off := 7) dq_Tape_ended_12 rfl rfl rfl rfl
theorem dq_Tape_ended_15 : decode (km_c mm_Tape_ended) 15 = .ok (.iconst 1, 1) := by decide +kernel
theorem sq_Tape_ended_15 : rn G mm_Tape_ended 15 lv st S P ↔ rn G mm_Tape_ended 16 lv (.int (nI 1) :: st) S P := rn_s dq_Tape_ended_15 rfl rfl rfl
theorem dq_Tape_ended_16 : decode (km_c mm_Tape_ended) 16 = .ok (.goto 4, 3) := by decide +kernel
theorem sq_Tape_ended_16 : rn G mm_Tape_ended 16 lv st S P ↔ rn G mm_Tape_ended 20 lv st S P := rn_s dq_Tape_ended_16 rfl rfl rfl
theorem dq_Tape_ended_19 : decode (km_c mm_Tape_ended) 19 = .ok (.iconst 0, 1) := by decide +kernel
theorem sq_Tape_ended_19 : rn G mm_Tape_ended 19 lv st S P ↔ rn G mm_Tape_ended 20 lv (.int (nI 0) :: st) S P := rn_s dq_Tape_ended_19 rfl rfl rfl
theorem dq_Tape_ended_20 : decode (km_c mm_Tape_ended) 20 = .ok (.ireturn, 1) := by decide +kernel
theorem sq_Tape_ended_20_0 : rn G mm_Tape_ended 20 lv [.int (nI 0)] S P ↔ P (some (.int (nI 0))) S := rn_ir dq_Tape_ended_20 (by decide)
theorem sq_Tape_ended_20_1 : rn G mm_Tape_ended 20 lv [.int (nI 1)] S P ↔ P (some (.int (nI 1))) S := rn_ir dq_Tape_ended_20 (by decide)
theorem dq_Tape_skipBlanks_0 : decode (km_c mm_Tape_skipBlanks) 0 = .ok (.aload_n 0, 1) := by decide +kernel
theorem sq_Tape_skipBlanks_0 : rn G mm_Tape_skipBlanks 0 [some (.ref z)] st S P ↔ rn G mm_Tape_skipBlanks 1 [some (.ref z)] (.ref z :: st) S P := rn_s dq_Tape_skipBlanks_0 rfl rfl rfl
theorem dq_Tape_skipBlanks_1 : decode (km_c mm_Tape_skipBlanks) 1 = .ok (.getfield 19, 3) := by decide +kernel
theorem sq_Tape_skipBlanks_1_24 (ho : sx_o o pl kp) : rn (lt_G o L) mm_Tape_skipBlanks 1 lv (.ref 24 :: st) (sx pl kp I A) P ↔ rn (lt_G o L) mm_Tape_skipBlanks 4 lv (.int (I 24 2) :: st) (sx pl kp I A) P := rx_get (h := "") (ci := 4) (k := 2) dq_Tape_skipBlanks_1 (by decide +kernel) ho (up_b (by decide)) rfl rfl (fl_i (by decide))
theorem dq_Tape_skipBlanks_4 : decode (km_c mm_Tape_skipBlanks) 4 = .ok (.aload_n 0, 1) := by decide +kernel
theorem sq_Tape_skipBlanks_4 : rn G mm_Tape_skipBlanks 4 [some (.ref z)] st S P ↔ rn G mm_Tape_skipBlanks 5 [some (.ref z)] (.ref z :: st) S P := rn_s dq_Tape_skipBlanks_4 rfl rfl rfl
theorem dq_Tape_skipBlanks_5 : decode (km_c mm_Tape_skipBlanks) 5 = .ok (.getfield 15, 3) := by decide +kernel
theorem sq_Tape_skipBlanks_5_24 (ho : sx_o o pl kp) : rn (lt_G o L) mm_Tape_skipBlanks 5 lv (.ref 24 :: st) (sx pl kp I A) P ↔ rn (lt_G o L) mm_Tape_skipBlanks 8 lv (.int (I 24 1) :: st) (sx pl kp I A) P := rx_get (h := "") (ci := 4) (k := 1) dq_Tape_skipBlanks_5 (by decide +kernel) ho (up_b (by decide)) rfl rfl (fl_i (by decide))
theorem dq_Tape_skipBlanks_8 : decode (km_c mm_Tape_skipBlanks) 8 = .ok (.if_icmp .ge 30, 3) := by decide +kernel
theorem sq_Tape_skipBlanks_8 : rn G mm_Tape_skipBlanks 8 lv (.int x2 :: .int x :: st) S P ↔ ((x2 ≤ x → rn G mm_Tape_skipBlanks 38 lv st S P) ∧ (¬ (x2 ≤ x) → rn G mm_Tape_skipBlanks 11 lv st S P)) := rn_b (off := 30) dq_Tape_skipBlanks_8 rfl rfl rfl rfl
theorem dq_Tape_skipBlanks_11 : decode (km_c mm_Tape_skipBlanks) 11 = .ok (.aload_n 0, 1) := by decide +kernel
theorem sq_Tape_skipBlanks_11 : rn G mm_Tape_skipBlanks 11 [some (.ref z)] st S P ↔ rn G mm_Tape_skipBlanks 12 [some (.ref z)] (.ref z :: st) S P := rn_s dq_Tape_skipBlanks_11 rfl rfl rfl
theorem dq_Tape_skipBlanks_12 : decode (km_c mm_Tape_skipBlanks) 12 = .ok (.getfield 9, 3) := by decide +kernel
theorem sq_Tape_skipBlanks_12_24 (ho : sx_o o pl kp) : rn (lt_G o L) mm_Tape_skipBlanks 12 lv (.ref 24 :: st) (sx pl kp I A) P ↔ rn (lt_G o L) mm_Tape_skipBlanks 15 lv (.ref 25 :: st) (sx pl kp I A) P := rx_get (h := "") (ci := 4) (k := 0) dq_Tape_skipBlanks_12 (by decide +kernel) ho (up_b (by decide)) rfl rfl (fl_r (by decide) (by decide) (by decide) (by decide))
theorem dq_Tape_skipBlanks_15 : decode (km_c mm_Tape_skipBlanks) 15 = .ok (.aload_n 0, 1) := by decide +kernel
theorem sq_Tape_skipBlanks_15 : rn G mm_Tape_skipBlanks 15 [some (.ref z)] st S P ↔ rn G mm_Tape_skipBlanks 16 [some (.ref z)] (.ref z :: st) S P := rn_s dq_Tape_skipBlanks_15 rfl rfl rfl
theorem dq_Tape_skipBlanks_16 : decode (km_c mm_Tape_skipBlanks) 16 = .ok (.getfield 19, 3) := by decide +kernel
theorem sq_Tape_skipBlanks_16_24 (ho : sx_o o pl kp) : rn (lt_G o L) mm_Tape_skipBlanks 16 lv (.ref 24 :: st) (sx pl kp I A) P ↔ rn (lt_G o L) mm_Tape_skipBlanks 19 lv (.int (I 24 2) :: st) (sx pl kp I A) P := rx_get (h := "") (ci := 4) (k := 2) dq_Tape_skipBlanks_16 (by decide +kernel) ho (up_b (by decide)) rfl rfl (fl_i (by decide))
theorem dq_Tape_skipBlanks_19 : decode (km_c mm_Tape_skipBlanks) 19 = .ok (.baload, 1) := by decide +kernel
theorem sq_Tape_skipBlanks_19 (ho : sx_o o pl kp) (hk : ak L a = 1 ∨ ak L a = 2) (hu : sx_up pl kp a = true) (hc : c < ln L a) (hn : ln L a < 2 ^ 31) : rn (lt_G o L) mm_Tape_skipBlanks 19 lv (.int (nI c) :: .ref a :: st) (sx pl kp I A) P ↔ rn (lt_G o L) mm_Tape_skipBlanks 20 lv (.int (A a c) :: st) (sx pl kp I A) P := rx_bld dq_Tape_skipBlanks_19 ho hk hu hc hn
theorem dq_Tape_skipBlanks_20 : decode (km_c mm_Tape_skipBlanks) 20 = .ok (.bipush 32, 2) := by decide +kernel
theorem sq_Tape_skipBlanks_20 : rn G mm_Tape_skipBlanks 20 lv st S P ↔ rn G mm_Tape_skipBlanks 22 lv (.int (nI 32) :: st) S P := rn_s dq_Tape_skipBlanks_20 rfl rfl rfl
theorem dq_Tape_skipBlanks_22 : decode (km_c mm_Tape_skipBlanks) 22 = .ok (.if_icmp .ne 16, 3) := by decide +kernel
theorem sq_Tape_skipBlanks_22 : rn G mm_Tape_skipBlanks 22 lv (.int x2 :: .int x :: st) S P ↔ ((¬ x = x2 → rn G mm_Tape_skipBlanks 38 lv st S P) ∧ (¬ (¬ x = x2) → rn G mm_Tape_skipBlanks 25 lv st S P)) := rn_b (off := 16) dq_Tape_skipBlanks_22 rfl rfl rfl rfl
theorem dq_Tape_skipBlanks_25 : decode (km_c mm_Tape_skipBlanks) 25 = .ok (.aload_n 0, 1) := by decide +kernel
theorem sq_Tape_skipBlanks_25 : rn G mm_Tape_skipBlanks 25 [some (.ref z)] st S P ↔ rn G mm_Tape_skipBlanks 26 [some (.ref z)] (.ref z :: st) S P := rn_s dq_Tape_skipBlanks_25 rfl rfl rfl
theorem dq_Tape_skipBlanks_26 : decode (km_c mm_Tape_skipBlanks) 26 = .ok (.dup, 1) := by decide +kernel
theorem sq_Tape_skipBlanks_26i : rn G mm_Tape_skipBlanks 26 lv (.int x :: st) S P ↔ rn G mm_Tape_skipBlanks 27 lv (.int x :: .int x :: st) S P := rn_s dq_Tape_skipBlanks_26 rfl rfl rfl
theorem sq_Tape_skipBlanks_26r : rn G mm_Tape_skipBlanks 26 lv (.ref z :: st) S P ↔ rn G mm_Tape_skipBlanks 27 lv (.ref z :: .ref z :: st) S P := rn_s dq_Tape_skipBlanks_26 rfl rfl rfl
theorem dq_Tape_skipBlanks_27 : decode (km_c mm_Tape_skipBlanks) 27 = .ok (.getfield 19, 3) := by decide +kernel
theorem sq_Tape_skipBlanks_27_24 (ho : sx_o o pl kp) : rn (lt_G o L) mm_Tape_skipBlanks 27 lv (.ref 24 :: st) (sx pl kp I A) P ↔ rn (lt_G o L) mm_Tape_skipBlanks 30 lv (.int (I 24 2) :: st) (sx pl kp I A) P := rx_get (h := "") (ci := 4) (k := 2) dq_Tape_skipBlanks_27 (by decide +kernel) ho (up_b (by decide)) rfl rfl (fl_i (by decide))
theorem dq_Tape_skipBlanks_30 : decode (km_c mm_Tape_skipBlanks) 30 = .ok (.iconst 1, 1) := by decide +kernel
theorem sq_Tape_skipBlanks_30 : rn G mm_Tape_skipBlanks 30 lv st S P ↔ rn G mm_Tape_skipBlanks 31 lv (.int (nI 1) :: st) S P := rn_s dq_Tape_skipBlanks_30 rfl rfl rfl
theorem dq_Tape_skipBlanks_31 : decode (km_c mm_Tape_skipBlanks) 31 = .ok (.iadd, 1) := by decide +kernel
theorem sq_Tape_skipBlanks_31 : rn G mm_Tape_skipBlanks 31 lv (.int x2 :: .int x :: st) S P ↔ rn G mm_Tape_skipBlanks 32 lv (.int (x + x2) :: st) S P := rn_s dq_Tape_skipBlanks_31 rfl rfl rfl
theorem dq_Tape_skipBlanks_32 : decode (km_c mm_Tape_skipBlanks) 32 = .ok (.putfield 19, 3) := by decide +kernel
theorem sq_Tape_skipBlanks_32_24 (ho : sx_o o pl kp) : rn (lt_G o L) mm_Tape_skipBlanks 32 lv (.int x :: .ref 24 :: st) (sx pl kp I A) P ↔ rn (lt_G o L) mm_Tape_skipBlanks 35 lv st (sx pl kp (u2 I 24 2 x) A) P := rx_put (h := "") (ci := 4) (k := 2) dq_Tape_skipBlanks_32 (by decide +kernel) ho (up_b (by decide)) rfl rfl (by decide) (by decide)
theorem dq_Tape_skipBlanks_35 : decode (km_c mm_Tape_skipBlanks) 35 = .ok (.goto (-35), 3) := by decide +kernel
theorem sq_Tape_skipBlanks_35 : rn G mm_Tape_skipBlanks 35 lv st S P ↔ rn G mm_Tape_skipBlanks 0 lv st S P := rn_s dq_Tape_skipBlanks_35 rfl rfl rfl
theorem dq_Tape_skipBlanks_38 : decode (km_c mm_Tape_skipBlanks) 38 = .ok (.return_, 1) := by decide +kernel
theorem sq_Tape_skipBlanks_38 : rn G mm_Tape_skipBlanks 38 lv [] S P ↔ P none S := rn_vr dq_Tape_skipBlanks_38 rfl
theorem dq_Tape_fault_0 : decode (km_c mm_Tape_fault) 0 = .ok (.aload_n 0, 1) := by decide +kernel
theorem sq_Tape_fault_0 : rn G mm_Tape_fault 0 [some (.ref z)] st S P ↔ rn G mm_Tape_fault 1 [some (.ref z)] (.ref z :: st) S P := rn_s dq_Tape_fault_0 rfl rfl rfl
theorem dq_Tape_fault_1 : decode (km_c mm_Tape_fault) 1 = .ok (.invokevirtual 70, 3) := by decide +kernel
theorem sq_Tape_fault_1_24  {v : Option Value} {S2 : ks_S} (hc : ev (lt_G o L) mm_Tape_skipBlanks [.ref 24] (sx pl kp I A) v S2) (ho : sx_o o pl kp) (hst : kx_cat st ≤ 8) : rn (lt_G o L) mm_Tape_fault 1 lv (.ref 24 :: st) (sx pl kp I A) P ↔ rn (lt_G o L) mm_Tape_fault 4 lv (v.toList ++ st) S2 P := rn_cv (k := 0) (host := "") (E' := mm_Tape_skipBlanks) dq_Tape_fault_1 rfl (ok_v rfl (by decide) (by decide) (Nat.le_add_left _ _) hst (Nat.le_of_ble_eq_true rfl) (Or.inr (rc_v ho (up_b (by decide)) rfl))) rfl rfl hc
theorem dq_Tape_fault_4 : decode (km_c mm_Tape_fault) 4 = .ok (.bipush (-20), 2) := by decide +kernel
theorem sq_Tape_fault_4 : rn G mm_Tape_fault 4 lv st S P ↔ rn G mm_Tape_fault 6 lv (.int ((-20)) :: st) S P := rn_s dq_Tape_fault_4 rfl rfl rfl
theorem dq_Tape_fault_6 : decode (km_c mm_Tape_fault) 6 = .ok (.aload_n 0, 1) := by decide +kernel
theorem sq_Tape_fault_6 : rn G mm_Tape_fault 6 [some (.ref z)] st S P ↔ rn G mm_Tape_fault 7 [some (.ref z)] (.ref z :: st) S P := rn_s dq_Tape_fault_6 rfl rfl rfl
theorem dq_Tape_fault_7 : decode (km_c mm_Tape_fault) 7 = .ok (.getfield 19, 3) := by decide +kernel
theorem sq_Tape_fault_7_24 (ho : sx_o o pl kp) : rn (lt_G o L) mm_Tape_fault 7 lv (.ref 24 :: st) (sx pl kp I A) P ↔ rn (lt_G o L) mm_Tape_fault 10 lv (.int (I 24 2) :: st) (sx pl kp I A) P := rx_get (h := "") (ci := 4) (k := 2) dq_Tape_fault_7 (by decide +kernel) ho (up_b (by decide)) rfl rfl (fl_i (by decide))
theorem dq_Tape_fault_10 : decode (km_c mm_Tape_fault) 10 = .ok (.isub, 1) := by decide +kernel
theorem sq_Tape_fault_10 : rn G mm_Tape_fault 10 lv (.int x2 :: .int x :: st) S P ↔ rn G mm_Tape_fault 11 lv (.int (x - x2) :: st) S P := rn_s dq_Tape_fault_10 rfl rfl rfl
theorem dq_Tape_fault_11 : decode (km_c mm_Tape_fault) 11 = .ok (.ireturn, 1) := by decide +kernel
theorem sq_Tape_fault_11 : rn G mm_Tape_fault 11 lv [.int x] S P ↔ P (some (.int x)) S := rn_ir dq_Tape_fault_11 rfl
theorem dq_Tape_readRow_0 : decode (km_c mm_Tape_readRow) 0 = .ok (.iconst 0, 1) := by decide +kernel
theorem sq_Tape_readRow_0 : rn G mm_Tape_readRow 0 lv st S P ↔ rn G mm_Tape_readRow 1 lv (.int (nI 0) :: st) S P := rn_s dq_Tape_readRow_0 rfl rfl rfl
theorem dq_Tape_readRow_1 : decode (km_c mm_Tape_readRow) 1 = .ok (.istore_n 3, 1) := by decide +kernel
theorem sq_Tape_readRow_1n : rn G mm_Tape_readRow 1 [a0, a1, none, a3, a4, a5] (.int x :: st) S P ↔ rn G mm_Tape_readRow 2 [a0, a1, none, some (.int x), a4, a5] st S P := rn_s dq_Tape_readRow_1 rfl rfl rfl
theorem sq_Tape_readRow_1i : rn G mm_Tape_readRow 1 [a0, a1, some (.int x2), a3, a4, a5] (.int x :: st) S P ↔ rn G mm_Tape_readRow 2 [a0, a1, some (.int x2), some (.int x), a4, a5] st S P := rn_s dq_Tape_readRow_1 rfl rfl rfl
theorem sq_Tape_readRow_1r : rn G mm_Tape_readRow 1 [a0, a1, some (.ref z2), a3, a4, a5] (.int x :: st) S P ↔ rn G mm_Tape_readRow 2 [a0, a1, some (.ref z2), some (.int x), a4, a5] st S P := rn_s dq_Tape_readRow_1 rfl rfl rfl
theorem dq_Tape_readRow_2 : decode (km_c mm_Tape_readRow) 2 = .ok (.iload_n 3, 1) := by decide +kernel
theorem sq_Tape_readRow_2 : rn G mm_Tape_readRow 2 [a0, a1, a2, some (.int x), a4, a5] st S P ↔ rn G mm_Tape_readRow 3 [a0, a1, a2, some (.int x), a4, a5] (.int x :: st) S P := rn_s dq_Tape_readRow_2 rfl rfl rfl
theorem dq_Tape_readRow_3 : decode (km_c mm_Tape_readRow) 3 = .ok (.bipush 7, 2) := by decide +kernel
theorem sq_Tape_readRow_3 : rn G mm_Tape_readRow 3 lv st S P ↔ rn G mm_Tape_readRow 5 lv (.int (nI 7) :: st) S P := rn_s dq_Tape_readRow_3 rfl rfl rfl
theorem dq_Tape_readRow_5 : decode (km_c mm_Tape_readRow) 5 = .ok (.if_icmp .ge 147, 3) := by decide +kernel
theorem sq_Tape_readRow_5 : rn G mm_Tape_readRow 5 lv (.int x2 :: .int x :: st) S P ↔ ((x2 ≤ x → rn G mm_Tape_readRow 152 lv st S P) ∧ (¬ (x2 ≤ x) → rn G mm_Tape_readRow 8 lv st S P)) := rn_b (off := 147) dq_Tape_readRow_5 rfl rfl rfl rfl
theorem dq_Tape_readRow_8 : decode (km_c mm_Tape_readRow) 8 = .ok (.aload_n 0, 1) := by decide +kernel
theorem sq_Tape_readRow_8 : rn G mm_Tape_readRow 8 [some (.ref z), a1, a2, a3, a4, a5] st S P ↔ rn G mm_Tape_readRow 9 [some (.ref z), a1, a2, a3, a4, a5] (.ref z :: st) S P := rn_s dq_Tape_readRow_8 rfl rfl rfl
theorem dq_Tape_readRow_9 : decode (km_c mm_Tape_readRow) 9 = .ok (.bipush 9, 2) := by decide +kernel
theorem sq_Tape_readRow_9 : rn G mm_Tape_readRow 9 lv st S P ↔ rn G mm_Tape_readRow 11 lv (.int (nI 9) :: st) S P := rn_s dq_Tape_readRow_9 rfl rfl rfl
theorem dq_Tape_readRow_11 : decode (km_c mm_Tape_readRow) 11 = .ok (.invokevirtual 44, 3) := by decide +kernel
theorem sq_Tape_readRow_11_24 {x1 : Int32} {v : Option Value} {S2 : ks_S} (hc : ev (lt_G o L) mm_Tape_takeDigit [.ref 24, .int x1] (sx pl kp I A) v S2) (ho : sx_o o pl kp) (hst : kx_cat st ≤ 8) : rn (lt_G o L) mm_Tape_readRow 11 lv (.int x1 :: .ref 24 :: st) (sx pl kp I A) P ↔ rn (lt_G o L) mm_Tape_readRow 14 lv (v.toList ++ st) S2 P := rn_cv (k := 0) (host := "") (E' := mm_Tape_takeDigit) dq_Tape_readRow_11 rfl (ok_v rfl (by decide) (by decide) (Nat.le_add_left _ _) hst (Nat.le_of_ble_eq_true rfl) (Or.inr (rc_v ho (up_b (by decide)) rfl))) rfl rfl hc
theorem dq_Tape_readRow_14 : decode (km_c mm_Tape_readRow) 14 = .ok (.istore 4, 2) := by decide +kernel
theorem sq_Tape_readRow_14n : rn G mm_Tape_readRow 14 [a0, a1, a2, none, a4, a5] (.int x :: st) S P ↔ rn G mm_Tape_readRow 16 [a0, a1, a2, none, some (.int x), a5] st S P := rn_s dq_Tape_readRow_14 rfl rfl rfl
theorem sq_Tape_readRow_14i : rn G mm_Tape_readRow 14 [a0, a1, a2, some (.int x2), a4, a5] (.int x :: st) S P ↔ rn G mm_Tape_readRow 16 [a0, a1, a2, some (.int x2), some (.int x), a5] st S P := rn_s dq_Tape_readRow_14 rfl rfl rfl
theorem sq_Tape_readRow_14r : rn G mm_Tape_readRow 14 [a0, a1, a2, some (.ref z2), a4, a5] (.int x :: st) S P ↔ rn G mm_Tape_readRow 16 [a0, a1, a2, some (.ref z2), some (.int x), a5] st S P := rn_s dq_Tape_readRow_14 rfl rfl rfl
theorem dq_Tape_readRow_16 : decode (km_c mm_Tape_readRow) 16 = .ok (.iload 4, 2) := by decide +kernel
theorem sq_Tape_readRow_16 : rn G mm_Tape_readRow 16 [a0, a1, a2, a3, some (.int x), a5] st S P ↔ rn G mm_Tape_readRow 18 [a0, a1, a2, a3, some (.int x), a5] (.int x :: st) S P := rn_s dq_Tape_readRow_16 rfl rfl rfl
theorem dq_Tape_readRow_18 : decode (km_c mm_Tape_readRow) 18 = .ok (.ifCond .ge 5, 3) := by decide +kernel
theorem sq_Tape_readRow_18 : rn G mm_Tape_readRow 18 lv (.int x :: st) S P ↔ ((0 ≤ x → rn G mm_Tape_readRow 23 lv st S P) ∧ (¬ (0 ≤ x) → rn G mm_Tape_readRow 21 lv st S P)) := rn_b (off := 5) dq_Tape_readRow_18 rfl rfl rfl rfl
theorem dq_Tape_readRow_21 : decode (km_c mm_Tape_readRow) 21 = .ok (.iload_n 3, 1) := by decide +kernel
theorem sq_Tape_readRow_21 : rn G mm_Tape_readRow 21 [a0, a1, a2, some (.int x), a4, a5] st S P ↔ rn G mm_Tape_readRow 22 [a0, a1, a2, some (.int x), a4, a5] (.int x :: st) S P := rn_s dq_Tape_readRow_21 rfl rfl rfl
theorem dq_Tape_readRow_22 : decode (km_c mm_Tape_readRow) 22 = .ok (.ireturn, 1) := by decide +kernel
theorem sq_Tape_readRow_22 : rn G mm_Tape_readRow 22 lv [.int x] S P ↔ P (some (.int x)) S := rn_ir dq_Tape_readRow_22 rfl
theorem dq_Tape_readRow_23 : decode (km_c mm_Tape_readRow) 23 = .ok (.iload_n 2, 1) := by decide +kernel
theorem sq_Tape_readRow_23 : rn G mm_Tape_readRow 23 [a0, a1, some (.int x), a3, a4, a5] st S P ↔ rn G mm_Tape_readRow 24 [a0, a1, some (.int x), a3, a4, a5] (.int x :: st) S P := rn_s dq_Tape_readRow_23 rfl rfl rfl
theorem dq_Tape_readRow_24 : decode (km_c mm_Tape_readRow) 24 = .ok (.iload_n 3, 1) := by decide +kernel
theorem sq_Tape_readRow_24 : rn G mm_Tape_readRow 24 [a0, a1, a2, some (.int x), a4, a5] st S P ↔ rn G mm_Tape_readRow 25 [a0, a1, a2, some (.int x), a4, a5] (.int x :: st) S P := rn_s dq_Tape_readRow_24 rfl rfl rfl
theorem dq_Tape_readRow_25 : decode (km_c mm_Tape_readRow) 25 = .ok (.iadd, 1) := by decide +kernel
theorem sq_Tape_readRow_25 : rn G mm_Tape_readRow 25 lv (.int x2 :: .int x :: st) S P ↔ rn G mm_Tape_readRow 26 lv (.int (x + x2) :: st) S P := rn_s dq_Tape_readRow_25 rfl rfl rfl
theorem dq_Tape_readRow_26 : decode (km_c mm_Tape_readRow) 26 = .ok (.istore 5, 2) := by decide +kernel
theorem sq_Tape_readRow_26n : rn G mm_Tape_readRow 26 [a0, a1, a2, a3, none, a5] (.int x :: st) S P ↔ rn G mm_Tape_readRow 28 [a0, a1, a2, a3, none, some (.int x)] st S P := rn_s dq_Tape_readRow_26 rfl rfl rfl
theorem sq_Tape_readRow_26i : rn G mm_Tape_readRow 26 [a0, a1, a2, a3, some (.int x2), a5] (.int x :: st) S P ↔ rn G mm_Tape_readRow 28 [a0, a1, a2, a3, some (.int x2), some (.int x)] st S P := rn_s dq_Tape_readRow_26 rfl rfl rfl
theorem sq_Tape_readRow_26r : rn G mm_Tape_readRow 26 [a0, a1, a2, a3, some (.ref z2), a5] (.int x :: st) S P ↔ rn G mm_Tape_readRow 28 [a0, a1, a2, a3, some (.ref z2), some (.int x)] st S P := rn_s dq_Tape_readRow_26 rfl rfl rfl
theorem dq_Tape_readRow_28 : decode (km_c mm_Tape_readRow) 28 = .ok (.aload_n 1, 1) := by decide +kernel
theorem sq_Tape_readRow_28 : rn G mm_Tape_readRow 28 [a0, some (.ref z), a2, a3, a4, a5] st S P ↔ rn G mm_Tape_readRow 29 [a0, some (.ref z), a2, a3, a4, a5] (.ref z :: st) S P := rn_s dq_Tape_readRow_28 rfl rfl rfl
theorem dq_Tape_readRow_29 : decode (km_c mm_Tape_readRow) 29 = .ok (.getfield 48, 3) := by decide +kernel
theorem sq_Tape_readRow_29_2 (ho : sx_o o pl kp) : rn (lt_G o L) mm_Tape_readRow 29 lv (.ref 2 :: st) (sx pl kp I A) P ↔ rn (lt_G o L) mm_Tape_readRow 32 lv (.ref 3 :: st) (sx pl kp I A) P := rx_get (h := "DeltaRoad") (ci := 0) (k := 0) dq_Tape_readRow_29 (by decide +kernel) ho (up_b (by decide)) rfl rfl (fl_r (by decide) (by decide) (by decide) (by decide))
theorem sq_Tape_readRow_29_35 (ho : sx_o o pl kp) : rn (lt_G o L) mm_Tape_readRow 29 lv (.ref 35 :: st) (sx pl kp I A) P ↔ rn (lt_G o L) mm_Tape_readRow 32 lv (.ref 36 :: st) (sx pl kp I A) P := rx_get (h := "DeltaRoad") (ci := 0) (k := 0) dq_Tape_readRow_29 (by decide +kernel) ho (up_b (by decide)) rfl rfl (fl_r (by decide) (by decide) (by decide) (by decide))
theorem sq_Tape_readRow_29_137 (ho : sx_o o pl true) : rn (lt_G o L) mm_Tape_readRow 29 lv (.ref 137 :: st) (sx pl true I A) P ↔ rn (lt_G o L) mm_Tape_readRow 32 lv (.ref 138 :: st) (sx pl true I A) P := rx_get (h := "DeltaRoad") (ci := 0) (k := 0) dq_Tape_readRow_29 (by decide +kernel) ho (up_k (by decide) (by decide)) rfl rfl (fl_k (by decide) (by decide))
theorem dq_Tape_readRow_32 : decode (km_c mm_Tape_readRow) 32 = .ok (.iconst 0, 1) := by decide +kernel
theorem sq_Tape_readRow_32 : rn G mm_Tape_readRow 32 lv st S P ↔ rn G mm_Tape_readRow 33 lv (.int (nI 0) :: st) S P := rn_s dq_Tape_readRow_32 rfl rfl rfl
theorem dq_Tape_readRow_33 : decode (km_c mm_Tape_readRow) 33 = .ok (.aaload, 1) := by decide +kernel
theorem sq_Tape_readRow_33 (ho : sx_o o pl kp) (hk : ak L a = 3) (hu : sx_up pl kp a = true) (hc : c < ln L a) (hn : ln L a < 2 ^ 31) : rn (lt_G o L) mm_Tape_readRow 33 lv (.int (nI c) :: .ref a :: st) (sx pl kp I A) P ↔ rn (lt_G o L) mm_Tape_readRow 34 lv (.ref (ab L a + c) :: st) (sx pl kp I A) P := rx_ald dq_Tape_readRow_33 ho hk hu hc hn
theorem dq_Tape_readRow_34 : decode (km_c mm_Tape_readRow) 34 = .ok (.iload 5, 2) := by decide +kernel
theorem sq_Tape_readRow_34 : rn G mm_Tape_readRow 34 [a0, a1, a2, a3, a4, some (.int x)] st S P ↔ rn G mm_Tape_readRow 36 [a0, a1, a2, a3, a4, some (.int x)] (.int x :: st) S P := rn_s dq_Tape_readRow_34 rfl rfl rfl
theorem dq_Tape_readRow_36 : decode (km_c mm_Tape_readRow) 36 = .ok (.iconst 2, 1) := by decide +kernel
theorem sq_Tape_readRow_36 : rn G mm_Tape_readRow 36 lv st S P ↔ rn G mm_Tape_readRow 37 lv (.int (nI 2) :: st) S P := rn_s dq_Tape_readRow_36 rfl rfl rfl
theorem dq_Tape_readRow_37 : decode (km_c mm_Tape_readRow) 37 = .ok (.iload 4, 2) := by decide +kernel
theorem sq_Tape_readRow_37 : rn G mm_Tape_readRow 37 [a0, a1, a2, a3, some (.int x), a5] st S P ↔ rn G mm_Tape_readRow 39 [a0, a1, a2, a3, some (.int x), a5] (.int x :: st) S P := rn_s dq_Tape_readRow_37 rfl rfl rfl
theorem dq_Tape_readRow_39 : decode (km_c mm_Tape_readRow) 39 = .ok (.imul, 1) := by decide +kernel
theorem sq_Tape_readRow_39 : rn G mm_Tape_readRow 39 lv (.int x2 :: .int x :: st) S P ↔ rn G mm_Tape_readRow 40 lv (.int (x * x2) :: st) S P := rn_s dq_Tape_readRow_39 rfl rfl rfl
theorem dq_Tape_readRow_40 : decode (km_c mm_Tape_readRow) 40 = .ok (.iastore, 1) := by decide +kernel
theorem sq_Tape_readRow_40 (ho : sx_o o pl kp) (hk : ak L a = 0) (hu : sx_up pl kp a = true) (hc : c < ln L a) (hn : ln L a < 2 ^ 31) : rn (lt_G o L) mm_Tape_readRow 40 lv (.int x :: .int (nI c) :: .ref a :: st) (sx pl kp I A) P ↔ rn (lt_G o L) mm_Tape_readRow 41 lv st (sx pl kp I (u2 A a c x)) P := rx_ist dq_Tape_readRow_40 ho hk hu hc hn
theorem dq_Tape_readRow_41 : decode (km_c mm_Tape_readRow) 41 = .ok (.aload_n 1, 1) := by decide +kernel
theorem sq_Tape_readRow_41 : rn G mm_Tape_readRow 41 [a0, some (.ref z), a2, a3, a4, a5] st S P ↔ rn G mm_Tape_readRow 42 [a0, some (.ref z), a2, a3, a4, a5] (.ref z :: st) S P := rn_s dq_Tape_readRow_41 rfl rfl rfl
theorem dq_Tape_readRow_42 : decode (km_c mm_Tape_readRow) 42 = .ok (.getfield 48, 3) := by decide +kernel
theorem sq_Tape_readRow_42_2 (ho : sx_o o pl kp) : rn (lt_G o L) mm_Tape_readRow 42 lv (.ref 2 :: st) (sx pl kp I A) P ↔ rn (lt_G o L) mm_Tape_readRow 45 lv (.ref 3 :: st) (sx pl kp I A) P := rx_get (h := "DeltaRoad") (ci := 0) (k := 0) dq_Tape_readRow_42 (by decide +kernel) ho (up_b (by decide)) rfl rfl (fl_r (by decide) (by decide) (by decide) (by decide))
theorem sq_Tape_readRow_42_35 (ho : sx_o o pl kp) : rn (lt_G o L) mm_Tape_readRow 42 lv (.ref 35 :: st) (sx pl kp I A) P ↔ rn (lt_G o L) mm_Tape_readRow 45 lv (.ref 36 :: st) (sx pl kp I A) P := rx_get (h := "DeltaRoad") (ci := 0) (k := 0) dq_Tape_readRow_42 (by decide +kernel) ho (up_b (by decide)) rfl rfl (fl_r (by decide) (by decide) (by decide) (by decide))
theorem sq_Tape_readRow_42_137 (ho : sx_o o pl true) : rn (lt_G o L) mm_Tape_readRow 42 lv (.ref 137 :: st) (sx pl true I A) P ↔ rn (lt_G o L) mm_Tape_readRow 45 lv (.ref 138 :: st) (sx pl true I A) P := rx_get (h := "DeltaRoad") (ci := 0) (k := 0) dq_Tape_readRow_42 (by decide +kernel) ho (up_k (by decide) (by decide)) rfl rfl (fl_k (by decide) (by decide))
theorem dq_Tape_readRow_45 : decode (km_c mm_Tape_readRow) 45 = .ok (.iconst 1, 1) := by decide +kernel
theorem sq_Tape_readRow_45 : rn G mm_Tape_readRow 45 lv st S P ↔ rn G mm_Tape_readRow 46 lv (.int (nI 1) :: st) S P := rn_s dq_Tape_readRow_45 rfl rfl rfl
theorem dq_Tape_readRow_46 : decode (km_c mm_Tape_readRow) 46 = .ok (.aaload, 1) := by decide +kernel
theorem sq_Tape_readRow_46 (ho : sx_o o pl kp) (hk : ak L a = 3) (hu : sx_up pl kp a = true) (hc : c < ln L a) (hn : ln L a < 2 ^ 31) : rn (lt_G o L) mm_Tape_readRow 46 lv (.int (nI c) :: .ref a :: st) (sx pl kp I A) P ↔ rn (lt_G o L) mm_Tape_readRow 47 lv (.ref (ab L a + c) :: st) (sx pl kp I A) P := rx_ald dq_Tape_readRow_46 ho hk hu hc hn
theorem dq_Tape_readRow_47 : decode (km_c mm_Tape_readRow) 47 = .ok (.iload 5, 2) := by decide +kernel
theorem sq_Tape_readRow_47 : rn G mm_Tape_readRow 47 [a0, a1, a2, a3, a4, some (.int x)] st S P ↔ rn G mm_Tape_readRow 49 [a0, a1, a2, a3, a4, some (.int x)] (.int x :: st) S P := rn_s dq_Tape_readRow_47 rfl rfl rfl
theorem dq_Tape_readRow_49 : decode (km_c mm_Tape_readRow) 49 = .ok (.iconst 0, 1) := by decide +kernel
theorem sq_Tape_readRow_49 : rn G mm_Tape_readRow 49 lv st S P ↔ rn G mm_Tape_readRow 50 lv (.int (nI 0) :: st) S P := rn_s dq_Tape_readRow_49 rfl rfl rfl
theorem dq_Tape_readRow_50 : decode (km_c mm_Tape_readRow) 50 = .ok (.iastore, 1) := by decide +kernel
theorem sq_Tape_readRow_50 (ho : sx_o o pl kp) (hk : ak L a = 0) (hu : sx_up pl kp a = true) (hc : c < ln L a) (hn : ln L a < 2 ^ 31) : rn (lt_G o L) mm_Tape_readRow 50 lv (.int x :: .int (nI c) :: .ref a :: st) (sx pl kp I A) P ↔ rn (lt_G o L) mm_Tape_readRow 51 lv st (sx pl kp I (u2 A a c x)) P := rx_ist dq_Tape_readRow_50 ho hk hu hc hn
theorem dq_Tape_readRow_51 : decode (km_c mm_Tape_readRow) 51 = .ok (.aload_n 1, 1) := by decide +kernel
theorem sq_Tape_readRow_51 : rn G mm_Tape_readRow 51 [a0, some (.ref z), a2, a3, a4, a5] st S P ↔ rn G mm_Tape_readRow 52 [a0, some (.ref z), a2, a3, a4, a5] (.ref z :: st) S P := rn_s dq_Tape_readRow_51 rfl rfl rfl
theorem dq_Tape_readRow_52 : decode (km_c mm_Tape_readRow) 52 = .ok (.getfield 48, 3) := by decide +kernel
theorem sq_Tape_readRow_52_2 (ho : sx_o o pl kp) : rn (lt_G o L) mm_Tape_readRow 52 lv (.ref 2 :: st) (sx pl kp I A) P ↔ rn (lt_G o L) mm_Tape_readRow 55 lv (.ref 3 :: st) (sx pl kp I A) P := rx_get (h := "DeltaRoad") (ci := 0) (k := 0) dq_Tape_readRow_52 (by decide +kernel) ho (up_b (by decide)) rfl rfl (fl_r (by decide) (by decide) (by decide) (by decide))
theorem sq_Tape_readRow_52_35 (ho : sx_o o pl kp) : rn (lt_G o L) mm_Tape_readRow 52 lv (.ref 35 :: st) (sx pl kp I A) P ↔ rn (lt_G o L) mm_Tape_readRow 55 lv (.ref 36 :: st) (sx pl kp I A) P := rx_get (h := "DeltaRoad") (ci := 0) (k := 0) dq_Tape_readRow_52 (by decide +kernel) ho (up_b (by decide)) rfl rfl (fl_r (by decide) (by decide) (by decide) (by decide))
theorem sq_Tape_readRow_52_137 (ho : sx_o o pl true) : rn (lt_G o L) mm_Tape_readRow 52 lv (.ref 137 :: st) (sx pl true I A) P ↔ rn (lt_G o L) mm_Tape_readRow 55 lv (.ref 138 :: st) (sx pl true I A) P := rx_get (h := "DeltaRoad") (ci := 0) (k := 0) dq_Tape_readRow_52 (by decide +kernel) ho (up_k (by decide) (by decide)) rfl rfl (fl_k (by decide) (by decide))
theorem dq_Tape_readRow_55 : decode (km_c mm_Tape_readRow) 55 = .ok (.iconst 2, 1) := by decide +kernel
theorem sq_Tape_readRow_55 : rn G mm_Tape_readRow 55 lv st S P ↔ rn G mm_Tape_readRow 56 lv (.int (nI 2) :: st) S P := rn_s dq_Tape_readRow_55 rfl rfl rfl
theorem dq_Tape_readRow_56 : decode (km_c mm_Tape_readRow) 56 = .ok (.aaload, 1) := by decide +kernel
theorem sq_Tape_readRow_56 (ho : sx_o o pl kp) (hk : ak L a = 3) (hu : sx_up pl kp a = true) (hc : c < ln L a) (hn : ln L a < 2 ^ 31) : rn (lt_G o L) mm_Tape_readRow 56 lv (.int (nI c) :: .ref a :: st) (sx pl kp I A) P ↔ rn (lt_G o L) mm_Tape_readRow 57 lv (.ref (ab L a + c) :: st) (sx pl kp I A) P := rx_ald dq_Tape_readRow_56 ho hk hu hc hn
theorem dq_Tape_readRow_57 : decode (km_c mm_Tape_readRow) 57 = .ok (.iload 5, 2) := by decide +kernel
theorem sq_Tape_readRow_57 : rn G mm_Tape_readRow 57 [a0, a1, a2, a3, a4, some (.int x)] st S P ↔ rn G mm_Tape_readRow 59 [a0, a1, a2, a3, a4, some (.int x)] (.int x :: st) S P := rn_s dq_Tape_readRow_57 rfl rfl rfl
theorem dq_Tape_readRow_59 : decode (km_c mm_Tape_readRow) 59 = .ok (.aload_n 0, 1) := by decide +kernel
theorem sq_Tape_readRow_59 : rn G mm_Tape_readRow 59 [some (.ref z), a1, a2, a3, a4, a5] st S P ↔ rn G mm_Tape_readRow 60 [some (.ref z), a1, a2, a3, a4, a5] (.ref z :: st) S P := rn_s dq_Tape_readRow_59 rfl rfl rfl
theorem dq_Tape_readRow_60 : decode (km_c mm_Tape_readRow) 60 = .ok (.bipush 109, 2) := by decide +kernel
theorem sq_Tape_readRow_60 : rn G mm_Tape_readRow 60 lv st S P ↔ rn G mm_Tape_readRow 62 lv (.int (nI 109) :: st) S P := rn_s dq_Tape_readRow_60 rfl rfl rfl
theorem dq_Tape_readRow_62 : decode (km_c mm_Tape_readRow) 62 = .ok (.invokevirtual 28, 3) := by decide +kernel
theorem sq_Tape_readRow_62_24 {x1 : Int32} {v : Option Value} {S2 : ks_S} (hc : ev (lt_G o L) mm_Tape_take [.ref 24, .int x1] (sx pl kp I A) v S2) (ho : sx_o o pl kp) (hst : kx_cat st ≤ 8) : rn (lt_G o L) mm_Tape_readRow 62 lv (.int x1 :: .ref 24 :: st) (sx pl kp I A) P ↔ rn (lt_G o L) mm_Tape_readRow 65 lv (v.toList ++ st) S2 P := rn_cv (k := 0) (host := "") (E' := mm_Tape_take) dq_Tape_readRow_62 rfl (ok_v rfl (by decide) (by decide) (Nat.le_add_left _ _) hst (Nat.le_of_ble_eq_true rfl) (Or.inr (rc_v ho (up_b (by decide)) rfl))) rfl rfl hc
theorem dq_Tape_readRow_65 : decode (km_c mm_Tape_readRow) 65 = .ok (.ifCond .eq 7, 3) := by decide +kernel
theorem sq_Tape_readRow_65 : rn G mm_Tape_readRow 65 lv (.int x :: st) S P ↔ ((x = 0 → rn G mm_Tape_readRow 72 lv st S P) ∧ (¬ (x = 0) → rn G mm_Tape_readRow 68 lv st S P)) := rn_b (off := 7) dq_Tape_readRow_65 rfl rfl rfl rfl
theorem dq_Tape_readRow_68 : decode (km_c mm_Tape_readRow) 68 = .ok (.iconst 1, 1) := by decide +kernel
theorem sq_Tape_readRow_68 : rn G mm_Tape_readRow 68 lv st S P ↔ rn G mm_Tape_readRow 69 lv (.int (nI 1) :: st) S P := rn_s dq_Tape_readRow_68 rfl rfl rfl
theorem dq_Tape_readRow_69 : decode (km_c mm_Tape_readRow) 69 = .ok (.goto 30, 3) := by decide +kernel
theorem sq_Tape_readRow_69 : rn G mm_Tape_readRow 69 lv st S P ↔ rn G mm_Tape_readRow 99 lv st S P := rn_s dq_Tape_readRow_69 rfl rfl rfl
theorem dq_Tape_readRow_72 : decode (km_c mm_Tape_readRow) 72 = .ok (.aload_n 0, 1) := by decide +kernel
theorem sq_Tape_readRow_72 : rn G mm_Tape_readRow 72 [some (.ref z), a1, a2, a3, a4, a5] st S P ↔ rn G mm_Tape_readRow 73 [some (.ref z), a1, a2, a3, a4, a5] (.ref z :: st) S P := rn_s dq_Tape_readRow_72 rfl rfl rfl
theorem dq_Tape_readRow_73 : decode (km_c mm_Tape_readRow) 73 = .ok (.bipush 114, 2) := by decide +kernel
theorem sq_Tape_readRow_73 : rn G mm_Tape_readRow 73 lv st S P ↔ rn G mm_Tape_readRow 75 lv (.int (nI 114) :: st) S P := rn_s dq_Tape_readRow_73 rfl rfl rfl
theorem dq_Tape_readRow_75 : decode (km_c mm_Tape_readRow) 75 = .ok (.invokevirtual 28, 3) := by decide +kernel
theorem sq_Tape_readRow_75_24 {x1 : Int32} {v : Option Value} {S2 : ks_S} (hc : ev (lt_G o L) mm_Tape_take [.ref 24, .int x1] (sx pl kp I A) v S2) (ho : sx_o o pl kp) (hst : kx_cat st ≤ 8) : rn (lt_G o L) mm_Tape_readRow 75 lv (.int x1 :: .ref 24 :: st) (sx pl kp I A) P ↔ rn (lt_G o L) mm_Tape_readRow 78 lv (v.toList ++ st) S2 P := rn_cv (k := 0) (host := "") (E' := mm_Tape_take) dq_Tape_readRow_75 rfl (ok_v rfl (by decide) (by decide) (Nat.le_add_left _ _) hst (Nat.le_of_ble_eq_true rfl) (Or.inr (rc_v ho (up_b (by decide)) rfl))) rfl rfl hc
theorem dq_Tape_readRow_78 : decode (km_c mm_Tape_readRow) 78 = .ok (.ifCond .eq 7, 3) := by decide +kernel
theorem sq_Tape_readRow_78 : rn G mm_Tape_readRow 78 lv (.int x :: st) S P ↔ ((x = 0 → rn G mm_Tape_readRow 85 lv st S P) ∧ (¬ (x = 0) → rn G mm_Tape_readRow 81 lv st S P)) := rn_b (off := 7) dq_Tape_readRow_78 rfl rfl rfl rfl
theorem dq_Tape_readRow_81 : decode (km_c mm_Tape_readRow) 81 = .ok (.iconst 2, 1) := by decide +kernel
theorem sq_Tape_readRow_81 : rn G mm_Tape_readRow 81 lv st S P ↔ rn G mm_Tape_readRow 82 lv (.int (nI 2) :: st) S P := rn_s dq_Tape_readRow_81 rfl rfl rfl
theorem dq_Tape_readRow_82 : decode (km_c mm_Tape_readRow) 82 = .ok (.goto 17, 3) := by decide +kernel
theorem sq_Tape_readRow_82 : rn G mm_Tape_readRow 82 lv st S P ↔ rn G mm_Tape_readRow 99 lv st S P := rn_s dq_Tape_readRow_82 rfl rfl rfl
theorem dq_Tape_readRow_85 : decode (km_c mm_Tape_readRow) 85 = .ok (.aload_n 0, 1) := by decide +kernel
theorem sq_Tape_readRow_85 : rn G mm_Tape_readRow 85 [some (.ref z), a1, a2, a3, a4, a5] st S P ↔ rn G mm_Tape_readRow 86 [some (.ref z), a1, a2, a3, a4, a5] (.ref z :: st) S P := rn_s dq_Tape_readRow_85 rfl rfl rfl
theorem dq_Tape_readRow_86 : decode (km_c mm_Tape_readRow) 86 = .ok (.bipush 99, 2) := by decide +kernel
theorem sq_Tape_readRow_86 : rn G mm_Tape_readRow 86 lv st S P ↔ rn G mm_Tape_readRow 88 lv (.int (nI 99) :: st) S P := rn_s dq_Tape_readRow_86 rfl rfl rfl
theorem dq_Tape_readRow_88 : decode (km_c mm_Tape_readRow) 88 = .ok (.invokevirtual 28, 3) := by decide +kernel
theorem sq_Tape_readRow_88_24 {x1 : Int32} {v : Option Value} {S2 : ks_S} (hc : ev (lt_G o L) mm_Tape_take [.ref 24, .int x1] (sx pl kp I A) v S2) (ho : sx_o o pl kp) (hst : kx_cat st ≤ 8) : rn (lt_G o L) mm_Tape_readRow 88 lv (.int x1 :: .ref 24 :: st) (sx pl kp I A) P ↔ rn (lt_G o L) mm_Tape_readRow 91 lv (v.toList ++ st) S2 P := rn_cv (k := 0) (host := "") (E' := mm_Tape_take) dq_Tape_readRow_88 rfl (ok_v rfl (by decide) (by decide) (Nat.le_add_left _ _) hst (Nat.le_of_ble_eq_true rfl) (Or.inr (rc_v ho (up_b (by decide)) rfl))) rfl rfl hc
theorem dq_Tape_readRow_91 : decode (km_c mm_Tape_readRow) 91 = .ok (.ifCond .eq 7, 3) := by decide +kernel
theorem sq_Tape_readRow_91 : rn G mm_Tape_readRow 91 lv (.int x :: st) S P ↔ ((x = 0 → rn G mm_Tape_readRow 98 lv st S P) ∧ (¬ (x = 0) → rn G mm_Tape_readRow 94 lv st S P)) := rn_b (off := 7) dq_Tape_readRow_91 rfl rfl rfl rfl
theorem dq_Tape_readRow_94 : decode (km_c mm_Tape_readRow) 94 = .ok (.iconst 3, 1) := by decide +kernel
theorem sq_Tape_readRow_94 : rn G mm_Tape_readRow 94 lv st S P ↔ rn G mm_Tape_readRow 95 lv (.int (nI 3) :: st) S P := rn_s dq_Tape_readRow_94 rfl rfl rfl
theorem dq_Tape_readRow_95 : decode (km_c mm_Tape_readRow) 95 = .ok (.goto 4, 3) := by decide +kernel
theorem sq_Tape_readRow_95 : rn G mm_Tape_readRow 95 lv st S P ↔ rn G mm_Tape_readRow 99 lv st S P := rn_s dq_Tape_readRow_95 rfl rfl rfl
theorem dq_Tape_readRow_98 : decode (km_c mm_Tape_readRow) 98 = .ok (.iconst 0, 1) := by decide +kernel
theorem sq_Tape_readRow_98 : rn G mm_Tape_readRow 98 lv st S P ↔ rn G mm_Tape_readRow 99 lv (.int (nI 0) :: st) S P := rn_s dq_Tape_readRow_98 rfl rfl rfl
theorem dq_Tape_readRow_99 : decode (km_c mm_Tape_readRow) 99 = .ok (.iastore, 1) := by decide +kernel
theorem sq_Tape_readRow_99 (ho : sx_o o pl kp) (hk : ak L a = 0) (hu : sx_up pl kp a = true) (hc : c < ln L a) (hn : ln L a < 2 ^ 31) : rn (lt_G o L) mm_Tape_readRow 99 lv (.int x :: .int (nI c) :: .ref a :: st) (sx pl kp I A) P ↔ rn (lt_G o L) mm_Tape_readRow 100 lv st (sx pl kp I (u2 A a c x)) P := rx_ist dq_Tape_readRow_99 ho hk hu hc hn
theorem dq_Tape_readRow_100 : decode (km_c mm_Tape_readRow) 100 = .ok (.aload_n 1, 1) := by decide +kernel
theorem sq_Tape_readRow_100 : rn G mm_Tape_readRow 100 [a0, some (.ref z), a2, a3, a4, a5] st S P ↔ rn G mm_Tape_readRow 101 [a0, some (.ref z), a2, a3, a4, a5] (.ref z :: st) S P := rn_s dq_Tape_readRow_100 rfl rfl rfl
theorem dq_Tape_readRow_101 : decode (km_c mm_Tape_readRow) 101 = .ok (.getfield 48, 3) := by decide +kernel
theorem sq_Tape_readRow_101_2 (ho : sx_o o pl kp) : rn (lt_G o L) mm_Tape_readRow 101 lv (.ref 2 :: st) (sx pl kp I A) P ↔ rn (lt_G o L) mm_Tape_readRow 104 lv (.ref 3 :: st) (sx pl kp I A) P := rx_get (h := "DeltaRoad") (ci := 0) (k := 0) dq_Tape_readRow_101 (by decide +kernel) ho (up_b (by decide)) rfl rfl (fl_r (by decide) (by decide) (by decide) (by decide))
theorem sq_Tape_readRow_101_35 (ho : sx_o o pl kp) : rn (lt_G o L) mm_Tape_readRow 101 lv (.ref 35 :: st) (sx pl kp I A) P ↔ rn (lt_G o L) mm_Tape_readRow 104 lv (.ref 36 :: st) (sx pl kp I A) P := rx_get (h := "DeltaRoad") (ci := 0) (k := 0) dq_Tape_readRow_101 (by decide +kernel) ho (up_b (by decide)) rfl rfl (fl_r (by decide) (by decide) (by decide) (by decide))
theorem sq_Tape_readRow_101_137 (ho : sx_o o pl true) : rn (lt_G o L) mm_Tape_readRow 101 lv (.ref 137 :: st) (sx pl true I A) P ↔ rn (lt_G o L) mm_Tape_readRow 104 lv (.ref 138 :: st) (sx pl true I A) P := rx_get (h := "DeltaRoad") (ci := 0) (k := 0) dq_Tape_readRow_101 (by decide +kernel) ho (up_k (by decide) (by decide)) rfl rfl (fl_k (by decide) (by decide))
theorem dq_Tape_readRow_104 : decode (km_c mm_Tape_readRow) 104 = .ok (.iconst 3, 1) := by decide +kernel
theorem sq_Tape_readRow_104 : rn G mm_Tape_readRow 104 lv st S P ↔ rn G mm_Tape_readRow 105 lv (.int (nI 3) :: st) S P := rn_s dq_Tape_readRow_104 rfl rfl rfl
theorem dq_Tape_readRow_105 : decode (km_c mm_Tape_readRow) 105 = .ok (.aaload, 1) := by decide +kernel
theorem sq_Tape_readRow_105 (ho : sx_o o pl kp) (hk : ak L a = 3) (hu : sx_up pl kp a = true) (hc : c < ln L a) (hn : ln L a < 2 ^ 31) : rn (lt_G o L) mm_Tape_readRow 105 lv (.int (nI c) :: .ref a :: st) (sx pl kp I A) P ↔ rn (lt_G o L) mm_Tape_readRow 106 lv (.ref (ab L a + c) :: st) (sx pl kp I A) P := rx_ald dq_Tape_readRow_105 ho hk hu hc hn
theorem dq_Tape_readRow_106 : decode (km_c mm_Tape_readRow) 106 = .ok (.iload 5, 2) := by decide +kernel
theorem sq_Tape_readRow_106 : rn G mm_Tape_readRow 106 [a0, a1, a2, a3, a4, some (.int x)] st S P ↔ rn G mm_Tape_readRow 108 [a0, a1, a2, a3, a4, some (.int x)] (.int x :: st) S P := rn_s dq_Tape_readRow_106 rfl rfl rfl
theorem dq_Tape_readRow_108 : decode (km_c mm_Tape_readRow) 108 = .ok (.aload_n 0, 1) := by decide +kernel
theorem sq_Tape_readRow_108 : rn G mm_Tape_readRow 108 [some (.ref z), a1, a2, a3, a4, a5] st S P ↔ rn G mm_Tape_readRow 109 [some (.ref z), a1, a2, a3, a4, a5] (.ref z :: st) S P := rn_s dq_Tape_readRow_108 rfl rfl rfl
theorem dq_Tape_readRow_109 : decode (km_c mm_Tape_readRow) 109 = .ok (.bipush 98, 2) := by decide +kernel
theorem sq_Tape_readRow_109 : rn G mm_Tape_readRow 109 lv st S P ↔ rn G mm_Tape_readRow 111 lv (.int (nI 98) :: st) S P := rn_s dq_Tape_readRow_109 rfl rfl rfl
theorem dq_Tape_readRow_111 : decode (km_c mm_Tape_readRow) 111 = .ok (.invokevirtual 28, 3) := by decide +kernel
theorem sq_Tape_readRow_111_24 {x1 : Int32} {v : Option Value} {S2 : ks_S} (hc : ev (lt_G o L) mm_Tape_take [.ref 24, .int x1] (sx pl kp I A) v S2) (ho : sx_o o pl kp) (hst : kx_cat st ≤ 8) : rn (lt_G o L) mm_Tape_readRow 111 lv (.int x1 :: .ref 24 :: st) (sx pl kp I A) P ↔ rn (lt_G o L) mm_Tape_readRow 114 lv (v.toList ++ st) S2 P := rn_cv (k := 0) (host := "") (E' := mm_Tape_take) dq_Tape_readRow_111 rfl (ok_v rfl (by decide) (by decide) (Nat.le_add_left _ _) hst (Nat.le_of_ble_eq_true rfl) (Or.inr (rc_v ho (up_b (by decide)) rfl))) rfl rfl hc
theorem dq_Tape_readRow_114 : decode (km_c mm_Tape_readRow) 114 = .ok (.ifCond .eq 7, 3) := by decide +kernel
theorem sq_Tape_readRow_114 : rn G mm_Tape_readRow 114 lv (.int x :: st) S P ↔ ((x = 0 → rn G mm_Tape_readRow 121 lv st S P) ∧ (¬ (x = 0) → rn G mm_Tape_readRow 117 lv st S P)) := rn_b (off := 7) dq_Tape_readRow_114 rfl rfl rfl rfl
theorem dq_Tape_readRow_117 : decode (km_c mm_Tape_readRow) 117 = .ok (.iconst 1, 1) := by decide +kernel
theorem sq_Tape_readRow_117 : rn G mm_Tape_readRow 117 lv st S P ↔ rn G mm_Tape_readRow 118 lv (.int (nI 1) :: st) S P := rn_s dq_Tape_readRow_117 rfl rfl rfl
theorem dq_Tape_readRow_118 : decode (km_c mm_Tape_readRow) 118 = .ok (.goto 4, 3) := by decide +kernel
theorem sq_Tape_readRow_118 : rn G mm_Tape_readRow 118 lv st S P ↔ rn G mm_Tape_readRow 122 lv st S P := rn_s dq_Tape_readRow_118 rfl rfl rfl
theorem dq_Tape_readRow_121 : decode (km_c mm_Tape_readRow) 121 = .ok (.iconst 0, 1) := by decide +kernel
theorem sq_Tape_readRow_121 : rn G mm_Tape_readRow 121 lv st S P ↔ rn G mm_Tape_readRow 122 lv (.int (nI 0) :: st) S P := rn_s dq_Tape_readRow_121 rfl rfl rfl
theorem dq_Tape_readRow_122 : decode (km_c mm_Tape_readRow) 122 = .ok (.iastore, 1) := by decide +kernel
theorem sq_Tape_readRow_122 (ho : sx_o o pl kp) (hk : ak L a = 0) (hu : sx_up pl kp a = true) (hc : c < ln L a) (hn : ln L a < 2 ^ 31) : rn (lt_G o L) mm_Tape_readRow 122 lv (.int x :: .int (nI c) :: .ref a :: st) (sx pl kp I A) P ↔ rn (lt_G o L) mm_Tape_readRow 123 lv st (sx pl kp I (u2 A a c x)) P := rx_ist dq_Tape_readRow_122 ho hk hu hc hn
theorem dq_Tape_readRow_123 : decode (km_c mm_Tape_readRow) 123 = .ok (.aload_n 1, 1) := by decide +kernel
theorem sq_Tape_readRow_123 : rn G mm_Tape_readRow 123 [a0, some (.ref z), a2, a3, a4, a5] st S P ↔ rn G mm_Tape_readRow 124 [a0, some (.ref z), a2, a3, a4, a5] (.ref z :: st) S P := rn_s dq_Tape_readRow_123 rfl rfl rfl
theorem dq_Tape_readRow_124 : decode (km_c mm_Tape_readRow) 124 = .ok (.getfield 48, 3) := by decide +kernel
theorem sq_Tape_readRow_124_2 (ho : sx_o o pl kp) : rn (lt_G o L) mm_Tape_readRow 124 lv (.ref 2 :: st) (sx pl kp I A) P ↔ rn (lt_G o L) mm_Tape_readRow 127 lv (.ref 3 :: st) (sx pl kp I A) P := rx_get (h := "DeltaRoad") (ci := 0) (k := 0) dq_Tape_readRow_124 (by decide +kernel) ho (up_b (by decide)) rfl rfl (fl_r (by decide) (by decide) (by decide) (by decide))
theorem sq_Tape_readRow_124_35 (ho : sx_o o pl kp) : rn (lt_G o L) mm_Tape_readRow 124 lv (.ref 35 :: st) (sx pl kp I A) P ↔ rn (lt_G o L) mm_Tape_readRow 127 lv (.ref 36 :: st) (sx pl kp I A) P := rx_get (h := "DeltaRoad") (ci := 0) (k := 0) dq_Tape_readRow_124 (by decide +kernel) ho (up_b (by decide)) rfl rfl (fl_r (by decide) (by decide) (by decide) (by decide))
theorem sq_Tape_readRow_124_137 (ho : sx_o o pl true) : rn (lt_G o L) mm_Tape_readRow 124 lv (.ref 137 :: st) (sx pl true I A) P ↔ rn (lt_G o L) mm_Tape_readRow 127 lv (.ref 138 :: st) (sx pl true I A) P := rx_get (h := "DeltaRoad") (ci := 0) (k := 0) dq_Tape_readRow_124 (by decide +kernel) ho (up_k (by decide) (by decide)) rfl rfl (fl_k (by decide) (by decide))
theorem dq_Tape_readRow_127 : decode (km_c mm_Tape_readRow) 127 = .ok (.iconst 4, 1) := by decide +kernel
theorem sq_Tape_readRow_127 : rn G mm_Tape_readRow 127 lv st S P ↔ rn G mm_Tape_readRow 128 lv (.int (nI 4) :: st) S P := rn_s dq_Tape_readRow_127 rfl rfl rfl
theorem dq_Tape_readRow_128 : decode (km_c mm_Tape_readRow) 128 = .ok (.aaload, 1) := by decide +kernel
theorem sq_Tape_readRow_128 (ho : sx_o o pl kp) (hk : ak L a = 3) (hu : sx_up pl kp a = true) (hc : c < ln L a) (hn : ln L a < 2 ^ 31) : rn (lt_G o L) mm_Tape_readRow 128 lv (.int (nI c) :: .ref a :: st) (sx pl kp I A) P ↔ rn (lt_G o L) mm_Tape_readRow 129 lv (.ref (ab L a + c) :: st) (sx pl kp I A) P := rx_ald dq_Tape_readRow_128 ho hk hu hc hn
theorem dq_Tape_readRow_129 : decode (km_c mm_Tape_readRow) 129 = .ok (.iload 5, 2) := by decide +kernel
theorem sq_Tape_readRow_129 : rn G mm_Tape_readRow 129 [a0, a1, a2, a3, a4, some (.int x)] st S P ↔ rn G mm_Tape_readRow 131 [a0, a1, a2, a3, a4, some (.int x)] (.int x :: st) S P := rn_s dq_Tape_readRow_129 rfl rfl rfl
theorem dq_Tape_readRow_131 : decode (km_c mm_Tape_readRow) 131 = .ok (.aload_n 0, 1) := by decide +kernel
theorem sq_Tape_readRow_131 : rn G mm_Tape_readRow 131 [some (.ref z), a1, a2, a3, a4, a5] st S P ↔ rn G mm_Tape_readRow 132 [some (.ref z), a1, a2, a3, a4, a5] (.ref z :: st) S P := rn_s dq_Tape_readRow_131 rfl rfl rfl
theorem dq_Tape_readRow_132 : decode (km_c mm_Tape_readRow) 132 = .ok (.bipush 115, 2) := by decide +kernel
theorem sq_Tape_readRow_132 : rn G mm_Tape_readRow 132 lv st S P ↔ rn G mm_Tape_readRow 134 lv (.int (nI 115) :: st) S P := rn_s dq_Tape_readRow_132 rfl rfl rfl
theorem dq_Tape_readRow_134 : decode (km_c mm_Tape_readRow) 134 = .ok (.invokevirtual 28, 3) := by decide +kernel
theorem sq_Tape_readRow_134_24 {x1 : Int32} {v : Option Value} {S2 : ks_S} (hc : ev (lt_G o L) mm_Tape_take [.ref 24, .int x1] (sx pl kp I A) v S2) (ho : sx_o o pl kp) (hst : kx_cat st ≤ 8) : rn (lt_G o L) mm_Tape_readRow 134 lv (.int x1 :: .ref 24 :: st) (sx pl kp I A) P ↔ rn (lt_G o L) mm_Tape_readRow 137 lv (v.toList ++ st) S2 P := rn_cv (k := 0) (host := "") (E' := mm_Tape_take) dq_Tape_readRow_134 rfl (ok_v rfl (by decide) (by decide) (Nat.le_add_left _ _) hst (Nat.le_of_ble_eq_true rfl) (Or.inr (rc_v ho (up_b (by decide)) rfl))) rfl rfl hc
theorem dq_Tape_readRow_137 : decode (km_c mm_Tape_readRow) 137 = .ok (.ifCond .eq 7, 3) := by decide +kernel
theorem sq_Tape_readRow_137 : rn G mm_Tape_readRow 137 lv (.int x :: st) S P ↔ ((x = 0 → rn G mm_Tape_readRow 144 lv st S P) ∧ (¬ (x = 0) → rn G mm_Tape_readRow 140 lv st S P)) := rn_b (off := 7) dq_Tape_readRow_137 rfl rfl rfl rfl
theorem dq_Tape_readRow_140 : decode (km_c mm_Tape_readRow) 140 = .ok (.iconst 1, 1) := by decide +kernel
theorem sq_Tape_readRow_140 : rn G mm_Tape_readRow 140 lv st S P ↔ rn G mm_Tape_readRow 141 lv (.int (nI 1) :: st) S P := rn_s dq_Tape_readRow_140 rfl rfl rfl
theorem dq_Tape_readRow_141 : decode (km_c mm_Tape_readRow) 141 = .ok (.goto 4, 3) := by decide +kernel
theorem sq_Tape_readRow_141 : rn G mm_Tape_readRow 141 lv st S P ↔ rn G mm_Tape_readRow 145 lv st S P := rn_s dq_Tape_readRow_141 rfl rfl rfl
theorem dq_Tape_readRow_144 : decode (km_c mm_Tape_readRow) 144 = .ok (.iconst 0, 1) := by decide +kernel
theorem sq_Tape_readRow_144 : rn G mm_Tape_readRow 144 lv st S P ↔ rn G mm_Tape_readRow 145 lv (.int (nI 0) :: st) S P := rn_s dq_Tape_readRow_144 rfl rfl rfl
theorem dq_Tape_readRow_145 : decode (km_c mm_Tape_readRow) 145 = .ok (.iastore, 1) := by decide +kernel
theorem sq_Tape_readRow_145 (ho : sx_o o pl kp) (hk : ak L a = 0) (hu : sx_up pl kp a = true) (hc : c < ln L a) (hn : ln L a < 2 ^ 31) : rn (lt_G o L) mm_Tape_readRow 145 lv (.int x :: .int (nI c) :: .ref a :: st) (sx pl kp I A) P ↔ rn (lt_G o L) mm_Tape_readRow 146 lv st (sx pl kp I (u2 A a c x)) P := rx_ist dq_Tape_readRow_145 ho hk hu hc hn
theorem dq_Tape_readRow_146 : decode (km_c mm_Tape_readRow) 146 = .ok (.iinc 3 1, 3) := by decide +kernel
theorem sq_Tape_readRow_146n : rn G mm_Tape_readRow 146 [a0, a1, none, some (.int x), a4, a5] st S P ↔ rn G mm_Tape_readRow 149 [a0, a1, none, some (.int (x + nI 1)), a4, a5] st S P := rn_s dq_Tape_readRow_146 rfl rfl rfl
theorem sq_Tape_readRow_146i : rn G mm_Tape_readRow 146 [a0, a1, some (.int x2), some (.int x), a4, a5] st S P ↔ rn G mm_Tape_readRow 149 [a0, a1, some (.int x2), some (.int (x + nI 1)), a4, a5] st S P := rn_s dq_Tape_readRow_146 rfl rfl rfl
theorem sq_Tape_readRow_146r : rn G mm_Tape_readRow 146 [a0, a1, some (.ref z2), some (.int x), a4, a5] st S P ↔ rn G mm_Tape_readRow 149 [a0, a1, some (.ref z2), some (.int (x + nI 1)), a4, a5] st S P := rn_s dq_Tape_readRow_146 rfl rfl rfl
theorem dq_Tape_readRow_149 : decode (km_c mm_Tape_readRow) 149 = .ok (.goto (-147), 3) := by decide +kernel
theorem sq_Tape_readRow_149 : rn G mm_Tape_readRow 149 lv st S P ↔ rn G mm_Tape_readRow 2 lv st S P := rn_s dq_Tape_readRow_149 rfl rfl rfl
theorem dq_Tape_readRow_152 : decode (km_c mm_Tape_readRow) 152 = .ok (.bipush 7, 2) := by decide +kernel
theorem sq_Tape_readRow_152 : rn G mm_Tape_readRow 152 lv st S P ↔ rn G mm_Tape_readRow 154 lv (.int (nI 7) :: st) S P := rn_s dq_Tape_readRow_152 rfl rfl rfl
theorem dq_Tape_readRow_154 : decode (km_c mm_Tape_readRow) 154 = .ok (.ireturn, 1) := by decide +kernel
theorem sq_Tape_readRow_154 : rn G mm_Tape_readRow 154 lv [.int x] S P ↔ P (some (.int x)) S := rn_ir dq_Tape_readRow_154 rfl
theorem dq_Tape_takeDigit_0 : decode (km_c mm_Tape_takeDigit) 0 = .ok (.aload_n 0, 1) := by decide +kernel
theorem sq_Tape_takeDigit_0 : rn G mm_Tape_takeDigit 0 [some (.ref z), a1] st S P ↔ rn G mm_Tape_takeDigit 1 [some (.ref z), a1] (.ref z :: st) S P := rn_s dq_Tape_takeDigit_0 rfl rfl rfl
theorem dq_Tape_takeDigit_1 : decode (km_c mm_Tape_takeDigit) 1 = .ok (.invokevirtual 40, 3) := by decide +kernel
theorem sq_Tape_takeDigit_1_24  {v : Option Value} {S2 : ks_S} (hc : ev (lt_G o L) mm_Tape_ended [.ref 24] (sx pl kp I A) v S2) (ho : sx_o o pl kp) (hst : kx_cat st ≤ 8) : rn (lt_G o L) mm_Tape_takeDigit 1 lv (.ref 24 :: st) (sx pl kp I A) P ↔ rn (lt_G o L) mm_Tape_takeDigit 4 lv (v.toList ++ st) S2 P := rn_cv (k := 0) (host := "") (E' := mm_Tape_ended) dq_Tape_takeDigit_1 rfl (ok_v rfl (by decide) (by decide) (Nat.le_add_left _ _) hst (Nat.le_of_ble_eq_true rfl) (Or.inr (rc_v ho (up_b (by decide)) rfl))) rfl rfl hc
theorem dq_Tape_takeDigit_4 : decode (km_c mm_Tape_takeDigit) 4 = .ok (.ifCond .ne 34, 3) := by decide +kernel
theorem sq_Tape_takeDigit_4 : rn G mm_Tape_takeDigit 4 lv (.int x :: st) S P ↔ ((¬ x = 0 → rn G mm_Tape_takeDigit 38 lv st S P) ∧ (¬ (¬ x = 0) → rn G mm_Tape_takeDigit 7 lv st S P)) := rn_b (off := 34) dq_Tape_takeDigit_4 rfl rfl rfl rfl
theorem dq_Tape_takeDigit_7 : decode (km_c mm_Tape_takeDigit) 7 = .ok (.aload_n 0, 1) := by decide +kernel
theorem sq_Tape_takeDigit_7 : rn G mm_Tape_takeDigit 7 [some (.ref z), a1] st S P ↔ rn G mm_Tape_takeDigit 8 [some (.ref z), a1] (.ref z :: st) S P := rn_s dq_Tape_takeDigit_7 rfl rfl rfl
theorem dq_Tape_takeDigit_8 : decode (km_c mm_Tape_takeDigit) 8 = .ok (.getfield 9, 3) := by decide +kernel
theorem sq_Tape_takeDigit_8_24 (ho : sx_o o pl kp) : rn (lt_G o L) mm_Tape_takeDigit 8 lv (.ref 24 :: st) (sx pl kp I A) P ↔ rn (lt_G o L) mm_Tape_takeDigit 11 lv (.ref 25 :: st) (sx pl kp I A) P := rx_get (h := "") (ci := 4) (k := 0) dq_Tape_takeDigit_8 (by decide +kernel) ho (up_b (by decide)) rfl rfl (fl_r (by decide) (by decide) (by decide) (by decide))
theorem dq_Tape_takeDigit_11 : decode (km_c mm_Tape_takeDigit) 11 = .ok (.aload_n 0, 1) := by decide +kernel
theorem sq_Tape_takeDigit_11 : rn G mm_Tape_takeDigit 11 [some (.ref z), a1] st S P ↔ rn G mm_Tape_takeDigit 12 [some (.ref z), a1] (.ref z :: st) S P := rn_s dq_Tape_takeDigit_11 rfl rfl rfl
theorem dq_Tape_takeDigit_12 : decode (km_c mm_Tape_takeDigit) 12 = .ok (.getfield 19, 3) := by decide +kernel
theorem sq_Tape_takeDigit_12_24 (ho : sx_o o pl kp) : rn (lt_G o L) mm_Tape_takeDigit 12 lv (.ref 24 :: st) (sx pl kp I A) P ↔ rn (lt_G o L) mm_Tape_takeDigit 15 lv (.int (I 24 2) :: st) (sx pl kp I A) P := rx_get (h := "") (ci := 4) (k := 2) dq_Tape_takeDigit_12 (by decide +kernel) ho (up_b (by decide)) rfl rfl (fl_i (by decide))
theorem dq_Tape_takeDigit_15 : decode (km_c mm_Tape_takeDigit) 15 = .ok (.baload, 1) := by decide +kernel
theorem sq_Tape_takeDigit_15 (ho : sx_o o pl kp) (hk : ak L a = 1 ∨ ak L a = 2) (hu : sx_up pl kp a = true) (hc : c < ln L a) (hn : ln L a < 2 ^ 31) : rn (lt_G o L) mm_Tape_takeDigit 15 lv (.int (nI c) :: .ref a :: st) (sx pl kp I A) P ↔ rn (lt_G o L) mm_Tape_takeDigit 16 lv (.int (A a c) :: st) (sx pl kp I A) P := rx_bld dq_Tape_takeDigit_15 ho hk hu hc hn
theorem dq_Tape_takeDigit_16 : decode (km_c mm_Tape_takeDigit) 16 = .ok (.invokestatic 73, 3) := by decide +kernel
theorem sq_Tape_takeDigit_16 {x1 : Int32} {v : Option Value} {S2 : ks_S} (hc : ev G mm_Tape_isDigit [.int x1] S v S2) (hst : kx_cat st ≤ 8) : rn G mm_Tape_takeDigit 16 lv (.int x1 :: st) S P ↔ rn G mm_Tape_takeDigit 19 lv (v.toList ++ st) S2 P := rn_cs (k := 1) (host := "") (E' := mm_Tape_isDigit) dq_Tape_takeDigit_16 (by decide) (by decide) rfl (ok_v rfl (by decide) (by decide) (Nat.le_add_left _ _) hst (Nat.le_of_ble_eq_true rfl) (Or.inl rfl)) rfl rfl hc
theorem dq_Tape_takeDigit_19 : decode (km_c mm_Tape_takeDigit) 19 = .ok (.ifCond .eq 19, 3) := by decide +kernel
theorem sq_Tape_takeDigit_19 : rn G mm_Tape_takeDigit 19 lv (.int x :: st) S P ↔ ((x = 0 → rn G mm_Tape_takeDigit 38 lv st S P) ∧ (¬ (x = 0) → rn G mm_Tape_takeDigit 22 lv st S P)) := rn_b (off := 19) dq_Tape_takeDigit_19 rfl rfl rfl rfl
theorem dq_Tape_takeDigit_22 : decode (km_c mm_Tape_takeDigit) 22 = .ok (.aload_n 0, 1) := by decide +kernel
theorem sq_Tape_takeDigit_22 : rn G mm_Tape_takeDigit 22 [some (.ref z), a1] st S P ↔ rn G mm_Tape_takeDigit 23 [some (.ref z), a1] (.ref z :: st) S P := rn_s dq_Tape_takeDigit_22 rfl rfl rfl
theorem dq_Tape_takeDigit_23 : decode (km_c mm_Tape_takeDigit) 23 = .ok (.getfield 9, 3) := by decide +kernel
theorem sq_Tape_takeDigit_23_24 (ho : sx_o o pl kp) : rn (lt_G o L) mm_Tape_takeDigit 23 lv (.ref 24 :: st) (sx pl kp I A) P ↔ rn (lt_G o L) mm_Tape_takeDigit 26 lv (.ref 25 :: st) (sx pl kp I A) P := rx_get (h := "") (ci := 4) (k := 0) dq_Tape_takeDigit_23 (by decide +kernel) ho (up_b (by decide)) rfl rfl (fl_r (by decide) (by decide) (by decide) (by decide))
theorem dq_Tape_takeDigit_26 : decode (km_c mm_Tape_takeDigit) 26 = .ok (.aload_n 0, 1) := by decide +kernel
theorem sq_Tape_takeDigit_26 : rn G mm_Tape_takeDigit 26 [some (.ref z), a1] st S P ↔ rn G mm_Tape_takeDigit 27 [some (.ref z), a1] (.ref z :: st) S P := rn_s dq_Tape_takeDigit_26 rfl rfl rfl
theorem dq_Tape_takeDigit_27 : decode (km_c mm_Tape_takeDigit) 27 = .ok (.getfield 19, 3) := by decide +kernel
theorem sq_Tape_takeDigit_27_24 (ho : sx_o o pl kp) : rn (lt_G o L) mm_Tape_takeDigit 27 lv (.ref 24 :: st) (sx pl kp I A) P ↔ rn (lt_G o L) mm_Tape_takeDigit 30 lv (.int (I 24 2) :: st) (sx pl kp I A) P := rx_get (h := "") (ci := 4) (k := 2) dq_Tape_takeDigit_27 (by decide +kernel) ho (up_b (by decide)) rfl rfl (fl_i (by decide))
theorem dq_Tape_takeDigit_30 : decode (km_c mm_Tape_takeDigit) 30 = .ok (.baload, 1) := by decide +kernel
theorem sq_Tape_takeDigit_30 (ho : sx_o o pl kp) (hk : ak L a = 1 ∨ ak L a = 2) (hu : sx_up pl kp a = true) (hc : c < ln L a) (hn : ln L a < 2 ^ 31) : rn (lt_G o L) mm_Tape_takeDigit 30 lv (.int (nI c) :: .ref a :: st) (sx pl kp I A) P ↔ rn (lt_G o L) mm_Tape_takeDigit 31 lv (.int (A a c) :: st) (sx pl kp I A) P := rx_bld dq_Tape_takeDigit_30 ho hk hu hc hn
theorem dq_Tape_takeDigit_31 : decode (km_c mm_Tape_takeDigit) 31 = .ok (.bipush 48, 2) := by decide +kernel
theorem sq_Tape_takeDigit_31 : rn G mm_Tape_takeDigit 31 lv st S P ↔ rn G mm_Tape_takeDigit 33 lv (.int (nI 48) :: st) S P := rn_s dq_Tape_takeDigit_31 rfl rfl rfl
theorem dq_Tape_takeDigit_33 : decode (km_c mm_Tape_takeDigit) 33 = .ok (.isub, 1) := by decide +kernel
theorem sq_Tape_takeDigit_33 : rn G mm_Tape_takeDigit 33 lv (.int x2 :: .int x :: st) S P ↔ rn G mm_Tape_takeDigit 34 lv (.int (x - x2) :: st) S P := rn_s dq_Tape_takeDigit_33 rfl rfl rfl
theorem dq_Tape_takeDigit_34 : decode (km_c mm_Tape_takeDigit) 34 = .ok (.iload_n 1, 1) := by decide +kernel
theorem sq_Tape_takeDigit_34 : rn G mm_Tape_takeDigit 34 [a0, some (.int x)] st S P ↔ rn G mm_Tape_takeDigit 35 [a0, some (.int x)] (.int x :: st) S P := rn_s dq_Tape_takeDigit_34 rfl rfl rfl
theorem dq_Tape_takeDigit_35 : decode (km_c mm_Tape_takeDigit) 35 = .ok (.if_icmp .le 5, 3) := by decide +kernel
theorem sq_Tape_takeDigit_35 : rn G mm_Tape_takeDigit 35 lv (.int x2 :: .int x :: st) S P ↔ ((x ≤ x2 → rn G mm_Tape_takeDigit 40 lv st S P) ∧ (¬ (x ≤ x2) → rn G mm_Tape_takeDigit 38 lv st S P)) := rn_b (off := 5) dq_Tape_takeDigit_35 rfl rfl rfl rfl
theorem dq_Tape_takeDigit_38 : decode (km_c mm_Tape_takeDigit) 38 = .ok (.iconst (-1), 1) := by decide +kernel
theorem sq_Tape_takeDigit_38 : rn G mm_Tape_takeDigit 38 lv st S P ↔ rn G mm_Tape_takeDigit 39 lv (.int ((-1)) :: st) S P := rn_s dq_Tape_takeDigit_38 rfl rfl rfl
theorem dq_Tape_takeDigit_39 : decode (km_c mm_Tape_takeDigit) 39 = .ok (.ireturn, 1) := by decide +kernel
theorem sq_Tape_takeDigit_39 : rn G mm_Tape_takeDigit 39 lv [.int x] S P ↔ P (some (.int x)) S := rn_ir dq_Tape_takeDigit_39 rfl
theorem dq_Tape_takeDigit_40 : decode (km_c mm_Tape_takeDigit) 40 = .ok (.aload_n 0, 1) := by decide +kernel
theorem sq_Tape_takeDigit_40 : rn G mm_Tape_takeDigit 40 [some (.ref z), a1] st S P ↔ rn G mm_Tape_takeDigit 41 [some (.ref z), a1] (.ref z :: st) S P := rn_s dq_Tape_takeDigit_40 rfl rfl rfl
theorem dq_Tape_takeDigit_41 : decode (km_c mm_Tape_takeDigit) 41 = .ok (.dup, 1) := by decide +kernel
theorem sq_Tape_takeDigit_41i : rn G mm_Tape_takeDigit 41 lv (.int x :: st) S P ↔ rn G mm_Tape_takeDigit 42 lv (.int x :: .int x :: st) S P := rn_s dq_Tape_takeDigit_41 rfl rfl rfl
theorem sq_Tape_takeDigit_41r : rn G mm_Tape_takeDigit 41 lv (.ref z :: st) S P ↔ rn G mm_Tape_takeDigit 42 lv (.ref z :: .ref z :: st) S P := rn_s dq_Tape_takeDigit_41 rfl rfl rfl
theorem dq_Tape_takeDigit_42 : decode (km_c mm_Tape_takeDigit) 42 = .ok (.getfield 19, 3) := by decide +kernel
theorem sq_Tape_takeDigit_42_24 (ho : sx_o o pl kp) : rn (lt_G o L) mm_Tape_takeDigit 42 lv (.ref 24 :: st) (sx pl kp I A) P ↔ rn (lt_G o L) mm_Tape_takeDigit 45 lv (.int (I 24 2) :: st) (sx pl kp I A) P := rx_get (h := "") (ci := 4) (k := 2) dq_Tape_takeDigit_42 (by decide +kernel) ho (up_b (by decide)) rfl rfl (fl_i (by decide))
theorem dq_Tape_takeDigit_45 : decode (km_c mm_Tape_takeDigit) 45 = .ok (.iconst 1, 1) := by decide +kernel
theorem sq_Tape_takeDigit_45 : rn G mm_Tape_takeDigit 45 lv st S P ↔ rn G mm_Tape_takeDigit 46 lv (.int (nI 1) :: st) S P := rn_s dq_Tape_takeDigit_45 rfl rfl rfl
theorem dq_Tape_takeDigit_46 : decode (km_c mm_Tape_takeDigit) 46 = .ok (.iadd, 1) := by decide +kernel
theorem sq_Tape_takeDigit_46 : rn G mm_Tape_takeDigit 46 lv (.int x2 :: .int x :: st) S P ↔ rn G mm_Tape_takeDigit 47 lv (.int (x + x2) :: st) S P := rn_s dq_Tape_takeDigit_46 rfl rfl rfl
theorem dq_Tape_takeDigit_47 : decode (km_c mm_Tape_takeDigit) 47 = .ok (.putfield 19, 3) := by decide +kernel
theorem sq_Tape_takeDigit_47_24 (ho : sx_o o pl kp) : rn (lt_G o L) mm_Tape_takeDigit 47 lv (.int x :: .ref 24 :: st) (sx pl kp I A) P ↔ rn (lt_G o L) mm_Tape_takeDigit 50 lv st (sx pl kp (u2 I 24 2 x) A) P := rx_put (h := "") (ci := 4) (k := 2) dq_Tape_takeDigit_47 (by decide +kernel) ho (up_b (by decide)) rfl rfl (by decide) (by decide)
theorem dq_Tape_takeDigit_50 : decode (km_c mm_Tape_takeDigit) 50 = .ok (.aload_n 0, 1) := by decide +kernel
theorem sq_Tape_takeDigit_50 : rn G mm_Tape_takeDigit 50 [some (.ref z), a1] st S P ↔ rn G mm_Tape_takeDigit 51 [some (.ref z), a1] (.ref z :: st) S P := rn_s dq_Tape_takeDigit_50 rfl rfl rfl
theorem dq_Tape_takeDigit_51 : decode (km_c mm_Tape_takeDigit) 51 = .ok (.getfield 9, 3) := by decide +kernel
theorem sq_Tape_takeDigit_51_24 (ho : sx_o o pl kp) : rn (lt_G o L) mm_Tape_takeDigit 51 lv (.ref 24 :: st) (sx pl kp I A) P ↔ rn (lt_G o L) mm_Tape_takeDigit 54 lv (.ref 25 :: st) (sx pl kp I A) P := rx_get (h := "") (ci := 4) (k := 0) dq_Tape_takeDigit_51 (by decide +kernel) ho (up_b (by decide)) rfl rfl (fl_r (by decide) (by decide) (by decide) (by decide))
theorem dq_Tape_takeDigit_54 : decode (km_c mm_Tape_takeDigit) 54 = .ok (.aload_n 0, 1) := by decide +kernel
theorem sq_Tape_takeDigit_54 : rn G mm_Tape_takeDigit 54 [some (.ref z), a1] st S P ↔ rn G mm_Tape_takeDigit 55 [some (.ref z), a1] (.ref z :: st) S P := rn_s dq_Tape_takeDigit_54 rfl rfl rfl
theorem dq_Tape_takeDigit_55 : decode (km_c mm_Tape_takeDigit) 55 = .ok (.getfield 19, 3) := by decide +kernel
theorem sq_Tape_takeDigit_55_24 (ho : sx_o o pl kp) : rn (lt_G o L) mm_Tape_takeDigit 55 lv (.ref 24 :: st) (sx pl kp I A) P ↔ rn (lt_G o L) mm_Tape_takeDigit 58 lv (.int (I 24 2) :: st) (sx pl kp I A) P := rx_get (h := "") (ci := 4) (k := 2) dq_Tape_takeDigit_55 (by decide +kernel) ho (up_b (by decide)) rfl rfl (fl_i (by decide))
theorem dq_Tape_takeDigit_58 : decode (km_c mm_Tape_takeDigit) 58 = .ok (.iconst 1, 1) := by decide +kernel
theorem sq_Tape_takeDigit_58 : rn G mm_Tape_takeDigit 58 lv st S P ↔ rn G mm_Tape_takeDigit 59 lv (.int (nI 1) :: st) S P := rn_s dq_Tape_takeDigit_58 rfl rfl rfl
theorem dq_Tape_takeDigit_59 : decode (km_c mm_Tape_takeDigit) 59 = .ok (.isub, 1) := by decide +kernel
theorem sq_Tape_takeDigit_59 : rn G mm_Tape_takeDigit 59 lv (.int x2 :: .int x :: st) S P ↔ rn G mm_Tape_takeDigit 60 lv (.int (x - x2) :: st) S P := rn_s dq_Tape_takeDigit_59 rfl rfl rfl
theorem dq_Tape_takeDigit_60 : decode (km_c mm_Tape_takeDigit) 60 = .ok (.baload, 1) := by decide +kernel
theorem sq_Tape_takeDigit_60 (ho : sx_o o pl kp) (hk : ak L a = 1 ∨ ak L a = 2) (hu : sx_up pl kp a = true) (hc : c < ln L a) (hn : ln L a < 2 ^ 31) : rn (lt_G o L) mm_Tape_takeDigit 60 lv (.int (nI c) :: .ref a :: st) (sx pl kp I A) P ↔ rn (lt_G o L) mm_Tape_takeDigit 61 lv (.int (A a c) :: st) (sx pl kp I A) P := rx_bld dq_Tape_takeDigit_60 ho hk hu hc hn
theorem dq_Tape_takeDigit_61 : decode (km_c mm_Tape_takeDigit) 61 = .ok (.bipush 48, 2) := by decide +kernel
theorem sq_Tape_takeDigit_61 : rn G mm_Tape_takeDigit 61 lv st S P ↔ rn G mm_Tape_takeDigit 63 lv (.int (nI 48) :: st) S P := rn_s dq_Tape_takeDigit_61 rfl rfl rfl
theorem dq_Tape_takeDigit_63 : decode (km_c mm_Tape_takeDigit) 63 = .ok (.isub, 1) := by decide +kernel
theorem sq_Tape_takeDigit_63 : rn G mm_Tape_takeDigit 63 lv (.int x2 :: .int x :: st) S P ↔ rn G mm_Tape_takeDigit 64 lv (.int (x - x2) :: st) S P := rn_s dq_Tape_takeDigit_63 rfl rfl rfl
theorem dq_Tape_takeDigit_64 : decode (km_c mm_Tape_takeDigit) 64 = .ok (.ireturn, 1) := by decide +kernel
theorem sq_Tape_takeDigit_64 : rn G mm_Tape_takeDigit 64 lv [.int x] S P ↔ P (some (.int x)) S := rn_ir dq_Tape_takeDigit_64 rfl
theorem dq_Tape_isDigit_0 : decode (km_c mm_Tape_isDigit) 0 = .ok (.iload_n 0, 1) := by decide +kernel
theorem sq_Tape_isDigit_0 : rn G mm_Tape_isDigit 0 [some (.int x)] st S P ↔ rn G mm_Tape_isDigit 1 [some (.int x)] (.int x :: st) S P := rn_s dq_Tape_isDigit_0 rfl rfl rfl
theorem dq_Tape_isDigit_1 : decode (km_c mm_Tape_isDigit) 1 = .ok (.bipush 48, 2) := by decide +kernel
theorem sq_Tape_isDigit_1 : rn G mm_Tape_isDigit 1 lv st S P ↔ rn G mm_Tape_isDigit 3 lv (.int (nI 48) :: st) S P := rn_s dq_Tape_isDigit_1 rfl rfl rfl
theorem dq_Tape_isDigit_3 : decode (km_c mm_Tape_isDigit) 3 = .ok (.if_icmp .lt 13, 3) := by decide +kernel
theorem sq_Tape_isDigit_3 : rn G mm_Tape_isDigit 3 lv (.int x2 :: .int x :: st) S P ↔ ((x < x2 → rn G mm_Tape_isDigit 16 lv st S P) ∧ (¬ (x < x2) → rn G mm_Tape_isDigit 6 lv st S P)) := rn_b (off := 13) dq_Tape_isDigit_3 rfl rfl rfl rfl
theorem dq_Tape_isDigit_6 : decode (km_c mm_Tape_isDigit) 6 = .ok (.iload_n 0, 1) := by decide +kernel
theorem sq_Tape_isDigit_6 : rn G mm_Tape_isDigit 6 [some (.int x)] st S P ↔ rn G mm_Tape_isDigit 7 [some (.int x)] (.int x :: st) S P := rn_s dq_Tape_isDigit_6 rfl rfl rfl
theorem dq_Tape_isDigit_7 : decode (km_c mm_Tape_isDigit) 7 = .ok (.bipush 57, 2) := by decide +kernel
theorem sq_Tape_isDigit_7 : rn G mm_Tape_isDigit 7 lv st S P ↔ rn G mm_Tape_isDigit 9 lv (.int (nI 57) :: st) S P := rn_s dq_Tape_isDigit_7 rfl rfl rfl
theorem dq_Tape_isDigit_9 : decode (km_c mm_Tape_isDigit) 9 = .ok (.if_icmp .gt 7, 3) := by decide +kernel
theorem sq_Tape_isDigit_9 : rn G mm_Tape_isDigit 9 lv (.int x2 :: .int x :: st) S P ↔ ((x2 < x → rn G mm_Tape_isDigit 16 lv st S P) ∧ (¬ (x2 < x) → rn G mm_Tape_isDigit 12 lv st S P)) := rn_b (off := 7) dq_Tape_isDigit_9 rfl rfl rfl rfl
theorem dq_Tape_isDigit_12 : decode (km_c mm_Tape_isDigit) 12 = .ok (.iconst 1, 1) := by decide +kernel
theorem sq_Tape_isDigit_12 : rn G mm_Tape_isDigit 12 lv st S P ↔ rn G mm_Tape_isDigit 13 lv (.int (nI 1) :: st) S P := rn_s dq_Tape_isDigit_12 rfl rfl rfl
theorem dq_Tape_isDigit_13 : decode (km_c mm_Tape_isDigit) 13 = .ok (.goto 4, 3) := by decide +kernel
theorem sq_Tape_isDigit_13 : rn G mm_Tape_isDigit 13 lv st S P ↔ rn G mm_Tape_isDigit 17 lv st S P := rn_s dq_Tape_isDigit_13 rfl rfl rfl
theorem dq_Tape_isDigit_16 : decode (km_c mm_Tape_isDigit) 16 = .ok (.iconst 0, 1) := by decide +kernel
theorem sq_Tape_isDigit_16 : rn G mm_Tape_isDigit 16 lv st S P ↔ rn G mm_Tape_isDigit 17 lv (.int (nI 0) :: st) S P := rn_s dq_Tape_isDigit_16 rfl rfl rfl
theorem dq_Tape_isDigit_17 : decode (km_c mm_Tape_isDigit) 17 = .ok (.ireturn, 1) := by decide +kernel
theorem sq_Tape_isDigit_17_0 : rn G mm_Tape_isDigit 17 lv [.int (nI 0)] S P ↔ P (some (.int (nI 0))) S := rn_ir dq_Tape_isDigit_17 (by decide)
theorem sq_Tape_isDigit_17_1 : rn G mm_Tape_isDigit 17 lv [.int (nI 1)] S P ↔ P (some (.int (nI 1))) S := rn_ir dq_Tape_isDigit_17 (by decide)
theorem dq_Tape_clear_0 : decode (km_c mm_Tape_clear) 0 = .ok (.aload_n 0, 1) := by decide +kernel
theorem sq_Tape_clear_0 : rn G mm_Tape_clear 0 [some (.ref z)] st S P ↔ rn G mm_Tape_clear 1 [some (.ref z)] (.ref z :: st) S P := rn_s dq_Tape_clear_0 rfl rfl rfl
theorem dq_Tape_clear_1 : decode (km_c mm_Tape_clear) 1 = .ok (.iconst 0, 1) := by decide +kernel
theorem sq_Tape_clear_1 : rn G mm_Tape_clear 1 lv st S P ↔ rn G mm_Tape_clear 2 lv (.int (nI 0) :: st) S P := rn_s dq_Tape_clear_1 rfl rfl rfl
theorem dq_Tape_clear_2 : decode (km_c mm_Tape_clear) 2 = .ok (.putfield 15, 3) := by decide +kernel
theorem sq_Tape_clear_2_24 (ho : sx_o o pl kp) : rn (lt_G o L) mm_Tape_clear 2 lv (.int x :: .ref 24 :: st) (sx pl kp I A) P ↔ rn (lt_G o L) mm_Tape_clear 5 lv st (sx pl kp (u2 I 24 1 x) A) P := rx_put (h := "") (ci := 4) (k := 1) dq_Tape_clear_2 (by decide +kernel) ho (up_b (by decide)) rfl rfl (by decide) (by decide)
theorem dq_Tape_clear_5 : decode (km_c mm_Tape_clear) 5 = .ok (.aload_n 0, 1) := by decide +kernel
theorem sq_Tape_clear_5 : rn G mm_Tape_clear 5 [some (.ref z)] st S P ↔ rn G mm_Tape_clear 6 [some (.ref z)] (.ref z :: st) S P := rn_s dq_Tape_clear_5 rfl rfl rfl
theorem dq_Tape_clear_6 : decode (km_c mm_Tape_clear) 6 = .ok (.iconst 0, 1) := by decide +kernel
theorem sq_Tape_clear_6 : rn G mm_Tape_clear 6 lv st S P ↔ rn G mm_Tape_clear 7 lv (.int (nI 0) :: st) S P := rn_s dq_Tape_clear_6 rfl rfl rfl
theorem dq_Tape_clear_7 : decode (km_c mm_Tape_clear) 7 = .ok (.putfield 19, 3) := by decide +kernel
theorem sq_Tape_clear_7_24 (ho : sx_o o pl kp) : rn (lt_G o L) mm_Tape_clear 7 lv (.int x :: .ref 24 :: st) (sx pl kp I A) P ↔ rn (lt_G o L) mm_Tape_clear 10 lv st (sx pl kp (u2 I 24 2 x) A) P := rx_put (h := "") (ci := 4) (k := 2) dq_Tape_clear_7 (by decide +kernel) ho (up_b (by decide)) rfl rfl (by decide) (by decide)
theorem dq_Tape_clear_10 : decode (km_c mm_Tape_clear) 10 = .ok (.return_, 1) := by decide +kernel
theorem sq_Tape_clear_10 : rn G mm_Tape_clear 10 lv [] S P ↔ P none S := rn_vr dq_Tape_clear_10 rfl
theorem dq_Tape_readVillages_0 : decode (km_c mm_Tape_readVillages) 0 = .ok (.aload_n 1, 1) := by decide +kernel
theorem sq_Tape_readVillages_0 : rn G mm_Tape_readVillages 0 [a0, some (.ref z), a2] st S P ↔ rn G mm_Tape_readVillages 1 [a0, some (.ref z), a2] (.ref z :: st) S P := rn_s dq_Tape_readVillages_0 rfl rfl rfl
theorem dq_Tape_readVillages_1 : decode (km_c mm_Tape_readVillages) 1 = .ok (.iconst 0, 1) := by decide +kernel
theorem sq_Tape_readVillages_1 : rn G mm_Tape_readVillages 1 lv st S P ↔ rn G mm_Tape_readVillages 2 lv (.int (nI 0) :: st) S P := rn_s dq_Tape_readVillages_1 rfl rfl rfl
theorem dq_Tape_readVillages_2 : decode (km_c mm_Tape_readVillages) 2 = .ok (.putfield 54, 3) := by decide +kernel
theorem sq_Tape_readVillages_2_9 (ho : sx_o o pl kp) : rn (lt_G o L) mm_Tape_readVillages 2 lv (.int x :: .ref 9 :: st) (sx pl kp I A) P ↔ rn (lt_G o L) mm_Tape_readVillages 5 lv st (sx pl kp (u2 I 9 2 x) A) P := rx_put (h := "DeltaRoad") (ci := 5) (k := 2) dq_Tape_readVillages_2 (by decide +kernel) ho (up_b (by decide)) rfl rfl (by decide) (by decide)
theorem sq_Tape_readVillages_2_42 (ho : sx_o o pl kp) : rn (lt_G o L) mm_Tape_readVillages 2 lv (.int x :: .ref 42 :: st) (sx pl kp I A) P ↔ rn (lt_G o L) mm_Tape_readVillages 5 lv st (sx pl kp (u2 I 42 2 x) A) P := rx_put (h := "DeltaRoad") (ci := 5) (k := 2) dq_Tape_readVillages_2 (by decide +kernel) ho (up_b (by decide)) rfl rfl (by decide) (by decide)
theorem sq_Tape_readVillages_2_144 (ho : sx_o o pl true) : rn (lt_G o L) mm_Tape_readVillages 2 lv (.int x :: .ref 144 :: st) (sx pl true I A) P ↔ rn (lt_G o L) mm_Tape_readVillages 5 lv st (sx pl true (u2 I 144 2 x) A) P := rx_put (h := "DeltaRoad") (ci := 5) (k := 2) dq_Tape_readVillages_2 (by decide +kernel) ho (up_k (by decide) (by decide)) rfl rfl (by decide) (by decide)
theorem dq_Tape_readVillages_5 : decode (km_c mm_Tape_readVillages) 5 = .ok (.iconst 0, 1) := by decide +kernel
theorem sq_Tape_readVillages_5 : rn G mm_Tape_readVillages 5 lv st S P ↔ rn G mm_Tape_readVillages 6 lv (.int (nI 0) :: st) S P := rn_s dq_Tape_readVillages_5 rfl rfl rfl
theorem dq_Tape_readVillages_6 : decode (km_c mm_Tape_readVillages) 6 = .ok (.istore_n 2, 1) := by decide +kernel
theorem sq_Tape_readVillages_6n : rn G mm_Tape_readVillages 6 [a0, none, a2] (.int x :: st) S P ↔ rn G mm_Tape_readVillages 7 [a0, none, some (.int x)] st S P := rn_s dq_Tape_readVillages_6 rfl rfl rfl
theorem sq_Tape_readVillages_6i : rn G mm_Tape_readVillages 6 [a0, some (.int x2), a2] (.int x :: st) S P ↔ rn G mm_Tape_readVillages 7 [a0, some (.int x2), some (.int x)] st S P := rn_s dq_Tape_readVillages_6 rfl rfl rfl
theorem sq_Tape_readVillages_6r : rn G mm_Tape_readVillages 6 [a0, some (.ref z2), a2] (.int x :: st) S P ↔ rn G mm_Tape_readVillages 7 [a0, some (.ref z2), some (.int x)] st S P := rn_s dq_Tape_readVillages_6 rfl rfl rfl
theorem dq_Tape_readVillages_7 : decode (km_c mm_Tape_readVillages) 7 = .ok (.iload_n 2, 1) := by decide +kernel
theorem sq_Tape_readVillages_7 : rn G mm_Tape_readVillages 7 [a0, a1, some (.int x)] st S P ↔ rn G mm_Tape_readVillages 8 [a0, a1, some (.int x)] (.int x :: st) S P := rn_s dq_Tape_readVillages_7 rfl rfl rfl
theorem dq_Tape_readVillages_8 : decode (km_c mm_Tape_readVillages) 8 = .ok (.bipush 6, 2) := by decide +kernel
theorem sq_Tape_readVillages_8 : rn G mm_Tape_readVillages 8 lv st S P ↔ rn G mm_Tape_readVillages 10 lv (.int (nI 6) :: st) S P := rn_s dq_Tape_readVillages_8 rfl rfl rfl
theorem dq_Tape_readVillages_10 : decode (km_c mm_Tape_readVillages) 10 = .ok (.if_icmp .ge 52, 3) := by decide +kernel
theorem sq_Tape_readVillages_10 : rn G mm_Tape_readVillages 10 lv (.int x2 :: .int x :: st) S P ↔ ((x2 ≤ x → rn G mm_Tape_readVillages 62 lv st S P) ∧ (¬ (x2 ≤ x) → rn G mm_Tape_readVillages 13 lv st S P)) := rn_b (off := 52) dq_Tape_readVillages_10 rfl rfl rfl rfl
theorem dq_Tape_readVillages_13 : decode (km_c mm_Tape_readVillages) 13 = .ok (.iload_n 2, 1) := by decide +kernel
theorem sq_Tape_readVillages_13 : rn G mm_Tape_readVillages 13 [a0, a1, some (.int x)] st S P ↔ rn G mm_Tape_readVillages 14 [a0, a1, some (.int x)] (.int x :: st) S P := rn_s dq_Tape_readVillages_13 rfl rfl rfl
theorem dq_Tape_readVillages_14 : decode (km_c mm_Tape_readVillages) 14 = .ok (.ifCond .le 17, 3) := by decide +kernel
theorem sq_Tape_readVillages_14 : rn G mm_Tape_readVillages 14 lv (.int x :: st) S P ↔ ((x ≤ 0 → rn G mm_Tape_readVillages 31 lv st S P) ∧ (¬ (x ≤ 0) → rn G mm_Tape_readVillages 17 lv st S P)) := rn_b (off := 17) dq_Tape_readVillages_14 rfl rfl rfl rfl
theorem dq_Tape_readVillages_17 : decode (km_c mm_Tape_readVillages) 17 = .ok (.aload_n 0, 1) := by decide +kernel
theorem sq_Tape_readVillages_17 : rn G mm_Tape_readVillages 17 [some (.ref z), a1, a2] st S P ↔ rn G mm_Tape_readVillages 18 [some (.ref z), a1, a2] (.ref z :: st) S P := rn_s dq_Tape_readVillages_17 rfl rfl rfl
theorem dq_Tape_readVillages_18 : decode (km_c mm_Tape_readVillages) 18 = .ok (.bipush 44, 2) := by decide +kernel
theorem sq_Tape_readVillages_18 : rn G mm_Tape_readVillages 18 lv st S P ↔ rn G mm_Tape_readVillages 20 lv (.int (nI 44) :: st) S P := rn_s dq_Tape_readVillages_18 rfl rfl rfl
theorem dq_Tape_readVillages_20 : decode (km_c mm_Tape_readVillages) 20 = .ok (.invokevirtual 28, 3) := by decide +kernel
theorem sq_Tape_readVillages_20_24 {x1 : Int32} {v : Option Value} {S2 : ks_S} (hc : ev (lt_G o L) mm_Tape_take [.ref 24, .int x1] (sx pl kp I A) v S2) (ho : sx_o o pl kp) (hst : kx_cat st ≤ 8) : rn (lt_G o L) mm_Tape_readVillages 20 lv (.int x1 :: .ref 24 :: st) (sx pl kp I A) P ↔ rn (lt_G o L) mm_Tape_readVillages 23 lv (v.toList ++ st) S2 P := rn_cv (k := 0) (host := "") (E' := mm_Tape_take) dq_Tape_readVillages_20 rfl (ok_v rfl (by decide) (by decide) (Nat.le_add_left _ _) hst (Nat.le_of_ble_eq_true rfl) (Or.inr (rc_v ho (up_b (by decide)) rfl))) rfl rfl hc
theorem dq_Tape_readVillages_23 : decode (km_c mm_Tape_readVillages) 23 = .ok (.ifCond .ne 8, 3) := by decide +kernel
theorem sq_Tape_readVillages_23 : rn G mm_Tape_readVillages 23 lv (.int x :: st) S P ↔ ((¬ x = 0 → rn G mm_Tape_readVillages 31 lv st S P) ∧ (¬ (¬ x = 0) → rn G mm_Tape_readVillages 26 lv st S P)) := rn_b (off := 8) dq_Tape_readVillages_23 rfl rfl rfl rfl
theorem dq_Tape_readVillages_26 : decode (km_c mm_Tape_readVillages) 26 = .ok (.aload_n 0, 1) := by decide +kernel
theorem sq_Tape_readVillages_26 : rn G mm_Tape_readVillages 26 [some (.ref z), a1, a2] st S P ↔ rn G mm_Tape_readVillages 27 [some (.ref z), a1, a2] (.ref z :: st) S P := rn_s dq_Tape_readVillages_26 rfl rfl rfl
theorem dq_Tape_readVillages_27 : decode (km_c mm_Tape_readVillages) 27 = .ok (.invokevirtual 32, 3) := by decide +kernel
theorem sq_Tape_readVillages_27_24  {v : Option Value} {S2 : ks_S} (hc : ev (lt_G o L) mm_Tape_fault [.ref 24] (sx pl kp I A) v S2) (ho : sx_o o pl kp) (hst : kx_cat st ≤ 8) : rn (lt_G o L) mm_Tape_readVillages 27 lv (.ref 24 :: st) (sx pl kp I A) P ↔ rn (lt_G o L) mm_Tape_readVillages 30 lv (v.toList ++ st) S2 P := rn_cv (k := 0) (host := "") (E' := mm_Tape_fault) dq_Tape_readVillages_27 rfl (ok_v rfl (by decide) (by decide) (Nat.le_add_left _ _) hst (Nat.le_of_ble_eq_true rfl) (Or.inr (rc_v ho (up_b (by decide)) rfl))) rfl rfl hc
theorem dq_Tape_readVillages_30 : decode (km_c mm_Tape_readVillages) 30 = .ok (.ireturn, 1) := by decide +kernel
theorem sq_Tape_readVillages_30 : rn G mm_Tape_readVillages 30 lv [.int x] S P ↔ P (some (.int x)) S := rn_ir dq_Tape_readVillages_30 rfl
theorem dq_Tape_readVillages_31 : decode (km_c mm_Tape_readVillages) 31 = .ok (.aload_n 0, 1) := by decide +kernel
theorem sq_Tape_readVillages_31 : rn G mm_Tape_readVillages 31 [some (.ref z), a1, a2] st S P ↔ rn G mm_Tape_readVillages 32 [some (.ref z), a1, a2] (.ref z :: st) S P := rn_s dq_Tape_readVillages_31 rfl rfl rfl
theorem dq_Tape_readVillages_32 : decode (km_c mm_Tape_readVillages) 32 = .ok (.aload_n 1, 1) := by decide +kernel
theorem sq_Tape_readVillages_32 : rn G mm_Tape_readVillages 32 [a0, some (.ref z), a2] st S P ↔ rn G mm_Tape_readVillages 33 [a0, some (.ref z), a2] (.ref z :: st) S P := rn_s dq_Tape_readVillages_32 rfl rfl rfl
theorem dq_Tape_readVillages_33 : decode (km_c mm_Tape_readVillages) 33 = .ok (.invokevirtual 59, 3) := by decide +kernel
theorem sq_Tape_readVillages_33_24 {z1 : Nat} {v : Option Value} {S2 : ks_S} (hc : ev (lt_G o L) mm_Tape_readVillage [.ref 24, .ref z1] (sx pl kp I A) v S2) (ho : sx_o o pl kp) (hst : kx_cat st ≤ 8) : rn (lt_G o L) mm_Tape_readVillages 33 lv (.ref z1 :: .ref 24 :: st) (sx pl kp I A) P ↔ rn (lt_G o L) mm_Tape_readVillages 36 lv (v.toList ++ st) S2 P := rn_cv (k := 0) (host := "") (E' := mm_Tape_readVillage) dq_Tape_readVillages_33 rfl (ok_v rfl (by decide) (by decide) (Nat.le_add_left _ _) hst (Nat.le_of_ble_eq_true rfl) (Or.inr (rc_v ho (up_b (by decide)) rfl))) rfl rfl hc
theorem dq_Tape_readVillages_36 : decode (km_c mm_Tape_readVillages) 36 = .ok (.ifCond .ne 8, 3) := by decide +kernel
theorem sq_Tape_readVillages_36 : rn G mm_Tape_readVillages 36 lv (.int x :: st) S P ↔ ((¬ x = 0 → rn G mm_Tape_readVillages 44 lv st S P) ∧ (¬ (¬ x = 0) → rn G mm_Tape_readVillages 39 lv st S P)) := rn_b (off := 8) dq_Tape_readVillages_36 rfl rfl rfl rfl
theorem dq_Tape_readVillages_39 : decode (km_c mm_Tape_readVillages) 39 = .ok (.aload_n 0, 1) := by decide +kernel
theorem sq_Tape_readVillages_39 : rn G mm_Tape_readVillages 39 [some (.ref z), a1, a2] st S P ↔ rn G mm_Tape_readVillages 40 [some (.ref z), a1, a2] (.ref z :: st) S P := rn_s dq_Tape_readVillages_39 rfl rfl rfl
theorem dq_Tape_readVillages_40 : decode (km_c mm_Tape_readVillages) 40 = .ok (.invokevirtual 32, 3) := by decide +kernel
theorem sq_Tape_readVillages_40_24  {v : Option Value} {S2 : ks_S} (hc : ev (lt_G o L) mm_Tape_fault [.ref 24] (sx pl kp I A) v S2) (ho : sx_o o pl kp) (hst : kx_cat st ≤ 8) : rn (lt_G o L) mm_Tape_readVillages 40 lv (.ref 24 :: st) (sx pl kp I A) P ↔ rn (lt_G o L) mm_Tape_readVillages 43 lv (v.toList ++ st) S2 P := rn_cv (k := 0) (host := "") (E' := mm_Tape_fault) dq_Tape_readVillages_40 rfl (ok_v rfl (by decide) (by decide) (Nat.le_add_left _ _) hst (Nat.le_of_ble_eq_true rfl) (Or.inr (rc_v ho (up_b (by decide)) rfl))) rfl rfl hc
theorem dq_Tape_readVillages_43 : decode (km_c mm_Tape_readVillages) 43 = .ok (.ireturn, 1) := by decide +kernel
theorem sq_Tape_readVillages_43 : rn G mm_Tape_readVillages 43 lv [.int x] S P ↔ P (some (.int x)) S := rn_ir dq_Tape_readVillages_43 rfl
theorem dq_Tape_readVillages_44 : decode (km_c mm_Tape_readVillages) 44 = .ok (.aload_n 0, 1) := by decide +kernel
theorem sq_Tape_readVillages_44 : rn G mm_Tape_readVillages 44 [some (.ref z), a1, a2] st S P ↔ rn G mm_Tape_readVillages 45 [some (.ref z), a1, a2] (.ref z :: st) S P := rn_s dq_Tape_readVillages_44 rfl rfl rfl
theorem dq_Tape_readVillages_45 : decode (km_c mm_Tape_readVillages) 45 = .ok (.invokevirtual 40, 3) := by decide +kernel
theorem sq_Tape_readVillages_45_24  {v : Option Value} {S2 : ks_S} (hc : ev (lt_G o L) mm_Tape_ended [.ref 24] (sx pl kp I A) v S2) (ho : sx_o o pl kp) (hst : kx_cat st ≤ 8) : rn (lt_G o L) mm_Tape_readVillages 45 lv (.ref 24 :: st) (sx pl kp I A) P ↔ rn (lt_G o L) mm_Tape_readVillages 48 lv (v.toList ++ st) S2 P := rn_cv (k := 0) (host := "") (E' := mm_Tape_ended) dq_Tape_readVillages_45 rfl (ok_v rfl (by decide) (by decide) (Nat.le_add_left _ _) hst (Nat.le_of_ble_eq_true rfl) (Or.inr (rc_v ho (up_b (by decide)) rfl))) rfl rfl hc
theorem dq_Tape_readVillages_48 : decode (km_c mm_Tape_readVillages) 48 = .ok (.ifCond .eq 8, 3) := by decide +kernel
theorem sq_Tape_readVillages_48 : rn G mm_Tape_readVillages 48 lv (.int x :: st) S P ↔ ((x = 0 → rn G mm_Tape_readVillages 56 lv st S P) ∧ (¬ (x = 0) → rn G mm_Tape_readVillages 51 lv st S P)) := rn_b (off := 8) dq_Tape_readVillages_48 rfl rfl rfl rfl
theorem dq_Tape_readVillages_51 : decode (km_c mm_Tape_readVillages) 51 = .ok (.aload_n 1, 1) := by decide +kernel
theorem sq_Tape_readVillages_51 : rn G mm_Tape_readVillages 51 [a0, some (.ref z), a2] st S P ↔ rn G mm_Tape_readVillages 52 [a0, some (.ref z), a2] (.ref z :: st) S P := rn_s dq_Tape_readVillages_51 rfl rfl rfl
theorem dq_Tape_readVillages_52 : decode (km_c mm_Tape_readVillages) 52 = .ok (.getfield 54, 3) := by decide +kernel
theorem sq_Tape_readVillages_52_9 (ho : sx_o o pl kp) : rn (lt_G o L) mm_Tape_readVillages 52 lv (.ref 9 :: st) (sx pl kp I A) P ↔ rn (lt_G o L) mm_Tape_readVillages 55 lv (.int (I 9 2) :: st) (sx pl kp I A) P := rx_get (h := "DeltaRoad") (ci := 5) (k := 2) dq_Tape_readVillages_52 (by decide +kernel) ho (up_b (by decide)) rfl rfl (fl_i (by decide))
theorem sq_Tape_readVillages_52_42 (ho : sx_o o pl kp) : rn (lt_G o L) mm_Tape_readVillages 52 lv (.ref 42 :: st) (sx pl kp I A) P ↔ rn (lt_G o L) mm_Tape_readVillages 55 lv (.int (I 42 2) :: st) (sx pl kp I A) P := rx_get (h := "DeltaRoad") (ci := 5) (k := 2) dq_Tape_readVillages_52 (by decide +kernel) ho (up_b (by decide)) rfl rfl (fl_i (by decide))
theorem sq_Tape_readVillages_52_144 (ho : sx_o o pl true) : rn (lt_G o L) mm_Tape_readVillages 52 lv (.ref 144 :: st) (sx pl true I A) P ↔ rn (lt_G o L) mm_Tape_readVillages 55 lv (.int (I 144 2) :: st) (sx pl true I A) P := rx_get (h := "DeltaRoad") (ci := 5) (k := 2) dq_Tape_readVillages_52 (by decide +kernel) ho (up_k (by decide) (by decide)) rfl rfl (fl_i (by decide))
theorem dq_Tape_readVillages_55 : decode (km_c mm_Tape_readVillages) 55 = .ok (.ireturn, 1) := by decide +kernel
theorem sq_Tape_readVillages_55 : rn G mm_Tape_readVillages 55 lv [.int x] S P ↔ P (some (.int x)) S := rn_ir dq_Tape_readVillages_55 rfl
theorem dq_Tape_readVillages_56 : decode (km_c mm_Tape_readVillages) 56 = .ok (.iinc 2 1, 3) := by decide +kernel
theorem sq_Tape_readVillages_56n : rn G mm_Tape_readVillages 56 [a0, none, some (.int x)] st S P ↔ rn G mm_Tape_readVillages 59 [a0, none, some (.int (x + nI 1))] st S P := rn_s dq_Tape_readVillages_56 rfl rfl rfl
theorem sq_Tape_readVillages_56i : rn G mm_Tape_readVillages 56 [a0, some (.int x2), some (.int x)] st S P ↔ rn G mm_Tape_readVillages 59 [a0, some (.int x2), some (.int (x + nI 1))] st S P := rn_s dq_Tape_readVillages_56 rfl rfl rfl
theorem sq_Tape_readVillages_56r : rn G mm_Tape_readVillages 56 [a0, some (.ref z2), some (.int x)] st S P ↔ rn G mm_Tape_readVillages 59 [a0, some (.ref z2), some (.int (x + nI 1))] st S P := rn_s dq_Tape_readVillages_56 rfl rfl rfl
theorem dq_Tape_readVillages_59 : decode (km_c mm_Tape_readVillages) 59 = .ok (.goto (-52), 3) := by decide +kernel
theorem sq_Tape_readVillages_59 : rn G mm_Tape_readVillages 59 lv st S P ↔ rn G mm_Tape_readVillages 7 lv st S P := rn_s dq_Tape_readVillages_59 rfl rfl rfl
theorem dq_Tape_readVillages_62 : decode (km_c mm_Tape_readVillages) 62 = .ok (.aload_n 0, 1) := by decide +kernel
theorem sq_Tape_readVillages_62 : rn G mm_Tape_readVillages 62 [some (.ref z), a1, a2] st S P ↔ rn G mm_Tape_readVillages 63 [some (.ref z), a1, a2] (.ref z :: st) S P := rn_s dq_Tape_readVillages_62 rfl rfl rfl
theorem dq_Tape_readVillages_63 : decode (km_c mm_Tape_readVillages) 63 = .ok (.invokevirtual 32, 3) := by decide +kernel
theorem sq_Tape_readVillages_63_24  {v : Option Value} {S2 : ks_S} (hc : ev (lt_G o L) mm_Tape_fault [.ref 24] (sx pl kp I A) v S2) (ho : sx_o o pl kp) (hst : kx_cat st ≤ 8) : rn (lt_G o L) mm_Tape_readVillages 63 lv (.ref 24 :: st) (sx pl kp I A) P ↔ rn (lt_G o L) mm_Tape_readVillages 66 lv (v.toList ++ st) S2 P := rn_cv (k := 0) (host := "") (E' := mm_Tape_fault) dq_Tape_readVillages_63 rfl (ok_v rfl (by decide) (by decide) (Nat.le_add_left _ _) hst (Nat.le_of_ble_eq_true rfl) (Or.inr (rc_v ho (up_b (by decide)) rfl))) rfl rfl hc
theorem dq_Tape_readVillages_66 : decode (km_c mm_Tape_readVillages) 66 = .ok (.ireturn, 1) := by decide +kernel
theorem sq_Tape_readVillages_66 : rn G mm_Tape_readVillages 66 lv [.int x] S P ↔ P (some (.int x)) S := rn_ir dq_Tape_readVillages_66 rfl
theorem dq_Tape_readVillage_0 : decode (km_c mm_Tape_readVillage) 0 = .ok (.aload_n 0, 1) := by decide +kernel
theorem sq_Tape_readVillage_0 : rn G mm_Tape_readVillage 0 [some (.ref z), a1, a2, a3, a4] st S P ↔ rn G mm_Tape_readVillage 1 [some (.ref z), a1, a2, a3, a4] (.ref z :: st) S P := rn_s dq_Tape_readVillage_0 rfl rfl rfl
theorem dq_Tape_readVillage_1 : decode (km_c mm_Tape_readVillage) 1 = .ok (.bipush 6, 2) := by decide +kernel
theorem sq_Tape_readVillage_1 : rn G mm_Tape_readVillage 1 lv st S P ↔ rn G mm_Tape_readVillage 3 lv (.int (nI 6) :: st) S P := rn_s dq_Tape_readVillage_1 rfl rfl rfl
theorem dq_Tape_readVillage_3 : decode (km_c mm_Tape_readVillage) 3 = .ok (.invokevirtual 44, 3) := by decide +kernel
theorem sq_Tape_readVillage_3_24 {x1 : Int32} {v : Option Value} {S2 : ks_S} (hc : ev (lt_G o L) mm_Tape_takeDigit [.ref 24, .int x1] (sx pl kp I A) v S2) (ho : sx_o o pl kp) (hst : kx_cat st ≤ 8) : rn (lt_G o L) mm_Tape_readVillage 3 lv (.int x1 :: .ref 24 :: st) (sx pl kp I A) P ↔ rn (lt_G o L) mm_Tape_readVillage 6 lv (v.toList ++ st) S2 P := rn_cv (k := 0) (host := "") (E' := mm_Tape_takeDigit) dq_Tape_readVillage_3 rfl (ok_v rfl (by decide) (by decide) (Nat.le_add_left _ _) hst (Nat.le_of_ble_eq_true rfl) (Or.inr (rc_v ho (up_b (by decide)) rfl))) rfl rfl hc
theorem dq_Tape_readVillage_6 : decode (km_c mm_Tape_readVillage) 6 = .ok (.istore_n 2, 1) := by decide +kernel
theorem sq_Tape_readVillage_6n : rn G mm_Tape_readVillage 6 [a0, none, a2, a3, a4] (.int x :: st) S P ↔ rn G mm_Tape_readVillage 7 [a0, none, some (.int x), a3, a4] st S P := rn_s dq_Tape_readVillage_6 rfl rfl rfl
theorem sq_Tape_readVillage_6i : rn G mm_Tape_readVillage 6 [a0, some (.int x2), a2, a3, a4] (.int x :: st) S P ↔ rn G mm_Tape_readVillage 7 [a0, some (.int x2), some (.int x), a3, a4] st S P := rn_s dq_Tape_readVillage_6 rfl rfl rfl
theorem sq_Tape_readVillage_6r : rn G mm_Tape_readVillage 6 [a0, some (.ref z2), a2, a3, a4] (.int x :: st) S P ↔ rn G mm_Tape_readVillage 7 [a0, some (.ref z2), some (.int x), a3, a4] st S P := rn_s dq_Tape_readVillage_6 rfl rfl rfl
theorem dq_Tape_readVillage_7 : decode (km_c mm_Tape_readVillage) 7 = .ok (.iload_n 2, 1) := by decide +kernel
theorem sq_Tape_readVillage_7 : rn G mm_Tape_readVillage 7 [a0, a1, some (.int x), a3, a4] st S P ↔ rn G mm_Tape_readVillage 8 [a0, a1, some (.int x), a3, a4] (.int x :: st) S P := rn_s dq_Tape_readVillage_7 rfl rfl rfl
theorem dq_Tape_readVillage_8 : decode (km_c mm_Tape_readVillage) 8 = .ok (.ifCond .ge 5, 3) := by decide +kernel
theorem sq_Tape_readVillage_8 : rn G mm_Tape_readVillage 8 lv (.int x :: st) S P ↔ ((0 ≤ x → rn G mm_Tape_readVillage 13 lv st S P) ∧ (¬ (0 ≤ x) → rn G mm_Tape_readVillage 11 lv st S P)) := rn_b (off := 5) dq_Tape_readVillage_8 rfl rfl rfl rfl
theorem dq_Tape_readVillage_11 : decode (km_c mm_Tape_readVillage) 11 = .ok (.iconst 0, 1) := by decide +kernel
theorem sq_Tape_readVillage_11 : rn G mm_Tape_readVillage 11 lv st S P ↔ rn G mm_Tape_readVillage 12 lv (.int (nI 0) :: st) S P := rn_s dq_Tape_readVillage_11 rfl rfl rfl
theorem dq_Tape_readVillage_12 : decode (km_c mm_Tape_readVillage) 12 = .ok (.ireturn, 1) := by decide +kernel
theorem sq_Tape_readVillage_12_0 : rn G mm_Tape_readVillage 12 lv [.int (nI 0)] S P ↔ P (some (.int (nI 0))) S := rn_ir dq_Tape_readVillage_12 (by decide)
theorem sq_Tape_readVillage_12_1 : rn G mm_Tape_readVillage 12 lv [.int (nI 1)] S P ↔ P (some (.int (nI 1))) S := rn_ir dq_Tape_readVillage_12 (by decide)
theorem dq_Tape_readVillage_13 : decode (km_c mm_Tape_readVillage) 13 = .ok (.aload_n 0, 1) := by decide +kernel
theorem sq_Tape_readVillage_13 : rn G mm_Tape_readVillage 13 [some (.ref z), a1, a2, a3, a4] st S P ↔ rn G mm_Tape_readVillage 14 [some (.ref z), a1, a2, a3, a4] (.ref z :: st) S P := rn_s dq_Tape_readVillage_13 rfl rfl rfl
theorem dq_Tape_readVillage_14 : decode (km_c mm_Tape_readVillage) 14 = .ok (.bipush 6, 2) := by decide +kernel
theorem sq_Tape_readVillage_14 : rn G mm_Tape_readVillage 14 lv st S P ↔ rn G mm_Tape_readVillage 16 lv (.int (nI 6) :: st) S P := rn_s dq_Tape_readVillage_14 rfl rfl rfl
theorem dq_Tape_readVillage_16 : decode (km_c mm_Tape_readVillage) 16 = .ok (.invokevirtual 44, 3) := by decide +kernel
theorem sq_Tape_readVillage_16_24 {x1 : Int32} {v : Option Value} {S2 : ks_S} (hc : ev (lt_G o L) mm_Tape_takeDigit [.ref 24, .int x1] (sx pl kp I A) v S2) (ho : sx_o o pl kp) (hst : kx_cat st ≤ 8) : rn (lt_G o L) mm_Tape_readVillage 16 lv (.int x1 :: .ref 24 :: st) (sx pl kp I A) P ↔ rn (lt_G o L) mm_Tape_readVillage 19 lv (v.toList ++ st) S2 P := rn_cv (k := 0) (host := "") (E' := mm_Tape_takeDigit) dq_Tape_readVillage_16 rfl (ok_v rfl (by decide) (by decide) (Nat.le_add_left _ _) hst (Nat.le_of_ble_eq_true rfl) (Or.inr (rc_v ho (up_b (by decide)) rfl))) rfl rfl hc
theorem dq_Tape_readVillage_19 : decode (km_c mm_Tape_readVillage) 19 = .ok (.istore_n 3, 1) := by decide +kernel
theorem sq_Tape_readVillage_19n : rn G mm_Tape_readVillage 19 [a0, a1, none, a3, a4] (.int x :: st) S P ↔ rn G mm_Tape_readVillage 20 [a0, a1, none, some (.int x), a4] st S P := rn_s dq_Tape_readVillage_19 rfl rfl rfl
theorem sq_Tape_readVillage_19i : rn G mm_Tape_readVillage 19 [a0, a1, some (.int x2), a3, a4] (.int x :: st) S P ↔ rn G mm_Tape_readVillage 20 [a0, a1, some (.int x2), some (.int x), a4] st S P := rn_s dq_Tape_readVillage_19 rfl rfl rfl
theorem sq_Tape_readVillage_19r : rn G mm_Tape_readVillage 19 [a0, a1, some (.ref z2), a3, a4] (.int x :: st) S P ↔ rn G mm_Tape_readVillage 20 [a0, a1, some (.ref z2), some (.int x), a4] st S P := rn_s dq_Tape_readVillage_19 rfl rfl rfl
theorem dq_Tape_readVillage_20 : decode (km_c mm_Tape_readVillage) 20 = .ok (.iload_n 3, 1) := by decide +kernel
theorem sq_Tape_readVillage_20 : rn G mm_Tape_readVillage 20 [a0, a1, a2, some (.int x), a4] st S P ↔ rn G mm_Tape_readVillage 21 [a0, a1, a2, some (.int x), a4] (.int x :: st) S P := rn_s dq_Tape_readVillage_20 rfl rfl rfl
theorem dq_Tape_readVillage_21 : decode (km_c mm_Tape_readVillage) 21 = .ok (.ifCond .lt 12, 3) := by decide +kernel
theorem sq_Tape_readVillage_21 : rn G mm_Tape_readVillage 21 lv (.int x :: st) S P ↔ ((x < 0 → rn G mm_Tape_readVillage 33 lv st S P) ∧ (¬ (x < 0) → rn G mm_Tape_readVillage 24 lv st S P)) := rn_b (off := 12) dq_Tape_readVillage_21 rfl rfl rfl rfl
theorem dq_Tape_readVillage_24 : decode (km_c mm_Tape_readVillage) 24 = .ok (.aload_n 0, 1) := by decide +kernel
theorem sq_Tape_readVillage_24 : rn G mm_Tape_readVillage 24 [some (.ref z), a1, a2, a3, a4] st S P ↔ rn G mm_Tape_readVillage 25 [some (.ref z), a1, a2, a3, a4] (.ref z :: st) S P := rn_s dq_Tape_readVillage_24 rfl rfl rfl
theorem dq_Tape_readVillage_25 : decode (km_c mm_Tape_readVillage) 25 = .ok (.bipush 58, 2) := by decide +kernel
theorem sq_Tape_readVillage_25 : rn G mm_Tape_readVillage 25 lv st S P ↔ rn G mm_Tape_readVillage 27 lv (.int (nI 58) :: st) S P := rn_s dq_Tape_readVillage_25 rfl rfl rfl
theorem dq_Tape_readVillage_27 : decode (km_c mm_Tape_readVillage) 27 = .ok (.invokevirtual 28, 3) := by decide +kernel
theorem sq_Tape_readVillage_27_24 {x1 : Int32} {v : Option Value} {S2 : ks_S} (hc : ev (lt_G o L) mm_Tape_take [.ref 24, .int x1] (sx pl kp I A) v S2) (ho : sx_o o pl kp) (hst : kx_cat st ≤ 8) : rn (lt_G o L) mm_Tape_readVillage 27 lv (.int x1 :: .ref 24 :: st) (sx pl kp I A) P ↔ rn (lt_G o L) mm_Tape_readVillage 30 lv (v.toList ++ st) S2 P := rn_cv (k := 0) (host := "") (E' := mm_Tape_take) dq_Tape_readVillage_27 rfl (ok_v rfl (by decide) (by decide) (Nat.le_add_left _ _) hst (Nat.le_of_ble_eq_true rfl) (Or.inr (rc_v ho (up_b (by decide)) rfl))) rfl rfl hc
theorem dq_Tape_readVillage_30 : decode (km_c mm_Tape_readVillage) 30 = .ok (.ifCond .ne 5, 3) := by decide +kernel
theorem sq_Tape_readVillage_30 : rn G mm_Tape_readVillage 30 lv (.int x :: st) S P ↔ ((¬ x = 0 → rn G mm_Tape_readVillage 35 lv st S P) ∧ (¬ (¬ x = 0) → rn G mm_Tape_readVillage 33 lv st S P)) := rn_b (off := 5) dq_Tape_readVillage_30 rfl rfl rfl rfl
theorem dq_Tape_readVillage_33 : decode (km_c mm_Tape_readVillage) 33 = .ok (.iconst 0, 1) := by decide +kernel
theorem sq_Tape_readVillage_33 : rn G mm_Tape_readVillage 33 lv st S P ↔ rn G mm_Tape_readVillage 34 lv (.int (nI 0) :: st) S P := rn_s dq_Tape_readVillage_33 rfl rfl rfl
theorem dq_Tape_readVillage_34 : decode (km_c mm_Tape_readVillage) 34 = .ok (.ireturn, 1) := by decide +kernel
theorem sq_Tape_readVillage_34_0 : rn G mm_Tape_readVillage 34 lv [.int (nI 0)] S P ↔ P (some (.int (nI 0))) S := rn_ir dq_Tape_readVillage_34 (by decide)
theorem sq_Tape_readVillage_34_1 : rn G mm_Tape_readVillage 34 lv [.int (nI 1)] S P ↔ P (some (.int (nI 1))) S := rn_ir dq_Tape_readVillage_34 (by decide)
theorem dq_Tape_readVillage_35 : decode (km_c mm_Tape_readVillage) 35 = .ok (.aload_n 0, 1) := by decide +kernel
theorem sq_Tape_readVillage_35 : rn G mm_Tape_readVillage 35 [some (.ref z), a1, a2, a3, a4] st S P ↔ rn G mm_Tape_readVillage 36 [some (.ref z), a1, a2, a3, a4] (.ref z :: st) S P := rn_s dq_Tape_readVillage_35 rfl rfl rfl
theorem dq_Tape_readVillage_36 : decode (km_c mm_Tape_readVillage) 36 = .ok (.bipush 99, 2) := by decide +kernel
theorem sq_Tape_readVillage_36 : rn G mm_Tape_readVillage 36 lv st S P ↔ rn G mm_Tape_readVillage 38 lv (.int (nI 99) :: st) S P := rn_s dq_Tape_readVillage_36 rfl rfl rfl
theorem dq_Tape_readVillage_38 : decode (km_c mm_Tape_readVillage) 38 = .ok (.invokevirtual 63, 3) := by decide +kernel
theorem sq_Tape_readVillage_38_24 {x1 : Int32} {v : Option Value} {S2 : ks_S} (hc : ev (lt_G o L) mm_Tape_takeNumber [.ref 24, .int x1] (sx pl kp I A) v S2) (ho : sx_o o pl kp) (hst : kx_cat st ≤ 8) : rn (lt_G o L) mm_Tape_readVillage 38 lv (.int x1 :: .ref 24 :: st) (sx pl kp I A) P ↔ rn (lt_G o L) mm_Tape_readVillage 41 lv (v.toList ++ st) S2 P := rn_cv (k := 0) (host := "") (E' := mm_Tape_takeNumber) dq_Tape_readVillage_38 rfl (ok_v rfl (by decide) (by decide) (Nat.le_add_left _ _) hst (Nat.le_of_ble_eq_true rfl) (Or.inr (rc_v ho (up_b (by decide)) rfl))) rfl rfl hc
theorem dq_Tape_readVillage_41 : decode (km_c mm_Tape_readVillage) 41 = .ok (.istore 4, 2) := by decide +kernel
theorem sq_Tape_readVillage_41n : rn G mm_Tape_readVillage 41 [a0, a1, a2, none, a4] (.int x :: st) S P ↔ rn G mm_Tape_readVillage 43 [a0, a1, a2, none, some (.int x)] st S P := rn_s dq_Tape_readVillage_41 rfl rfl rfl
theorem sq_Tape_readVillage_41i : rn G mm_Tape_readVillage 41 [a0, a1, a2, some (.int x2), a4] (.int x :: st) S P ↔ rn G mm_Tape_readVillage 43 [a0, a1, a2, some (.int x2), some (.int x)] st S P := rn_s dq_Tape_readVillage_41 rfl rfl rfl
theorem sq_Tape_readVillage_41r : rn G mm_Tape_readVillage 41 [a0, a1, a2, some (.ref z2), a4] (.int x :: st) S P ↔ rn G mm_Tape_readVillage 43 [a0, a1, a2, some (.ref z2), some (.int x)] st S P := rn_s dq_Tape_readVillage_41 rfl rfl rfl
theorem dq_Tape_readVillage_43 : decode (km_c mm_Tape_readVillage) 43 = .ok (.iload 4, 2) := by decide +kernel
theorem sq_Tape_readVillage_43 : rn G mm_Tape_readVillage 43 [a0, a1, a2, a3, some (.int x)] st S P ↔ rn G mm_Tape_readVillage 45 [a0, a1, a2, a3, some (.int x)] (.int x :: st) S P := rn_s dq_Tape_readVillage_43 rfl rfl rfl
theorem dq_Tape_readVillage_45 : decode (km_c mm_Tape_readVillage) 45 = .ok (.ifCond .ge 5, 3) := by decide +kernel
theorem sq_Tape_readVillage_45 : rn G mm_Tape_readVillage 45 lv (.int x :: st) S P ↔ ((0 ≤ x → rn G mm_Tape_readVillage 50 lv st S P) ∧ (¬ (0 ≤ x) → rn G mm_Tape_readVillage 48 lv st S P)) := rn_b (off := 5) dq_Tape_readVillage_45 rfl rfl rfl rfl
theorem dq_Tape_readVillage_48 : decode (km_c mm_Tape_readVillage) 48 = .ok (.iconst 0, 1) := by decide +kernel
theorem sq_Tape_readVillage_48 : rn G mm_Tape_readVillage 48 lv st S P ↔ rn G mm_Tape_readVillage 49 lv (.int (nI 0) :: st) S P := rn_s dq_Tape_readVillage_48 rfl rfl rfl
theorem dq_Tape_readVillage_49 : decode (km_c mm_Tape_readVillage) 49 = .ok (.ireturn, 1) := by decide +kernel
theorem sq_Tape_readVillage_49_0 : rn G mm_Tape_readVillage 49 lv [.int (nI 0)] S P ↔ P (some (.int (nI 0))) S := rn_ir dq_Tape_readVillage_49 (by decide)
theorem sq_Tape_readVillage_49_1 : rn G mm_Tape_readVillage 49 lv [.int (nI 1)] S P ↔ P (some (.int (nI 1))) S := rn_ir dq_Tape_readVillage_49 (by decide)
theorem dq_Tape_readVillage_50 : decode (km_c mm_Tape_readVillage) 50 = .ok (.aload_n 1, 1) := by decide +kernel
theorem sq_Tape_readVillage_50 : rn G mm_Tape_readVillage 50 [a0, some (.ref z), a2, a3, a4] st S P ↔ rn G mm_Tape_readVillage 51 [a0, some (.ref z), a2, a3, a4] (.ref z :: st) S P := rn_s dq_Tape_readVillage_50 rfl rfl rfl
theorem dq_Tape_readVillage_51 : decode (km_c mm_Tape_readVillage) 51 = .ok (.bipush 7, 2) := by decide +kernel
theorem sq_Tape_readVillage_51 : rn G mm_Tape_readVillage 51 lv st S P ↔ rn G mm_Tape_readVillage 53 lv (.int (nI 7) :: st) S P := rn_s dq_Tape_readVillage_51 rfl rfl rfl
theorem dq_Tape_readVillage_53 : decode (km_c mm_Tape_readVillage) 53 = .ok (.iload_n 2, 1) := by decide +kernel
theorem sq_Tape_readVillage_53 : rn G mm_Tape_readVillage 53 [a0, a1, some (.int x), a3, a4] st S P ↔ rn G mm_Tape_readVillage 54 [a0, a1, some (.int x), a3, a4] (.int x :: st) S P := rn_s dq_Tape_readVillage_53 rfl rfl rfl
theorem dq_Tape_readVillage_54 : decode (km_c mm_Tape_readVillage) 54 = .ok (.imul, 1) := by decide +kernel
theorem sq_Tape_readVillage_54 : rn G mm_Tape_readVillage 54 lv (.int x2 :: .int x :: st) S P ↔ rn G mm_Tape_readVillage 55 lv (.int (x * x2) :: st) S P := rn_s dq_Tape_readVillage_54 rfl rfl rfl
theorem dq_Tape_readVillage_55 : decode (km_c mm_Tape_readVillage) 55 = .ok (.iload_n 3, 1) := by decide +kernel
theorem sq_Tape_readVillage_55 : rn G mm_Tape_readVillage 55 [a0, a1, a2, some (.int x), a4] st S P ↔ rn G mm_Tape_readVillage 56 [a0, a1, a2, some (.int x), a4] (.int x :: st) S P := rn_s dq_Tape_readVillage_55 rfl rfl rfl
theorem dq_Tape_readVillage_56 : decode (km_c mm_Tape_readVillage) 56 = .ok (.iadd, 1) := by decide +kernel
theorem sq_Tape_readVillage_56 : rn G mm_Tape_readVillage 56 lv (.int x2 :: .int x :: st) S P ↔ rn G mm_Tape_readVillage 57 lv (.int (x + x2) :: st) S P := rn_s dq_Tape_readVillage_56 rfl rfl rfl
theorem dq_Tape_readVillage_57 : decode (km_c mm_Tape_readVillage) 57 = .ok (.iload 4, 2) := by decide +kernel
theorem sq_Tape_readVillage_57 : rn G mm_Tape_readVillage 57 [a0, a1, a2, a3, some (.int x)] st S P ↔ rn G mm_Tape_readVillage 59 [a0, a1, a2, a3, some (.int x)] (.int x :: st) S P := rn_s dq_Tape_readVillage_57 rfl rfl rfl
theorem dq_Tape_readVillage_59 : decode (km_c mm_Tape_readVillage) 59 = .ok (.invokevirtual 66, 3) := by decide +kernel
theorem sq_Tape_readVillage_59_9 {x1 : Int32} {x2 : Int32} {v : Option Value} {S2 : ks_S} (hc : ev (lt_G o L) mm_Villages_add [.ref 9, .int x1, .int x2] (sx pl kp I A) v S2) (ho : sx_o o pl kp) (hst : kx_cat st ≤ 8) : rn (lt_G o L) mm_Tape_readVillage 59 lv (.int x2 :: .int x1 :: .ref 9 :: st) (sx pl kp I A) P ↔ rn (lt_G o L) mm_Tape_readVillage 62 lv (v.toList ++ st) S2 P := rn_cv (k := 0) (host := "") (E' := mm_Villages_add) dq_Tape_readVillage_59 rfl (ok_v rfl (by decide) (by decide) (Nat.le_add_left _ _) hst (Nat.le_of_ble_eq_true rfl) (Or.inr (rc_v ho (up_b (by decide)) rfl))) rfl rfl hc
theorem sq_Tape_readVillage_59_42 {x1 : Int32} {x2 : Int32} {v : Option Value} {S2 : ks_S} (hc : ev (lt_G o L) mm_Villages_add [.ref 42, .int x1, .int x2] (sx pl kp I A) v S2) (ho : sx_o o pl kp) (hst : kx_cat st ≤ 8) : rn (lt_G o L) mm_Tape_readVillage 59 lv (.int x2 :: .int x1 :: .ref 42 :: st) (sx pl kp I A) P ↔ rn (lt_G o L) mm_Tape_readVillage 62 lv (v.toList ++ st) S2 P := rn_cv (k := 0) (host := "") (E' := mm_Villages_add) dq_Tape_readVillage_59 rfl (ok_v rfl (by decide) (by decide) (Nat.le_add_left _ _) hst (Nat.le_of_ble_eq_true rfl) (Or.inr (rc_v ho (up_b (by decide)) rfl))) rfl rfl hc
theorem sq_Tape_readVillage_59_144 {x1 : Int32} {x2 : Int32} {v : Option Value} {S2 : ks_S} (hc : ev (lt_G o L) mm_Villages_add [.ref 144, .int x1, .int x2] (sx pl true I A) v S2) (ho : sx_o o pl true) (hst : kx_cat st ≤ 8) : rn (lt_G o L) mm_Tape_readVillage 59 lv (.int x2 :: .int x1 :: .ref 144 :: st) (sx pl true I A) P ↔ rn (lt_G o L) mm_Tape_readVillage 62 lv (v.toList ++ st) S2 P := rn_cv (k := 0) (host := "") (E' := mm_Villages_add) dq_Tape_readVillage_59 rfl (ok_v rfl (by decide) (by decide) (Nat.le_add_left _ _) hst (Nat.le_of_ble_eq_true rfl) (Or.inr (rc_v ho (up_k (by decide) (by decide)) rfl))) rfl rfl hc
theorem dq_Tape_readVillage_62 : decode (km_c mm_Tape_readVillage) 62 = .ok (.pop, 1) := by decide +kernel
theorem sq_Tape_readVillage_62i : rn G mm_Tape_readVillage 62 lv (.int x :: st) S P ↔ rn G mm_Tape_readVillage 63 lv st S P := rn_s dq_Tape_readVillage_62 rfl rfl rfl
theorem dq_Tape_readVillage_63 : decode (km_c mm_Tape_readVillage) 63 = .ok (.iconst 1, 1) := by decide +kernel
theorem sq_Tape_readVillage_63 : rn G mm_Tape_readVillage 63 lv st S P ↔ rn G mm_Tape_readVillage 64 lv (.int (nI 1) :: st) S P := rn_s dq_Tape_readVillage_63 rfl rfl rfl
theorem dq_Tape_readVillage_64 : decode (km_c mm_Tape_readVillage) 64 = .ok (.ireturn, 1) := by decide +kernel
theorem sq_Tape_readVillage_64_0 : rn G mm_Tape_readVillage 64 lv [.int (nI 0)] S P ↔ P (some (.int (nI 0))) S := rn_ir dq_Tape_readVillage_64 (by decide)
theorem sq_Tape_readVillage_64_1 : rn G mm_Tape_readVillage 64 lv [.int (nI 1)] S P ↔ P (some (.int (nI 1))) S := rn_ir dq_Tape_readVillage_64 (by decide)
theorem dq_Tape_takeNumber_0 : decode (km_c mm_Tape_takeNumber) 0 = .ok (.aload_n 0, 1) := by decide +kernel
theorem sq_Tape_takeNumber_0 : rn G mm_Tape_takeNumber 0 [some (.ref z), a1, a2, a3] st S P ↔ rn G mm_Tape_takeNumber 1 [some (.ref z), a1, a2, a3] (.ref z :: st) S P := rn_s dq_Tape_takeNumber_0 rfl rfl rfl
theorem dq_Tape_takeNumber_1 : decode (km_c mm_Tape_takeNumber) 1 = .ok (.invokevirtual 70, 3) := by decide +kernel
theorem sq_Tape_takeNumber_1_24  {v : Option Value} {S2 : ks_S} (hc : ev (lt_G o L) mm_Tape_skipBlanks [.ref 24] (sx pl kp I A) v S2) (ho : sx_o o pl kp) (hst : kx_cat st ≤ 8) : rn (lt_G o L) mm_Tape_takeNumber 1 lv (.ref 24 :: st) (sx pl kp I A) P ↔ rn (lt_G o L) mm_Tape_takeNumber 4 lv (v.toList ++ st) S2 P := rn_cv (k := 0) (host := "") (E' := mm_Tape_skipBlanks) dq_Tape_takeNumber_1 rfl (ok_v rfl (by decide) (by decide) (Nat.le_add_left _ _) hst (Nat.le_of_ble_eq_true rfl) (Or.inr (rc_v ho (up_b (by decide)) rfl))) rfl rfl hc
theorem dq_Tape_takeNumber_4 : decode (km_c mm_Tape_takeNumber) 4 = .ok (.aload_n 0, 1) := by decide +kernel
theorem sq_Tape_takeNumber_4 : rn G mm_Tape_takeNumber 4 [some (.ref z), a1, a2, a3] st S P ↔ rn G mm_Tape_takeNumber 5 [some (.ref z), a1, a2, a3] (.ref z :: st) S P := rn_s dq_Tape_takeNumber_4 rfl rfl rfl
theorem dq_Tape_takeNumber_5 : decode (km_c mm_Tape_takeNumber) 5 = .ok (.getfield 19, 3) := by decide +kernel
theorem sq_Tape_takeNumber_5_24 (ho : sx_o o pl kp) : rn (lt_G o L) mm_Tape_takeNumber 5 lv (.ref 24 :: st) (sx pl kp I A) P ↔ rn (lt_G o L) mm_Tape_takeNumber 8 lv (.int (I 24 2) :: st) (sx pl kp I A) P := rx_get (h := "") (ci := 4) (k := 2) dq_Tape_takeNumber_5 (by decide +kernel) ho (up_b (by decide)) rfl rfl (fl_i (by decide))
theorem dq_Tape_takeNumber_8 : decode (km_c mm_Tape_takeNumber) 8 = .ok (.istore_n 2, 1) := by decide +kernel
theorem sq_Tape_takeNumber_8n : rn G mm_Tape_takeNumber 8 [a0, none, a2, a3] (.int x :: st) S P ↔ rn G mm_Tape_takeNumber 9 [a0, none, some (.int x), a3] st S P := rn_s dq_Tape_takeNumber_8 rfl rfl rfl
theorem sq_Tape_takeNumber_8i : rn G mm_Tape_takeNumber 8 [a0, some (.int x2), a2, a3] (.int x :: st) S P ↔ rn G mm_Tape_takeNumber 9 [a0, some (.int x2), some (.int x), a3] st S P := rn_s dq_Tape_takeNumber_8 rfl rfl rfl
theorem sq_Tape_takeNumber_8r : rn G mm_Tape_takeNumber 8 [a0, some (.ref z2), a2, a3] (.int x :: st) S P ↔ rn G mm_Tape_takeNumber 9 [a0, some (.ref z2), some (.int x), a3] st S P := rn_s dq_Tape_takeNumber_8 rfl rfl rfl
theorem dq_Tape_takeNumber_9 : decode (km_c mm_Tape_takeNumber) 9 = .ok (.iconst 0, 1) := by decide +kernel
theorem sq_Tape_takeNumber_9 : rn G mm_Tape_takeNumber 9 lv st S P ↔ rn G mm_Tape_takeNumber 10 lv (.int (nI 0) :: st) S P := rn_s dq_Tape_takeNumber_9 rfl rfl rfl
theorem dq_Tape_takeNumber_10 : decode (km_c mm_Tape_takeNumber) 10 = .ok (.istore_n 3, 1) := by decide +kernel
theorem sq_Tape_takeNumber_10n : rn G mm_Tape_takeNumber 10 [a0, a1, none, a3] (.int x :: st) S P ↔ rn G mm_Tape_takeNumber 11 [a0, a1, none, some (.int x)] st S P := rn_s dq_Tape_takeNumber_10 rfl rfl rfl
theorem sq_Tape_takeNumber_10i : rn G mm_Tape_takeNumber 10 [a0, a1, some (.int x2), a3] (.int x :: st) S P ↔ rn G mm_Tape_takeNumber 11 [a0, a1, some (.int x2), some (.int x)] st S P := rn_s dq_Tape_takeNumber_10 rfl rfl rfl
theorem sq_Tape_takeNumber_10r : rn G mm_Tape_takeNumber 10 [a0, a1, some (.ref z2), a3] (.int x :: st) S P ↔ rn G mm_Tape_takeNumber 11 [a0, a1, some (.ref z2), some (.int x)] st S P := rn_s dq_Tape_takeNumber_10 rfl rfl rfl
theorem dq_Tape_takeNumber_11 : decode (km_c mm_Tape_takeNumber) 11 = .ok (.aload_n 0, 1) := by decide +kernel
theorem sq_Tape_takeNumber_11 : rn G mm_Tape_takeNumber 11 [some (.ref z), a1, a2, a3] st S P ↔ rn G mm_Tape_takeNumber 12 [some (.ref z), a1, a2, a3] (.ref z :: st) S P := rn_s dq_Tape_takeNumber_11 rfl rfl rfl
theorem dq_Tape_takeNumber_12 : decode (km_c mm_Tape_takeNumber) 12 = .ok (.getfield 19, 3) := by decide +kernel
theorem sq_Tape_takeNumber_12_24 (ho : sx_o o pl kp) : rn (lt_G o L) mm_Tape_takeNumber 12 lv (.ref 24 :: st) (sx pl kp I A) P ↔ rn (lt_G o L) mm_Tape_takeNumber 15 lv (.int (I 24 2) :: st) (sx pl kp I A) P := rx_get (h := "") (ci := 4) (k := 2) dq_Tape_takeNumber_12 (by decide +kernel) ho (up_b (by decide)) rfl rfl (fl_i (by decide))
theorem dq_Tape_takeNumber_15 : decode (km_c mm_Tape_takeNumber) 15 = .ok (.aload_n 0, 1) := by decide +kernel
theorem sq_Tape_takeNumber_15 : rn G mm_Tape_takeNumber 15 [some (.ref z), a1, a2, a3] st S P ↔ rn G mm_Tape_takeNumber 16 [some (.ref z), a1, a2, a3] (.ref z :: st) S P := rn_s dq_Tape_takeNumber_15 rfl rfl rfl
theorem dq_Tape_takeNumber_16 : decode (km_c mm_Tape_takeNumber) 16 = .ok (.getfield 15, 3) := by decide +kernel
theorem sq_Tape_takeNumber_16_24 (ho : sx_o o pl kp) : rn (lt_G o L) mm_Tape_takeNumber 16 lv (.ref 24 :: st) (sx pl kp I A) P ↔ rn (lt_G o L) mm_Tape_takeNumber 19 lv (.int (I 24 1) :: st) (sx pl kp I A) P := rx_get (h := "") (ci := 4) (k := 1) dq_Tape_takeNumber_16 (by decide +kernel) ho (up_b (by decide)) rfl rfl (fl_i (by decide))
theorem dq_Tape_takeNumber_19 : decode (km_c mm_Tape_takeNumber) 19 = .ok (.if_icmp .ge 55, 3) := by decide +kernel
theorem sq_Tape_takeNumber_19 : rn G mm_Tape_takeNumber 19 lv (.int x2 :: .int x :: st) S P ↔ ((x2 ≤ x → rn G mm_Tape_takeNumber 74 lv st S P) ∧ (¬ (x2 ≤ x) → rn G mm_Tape_takeNumber 22 lv st S P)) := rn_b (off := 55) dq_Tape_takeNumber_19 rfl rfl rfl rfl
theorem dq_Tape_takeNumber_22 : decode (km_c mm_Tape_takeNumber) 22 = .ok (.aload_n 0, 1) := by decide +kernel
theorem sq_Tape_takeNumber_22 : rn G mm_Tape_takeNumber 22 [some (.ref z), a1, a2, a3] st S P ↔ rn G mm_Tape_takeNumber 23 [some (.ref z), a1, a2, a3] (.ref z :: st) S P := rn_s dq_Tape_takeNumber_22 rfl rfl rfl
theorem dq_Tape_takeNumber_23 : decode (km_c mm_Tape_takeNumber) 23 = .ok (.getfield 9, 3) := by decide +kernel
theorem sq_Tape_takeNumber_23_24 (ho : sx_o o pl kp) : rn (lt_G o L) mm_Tape_takeNumber 23 lv (.ref 24 :: st) (sx pl kp I A) P ↔ rn (lt_G o L) mm_Tape_takeNumber 26 lv (.ref 25 :: st) (sx pl kp I A) P := rx_get (h := "") (ci := 4) (k := 0) dq_Tape_takeNumber_23 (by decide +kernel) ho (up_b (by decide)) rfl rfl (fl_r (by decide) (by decide) (by decide) (by decide))
theorem dq_Tape_takeNumber_26 : decode (km_c mm_Tape_takeNumber) 26 = .ok (.aload_n 0, 1) := by decide +kernel
theorem sq_Tape_takeNumber_26 : rn G mm_Tape_takeNumber 26 [some (.ref z), a1, a2, a3] st S P ↔ rn G mm_Tape_takeNumber 27 [some (.ref z), a1, a2, a3] (.ref z :: st) S P := rn_s dq_Tape_takeNumber_26 rfl rfl rfl
theorem dq_Tape_takeNumber_27 : decode (km_c mm_Tape_takeNumber) 27 = .ok (.getfield 19, 3) := by decide +kernel
theorem sq_Tape_takeNumber_27_24 (ho : sx_o o pl kp) : rn (lt_G o L) mm_Tape_takeNumber 27 lv (.ref 24 :: st) (sx pl kp I A) P ↔ rn (lt_G o L) mm_Tape_takeNumber 30 lv (.int (I 24 2) :: st) (sx pl kp I A) P := rx_get (h := "") (ci := 4) (k := 2) dq_Tape_takeNumber_27 (by decide +kernel) ho (up_b (by decide)) rfl rfl (fl_i (by decide))
theorem dq_Tape_takeNumber_30 : decode (km_c mm_Tape_takeNumber) 30 = .ok (.baload, 1) := by decide +kernel
theorem sq_Tape_takeNumber_30 (ho : sx_o o pl kp) (hk : ak L a = 1 ∨ ak L a = 2) (hu : sx_up pl kp a = true) (hc : c < ln L a) (hn : ln L a < 2 ^ 31) : rn (lt_G o L) mm_Tape_takeNumber 30 lv (.int (nI c) :: .ref a :: st) (sx pl kp I A) P ↔ rn (lt_G o L) mm_Tape_takeNumber 31 lv (.int (A a c) :: st) (sx pl kp I A) P := rx_bld dq_Tape_takeNumber_30 ho hk hu hc hn
theorem dq_Tape_takeNumber_31 : decode (km_c mm_Tape_takeNumber) 31 = .ok (.invokestatic 73, 3) := by decide +kernel
theorem sq_Tape_takeNumber_31 {x1 : Int32} {v : Option Value} {S2 : ks_S} (hc : ev G mm_Tape_isDigit [.int x1] S v S2) (hst : kx_cat st ≤ 8) : rn G mm_Tape_takeNumber 31 lv (.int x1 :: st) S P ↔ rn G mm_Tape_takeNumber 34 lv (v.toList ++ st) S2 P := rn_cs (k := 1) (host := "") (E' := mm_Tape_isDigit) dq_Tape_takeNumber_31 (by decide) (by decide) rfl (ok_v rfl (by decide) (by decide) (Nat.le_add_left _ _) hst (Nat.le_of_ble_eq_true rfl) (Or.inl rfl)) rfl rfl hc
theorem dq_Tape_takeNumber_34 : decode (km_c mm_Tape_takeNumber) 34 = .ok (.ifCond .eq 40, 3) := by decide +kernel
theorem sq_Tape_takeNumber_34 : rn G mm_Tape_takeNumber 34 lv (.int x :: st) S P ↔ ((x = 0 → rn G mm_Tape_takeNumber 74 lv st S P) ∧ (¬ (x = 0) → rn G mm_Tape_takeNumber 37 lv st S P)) := rn_b (off := 40) dq_Tape_takeNumber_34 rfl rfl rfl rfl
theorem dq_Tape_takeNumber_37 : decode (km_c mm_Tape_takeNumber) 37 = .ok (.bipush 10, 2) := by decide +kernel
theorem sq_Tape_takeNumber_37 : rn G mm_Tape_takeNumber 37 lv st S P ↔ rn G mm_Tape_takeNumber 39 lv (.int (nI 10) :: st) S P := rn_s dq_Tape_takeNumber_37 rfl rfl rfl
theorem dq_Tape_takeNumber_39 : decode (km_c mm_Tape_takeNumber) 39 = .ok (.iload_n 3, 1) := by decide +kernel
theorem sq_Tape_takeNumber_39 : rn G mm_Tape_takeNumber 39 [a0, a1, a2, some (.int x)] st S P ↔ rn G mm_Tape_takeNumber 40 [a0, a1, a2, some (.int x)] (.int x :: st) S P := rn_s dq_Tape_takeNumber_39 rfl rfl rfl
theorem dq_Tape_takeNumber_40 : decode (km_c mm_Tape_takeNumber) 40 = .ok (.imul, 1) := by decide +kernel
theorem sq_Tape_takeNumber_40 : rn G mm_Tape_takeNumber 40 lv (.int x2 :: .int x :: st) S P ↔ rn G mm_Tape_takeNumber 41 lv (.int (x * x2) :: st) S P := rn_s dq_Tape_takeNumber_40 rfl rfl rfl
theorem dq_Tape_takeNumber_41 : decode (km_c mm_Tape_takeNumber) 41 = .ok (.aload_n 0, 1) := by decide +kernel
theorem sq_Tape_takeNumber_41 : rn G mm_Tape_takeNumber 41 [some (.ref z), a1, a2, a3] st S P ↔ rn G mm_Tape_takeNumber 42 [some (.ref z), a1, a2, a3] (.ref z :: st) S P := rn_s dq_Tape_takeNumber_41 rfl rfl rfl
theorem dq_Tape_takeNumber_42 : decode (km_c mm_Tape_takeNumber) 42 = .ok (.getfield 9, 3) := by decide +kernel
theorem sq_Tape_takeNumber_42_24 (ho : sx_o o pl kp) : rn (lt_G o L) mm_Tape_takeNumber 42 lv (.ref 24 :: st) (sx pl kp I A) P ↔ rn (lt_G o L) mm_Tape_takeNumber 45 lv (.ref 25 :: st) (sx pl kp I A) P := rx_get (h := "") (ci := 4) (k := 0) dq_Tape_takeNumber_42 (by decide +kernel) ho (up_b (by decide)) rfl rfl (fl_r (by decide) (by decide) (by decide) (by decide))
theorem dq_Tape_takeNumber_45 : decode (km_c mm_Tape_takeNumber) 45 = .ok (.aload_n 0, 1) := by decide +kernel
theorem sq_Tape_takeNumber_45 : rn G mm_Tape_takeNumber 45 [some (.ref z), a1, a2, a3] st S P ↔ rn G mm_Tape_takeNumber 46 [some (.ref z), a1, a2, a3] (.ref z :: st) S P := rn_s dq_Tape_takeNumber_45 rfl rfl rfl
theorem dq_Tape_takeNumber_46 : decode (km_c mm_Tape_takeNumber) 46 = .ok (.getfield 19, 3) := by decide +kernel
theorem sq_Tape_takeNumber_46_24 (ho : sx_o o pl kp) : rn (lt_G o L) mm_Tape_takeNumber 46 lv (.ref 24 :: st) (sx pl kp I A) P ↔ rn (lt_G o L) mm_Tape_takeNumber 49 lv (.int (I 24 2) :: st) (sx pl kp I A) P := rx_get (h := "") (ci := 4) (k := 2) dq_Tape_takeNumber_46 (by decide +kernel) ho (up_b (by decide)) rfl rfl (fl_i (by decide))
theorem dq_Tape_takeNumber_49 : decode (km_c mm_Tape_takeNumber) 49 = .ok (.baload, 1) := by decide +kernel
theorem sq_Tape_takeNumber_49 (ho : sx_o o pl kp) (hk : ak L a = 1 ∨ ak L a = 2) (hu : sx_up pl kp a = true) (hc : c < ln L a) (hn : ln L a < 2 ^ 31) : rn (lt_G o L) mm_Tape_takeNumber 49 lv (.int (nI c) :: .ref a :: st) (sx pl kp I A) P ↔ rn (lt_G o L) mm_Tape_takeNumber 50 lv (.int (A a c) :: st) (sx pl kp I A) P := rx_bld dq_Tape_takeNumber_49 ho hk hu hc hn
theorem dq_Tape_takeNumber_50 : decode (km_c mm_Tape_takeNumber) 50 = .ok (.iadd, 1) := by decide +kernel
theorem sq_Tape_takeNumber_50 : rn G mm_Tape_takeNumber 50 lv (.int x2 :: .int x :: st) S P ↔ rn G mm_Tape_takeNumber 51 lv (.int (x + x2) :: st) S P := rn_s dq_Tape_takeNumber_50 rfl rfl rfl
theorem dq_Tape_takeNumber_51 : decode (km_c mm_Tape_takeNumber) 51 = .ok (.bipush 48, 2) := by decide +kernel
theorem sq_Tape_takeNumber_51 : rn G mm_Tape_takeNumber 51 lv st S P ↔ rn G mm_Tape_takeNumber 53 lv (.int (nI 48) :: st) S P := rn_s dq_Tape_takeNumber_51 rfl rfl rfl
theorem dq_Tape_takeNumber_53 : decode (km_c mm_Tape_takeNumber) 53 = .ok (.isub, 1) := by decide +kernel
theorem sq_Tape_takeNumber_53 : rn G mm_Tape_takeNumber 53 lv (.int x2 :: .int x :: st) S P ↔ rn G mm_Tape_takeNumber 54 lv (.int (x - x2) :: st) S P := rn_s dq_Tape_takeNumber_53 rfl rfl rfl
theorem dq_Tape_takeNumber_54 : decode (km_c mm_Tape_takeNumber) 54 = .ok (.iload_n 1, 1) := by decide +kernel
theorem sq_Tape_takeNumber_54 : rn G mm_Tape_takeNumber 54 [a0, some (.int x), a2, a3] st S P ↔ rn G mm_Tape_takeNumber 55 [a0, some (.int x), a2, a3] (.int x :: st) S P := rn_s dq_Tape_takeNumber_54 rfl rfl rfl
theorem dq_Tape_takeNumber_55 : decode (km_c mm_Tape_takeNumber) 55 = .ok (.iconst 1, 1) := by decide +kernel
theorem sq_Tape_takeNumber_55 : rn G mm_Tape_takeNumber 55 lv st S P ↔ rn G mm_Tape_takeNumber 56 lv (.int (nI 1) :: st) S P := rn_s dq_Tape_takeNumber_55 rfl rfl rfl
theorem dq_Tape_takeNumber_56 : decode (km_c mm_Tape_takeNumber) 56 = .ok (.iadd, 1) := by decide +kernel
theorem sq_Tape_takeNumber_56 : rn G mm_Tape_takeNumber 56 lv (.int x2 :: .int x :: st) S P ↔ rn G mm_Tape_takeNumber 57 lv (.int (x + x2) :: st) S P := rn_s dq_Tape_takeNumber_56 rfl rfl rfl
theorem dq_Tape_takeNumber_57 : decode (km_c mm_Tape_takeNumber) 57 = .ok (.invokestatic 77, 3) := by decide +kernel
theorem sq_Tape_takeNumber_57 (hst : kx_cat st ≤ 8) : rn G mm_Tape_takeNumber 57 lv (.int x2 :: .int x :: st) S P ↔ rn G mm_Tape_takeNumber 60 lv (.int (if x2 < x then x2 else x) :: st) S P := rn_mm dq_Tape_takeNumber_57 (by decide) (w := 1) (by decide) (if_pos ⟨by decide, Nat.le_trans (Nat.add_le_add_right hst 13) (by decide)⟩)
theorem dq_Tape_takeNumber_60 : decode (km_c mm_Tape_takeNumber) 60 = .ok (.istore_n 3, 1) := by decide +kernel
theorem sq_Tape_takeNumber_60n : rn G mm_Tape_takeNumber 60 [a0, a1, none, a3] (.int x :: st) S P ↔ rn G mm_Tape_takeNumber 61 [a0, a1, none, some (.int x)] st S P := rn_s dq_Tape_takeNumber_60 rfl rfl rfl
theorem sq_Tape_takeNumber_60i : rn G mm_Tape_takeNumber 60 [a0, a1, some (.int x2), a3] (.int x :: st) S P ↔ rn G mm_Tape_takeNumber 61 [a0, a1, some (.int x2), some (.int x)] st S P := rn_s dq_Tape_takeNumber_60 rfl rfl rfl
theorem sq_Tape_takeNumber_60r : rn G mm_Tape_takeNumber 60 [a0, a1, some (.ref z2), a3] (.int x :: st) S P ↔ rn G mm_Tape_takeNumber 61 [a0, a1, some (.ref z2), some (.int x)] st S P := rn_s dq_Tape_takeNumber_60 rfl rfl rfl
theorem dq_Tape_takeNumber_61 : decode (km_c mm_Tape_takeNumber) 61 = .ok (.aload_n 0, 1) := by decide +kernel
theorem sq_Tape_takeNumber_61 : rn G mm_Tape_takeNumber 61 [some (.ref z), a1, a2, a3] st S P ↔ rn G mm_Tape_takeNumber 62 [some (.ref z), a1, a2, a3] (.ref z :: st) S P := rn_s dq_Tape_takeNumber_61 rfl rfl rfl
theorem dq_Tape_takeNumber_62 : decode (km_c mm_Tape_takeNumber) 62 = .ok (.dup, 1) := by decide +kernel
theorem sq_Tape_takeNumber_62i : rn G mm_Tape_takeNumber 62 lv (.int x :: st) S P ↔ rn G mm_Tape_takeNumber 63 lv (.int x :: .int x :: st) S P := rn_s dq_Tape_takeNumber_62 rfl rfl rfl
theorem sq_Tape_takeNumber_62r : rn G mm_Tape_takeNumber 62 lv (.ref z :: st) S P ↔ rn G mm_Tape_takeNumber 63 lv (.ref z :: .ref z :: st) S P := rn_s dq_Tape_takeNumber_62 rfl rfl rfl
theorem dq_Tape_takeNumber_63 : decode (km_c mm_Tape_takeNumber) 63 = .ok (.getfield 19, 3) := by decide +kernel
theorem sq_Tape_takeNumber_63_24 (ho : sx_o o pl kp) : rn (lt_G o L) mm_Tape_takeNumber 63 lv (.ref 24 :: st) (sx pl kp I A) P ↔ rn (lt_G o L) mm_Tape_takeNumber 66 lv (.int (I 24 2) :: st) (sx pl kp I A) P := rx_get (h := "") (ci := 4) (k := 2) dq_Tape_takeNumber_63 (by decide +kernel) ho (up_b (by decide)) rfl rfl (fl_i (by decide))
theorem dq_Tape_takeNumber_66 : decode (km_c mm_Tape_takeNumber) 66 = .ok (.iconst 1, 1) := by decide +kernel
theorem sq_Tape_takeNumber_66 : rn G mm_Tape_takeNumber 66 lv st S P ↔ rn G mm_Tape_takeNumber 67 lv (.int (nI 1) :: st) S P := rn_s dq_Tape_takeNumber_66 rfl rfl rfl
theorem dq_Tape_takeNumber_67 : decode (km_c mm_Tape_takeNumber) 67 = .ok (.iadd, 1) := by decide +kernel
theorem sq_Tape_takeNumber_67 : rn G mm_Tape_takeNumber 67 lv (.int x2 :: .int x :: st) S P ↔ rn G mm_Tape_takeNumber 68 lv (.int (x + x2) :: st) S P := rn_s dq_Tape_takeNumber_67 rfl rfl rfl
theorem dq_Tape_takeNumber_68 : decode (km_c mm_Tape_takeNumber) 68 = .ok (.putfield 19, 3) := by decide +kernel
theorem sq_Tape_takeNumber_68_24 (ho : sx_o o pl kp) : rn (lt_G o L) mm_Tape_takeNumber 68 lv (.int x :: .ref 24 :: st) (sx pl kp I A) P ↔ rn (lt_G o L) mm_Tape_takeNumber 71 lv st (sx pl kp (u2 I 24 2 x) A) P := rx_put (h := "") (ci := 4) (k := 2) dq_Tape_takeNumber_68 (by decide +kernel) ho (up_b (by decide)) rfl rfl (by decide) (by decide)
theorem dq_Tape_takeNumber_71 : decode (km_c mm_Tape_takeNumber) 71 = .ok (.goto (-60), 3) := by decide +kernel
theorem sq_Tape_takeNumber_71 : rn G mm_Tape_takeNumber 71 lv st S P ↔ rn G mm_Tape_takeNumber 11 lv st S P := rn_s dq_Tape_takeNumber_71 rfl rfl rfl
theorem dq_Tape_takeNumber_74 : decode (km_c mm_Tape_takeNumber) 74 = .ok (.iload_n 3, 1) := by decide +kernel
theorem sq_Tape_takeNumber_74 : rn G mm_Tape_takeNumber 74 [a0, a1, a2, some (.int x)] st S P ↔ rn G mm_Tape_takeNumber 75 [a0, a1, a2, some (.int x)] (.int x :: st) S P := rn_s dq_Tape_takeNumber_74 rfl rfl rfl
theorem dq_Tape_takeNumber_75 : decode (km_c mm_Tape_takeNumber) 75 = .ok (.iconst 1, 1) := by decide +kernel
theorem sq_Tape_takeNumber_75 : rn G mm_Tape_takeNumber 75 lv st S P ↔ rn G mm_Tape_takeNumber 76 lv (.int (nI 1) :: st) S P := rn_s dq_Tape_takeNumber_75 rfl rfl rfl
theorem dq_Tape_takeNumber_76 : decode (km_c mm_Tape_takeNumber) 76 = .ok (.if_icmp .lt 8, 3) := by decide +kernel
theorem sq_Tape_takeNumber_76 : rn G mm_Tape_takeNumber 76 lv (.int x2 :: .int x :: st) S P ↔ ((x < x2 → rn G mm_Tape_takeNumber 84 lv st S P) ∧ (¬ (x < x2) → rn G mm_Tape_takeNumber 79 lv st S P)) := rn_b (off := 8) dq_Tape_takeNumber_76 rfl rfl rfl rfl
theorem dq_Tape_takeNumber_79 : decode (km_c mm_Tape_takeNumber) 79 = .ok (.iload_n 3, 1) := by decide +kernel
theorem sq_Tape_takeNumber_79 : rn G mm_Tape_takeNumber 79 [a0, a1, a2, some (.int x)] st S P ↔ rn G mm_Tape_takeNumber 80 [a0, a1, a2, some (.int x)] (.int x :: st) S P := rn_s dq_Tape_takeNumber_79 rfl rfl rfl
theorem dq_Tape_takeNumber_80 : decode (km_c mm_Tape_takeNumber) 80 = .ok (.iload_n 1, 1) := by decide +kernel
theorem sq_Tape_takeNumber_80 : rn G mm_Tape_takeNumber 80 [a0, some (.int x), a2, a3] st S P ↔ rn G mm_Tape_takeNumber 81 [a0, some (.int x), a2, a3] (.int x :: st) S P := rn_s dq_Tape_takeNumber_80 rfl rfl rfl
theorem dq_Tape_takeNumber_81 : decode (km_c mm_Tape_takeNumber) 81 = .ok (.if_icmp .le 10, 3) := by decide +kernel
theorem sq_Tape_takeNumber_81 : rn G mm_Tape_takeNumber 81 lv (.int x2 :: .int x :: st) S P ↔ ((x ≤ x2 → rn G mm_Tape_takeNumber 91 lv st S P) ∧ (¬ (x ≤ x2) → rn G mm_Tape_takeNumber 84 lv st S P)) := rn_b (off := 10) dq_Tape_takeNumber_81 rfl rfl rfl rfl
theorem dq_Tape_takeNumber_84 : decode (km_c mm_Tape_takeNumber) 84 = .ok (.aload_n 0, 1) := by decide +kernel
theorem sq_Tape_takeNumber_84 : rn G mm_Tape_takeNumber 84 [some (.ref z), a1, a2, a3] st S P ↔ rn G mm_Tape_takeNumber 85 [some (.ref z), a1, a2, a3] (.ref z :: st) S P := rn_s dq_Tape_takeNumber_84 rfl rfl rfl
theorem dq_Tape_takeNumber_85 : decode (km_c mm_Tape_takeNumber) 85 = .ok (.iload_n 2, 1) := by decide +kernel
theorem sq_Tape_takeNumber_85 : rn G mm_Tape_takeNumber 85 [a0, a1, some (.int x), a3] st S P ↔ rn G mm_Tape_takeNumber 86 [a0, a1, some (.int x), a3] (.int x :: st) S P := rn_s dq_Tape_takeNumber_85 rfl rfl rfl
theorem dq_Tape_takeNumber_86 : decode (km_c mm_Tape_takeNumber) 86 = .ok (.putfield 19, 3) := by decide +kernel
theorem sq_Tape_takeNumber_86_24 (ho : sx_o o pl kp) : rn (lt_G o L) mm_Tape_takeNumber 86 lv (.int x :: .ref 24 :: st) (sx pl kp I A) P ↔ rn (lt_G o L) mm_Tape_takeNumber 89 lv st (sx pl kp (u2 I 24 2 x) A) P := rx_put (h := "") (ci := 4) (k := 2) dq_Tape_takeNumber_86 (by decide +kernel) ho (up_b (by decide)) rfl rfl (by decide) (by decide)
theorem dq_Tape_takeNumber_89 : decode (km_c mm_Tape_takeNumber) 89 = .ok (.iconst (-1), 1) := by decide +kernel
theorem sq_Tape_takeNumber_89 : rn G mm_Tape_takeNumber 89 lv st S P ↔ rn G mm_Tape_takeNumber 90 lv (.int ((-1)) :: st) S P := rn_s dq_Tape_takeNumber_89 rfl rfl rfl
theorem dq_Tape_takeNumber_90 : decode (km_c mm_Tape_takeNumber) 90 = .ok (.ireturn, 1) := by decide +kernel
theorem sq_Tape_takeNumber_90 : rn G mm_Tape_takeNumber 90 lv [.int x] S P ↔ P (some (.int x)) S := rn_ir dq_Tape_takeNumber_90 rfl
theorem dq_Tape_takeNumber_91 : decode (km_c mm_Tape_takeNumber) 91 = .ok (.iload_n 3, 1) := by decide +kernel
theorem sq_Tape_takeNumber_91 : rn G mm_Tape_takeNumber 91 [a0, a1, a2, some (.int x)] st S P ↔ rn G mm_Tape_takeNumber 92 [a0, a1, a2, some (.int x)] (.int x :: st) S P := rn_s dq_Tape_takeNumber_91 rfl rfl rfl
theorem dq_Tape_takeNumber_92 : decode (km_c mm_Tape_takeNumber) 92 = .ok (.ireturn, 1) := by decide +kernel
theorem sq_Tape_takeNumber_92 : rn G mm_Tape_takeNumber 92 lv [.int x] S P ↔ P (some (.int x)) S := rn_ir dq_Tape_takeNumber_92 rfl
theorem dq_Villages_init_0 : decode (km_c mm_Villages_init) 0 = .ok (.aload_n 0, 1) := by decide +kernel
theorem sq_Villages_init_0 : rn G mm_Villages_init 0 [some (.ref z)] st S P ↔ rn G mm_Villages_init 1 [some (.ref z)] (.ref z :: st) S P := rn_s dq_Villages_init_0 rfl rfl rfl
theorem dq_Villages_init_1 : decode (km_c mm_Villages_init) 1 = .ok (.invokespecial 3, 3) := by decide +kernel
theorem dq_Villages_init_4 : decode (km_c mm_Villages_init) 4 = .ok (.aload_n 0, 1) := by decide +kernel
theorem sq_Villages_init_4 : rn G mm_Villages_init 4 [some (.ref z)] st S P ↔ rn G mm_Villages_init 5 [some (.ref z)] (.ref z :: st) S P := rn_s dq_Villages_init_4 rfl rfl rfl
theorem dq_Villages_init_5 : decode (km_c mm_Villages_init) 5 = .ok (.bipush 6, 2) := by decide +kernel
theorem sq_Villages_init_5 : rn G mm_Villages_init 5 lv st S P ↔ rn G mm_Villages_init 7 lv (.int (nI 6) :: st) S P := rn_s dq_Villages_init_5 rfl rfl rfl
theorem dq_Villages_init_7 : decode (km_c mm_Villages_init) 7 = .ok (.newarray .int, 2) := by decide +kernel
theorem dq_Villages_init_9 : decode (km_c mm_Villages_init) 9 = .ok (.putfield 9, 3) := by decide +kernel
theorem dq_Villages_init_12 : decode (km_c mm_Villages_init) 12 = .ok (.aload_n 0, 1) := by decide +kernel
theorem sq_Villages_init_12 : rn G mm_Villages_init 12 [some (.ref z)] st S P ↔ rn G mm_Villages_init 13 [some (.ref z)] (.ref z :: st) S P := rn_s dq_Villages_init_12 rfl rfl rfl
theorem dq_Villages_init_13 : decode (km_c mm_Villages_init) 13 = .ok (.bipush 6, 2) := by decide +kernel
theorem sq_Villages_init_13 : rn G mm_Villages_init 13 lv st S P ↔ rn G mm_Villages_init 15 lv (.int (nI 6) :: st) S P := rn_s dq_Villages_init_13 rfl rfl rfl
theorem dq_Villages_init_15 : decode (km_c mm_Villages_init) 15 = .ok (.newarray .int, 2) := by decide +kernel
theorem dq_Villages_init_17 : decode (km_c mm_Villages_init) 17 = .ok (.putfield 15, 3) := by decide +kernel
theorem dq_Villages_init_20 : decode (km_c mm_Villages_init) 20 = .ok (.aload_n 0, 1) := by decide +kernel
theorem sq_Villages_init_20 : rn G mm_Villages_init 20 [some (.ref z)] st S P ↔ rn G mm_Villages_init 21 [some (.ref z)] (.ref z :: st) S P := rn_s dq_Villages_init_20 rfl rfl rfl
theorem dq_Villages_init_21 : decode (km_c mm_Villages_init) 21 = .ok (.iconst 0, 1) := by decide +kernel
theorem sq_Villages_init_21 : rn G mm_Villages_init 21 lv st S P ↔ rn G mm_Villages_init 22 lv (.int (nI 0) :: st) S P := rn_s dq_Villages_init_21 rfl rfl rfl
theorem dq_Villages_init_22 : decode (km_c mm_Villages_init) 22 = .ok (.putfield 18, 3) := by decide +kernel
theorem sq_Villages_init_22_9 (ho : sx_o o pl kp) : rn (lt_G o L) mm_Villages_init 22 lv (.int x :: .ref 9 :: st) (sx pl kp I A) P ↔ rn (lt_G o L) mm_Villages_init 25 lv st (sx pl kp (u2 I 9 2 x) A) P := rx_put (h := "") (ci := 5) (k := 2) dq_Villages_init_22 (by decide +kernel) ho (up_b (by decide)) rfl rfl (by decide) (by decide)
theorem sq_Villages_init_22_42 (ho : sx_o o pl kp) : rn (lt_G o L) mm_Villages_init 22 lv (.int x :: .ref 42 :: st) (sx pl kp I A) P ↔ rn (lt_G o L) mm_Villages_init 25 lv st (sx pl kp (u2 I 42 2 x) A) P := rx_put (h := "") (ci := 5) (k := 2) dq_Villages_init_22 (by decide +kernel) ho (up_b (by decide)) rfl rfl (by decide) (by decide)
theorem sq_Villages_init_22_144 (ho : sx_o o pl true) : rn (lt_G o L) mm_Villages_init 22 lv (.int x :: .ref 144 :: st) (sx pl true I A) P ↔ rn (lt_G o L) mm_Villages_init 25 lv st (sx pl true (u2 I 144 2 x) A) P := rx_put (h := "") (ci := 5) (k := 2) dq_Villages_init_22 (by decide +kernel) ho (up_k (by decide) (by decide)) rfl rfl (by decide) (by decide)
theorem dq_Villages_init_25 : decode (km_c mm_Villages_init) 25 = .ok (.return_, 1) := by decide +kernel
theorem sq_Villages_init_25 : rn G mm_Villages_init 25 lv [] S P ↔ P none S := rn_vr dq_Villages_init_25 rfl
end SQ
