section SQ
variable {o pl kp : Bool} {L : Nat} {I A : Nat → Nat → Int32} {G : kg_G} {S : ks_S} {lv : List (Option Value)} {st : List Value} {P : Option Value → ks_S → Prop} {x x2 : Int32} {y y2 : Int64} {z z2 c a : Nat} {a0 a1 a2 a3 a4 a5 a6 a7 a8 a9 a10 a11 a12 a13 a14 a15 a16 a17 a18 a19 a20 a21 a22 a23 : Option Value}
theorem dq_Road_sideTo_0 : decode (km_c mm_Road_sideTo) 0 = .ok (.iconst 0, 1) := by decide +kernel
theorem sq_Road_sideTo_0 : rn G mm_Road_sideTo 0 lv st S P ↔ rn G mm_Road_sideTo 1 lv (.int (nI 0) :: st) S P := rn_s dq_Road_sideTo_0 rfl rfl rfl
theorem dq_Road_sideTo_1 : decode (km_c mm_Road_sideTo) 1 = .ok (.istore_n 2, 1) := by decide +kernel
theorem sq_Road_sideTo_1n : rn G mm_Road_sideTo 1 [a0, none, a2] (.int x :: st) S P ↔ rn G mm_Road_sideTo 2 [a0, none, some (.int x)] st S P := rn_s dq_Road_sideTo_1 rfl rfl rfl
theorem sq_Road_sideTo_1i : rn G mm_Road_sideTo 1 [a0, some (.int x2), a2] (.int x :: st) S P ↔ rn G mm_Road_sideTo 2 [a0, some (.int x2), some (.int x)] st S P := rn_s dq_Road_sideTo_1 rfl rfl rfl
theorem sq_Road_sideTo_1r : rn G mm_Road_sideTo 1 [a0, some (.ref z2), a2] (.int x :: st) S P ↔ rn G mm_Road_sideTo 2 [a0, some (.ref z2), some (.int x)] st S P := rn_s dq_Road_sideTo_1 rfl rfl rfl
theorem dq_Road_sideTo_2 : decode (km_c mm_Road_sideTo) 2 = .ok (.iload_n 2, 1) := by decide +kernel
theorem sq_Road_sideTo_2 : rn G mm_Road_sideTo 2 [a0, a1, some (.int x)] st S P ↔ rn G mm_Road_sideTo 3 [a0, a1, some (.int x)] (.int x :: st) S P := rn_s dq_Road_sideTo_2 rfl rfl rfl
theorem dq_Road_sideTo_3 : decode (km_c mm_Road_sideTo) 3 = .ok (.iconst 4, 1) := by decide +kernel
theorem sq_Road_sideTo_3 : rn G mm_Road_sideTo 3 lv st S P ↔ rn G mm_Road_sideTo 4 lv (.int (nI 4) :: st) S P := rn_s dq_Road_sideTo_3 rfl rfl rfl
theorem dq_Road_sideTo_4 : decode (km_c mm_Road_sideTo) 4 = .ok (.if_icmp .ge 20, 3) := by decide +kernel
theorem sq_Road_sideTo_4 : rn G mm_Road_sideTo 4 lv (.int x2 :: .int x :: st) S P ↔ ((x2 ≤ x → rn G mm_Road_sideTo 24 lv st S P) ∧ (¬ (x2 ≤ x) → rn G mm_Road_sideTo 7 lv st S P)) := rn_b (off := 20) dq_Road_sideTo_4 rfl rfl rfl rfl
theorem dq_Road_sideTo_7 : decode (km_c mm_Road_sideTo) 7 = .ok (.iload_n 0, 1) := by decide +kernel
theorem sq_Road_sideTo_7 : rn G mm_Road_sideTo 7 [some (.int x), a1, a2] st S P ↔ rn G mm_Road_sideTo 8 [some (.int x), a1, a2] (.int x :: st) S P := rn_s dq_Road_sideTo_7 rfl rfl rfl
theorem dq_Road_sideTo_8 : decode (km_c mm_Road_sideTo) 8 = .ok (.iload_n 2, 1) := by decide +kernel
theorem sq_Road_sideTo_8 : rn G mm_Road_sideTo 8 [a0, a1, some (.int x)] st S P ↔ rn G mm_Road_sideTo 9 [a0, a1, some (.int x)] (.int x :: st) S P := rn_s dq_Road_sideTo_8 rfl rfl rfl
theorem dq_Road_sideTo_9 : decode (km_c mm_Road_sideTo) 9 = .ok (.invokestatic 339, 3) := by decide +kernel
theorem sq_Road_sideTo_9 {x1 : Int32} {x2 : Int32} {v : Option Value} {S2 : ks_S} (hc : ev G mm_Road_cellAt [.int x1, .int x2] S v S2) (hst : kx_cat st ≤ 8) : rn G mm_Road_sideTo 9 lv (.int x2 :: .int x1 :: st) S P ↔ rn G mm_Road_sideTo 12 lv (v.toList ++ st) S2 P := rn_cs (k := 1) (host := "") (E' := mm_Road_cellAt) dq_Road_sideTo_9 (by decide) (by decide) rfl (ok_v rfl (by decide) (by decide) (Nat.le_add_left _ _) hst (Nat.le_of_ble_eq_true rfl) (Or.inl rfl)) rfl rfl hc
theorem dq_Road_sideTo_12 : decode (km_c mm_Road_sideTo) 12 = .ok (.iload_n 1, 1) := by decide +kernel
theorem sq_Road_sideTo_12 : rn G mm_Road_sideTo 12 [a0, some (.int x), a2] st S P ↔ rn G mm_Road_sideTo 13 [a0, some (.int x), a2] (.int x :: st) S P := rn_s dq_Road_sideTo_12 rfl rfl rfl
theorem dq_Road_sideTo_13 : decode (km_c mm_Road_sideTo) 13 = .ok (.if_icmp .ne 5, 3) := by decide +kernel
theorem sq_Road_sideTo_13 : rn G mm_Road_sideTo 13 lv (.int x2 :: .int x :: st) S P ↔ ((¬ x = x2 → rn G mm_Road_sideTo 18 lv st S P) ∧ (¬ (¬ x = x2) → rn G mm_Road_sideTo 16 lv st S P)) := rn_b (off := 5) dq_Road_sideTo_13 rfl rfl rfl rfl
theorem dq_Road_sideTo_16 : decode (km_c mm_Road_sideTo) 16 = .ok (.iload_n 2, 1) := by decide +kernel
theorem sq_Road_sideTo_16 : rn G mm_Road_sideTo 16 [a0, a1, some (.int x)] st S P ↔ rn G mm_Road_sideTo 17 [a0, a1, some (.int x)] (.int x :: st) S P := rn_s dq_Road_sideTo_16 rfl rfl rfl
theorem dq_Road_sideTo_17 : decode (km_c mm_Road_sideTo) 17 = .ok (.ireturn, 1) := by decide +kernel
theorem sq_Road_sideTo_17 : rn G mm_Road_sideTo 17 lv [.int x] S P ↔ P (some (.int x)) S := rn_ir dq_Road_sideTo_17 rfl
theorem dq_Road_sideTo_18 : decode (km_c mm_Road_sideTo) 18 = .ok (.iinc 2 1, 3) := by decide +kernel
theorem sq_Road_sideTo_18n : rn G mm_Road_sideTo 18 [a0, none, some (.int x)] st S P ↔ rn G mm_Road_sideTo 21 [a0, none, some (.int (x + nI 1))] st S P := rn_s dq_Road_sideTo_18 rfl rfl rfl
theorem sq_Road_sideTo_18i : rn G mm_Road_sideTo 18 [a0, some (.int x2), some (.int x)] st S P ↔ rn G mm_Road_sideTo 21 [a0, some (.int x2), some (.int (x + nI 1))] st S P := rn_s dq_Road_sideTo_18 rfl rfl rfl
theorem sq_Road_sideTo_18r : rn G mm_Road_sideTo 18 [a0, some (.ref z2), some (.int x)] st S P ↔ rn G mm_Road_sideTo 21 [a0, some (.ref z2), some (.int (x + nI 1))] st S P := rn_s dq_Road_sideTo_18 rfl rfl rfl
theorem dq_Road_sideTo_21 : decode (km_c mm_Road_sideTo) 21 = .ok (.goto (-19), 3) := by decide +kernel
theorem sq_Road_sideTo_21 : rn G mm_Road_sideTo 21 lv st S P ↔ rn G mm_Road_sideTo 2 lv st S P := rn_s dq_Road_sideTo_21 rfl rfl rfl
theorem dq_Road_sideTo_24 : decode (km_c mm_Road_sideTo) 24 = .ok (.iconst (-1), 1) := by decide +kernel
theorem sq_Road_sideTo_24 : rn G mm_Road_sideTo 24 lv st S P ↔ rn G mm_Road_sideTo 25 lv (.int ((-1)) :: st) S P := rn_s dq_Road_sideTo_24 rfl rfl rfl
theorem dq_Road_sideTo_25 : decode (km_c mm_Road_sideTo) 25 = .ok (.ireturn, 1) := by decide +kernel
theorem sq_Road_sideTo_25 : rn G mm_Road_sideTo 25 lv [.int x] S P ↔ P (some (.int x)) S := rn_ir dq_Road_sideTo_25 rfl
theorem dq_Road_back_0 : decode (km_c mm_Road_back) 0 = .ok (.iload_n 1, 1) := by decide +kernel
theorem sq_Road_back_0 : rn G mm_Road_back 0 [a0, some (.int x)] st S P ↔ rn G mm_Road_back 1 [a0, some (.int x)] (.int x :: st) S P := rn_s dq_Road_back_0 rfl rfl rfl
theorem dq_Road_back_1 : decode (km_c mm_Road_back) 1 = .ok (.iconst 1, 1) := by decide +kernel
theorem sq_Road_back_1 : rn G mm_Road_back 1 lv st S P ↔ rn G mm_Road_back 2 lv (.int (nI 1) :: st) S P := rn_s dq_Road_back_1 rfl rfl rfl
theorem dq_Road_back_2 : decode (km_c mm_Road_back) 2 = .ok (.bipush 60, 2) := by decide +kernel
theorem sq_Road_back_2 : rn G mm_Road_back 2 lv st S P ↔ rn G mm_Road_back 4 lv (.int (nI 60) :: st) S P := rn_s dq_Road_back_2 rfl rfl rfl
theorem dq_Road_back_4 : decode (km_c mm_Road_back) 4 = .ok (.invokestatic 72, 3) := by decide +kernel
theorem sq_Road_back_4 {x1 : Int32} {x2 : Int32} {x3 : Int32} {v : Option Value} {S2 : ks_S} (hc : ev G mm_Road_outside [.int x1, .int x2, .int x3] S v S2) (hst : kx_cat st ≤ 8) : rn G mm_Road_back 4 lv (.int x3 :: .int x2 :: .int x1 :: st) S P ↔ rn G mm_Road_back 7 lv (v.toList ++ st) S2 P := rn_cs (k := 1) (host := "") (E' := mm_Road_outside) dq_Road_back_4 (by decide) (by decide) rfl (ok_v rfl (by decide) (by decide) (Nat.le_add_left _ _) hst (Nat.le_of_ble_eq_true rfl) (Or.inl rfl)) rfl rfl hc
theorem dq_Road_back_7 : decode (km_c mm_Road_back) 7 = .ok (.ifCond .eq 5, 3) := by decide +kernel
theorem sq_Road_back_7 : rn G mm_Road_back 7 lv (.int x :: st) S P ↔ ((x = 0 → rn G mm_Road_back 12 lv st S P) ∧ (¬ (x = 0) → rn G mm_Road_back 10 lv st S P)) := rn_b (off := 5) dq_Road_back_7 rfl rfl rfl rfl
theorem dq_Road_back_10 : decode (km_c mm_Road_back) 10 = .ok (.iconst (-1), 1) := by decide +kernel
theorem sq_Road_back_10 : rn G mm_Road_back 10 lv st S P ↔ rn G mm_Road_back 11 lv (.int ((-1)) :: st) S P := rn_s dq_Road_back_10 rfl rfl rfl
theorem dq_Road_back_11 : decode (km_c mm_Road_back) 11 = .ok (.ireturn, 1) := by decide +kernel
theorem sq_Road_back_11 : rn G mm_Road_back 11 lv [.int x] S P ↔ P (some (.int x)) S := rn_ir dq_Road_back_11 rfl
theorem dq_Road_back_12 : decode (km_c mm_Road_back) 12 = .ok (.iload_n 1, 1) := by decide +kernel
theorem sq_Road_back_12 : rn G mm_Road_back 12 [a0, some (.int x)] st S P ↔ rn G mm_Road_back 13 [a0, some (.int x)] (.int x :: st) S P := rn_s dq_Road_back_12 rfl rfl rfl
theorem dq_Road_back_13 : decode (km_c mm_Road_back) 13 = .ok (.aload_n 0, 1) := by decide +kernel
theorem sq_Road_back_13 : rn G mm_Road_back 13 [some (.ref z), a1] st S P ↔ rn G mm_Road_back 14 [some (.ref z), a1] (.ref z :: st) S P := rn_s dq_Road_back_13 rfl rfl rfl
theorem dq_Road_back_14 : decode (km_c mm_Road_back) 14 = .ok (.getfield 10, 3) := by decide +kernel
theorem sq_Road_back_14_0 (ho : sx_o o pl kp) : rn (lt_G o L) mm_Road_back 14 lv (.ref 0 :: st) (sx pl kp I A) P ↔ rn (lt_G o L) mm_Road_back 17 lv (.ref 1 :: st) (sx pl kp I A) P := rx_get (h := "") (ci := 9) (k := 0) dq_Road_back_14 (by decide +kernel) ho (up_b (by decide)) rfl rfl (fl_r (by decide) (by decide) (by decide) (by decide))
theorem dq_Road_back_17 : decode (km_c mm_Road_back) 17 = .ok (.getfield 150, 3) := by decide +kernel
theorem sq_Road_back_17_1 (ho : sx_o o pl kp) : rn (lt_G o L) mm_Road_back 17 lv (.ref 1 :: st) (sx pl kp I A) P ↔ rn (lt_G o L) mm_Road_back 20 lv (.ref 12 :: st) (sx pl kp I A) P := rx_get (h := "DeltaRoad") (ci := 8) (k := 2) dq_Road_back_17 (by decide +kernel) ho (up_b (by decide)) rfl rfl (fl_r (by decide) (by decide) (by decide) (by decide))
theorem sq_Road_back_17_136 (ho : sx_o o pl true) : rn (lt_G o L) mm_Road_back 17 lv (.ref 136 :: st) (sx pl true I A) P ↔ rn (lt_G o L) mm_Road_back 20 lv (.ref 147 :: st) (sx pl true I A) P := rx_get (h := "DeltaRoad") (ci := 8) (k := 2) dq_Road_back_17 (by decide +kernel) ho (up_k (by decide) (by decide)) rfl rfl (fl_k (by decide) (by decide))
theorem dq_Road_back_20 : decode (km_c mm_Road_back) 20 = .ok (.getfield 154, 3) := by decide +kernel
theorem sq_Road_back_20_12 (ho : sx_o o pl kp) : rn (lt_G o L) mm_Road_back 20 lv (.ref 12 :: st) (sx pl kp I A) P ↔ rn (lt_G o L) mm_Road_back 23 lv (.int (I 12 1) :: st) (sx pl kp I A) P := rx_get (h := "DeltaRoad") (ci := 1) (k := 1) dq_Road_back_20 (by decide +kernel) ho (up_b (by decide)) rfl rfl (fl_i (by decide))
theorem sq_Road_back_20_147 (ho : sx_o o pl true) : rn (lt_G o L) mm_Road_back 20 lv (.ref 147 :: st) (sx pl true I A) P ↔ rn (lt_G o L) mm_Road_back 23 lv (.int (I 147 1) :: st) (sx pl true I A) P := rx_get (h := "DeltaRoad") (ci := 1) (k := 1) dq_Road_back_20 (by decide +kernel) ho (up_k (by decide) (by decide)) rfl rfl (fl_i (by decide))
theorem dq_Road_back_23 : decode (km_c mm_Road_back) 23 = .ok (.if_icmp .le 6, 3) := by decide +kernel
theorem sq_Road_back_23 : rn G mm_Road_back 23 lv (.int x2 :: .int x :: st) S P ↔ ((x ≤ x2 → rn G mm_Road_back 29 lv st S P) ∧ (¬ (x ≤ x2) → rn G mm_Road_back 26 lv st S P)) := rn_b (off := 6) dq_Road_back_23 rfl rfl rfl rfl
theorem dq_Road_back_26 : decode (km_c mm_Road_back) 26 = .ok (.bipush (-2), 2) := by decide +kernel
theorem sq_Road_back_26 : rn G mm_Road_back 26 lv st S P ↔ rn G mm_Road_back 28 lv (.int ((-2)) :: st) S P := rn_s dq_Road_back_26 rfl rfl rfl
theorem dq_Road_back_28 : decode (km_c mm_Road_back) 28 = .ok (.ireturn, 1) := by decide +kernel
theorem sq_Road_back_28 : rn G mm_Road_back 28 lv [.int x] S P ↔ P (some (.int x)) S := rn_ir dq_Road_back_28 rfl
theorem dq_Road_back_29 : decode (km_c mm_Road_back) 29 = .ok (.aload_n 0, 1) := by decide +kernel
theorem sq_Road_back_29 : rn G mm_Road_back 29 [some (.ref z), a1] st S P ↔ rn G mm_Road_back 30 [some (.ref z), a1] (.ref z :: st) S P := rn_s dq_Road_back_29 rfl rfl rfl
theorem dq_Road_back_30 : decode (km_c mm_Road_back) 30 = .ok (.getfield 10, 3) := by decide +kernel
theorem sq_Road_back_30_0 (ho : sx_o o pl kp) : rn (lt_G o L) mm_Road_back 30 lv (.ref 0 :: st) (sx pl kp I A) P ↔ rn (lt_G o L) mm_Road_back 33 lv (.ref 1 :: st) (sx pl kp I A) P := rx_get (h := "") (ci := 9) (k := 0) dq_Road_back_30 (by decide +kernel) ho (up_b (by decide)) rfl rfl (fl_r (by decide) (by decide) (by decide) (by decide))
theorem dq_Road_back_33 : decode (km_c mm_Road_back) 33 = .ok (.getfield 150, 3) := by decide +kernel
theorem sq_Road_back_33_1 (ho : sx_o o pl kp) : rn (lt_G o L) mm_Road_back 33 lv (.ref 1 :: st) (sx pl kp I A) P ↔ rn (lt_G o L) mm_Road_back 36 lv (.ref 12 :: st) (sx pl kp I A) P := rx_get (h := "DeltaRoad") (ci := 8) (k := 2) dq_Road_back_33 (by decide +kernel) ho (up_b (by decide)) rfl rfl (fl_r (by decide) (by decide) (by decide) (by decide))
theorem sq_Road_back_33_136 (ho : sx_o o pl true) : rn (lt_G o L) mm_Road_back 33 lv (.ref 136 :: st) (sx pl true I A) P ↔ rn (lt_G o L) mm_Road_back 36 lv (.ref 147 :: st) (sx pl true I A) P := rx_get (h := "DeltaRoad") (ci := 8) (k := 2) dq_Road_back_33 (by decide +kernel) ho (up_k (by decide) (by decide)) rfl rfl (fl_k (by decide) (by decide))
theorem dq_Road_back_36 : decode (km_c mm_Road_back) 36 = .ok (.dup, 1) := by decide +kernel
theorem sq_Road_back_36i : rn G mm_Road_back 36 lv (.int x :: st) S P ↔ rn G mm_Road_back 37 lv (.int x :: .int x :: st) S P := rn_s dq_Road_back_36 rfl rfl rfl
theorem sq_Road_back_36r : rn G mm_Road_back 36 lv (.ref z :: st) S P ↔ rn G mm_Road_back 37 lv (.ref z :: .ref z :: st) S P := rn_s dq_Road_back_36 rfl rfl rfl
theorem dq_Road_back_37 : decode (km_c mm_Road_back) 37 = .ok (.getfield 154, 3) := by decide +kernel
theorem sq_Road_back_37_12 (ho : sx_o o pl kp) : rn (lt_G o L) mm_Road_back 37 lv (.ref 12 :: st) (sx pl kp I A) P ↔ rn (lt_G o L) mm_Road_back 40 lv (.int (I 12 1) :: st) (sx pl kp I A) P := rx_get (h := "DeltaRoad") (ci := 1) (k := 1) dq_Road_back_37 (by decide +kernel) ho (up_b (by decide)) rfl rfl (fl_i (by decide))
theorem sq_Road_back_37_147 (ho : sx_o o pl true) : rn (lt_G o L) mm_Road_back 37 lv (.ref 147 :: st) (sx pl true I A) P ↔ rn (lt_G o L) mm_Road_back 40 lv (.int (I 147 1) :: st) (sx pl true I A) P := rx_get (h := "DeltaRoad") (ci := 1) (k := 1) dq_Road_back_37 (by decide +kernel) ho (up_k (by decide) (by decide)) rfl rfl (fl_i (by decide))
theorem dq_Road_back_40 : decode (km_c mm_Road_back) 40 = .ok (.iload_n 1, 1) := by decide +kernel
theorem sq_Road_back_40 : rn G mm_Road_back 40 [a0, some (.int x)] st S P ↔ rn G mm_Road_back 41 [a0, some (.int x)] (.int x :: st) S P := rn_s dq_Road_back_40 rfl rfl rfl
theorem dq_Road_back_41 : decode (km_c mm_Road_back) 41 = .ok (.isub, 1) := by decide +kernel
theorem sq_Road_back_41 : rn G mm_Road_back 41 lv (.int x2 :: .int x :: st) S P ↔ rn G mm_Road_back 42 lv (.int (x - x2) :: st) S P := rn_s dq_Road_back_41 rfl rfl rfl
theorem dq_Road_back_42 : decode (km_c mm_Road_back) 42 = .ok (.putfield 154, 3) := by decide +kernel
theorem sq_Road_back_42_12 (ho : sx_o o pl kp) : rn (lt_G o L) mm_Road_back 42 lv (.int x :: .ref 12 :: st) (sx pl kp I A) P ↔ rn (lt_G o L) mm_Road_back 45 lv st (sx pl kp (u2 I 12 1 x) A) P := rx_put (h := "DeltaRoad") (ci := 1) (k := 1) dq_Road_back_42 (by decide +kernel) ho (up_b (by decide)) rfl rfl (by decide) (by decide)
theorem sq_Road_back_42_147 (ho : sx_o o pl true) : rn (lt_G o L) mm_Road_back 42 lv (.int x :: .ref 147 :: st) (sx pl true I A) P ↔ rn (lt_G o L) mm_Road_back 45 lv st (sx pl true (u2 I 147 1 x) A) P := rx_put (h := "DeltaRoad") (ci := 1) (k := 1) dq_Road_back_42 (by decide +kernel) ho (up_k (by decide) (by decide)) rfl rfl (by decide) (by decide)
theorem dq_Road_back_45 : decode (km_c mm_Road_back) 45 = .ok (.aload_n 0, 1) := by decide +kernel
theorem sq_Road_back_45 : rn G mm_Road_back 45 [some (.ref z), a1] st S P ↔ rn G mm_Road_back 46 [some (.ref z), a1] (.ref z :: st) S P := rn_s dq_Road_back_45 rfl rfl rfl
theorem dq_Road_back_46 : decode (km_c mm_Road_back) 46 = .ok (.getfield 10, 3) := by decide +kernel
theorem sq_Road_back_46_0 (ho : sx_o o pl kp) : rn (lt_G o L) mm_Road_back 46 lv (.ref 0 :: st) (sx pl kp I A) P ↔ rn (lt_G o L) mm_Road_back 49 lv (.ref 1 :: st) (sx pl kp I A) P := rx_get (h := "") (ci := 9) (k := 0) dq_Road_back_46 (by decide +kernel) ho (up_b (by decide)) rfl rfl (fl_r (by decide) (by decide) (by decide) (by decide))
theorem dq_Road_back_49 : decode (km_c mm_Road_back) 49 = .ok (.getfield 150, 3) := by decide +kernel
theorem sq_Road_back_49_1 (ho : sx_o o pl kp) : rn (lt_G o L) mm_Road_back 49 lv (.ref 1 :: st) (sx pl kp I A) P ↔ rn (lt_G o L) mm_Road_back 52 lv (.ref 12 :: st) (sx pl kp I A) P := rx_get (h := "DeltaRoad") (ci := 8) (k := 2) dq_Road_back_49 (by decide +kernel) ho (up_b (by decide)) rfl rfl (fl_r (by decide) (by decide) (by decide) (by decide))
theorem sq_Road_back_49_136 (ho : sx_o o pl true) : rn (lt_G o L) mm_Road_back 49 lv (.ref 136 :: st) (sx pl true I A) P ↔ rn (lt_G o L) mm_Road_back 52 lv (.ref 147 :: st) (sx pl true I A) P := rx_get (h := "DeltaRoad") (ci := 8) (k := 2) dq_Road_back_49 (by decide +kernel) ho (up_k (by decide) (by decide)) rfl rfl (fl_k (by decide) (by decide))
theorem dq_Road_back_52 : decode (km_c mm_Road_back) 52 = .ok (.getfield 154, 3) := by decide +kernel
theorem sq_Road_back_52_12 (ho : sx_o o pl kp) : rn (lt_G o L) mm_Road_back 52 lv (.ref 12 :: st) (sx pl kp I A) P ↔ rn (lt_G o L) mm_Road_back 55 lv (.int (I 12 1) :: st) (sx pl kp I A) P := rx_get (h := "DeltaRoad") (ci := 1) (k := 1) dq_Road_back_52 (by decide +kernel) ho (up_b (by decide)) rfl rfl (fl_i (by decide))
theorem sq_Road_back_52_147 (ho : sx_o o pl true) : rn (lt_G o L) mm_Road_back 52 lv (.ref 147 :: st) (sx pl true I A) P ↔ rn (lt_G o L) mm_Road_back 55 lv (.int (I 147 1) :: st) (sx pl true I A) P := rx_get (h := "DeltaRoad") (ci := 1) (k := 1) dq_Road_back_52 (by decide +kernel) ho (up_k (by decide) (by decide)) rfl rfl (fl_i (by decide))
theorem dq_Road_back_55 : decode (km_c mm_Road_back) 55 = .ok (.ireturn, 1) := by decide +kernel
theorem sq_Road_back_55 : rn G mm_Road_back 55 lv [.int x] S P ↔ P (some (.int x)) S := rn_ir dq_Road_back_55 rfl
theorem dq_Road_at_0 : decode (km_c mm_Road_at) 0 = .ok (.iload_n 1, 1) := by decide +kernel
theorem sq_Road_at_0 : rn G mm_Road_at 0 [a0, some (.int x)] st S P ↔ rn G mm_Road_at 1 [a0, some (.int x)] (.int x :: st) S P := rn_s dq_Road_at_0 rfl rfl rfl
theorem dq_Road_at_1 : decode (km_c mm_Road_at) 1 = .ok (.iconst 0, 1) := by decide +kernel
theorem sq_Road_at_1 : rn G mm_Road_at 1 lv st S P ↔ rn G mm_Road_at 2 lv (.int (nI 0) :: st) S P := rn_s dq_Road_at_1 rfl rfl rfl
theorem dq_Road_at_2 : decode (km_c mm_Road_at) 2 = .ok (.aload_n 0, 1) := by decide +kernel
theorem sq_Road_at_2 : rn G mm_Road_at 2 [some (.ref z), a1] st S P ↔ rn G mm_Road_at 3 [some (.ref z), a1] (.ref z :: st) S P := rn_s dq_Road_at_2 rfl rfl rfl
theorem dq_Road_at_3 : decode (km_c mm_Road_at) 3 = .ok (.getfield 10, 3) := by decide +kernel
theorem sq_Road_at_3_0 (ho : sx_o o pl kp) : rn (lt_G o L) mm_Road_at 3 lv (.ref 0 :: st) (sx pl kp I A) P ↔ rn (lt_G o L) mm_Road_at 6 lv (.ref 1 :: st) (sx pl kp I A) P := rx_get (h := "") (ci := 9) (k := 0) dq_Road_at_3 (by decide +kernel) ho (up_b (by decide)) rfl rfl (fl_r (by decide) (by decide) (by decide) (by decide))
theorem dq_Road_at_6 : decode (km_c mm_Road_at) 6 = .ok (.getfield 150, 3) := by decide +kernel
theorem sq_Road_at_6_1 (ho : sx_o o pl kp) : rn (lt_G o L) mm_Road_at 6 lv (.ref 1 :: st) (sx pl kp I A) P ↔ rn (lt_G o L) mm_Road_at 9 lv (.ref 12 :: st) (sx pl kp I A) P := rx_get (h := "DeltaRoad") (ci := 8) (k := 2) dq_Road_at_6 (by decide +kernel) ho (up_b (by decide)) rfl rfl (fl_r (by decide) (by decide) (by decide) (by decide))
theorem sq_Road_at_6_136 (ho : sx_o o pl true) : rn (lt_G o L) mm_Road_at 6 lv (.ref 136 :: st) (sx pl true I A) P ↔ rn (lt_G o L) mm_Road_at 9 lv (.ref 147 :: st) (sx pl true I A) P := rx_get (h := "DeltaRoad") (ci := 8) (k := 2) dq_Road_at_6 (by decide +kernel) ho (up_k (by decide) (by decide)) rfl rfl (fl_k (by decide) (by decide))
theorem dq_Road_at_9 : decode (km_c mm_Road_at) 9 = .ok (.getfield 154, 3) := by decide +kernel
theorem sq_Road_at_9_12 (ho : sx_o o pl kp) : rn (lt_G o L) mm_Road_at 9 lv (.ref 12 :: st) (sx pl kp I A) P ↔ rn (lt_G o L) mm_Road_at 12 lv (.int (I 12 1) :: st) (sx pl kp I A) P := rx_get (h := "DeltaRoad") (ci := 1) (k := 1) dq_Road_at_9 (by decide +kernel) ho (up_b (by decide)) rfl rfl (fl_i (by decide))
theorem sq_Road_at_9_147 (ho : sx_o o pl true) : rn (lt_G o L) mm_Road_at 9 lv (.ref 147 :: st) (sx pl true I A) P ↔ rn (lt_G o L) mm_Road_at 12 lv (.int (I 147 1) :: st) (sx pl true I A) P := rx_get (h := "DeltaRoad") (ci := 1) (k := 1) dq_Road_at_9 (by decide +kernel) ho (up_k (by decide) (by decide)) rfl rfl (fl_i (by decide))
theorem dq_Road_at_12 : decode (km_c mm_Road_at) 12 = .ok (.iconst 1, 1) := by decide +kernel
theorem sq_Road_at_12 : rn G mm_Road_at 12 lv st S P ↔ rn G mm_Road_at 13 lv (.int (nI 1) :: st) S P := rn_s dq_Road_at_12 rfl rfl rfl
theorem dq_Road_at_13 : decode (km_c mm_Road_at) 13 = .ok (.isub, 1) := by decide +kernel
theorem sq_Road_at_13 : rn G mm_Road_at 13 lv (.int x2 :: .int x :: st) S P ↔ rn G mm_Road_at 14 lv (.int (x - x2) :: st) S P := rn_s dq_Road_at_13 rfl rfl rfl
theorem dq_Road_at_14 : decode (km_c mm_Road_at) 14 = .ok (.invokestatic 72, 3) := by decide +kernel
theorem sq_Road_at_14 {x1 : Int32} {x2 : Int32} {x3 : Int32} {v : Option Value} {S2 : ks_S} (hc : ev G mm_Road_outside [.int x1, .int x2, .int x3] S v S2) (hst : kx_cat st ≤ 8) : rn G mm_Road_at 14 lv (.int x3 :: .int x2 :: .int x1 :: st) S P ↔ rn G mm_Road_at 17 lv (v.toList ++ st) S2 P := rn_cs (k := 1) (host := "") (E' := mm_Road_outside) dq_Road_at_14 (by decide) (by decide) rfl (ok_v rfl (by decide) (by decide) (Nat.le_add_left _ _) hst (Nat.le_of_ble_eq_true rfl) (Or.inl rfl)) rfl rfl hc
theorem dq_Road_at_17 : decode (km_c mm_Road_at) 17 = .ok (.ifCond .eq 5, 3) := by decide +kernel
theorem sq_Road_at_17 : rn G mm_Road_at 17 lv (.int x :: st) S P ↔ ((x = 0 → rn G mm_Road_at 22 lv st S P) ∧ (¬ (x = 0) → rn G mm_Road_at 20 lv st S P)) := rn_b (off := 5) dq_Road_at_17 rfl rfl rfl rfl
theorem dq_Road_at_20 : decode (km_c mm_Road_at) 20 = .ok (.iconst (-1), 1) := by decide +kernel
theorem sq_Road_at_20 : rn G mm_Road_at 20 lv st S P ↔ rn G mm_Road_at 21 lv (.int ((-1)) :: st) S P := rn_s dq_Road_at_20 rfl rfl rfl
theorem dq_Road_at_21 : decode (km_c mm_Road_at) 21 = .ok (.ireturn, 1) := by decide +kernel
theorem sq_Road_at_21 : rn G mm_Road_at 21 lv [.int x] S P ↔ P (some (.int x)) S := rn_ir dq_Road_at_21 rfl
theorem dq_Road_at_22 : decode (km_c mm_Road_at) 22 = .ok (.aload_n 0, 1) := by decide +kernel
theorem sq_Road_at_22 : rn G mm_Road_at 22 [some (.ref z), a1] st S P ↔ rn G mm_Road_at 23 [some (.ref z), a1] (.ref z :: st) S P := rn_s dq_Road_at_22 rfl rfl rfl
theorem dq_Road_at_23 : decode (km_c mm_Road_at) 23 = .ok (.getfield 10, 3) := by decide +kernel
theorem sq_Road_at_23_0 (ho : sx_o o pl kp) : rn (lt_G o L) mm_Road_at 23 lv (.ref 0 :: st) (sx pl kp I A) P ↔ rn (lt_G o L) mm_Road_at 26 lv (.ref 1 :: st) (sx pl kp I A) P := rx_get (h := "") (ci := 9) (k := 0) dq_Road_at_23 (by decide +kernel) ho (up_b (by decide)) rfl rfl (fl_r (by decide) (by decide) (by decide) (by decide))
theorem dq_Road_at_26 : decode (km_c mm_Road_at) 26 = .ok (.getfield 150, 3) := by decide +kernel
theorem sq_Road_at_26_1 (ho : sx_o o pl kp) : rn (lt_G o L) mm_Road_at 26 lv (.ref 1 :: st) (sx pl kp I A) P ↔ rn (lt_G o L) mm_Road_at 29 lv (.ref 12 :: st) (sx pl kp I A) P := rx_get (h := "DeltaRoad") (ci := 8) (k := 2) dq_Road_at_26 (by decide +kernel) ho (up_b (by decide)) rfl rfl (fl_r (by decide) (by decide) (by decide) (by decide))
theorem sq_Road_at_26_136 (ho : sx_o o pl true) : rn (lt_G o L) mm_Road_at 26 lv (.ref 136 :: st) (sx pl true I A) P ↔ rn (lt_G o L) mm_Road_at 29 lv (.ref 147 :: st) (sx pl true I A) P := rx_get (h := "DeltaRoad") (ci := 8) (k := 2) dq_Road_at_26 (by decide +kernel) ho (up_k (by decide) (by decide)) rfl rfl (fl_k (by decide) (by decide))
theorem dq_Road_at_29 : decode (km_c mm_Road_at) 29 = .ok (.getfield 227, 3) := by decide +kernel
theorem sq_Road_at_29_12 (ho : sx_o o pl kp) : rn (lt_G o L) mm_Road_at 29 lv (.ref 12 :: st) (sx pl kp I A) P ↔ rn (lt_G o L) mm_Road_at 32 lv (.ref 13 :: st) (sx pl kp I A) P := rx_get (h := "DeltaRoad") (ci := 1) (k := 0) dq_Road_at_29 (by decide +kernel) ho (up_b (by decide)) rfl rfl (fl_r (by decide) (by decide) (by decide) (by decide))
theorem sq_Road_at_29_147 (ho : sx_o o pl true) : rn (lt_G o L) mm_Road_at 29 lv (.ref 147 :: st) (sx pl true I A) P ↔ rn (lt_G o L) mm_Road_at 32 lv (.ref 148 :: st) (sx pl true I A) P := rx_get (h := "DeltaRoad") (ci := 1) (k := 0) dq_Road_at_29 (by decide +kernel) ho (up_k (by decide) (by decide)) rfl rfl (fl_k (by decide) (by decide))
theorem dq_Road_at_32 : decode (km_c mm_Road_at) 32 = .ok (.iload_n 1, 1) := by decide +kernel
theorem sq_Road_at_32 : rn G mm_Road_at 32 [a0, some (.int x)] st S P ↔ rn G mm_Road_at 33 [a0, some (.int x)] (.int x :: st) S P := rn_s dq_Road_at_32 rfl rfl rfl
theorem dq_Road_at_33 : decode (km_c mm_Road_at) 33 = .ok (.iaload, 1) := by decide +kernel
theorem sq_Road_at_33 (ho : sx_o o pl kp) (hk : ak L a = 0) (hu : sx_up pl kp a = true ∨ 1000 ≤ a) (hc : c < ln L a) (hn : ln L a < 2 ^ 31) : rn (lt_G o L) mm_Road_at 33 lv (.int (nI c) :: .ref a :: st) (sx pl kp I A) P ↔ rn (lt_G o L) mm_Road_at 34 lv (.int (A a c) :: st) (sx pl kp I A) P := rx_ild dq_Road_at_33 ho hk hu hc hn
theorem dq_Road_at_34 : decode (km_c mm_Road_at) 34 = .ok (.ireturn, 1) := by decide +kernel
theorem sq_Road_at_34 : rn G mm_Road_at 34 lv [.int x] S P ↔ P (some (.int x)) S := rn_ir dq_Road_at_34 rfl
theorem dq_Road_road_0 : decode (km_c mm_Road_road) 0 = .ok (.iload_n 1, 1) := by decide +kernel
theorem sq_Road_road_0 : rn G mm_Road_road 0 [a0, some (.int x)] st S P ↔ rn G mm_Road_road 1 [a0, some (.int x)] (.int x :: st) S P := rn_s dq_Road_road_0 rfl rfl rfl
theorem dq_Road_road_1 : decode (km_c mm_Road_road) 1 = .ok (.tableswitch 67 0 3 #[31, 36, 41, 52], 31) := by decide +kernel
theorem dq_Road_road_32 : decode (km_c mm_Road_road) 32 = .ok (.aload_n 0, 1) := by decide +kernel
theorem sq_Road_road_32 : rn G mm_Road_road 32 [some (.ref z), a1] st S P ↔ rn G mm_Road_road 33 [some (.ref z), a1] (.ref z :: st) S P := rn_s dq_Road_road_32 rfl rfl rfl
theorem dq_Road_road_33 : decode (km_c mm_Road_road) 33 = .ok (.invokevirtual 234, 3) := by decide +kernel
theorem sq_Road_road_33_0  {v : Option Value} {S2 : ks_S} (hc : ev (lt_G o L) mm_Road_costOfRoad [.ref 0] (sx pl kp I A) v S2) (ho : sx_o o pl kp) (hst : kx_cat st ≤ 8) : rn (lt_G o L) mm_Road_road 33 lv (.ref 0 :: st) (sx pl kp I A) P ↔ rn (lt_G o L) mm_Road_road 36 lv (v.toList ++ st) S2 P := rn_cv (k := 0) (host := "") (E' := mm_Road_costOfRoad) dq_Road_road_33 rfl (ok_v rfl (by decide) (by decide) (Nat.le_add_left _ _) hst (Nat.le_of_ble_eq_true rfl) (Or.inr (rc_v ho (up_b (by decide)) rfl))) rfl rfl hc
theorem dq_Road_road_36 : decode (km_c mm_Road_road) 36 = .ok (.ireturn, 1) := by decide +kernel
theorem sq_Road_road_36 : rn G mm_Road_road 36 lv [.int x] S P ↔ P (some (.int x)) S := rn_ir dq_Road_road_36 rfl
theorem dq_Road_road_37 : decode (km_c mm_Road_road) 37 = .ok (.aload_n 0, 1) := by decide +kernel
theorem sq_Road_road_37 : rn G mm_Road_road 37 [some (.ref z), a1] st S P ↔ rn G mm_Road_road 38 [some (.ref z), a1] (.ref z :: st) S P := rn_s dq_Road_road_37 rfl rfl rfl
theorem dq_Road_road_38 : decode (km_c mm_Road_road) 38 = .ok (.invokevirtual 237, 3) := by decide +kernel
theorem sq_Road_road_38_0  {v : Option Value} {S2 : ks_S} (hc : ev (lt_G o L) mm_Road_servedByRoad [.ref 0] (sx pl kp I A) v S2) (ho : sx_o o pl kp) (hst : kx_cat st ≤ 8) : rn (lt_G o L) mm_Road_road 38 lv (.ref 0 :: st) (sx pl kp I A) P ↔ rn (lt_G o L) mm_Road_road 41 lv (v.toList ++ st) S2 P := rn_cv (k := 0) (host := "") (E' := mm_Road_servedByRoad) dq_Road_road_38 rfl (ok_v rfl (by decide) (by decide) (Nat.le_add_left _ _) hst (Nat.le_of_ble_eq_true rfl) (Or.inr (rc_v ho (up_b (by decide)) rfl))) rfl rfl hc
theorem dq_Road_road_41 : decode (km_c mm_Road_road) 41 = .ok (.ireturn, 1) := by decide +kernel
theorem sq_Road_road_41 : rn G mm_Road_road 41 lv [.int x] S P ↔ P (some (.int x)) S := rn_ir dq_Road_road_41 rfl
theorem dq_Road_road_42 : decode (km_c mm_Road_road) 42 = .ok (.aload_n 0, 1) := by decide +kernel
theorem sq_Road_road_42 : rn G mm_Road_road 42 [some (.ref z), a1] st S P ↔ rn G mm_Road_road 43 [some (.ref z), a1] (.ref z :: st) S P := rn_s dq_Road_road_42 rfl rfl rfl
theorem dq_Road_road_43 : decode (km_c mm_Road_road) 43 = .ok (.getfield 10, 3) := by decide +kernel
theorem sq_Road_road_43_0 (ho : sx_o o pl kp) : rn (lt_G o L) mm_Road_road 43 lv (.ref 0 :: st) (sx pl kp I A) P ↔ rn (lt_G o L) mm_Road_road 46 lv (.ref 1 :: st) (sx pl kp I A) P := rx_get (h := "") (ci := 9) (k := 0) dq_Road_road_43 (by decide +kernel) ho (up_b (by decide)) rfl rfl (fl_r (by decide) (by decide) (by decide) (by decide))
theorem dq_Road_road_46 : decode (km_c mm_Road_road) 46 = .ok (.getfield 150, 3) := by decide +kernel
theorem sq_Road_road_46_1 (ho : sx_o o pl kp) : rn (lt_G o L) mm_Road_road 46 lv (.ref 1 :: st) (sx pl kp I A) P ↔ rn (lt_G o L) mm_Road_road 49 lv (.ref 12 :: st) (sx pl kp I A) P := rx_get (h := "DeltaRoad") (ci := 8) (k := 2) dq_Road_road_46 (by decide +kernel) ho (up_b (by decide)) rfl rfl (fl_r (by decide) (by decide) (by decide) (by decide))
theorem sq_Road_road_46_136 (ho : sx_o o pl true) : rn (lt_G o L) mm_Road_road 46 lv (.ref 136 :: st) (sx pl true I A) P ↔ rn (lt_G o L) mm_Road_road 49 lv (.ref 147 :: st) (sx pl true I A) P := rx_get (h := "DeltaRoad") (ci := 8) (k := 2) dq_Road_road_46 (by decide +kernel) ho (up_k (by decide) (by decide)) rfl rfl (fl_k (by decide) (by decide))
theorem dq_Road_road_49 : decode (km_c mm_Road_road) 49 = .ok (.invokevirtual 240, 3) := by decide +kernel
theorem sq_Road_road_49_12  {v : Option Value} {S2 : ks_S} (hc : ev (lt_G o L) mm_Laid_bends [.ref 12] (sx pl kp I A) v S2) (ho : sx_o o pl kp) (hst : kx_cat st ≤ 8) : rn (lt_G o L) mm_Road_road 49 lv (.ref 12 :: st) (sx pl kp I A) P ↔ rn (lt_G o L) mm_Road_road 52 lv (v.toList ++ st) S2 P := rn_cv (k := 0) (host := "") (E' := mm_Laid_bends) dq_Road_road_49 rfl (ok_v rfl (by decide) (by decide) (Nat.le_add_left _ _) hst (Nat.le_of_ble_eq_true rfl) (Or.inr (rc_v ho (up_b (by decide)) rfl))) rfl rfl hc
theorem sq_Road_road_49_147  {v : Option Value} {S2 : ks_S} (hc : ev (lt_G o L) mm_Laid_bends [.ref 147] (sx pl true I A) v S2) (ho : sx_o o pl true) (hst : kx_cat st ≤ 8) : rn (lt_G o L) mm_Road_road 49 lv (.ref 147 :: st) (sx pl true I A) P ↔ rn (lt_G o L) mm_Road_road 52 lv (v.toList ++ st) S2 P := rn_cv (k := 0) (host := "") (E' := mm_Laid_bends) dq_Road_road_49 rfl (ok_v rfl (by decide) (by decide) (Nat.le_add_left _ _) hst (Nat.le_of_ble_eq_true rfl) (Or.inr (rc_v ho (up_k (by decide) (by decide)) rfl))) rfl rfl hc
theorem dq_Road_road_52 : decode (km_c mm_Road_road) 52 = .ok (.ireturn, 1) := by decide +kernel
theorem sq_Road_road_52 : rn G mm_Road_road 52 lv [.int x] S P ↔ P (some (.int x)) S := rn_ir dq_Road_road_52 rfl
theorem dq_Road_road_53 : decode (km_c mm_Road_road) 53 = .ok (.aload_n 0, 1) := by decide +kernel
theorem sq_Road_road_53 : rn G mm_Road_road 53 [some (.ref z), a1] st S P ↔ rn G mm_Road_road 54 [some (.ref z), a1] (.ref z :: st) S P := rn_s dq_Road_road_53 rfl rfl rfl
theorem dq_Road_road_54 : decode (km_c mm_Road_road) 54 = .ok (.invokevirtual 90, 3) := by decide +kernel
theorem sq_Road_road_54_0  {v : Option Value} {S2 : ks_S} (hc : ev (lt_G o L) mm_Road_waterNow [.ref 0] (sx pl kp I A) v S2) (ho : sx_o o pl kp) (hst : kx_cat st ≤ 8) : rn (lt_G o L) mm_Road_road 54 lv (.ref 0 :: st) (sx pl kp I A) P ↔ rn (lt_G o L) mm_Road_road 57 lv (v.toList ++ st) S2 P := rn_cv (k := 0) (host := "") (E' := mm_Road_waterNow) dq_Road_road_54 rfl (ok_v rfl (by decide) (by decide) (Nat.le_add_left _ _) hst (Nat.le_of_ble_eq_true rfl) (Or.inr (rc_v ho (up_b (by decide)) rfl))) rfl rfl hc
theorem dq_Road_road_57 : decode (km_c mm_Road_road) 57 = .ok (.aload_n 0, 1) := by decide +kernel
theorem sq_Road_road_57 : rn G mm_Road_road 57 [some (.ref z), a1] st S P ↔ rn G mm_Road_road 58 [some (.ref z), a1] (.ref z :: st) S P := rn_s dq_Road_road_57 rfl rfl rfl
theorem dq_Road_road_58 : decode (km_c mm_Road_road) 58 = .ok (.getfield 10, 3) := by decide +kernel
theorem sq_Road_road_58_0 (ho : sx_o o pl kp) : rn (lt_G o L) mm_Road_road 58 lv (.ref 0 :: st) (sx pl kp I A) P ↔ rn (lt_G o L) mm_Road_road 61 lv (.ref 1 :: st) (sx pl kp I A) P := rx_get (h := "") (ci := 9) (k := 0) dq_Road_road_58 (by decide +kernel) ho (up_b (by decide)) rfl rfl (fl_r (by decide) (by decide) (by decide) (by decide))
theorem dq_Road_road_61 : decode (km_c mm_Road_road) 61 = .ok (.getfield 150, 3) := by decide +kernel
theorem sq_Road_road_61_1 (ho : sx_o o pl kp) : rn (lt_G o L) mm_Road_road 61 lv (.ref 1 :: st) (sx pl kp I A) P ↔ rn (lt_G o L) mm_Road_road 64 lv (.ref 12 :: st) (sx pl kp I A) P := rx_get (h := "DeltaRoad") (ci := 8) (k := 2) dq_Road_road_61 (by decide +kernel) ho (up_b (by decide)) rfl rfl (fl_r (by decide) (by decide) (by decide) (by decide))
theorem sq_Road_road_61_136 (ho : sx_o o pl true) : rn (lt_G o L) mm_Road_road 61 lv (.ref 136 :: st) (sx pl true I A) P ↔ rn (lt_G o L) mm_Road_road 64 lv (.ref 147 :: st) (sx pl true I A) P := rx_get (h := "DeltaRoad") (ci := 8) (k := 2) dq_Road_road_61 (by decide +kernel) ho (up_k (by decide) (by decide)) rfl rfl (fl_k (by decide) (by decide))
theorem dq_Road_road_64 : decode (km_c mm_Road_road) 64 = .ok (.invokevirtual 243, 3) := by decide +kernel
theorem sq_Road_road_64_16 {z1 : Nat} {v : Option Value} {S2 : ks_S} (hc : ev (lt_G o L) mm_Water_deepest [.ref 16, .ref z1] (sx pl kp I A) v S2) (ho : sx_o o pl kp) (hst : kx_cat st ≤ 8) : rn (lt_G o L) mm_Road_road 64 lv (.ref z1 :: .ref 16 :: st) (sx pl kp I A) P ↔ rn (lt_G o L) mm_Road_road 67 lv (v.toList ++ st) S2 P := rn_cv (k := 0) (host := "") (E' := mm_Water_deepest) dq_Road_road_64 rfl (ok_v rfl (by decide) (by decide) (Nat.le_add_left _ _) hst (Nat.le_of_ble_eq_true rfl) (Or.inr (rc_v ho (up_b (by decide)) rfl))) rfl rfl hc
theorem sq_Road_road_64_20 {z1 : Nat} {v : Option Value} {S2 : ks_S} (hc : ev (lt_G o L) mm_Water_deepest [.ref 20, .ref z1] (sx pl kp I A) v S2) (ho : sx_o o pl kp) (hst : kx_cat st ≤ 8) : rn (lt_G o L) mm_Road_road 64 lv (.ref z1 :: .ref 20 :: st) (sx pl kp I A) P ↔ rn (lt_G o L) mm_Road_road 67 lv (v.toList ++ st) S2 P := rn_cv (k := 0) (host := "") (E' := mm_Water_deepest) dq_Road_road_64 rfl (ok_v rfl (by decide) (by decide) (Nat.le_add_left _ _) hst (Nat.le_of_ble_eq_true rfl) (Or.inr (rc_v ho (up_b (by decide)) rfl))) rfl rfl hc
theorem dq_Road_road_67 : decode (km_c mm_Road_road) 67 = .ok (.ireturn, 1) := by decide +kernel
theorem sq_Road_road_67 : rn G mm_Road_road 67 lv [.int x] S P ↔ P (some (.int x)) S := rn_ir dq_Road_road_67 rfl
theorem dq_Road_road_68 : decode (km_c mm_Road_road) 68 = .ok (.iconst (-1), 1) := by decide +kernel
theorem sq_Road_road_68 : rn G mm_Road_road 68 lv st S P ↔ rn G mm_Road_road 69 lv (.int ((-1)) :: st) S P := rn_s dq_Road_road_68 rfl rfl rfl
theorem dq_Road_road_69 : decode (km_c mm_Road_road) 69 = .ok (.ireturn, 1) := by decide +kernel
theorem sq_Road_road_69 : rn G mm_Road_road 69 lv [.int x] S P ↔ P (some (.int x)) S := rn_ir dq_Road_road_69 rfl
theorem dq_Road_costOfRoad_0 : decode (km_c mm_Road_costOfRoad) 0 = .ok (.iconst 0, 1) := by decide +kernel
theorem sq_Road_costOfRoad_0 : rn G mm_Road_costOfRoad 0 lv st S P ↔ rn G mm_Road_costOfRoad 1 lv (.int (nI 0) :: st) S P := rn_s dq_Road_costOfRoad_0 rfl rfl rfl
theorem dq_Road_costOfRoad_1 : decode (km_c mm_Road_costOfRoad) 1 = .ok (.istore_n 1, 1) := by decide +kernel
theorem sq_Road_costOfRoad_1n : rn G mm_Road_costOfRoad 1 [none, a1, a2] (.int x :: st) S P ↔ rn G mm_Road_costOfRoad 2 [none, some (.int x), a2] st S P := rn_s dq_Road_costOfRoad_1 rfl rfl rfl
theorem sq_Road_costOfRoad_1i : rn G mm_Road_costOfRoad 1 [some (.int x2), a1, a2] (.int x :: st) S P ↔ rn G mm_Road_costOfRoad 2 [some (.int x2), some (.int x), a2] st S P := rn_s dq_Road_costOfRoad_1 rfl rfl rfl
theorem sq_Road_costOfRoad_1r : rn G mm_Road_costOfRoad 1 [some (.ref z2), a1, a2] (.int x :: st) S P ↔ rn G mm_Road_costOfRoad 2 [some (.ref z2), some (.int x), a2] st S P := rn_s dq_Road_costOfRoad_1 rfl rfl rfl
theorem dq_Road_costOfRoad_2 : decode (km_c mm_Road_costOfRoad) 2 = .ok (.iconst 0, 1) := by decide +kernel
theorem sq_Road_costOfRoad_2 : rn G mm_Road_costOfRoad 2 lv st S P ↔ rn G mm_Road_costOfRoad 3 lv (.int (nI 0) :: st) S P := rn_s dq_Road_costOfRoad_2 rfl rfl rfl
theorem dq_Road_costOfRoad_3 : decode (km_c mm_Road_costOfRoad) 3 = .ok (.istore_n 2, 1) := by decide +kernel
theorem sq_Road_costOfRoad_3n : rn G mm_Road_costOfRoad 3 [a0, none, a2] (.int x :: st) S P ↔ rn G mm_Road_costOfRoad 4 [a0, none, some (.int x)] st S P := rn_s dq_Road_costOfRoad_3 rfl rfl rfl
theorem sq_Road_costOfRoad_3i : rn G mm_Road_costOfRoad 3 [a0, some (.int x2), a2] (.int x :: st) S P ↔ rn G mm_Road_costOfRoad 4 [a0, some (.int x2), some (.int x)] st S P := rn_s dq_Road_costOfRoad_3 rfl rfl rfl
theorem sq_Road_costOfRoad_3r : rn G mm_Road_costOfRoad 3 [a0, some (.ref z2), a2] (.int x :: st) S P ↔ rn G mm_Road_costOfRoad 4 [a0, some (.ref z2), some (.int x)] st S P := rn_s dq_Road_costOfRoad_3 rfl rfl rfl
theorem dq_Road_costOfRoad_4 : decode (km_c mm_Road_costOfRoad) 4 = .ok (.iload_n 2, 1) := by decide +kernel
theorem sq_Road_costOfRoad_4 : rn G mm_Road_costOfRoad 4 [a0, a1, some (.int x)] st S P ↔ rn G mm_Road_costOfRoad 5 [a0, a1, some (.int x)] (.int x :: st) S P := rn_s dq_Road_costOfRoad_4 rfl rfl rfl
theorem dq_Road_costOfRoad_5 : decode (km_c mm_Road_costOfRoad) 5 = .ok (.aload_n 0, 1) := by decide +kernel
theorem sq_Road_costOfRoad_5 : rn G mm_Road_costOfRoad 5 [some (.ref z), a1, a2] st S P ↔ rn G mm_Road_costOfRoad 6 [some (.ref z), a1, a2] (.ref z :: st) S P := rn_s dq_Road_costOfRoad_5 rfl rfl rfl
theorem dq_Road_costOfRoad_6 : decode (km_c mm_Road_costOfRoad) 6 = .ok (.getfield 10, 3) := by decide +kernel
theorem sq_Road_costOfRoad_6_0 (ho : sx_o o pl kp) : rn (lt_G o L) mm_Road_costOfRoad 6 lv (.ref 0 :: st) (sx pl kp I A) P ↔ rn (lt_G o L) mm_Road_costOfRoad 9 lv (.ref 1 :: st) (sx pl kp I A) P := rx_get (h := "") (ci := 9) (k := 0) dq_Road_costOfRoad_6 (by decide +kernel) ho (up_b (by decide)) rfl rfl (fl_r (by decide) (by decide) (by decide) (by decide))
theorem dq_Road_costOfRoad_9 : decode (km_c mm_Road_costOfRoad) 9 = .ok (.getfield 150, 3) := by decide +kernel
theorem sq_Road_costOfRoad_9_1 (ho : sx_o o pl kp) : rn (lt_G o L) mm_Road_costOfRoad 9 lv (.ref 1 :: st) (sx pl kp I A) P ↔ rn (lt_G o L) mm_Road_costOfRoad 12 lv (.ref 12 :: st) (sx pl kp I A) P := rx_get (h := "DeltaRoad") (ci := 8) (k := 2) dq_Road_costOfRoad_9 (by decide +kernel) ho (up_b (by decide)) rfl rfl (fl_r (by decide) (by decide) (by decide) (by decide))
theorem sq_Road_costOfRoad_9_136 (ho : sx_o o pl true) : rn (lt_G o L) mm_Road_costOfRoad 9 lv (.ref 136 :: st) (sx pl true I A) P ↔ rn (lt_G o L) mm_Road_costOfRoad 12 lv (.ref 147 :: st) (sx pl true I A) P := rx_get (h := "DeltaRoad") (ci := 8) (k := 2) dq_Road_costOfRoad_9 (by decide +kernel) ho (up_k (by decide) (by decide)) rfl rfl (fl_k (by decide) (by decide))
theorem dq_Road_costOfRoad_12 : decode (km_c mm_Road_costOfRoad) 12 = .ok (.getfield 154, 3) := by decide +kernel
theorem sq_Road_costOfRoad_12_12 (ho : sx_o o pl kp) : rn (lt_G o L) mm_Road_costOfRoad 12 lv (.ref 12 :: st) (sx pl kp I A) P ↔ rn (lt_G o L) mm_Road_costOfRoad 15 lv (.int (I 12 1) :: st) (sx pl kp I A) P := rx_get (h := "DeltaRoad") (ci := 1) (k := 1) dq_Road_costOfRoad_12 (by decide +kernel) ho (up_b (by decide)) rfl rfl (fl_i (by decide))
theorem sq_Road_costOfRoad_12_147 (ho : sx_o o pl true) : rn (lt_G o L) mm_Road_costOfRoad 12 lv (.ref 147 :: st) (sx pl true I A) P ↔ rn (lt_G o L) mm_Road_costOfRoad 15 lv (.int (I 147 1) :: st) (sx pl true I A) P := rx_get (h := "DeltaRoad") (ci := 1) (k := 1) dq_Road_costOfRoad_12 (by decide +kernel) ho (up_k (by decide) (by decide)) rfl rfl (fl_i (by decide))
theorem dq_Road_costOfRoad_15 : decode (km_c mm_Road_costOfRoad) 15 = .ok (.if_icmp .ge 28, 3) := by decide +kernel
theorem sq_Road_costOfRoad_15 : rn G mm_Road_costOfRoad 15 lv (.int x2 :: .int x :: st) S P ↔ ((x2 ≤ x → rn G mm_Road_costOfRoad 43 lv st S P) ∧ (¬ (x2 ≤ x) → rn G mm_Road_costOfRoad 18 lv st S P)) := rn_b (off := 28) dq_Road_costOfRoad_15 rfl rfl rfl rfl
theorem dq_Road_costOfRoad_18 : decode (km_c mm_Road_costOfRoad) 18 = .ok (.iload_n 1, 1) := by decide +kernel
theorem sq_Road_costOfRoad_18 : rn G mm_Road_costOfRoad 18 [a0, some (.int x), a2] st S P ↔ rn G mm_Road_costOfRoad 19 [a0, some (.int x), a2] (.int x :: st) S P := rn_s dq_Road_costOfRoad_18 rfl rfl rfl
theorem dq_Road_costOfRoad_19 : decode (km_c mm_Road_costOfRoad) 19 = .ok (.aload_n 0, 1) := by decide +kernel
theorem sq_Road_costOfRoad_19 : rn G mm_Road_costOfRoad 19 [some (.ref z), a1, a2] st S P ↔ rn G mm_Road_costOfRoad 20 [some (.ref z), a1, a2] (.ref z :: st) S P := rn_s dq_Road_costOfRoad_19 rfl rfl rfl
theorem dq_Road_costOfRoad_20 : decode (km_c mm_Road_costOfRoad) 20 = .ok (.aload_n 0, 1) := by decide +kernel
theorem sq_Road_costOfRoad_20 : rn G mm_Road_costOfRoad 20 [some (.ref z), a1, a2] st S P ↔ rn G mm_Road_costOfRoad 21 [some (.ref z), a1, a2] (.ref z :: st) S P := rn_s dq_Road_costOfRoad_20 rfl rfl rfl
theorem dq_Road_costOfRoad_21 : decode (km_c mm_Road_costOfRoad) 21 = .ok (.getfield 10, 3) := by decide +kernel
theorem sq_Road_costOfRoad_21_0 (ho : sx_o o pl kp) : rn (lt_G o L) mm_Road_costOfRoad 21 lv (.ref 0 :: st) (sx pl kp I A) P ↔ rn (lt_G o L) mm_Road_costOfRoad 24 lv (.ref 1 :: st) (sx pl kp I A) P := rx_get (h := "") (ci := 9) (k := 0) dq_Road_costOfRoad_21 (by decide +kernel) ho (up_b (by decide)) rfl rfl (fl_r (by decide) (by decide) (by decide) (by decide))
theorem dq_Road_costOfRoad_24 : decode (km_c mm_Road_costOfRoad) 24 = .ok (.getfield 150, 3) := by decide +kernel
theorem sq_Road_costOfRoad_24_1 (ho : sx_o o pl kp) : rn (lt_G o L) mm_Road_costOfRoad 24 lv (.ref 1 :: st) (sx pl kp I A) P ↔ rn (lt_G o L) mm_Road_costOfRoad 27 lv (.ref 12 :: st) (sx pl kp I A) P := rx_get (h := "DeltaRoad") (ci := 8) (k := 2) dq_Road_costOfRoad_24 (by decide +kernel) ho (up_b (by decide)) rfl rfl (fl_r (by decide) (by decide) (by decide) (by decide))
theorem sq_Road_costOfRoad_24_136 (ho : sx_o o pl true) : rn (lt_G o L) mm_Road_costOfRoad 24 lv (.ref 136 :: st) (sx pl true I A) P ↔ rn (lt_G o L) mm_Road_costOfRoad 27 lv (.ref 147 :: st) (sx pl true I A) P := rx_get (h := "DeltaRoad") (ci := 8) (k := 2) dq_Road_costOfRoad_24 (by decide +kernel) ho (up_k (by decide) (by decide)) rfl rfl (fl_k (by decide) (by decide))
theorem dq_Road_costOfRoad_27 : decode (km_c mm_Road_costOfRoad) 27 = .ok (.getfield 227, 3) := by decide +kernel
theorem sq_Road_costOfRoad_27_12 (ho : sx_o o pl kp) : rn (lt_G o L) mm_Road_costOfRoad 27 lv (.ref 12 :: st) (sx pl kp I A) P ↔ rn (lt_G o L) mm_Road_costOfRoad 30 lv (.ref 13 :: st) (sx pl kp I A) P := rx_get (h := "DeltaRoad") (ci := 1) (k := 0) dq_Road_costOfRoad_27 (by decide +kernel) ho (up_b (by decide)) rfl rfl (fl_r (by decide) (by decide) (by decide) (by decide))
theorem sq_Road_costOfRoad_27_147 (ho : sx_o o pl true) : rn (lt_G o L) mm_Road_costOfRoad 27 lv (.ref 147 :: st) (sx pl true I A) P ↔ rn (lt_G o L) mm_Road_costOfRoad 30 lv (.ref 148 :: st) (sx pl true I A) P := rx_get (h := "DeltaRoad") (ci := 1) (k := 0) dq_Road_costOfRoad_27 (by decide +kernel) ho (up_k (by decide) (by decide)) rfl rfl (fl_k (by decide) (by decide))
theorem dq_Road_costOfRoad_30 : decode (km_c mm_Road_costOfRoad) 30 = .ok (.iload_n 2, 1) := by decide +kernel
theorem sq_Road_costOfRoad_30 : rn G mm_Road_costOfRoad 30 [a0, a1, some (.int x)] st S P ↔ rn G mm_Road_costOfRoad 31 [a0, a1, some (.int x)] (.int x :: st) S P := rn_s dq_Road_costOfRoad_30 rfl rfl rfl
theorem dq_Road_costOfRoad_31 : decode (km_c mm_Road_costOfRoad) 31 = .ok (.iaload, 1) := by decide +kernel
theorem sq_Road_costOfRoad_31 (ho : sx_o o pl kp) (hk : ak L a = 0) (hu : sx_up pl kp a = true ∨ 1000 ≤ a) (hc : c < ln L a) (hn : ln L a < 2 ^ 31) : rn (lt_G o L) mm_Road_costOfRoad 31 lv (.int (nI c) :: .ref a :: st) (sx pl kp I A) P ↔ rn (lt_G o L) mm_Road_costOfRoad 32 lv (.int (A a c) :: st) (sx pl kp I A) P := rx_ild dq_Road_costOfRoad_31 ho hk hu hc hn
theorem dq_Road_costOfRoad_32 : decode (km_c mm_Road_costOfRoad) 32 = .ok (.invokevirtual 97, 3) := by decide +kernel
theorem sq_Road_costOfRoad_32_0 {x1 : Int32} {v : Option Value} {S2 : ks_S} (hc : ev (lt_G o L) mm_Road_costOf [.ref 0, .int x1] (sx pl kp I A) v S2) (ho : sx_o o pl kp) (hst : kx_cat st ≤ 8) : rn (lt_G o L) mm_Road_costOfRoad 32 lv (.int x1 :: .ref 0 :: st) (sx pl kp I A) P ↔ rn (lt_G o L) mm_Road_costOfRoad 35 lv (v.toList ++ st) S2 P := rn_cv (k := 0) (host := "") (E' := mm_Road_costOf) dq_Road_costOfRoad_32 rfl (ok_v rfl (by decide) (by decide) (Nat.le_add_left _ _) hst (Nat.le_of_ble_eq_true rfl) (Or.inr (rc_v ho (up_b (by decide)) rfl))) rfl rfl hc
theorem dq_Road_costOfRoad_35 : decode (km_c mm_Road_costOfRoad) 35 = .ok (.iadd, 1) := by decide +kernel
theorem sq_Road_costOfRoad_35 : rn G mm_Road_costOfRoad 35 lv (.int x2 :: .int x :: st) S P ↔ rn G mm_Road_costOfRoad 36 lv (.int (x + x2) :: st) S P := rn_s dq_Road_costOfRoad_35 rfl rfl rfl
theorem dq_Road_costOfRoad_36 : decode (km_c mm_Road_costOfRoad) 36 = .ok (.istore_n 1, 1) := by decide +kernel
theorem sq_Road_costOfRoad_36n : rn G mm_Road_costOfRoad 36 [none, a1, a2] (.int x :: st) S P ↔ rn G mm_Road_costOfRoad 37 [none, some (.int x), a2] st S P := rn_s dq_Road_costOfRoad_36 rfl rfl rfl
theorem sq_Road_costOfRoad_36i : rn G mm_Road_costOfRoad 36 [some (.int x2), a1, a2] (.int x :: st) S P ↔ rn G mm_Road_costOfRoad 37 [some (.int x2), some (.int x), a2] st S P := rn_s dq_Road_costOfRoad_36 rfl rfl rfl
theorem sq_Road_costOfRoad_36r : rn G mm_Road_costOfRoad 36 [some (.ref z2), a1, a2] (.int x :: st) S P ↔ rn G mm_Road_costOfRoad 37 [some (.ref z2), some (.int x), a2] st S P := rn_s dq_Road_costOfRoad_36 rfl rfl rfl
theorem dq_Road_costOfRoad_37 : decode (km_c mm_Road_costOfRoad) 37 = .ok (.iinc 2 1, 3) := by decide +kernel
theorem sq_Road_costOfRoad_37n : rn G mm_Road_costOfRoad 37 [a0, none, some (.int x)] st S P ↔ rn G mm_Road_costOfRoad 40 [a0, none, some (.int (x + nI 1))] st S P := rn_s dq_Road_costOfRoad_37 rfl rfl rfl
theorem sq_Road_costOfRoad_37i : rn G mm_Road_costOfRoad 37 [a0, some (.int x2), some (.int x)] st S P ↔ rn G mm_Road_costOfRoad 40 [a0, some (.int x2), some (.int (x + nI 1))] st S P := rn_s dq_Road_costOfRoad_37 rfl rfl rfl
theorem sq_Road_costOfRoad_37r : rn G mm_Road_costOfRoad 37 [a0, some (.ref z2), some (.int x)] st S P ↔ rn G mm_Road_costOfRoad 40 [a0, some (.ref z2), some (.int (x + nI 1))] st S P := rn_s dq_Road_costOfRoad_37 rfl rfl rfl
theorem dq_Road_costOfRoad_40 : decode (km_c mm_Road_costOfRoad) 40 = .ok (.goto (-36), 3) := by decide +kernel
theorem sq_Road_costOfRoad_40 : rn G mm_Road_costOfRoad 40 lv st S P ↔ rn G mm_Road_costOfRoad 4 lv st S P := rn_s dq_Road_costOfRoad_40 rfl rfl rfl
theorem dq_Road_costOfRoad_43 : decode (km_c mm_Road_costOfRoad) 43 = .ok (.iload_n 1, 1) := by decide +kernel
theorem sq_Road_costOfRoad_43 : rn G mm_Road_costOfRoad 43 [a0, some (.int x), a2] st S P ↔ rn G mm_Road_costOfRoad 44 [a0, some (.int x), a2] (.int x :: st) S P := rn_s dq_Road_costOfRoad_43 rfl rfl rfl
theorem dq_Road_costOfRoad_44 : decode (km_c mm_Road_costOfRoad) 44 = .ok (.ireturn, 1) := by decide +kernel
theorem sq_Road_costOfRoad_44 : rn G mm_Road_costOfRoad 44 lv [.int x] S P ↔ P (some (.int x)) S := rn_ir dq_Road_costOfRoad_44 rfl
theorem dq_Road_servedByRoad_0 : decode (km_c mm_Road_servedByRoad) 0 = .ok (.iconst 0, 1) := by decide +kernel
theorem sq_Road_servedByRoad_0 : rn G mm_Road_servedByRoad 0 lv st S P ↔ rn G mm_Road_servedByRoad 1 lv (.int (nI 0) :: st) S P := rn_s dq_Road_servedByRoad_0 rfl rfl rfl
theorem dq_Road_servedByRoad_1 : decode (km_c mm_Road_servedByRoad) 1 = .ok (.istore_n 1, 1) := by decide +kernel
theorem sq_Road_servedByRoad_1n : rn G mm_Road_servedByRoad 1 [none, a1, a2] (.int x :: st) S P ↔ rn G mm_Road_servedByRoad 2 [none, some (.int x), a2] st S P := rn_s dq_Road_servedByRoad_1 rfl rfl rfl
theorem sq_Road_servedByRoad_1i : rn G mm_Road_servedByRoad 1 [some (.int x2), a1, a2] (.int x :: st) S P ↔ rn G mm_Road_servedByRoad 2 [some (.int x2), some (.int x), a2] st S P := rn_s dq_Road_servedByRoad_1 rfl rfl rfl
theorem sq_Road_servedByRoad_1r : rn G mm_Road_servedByRoad 1 [some (.ref z2), a1, a2] (.int x :: st) S P ↔ rn G mm_Road_servedByRoad 2 [some (.ref z2), some (.int x), a2] st S P := rn_s dq_Road_servedByRoad_1 rfl rfl rfl
theorem dq_Road_servedByRoad_2 : decode (km_c mm_Road_servedByRoad) 2 = .ok (.iconst 0, 1) := by decide +kernel
theorem sq_Road_servedByRoad_2 : rn G mm_Road_servedByRoad 2 lv st S P ↔ rn G mm_Road_servedByRoad 3 lv (.int (nI 0) :: st) S P := rn_s dq_Road_servedByRoad_2 rfl rfl rfl
theorem dq_Road_servedByRoad_3 : decode (km_c mm_Road_servedByRoad) 3 = .ok (.istore_n 2, 1) := by decide +kernel
theorem sq_Road_servedByRoad_3n : rn G mm_Road_servedByRoad 3 [a0, none, a2] (.int x :: st) S P ↔ rn G mm_Road_servedByRoad 4 [a0, none, some (.int x)] st S P := rn_s dq_Road_servedByRoad_3 rfl rfl rfl
theorem sq_Road_servedByRoad_3i : rn G mm_Road_servedByRoad 3 [a0, some (.int x2), a2] (.int x :: st) S P ↔ rn G mm_Road_servedByRoad 4 [a0, some (.int x2), some (.int x)] st S P := rn_s dq_Road_servedByRoad_3 rfl rfl rfl
theorem sq_Road_servedByRoad_3r : rn G mm_Road_servedByRoad 3 [a0, some (.ref z2), a2] (.int x :: st) S P ↔ rn G mm_Road_servedByRoad 4 [a0, some (.ref z2), some (.int x)] st S P := rn_s dq_Road_servedByRoad_3 rfl rfl rfl
theorem dq_Road_servedByRoad_4 : decode (km_c mm_Road_servedByRoad) 4 = .ok (.iload_n 2, 1) := by decide +kernel
theorem sq_Road_servedByRoad_4 : rn G mm_Road_servedByRoad 4 [a0, a1, some (.int x)] st S P ↔ rn G mm_Road_servedByRoad 5 [a0, a1, some (.int x)] (.int x :: st) S P := rn_s dq_Road_servedByRoad_4 rfl rfl rfl
theorem dq_Road_servedByRoad_5 : decode (km_c mm_Road_servedByRoad) 5 = .ok (.aload_n 0, 1) := by decide +kernel
theorem sq_Road_servedByRoad_5 : rn G mm_Road_servedByRoad 5 [some (.ref z), a1, a2] st S P ↔ rn G mm_Road_servedByRoad 6 [some (.ref z), a1, a2] (.ref z :: st) S P := rn_s dq_Road_servedByRoad_5 rfl rfl rfl
theorem dq_Road_servedByRoad_6 : decode (km_c mm_Road_servedByRoad) 6 = .ok (.getfield 10, 3) := by decide +kernel
theorem sq_Road_servedByRoad_6_0 (ho : sx_o o pl kp) : rn (lt_G o L) mm_Road_servedByRoad 6 lv (.ref 0 :: st) (sx pl kp I A) P ↔ rn (lt_G o L) mm_Road_servedByRoad 9 lv (.ref 1 :: st) (sx pl kp I A) P := rx_get (h := "") (ci := 9) (k := 0) dq_Road_servedByRoad_6 (by decide +kernel) ho (up_b (by decide)) rfl rfl (fl_r (by decide) (by decide) (by decide) (by decide))
theorem dq_Road_servedByRoad_9 : decode (km_c mm_Road_servedByRoad) 9 = .ok (.getfield 150, 3) := by decide +kernel
theorem sq_Road_servedByRoad_9_1 (ho : sx_o o pl kp) : rn (lt_G o L) mm_Road_servedByRoad 9 lv (.ref 1 :: st) (sx pl kp I A) P ↔ rn (lt_G o L) mm_Road_servedByRoad 12 lv (.ref 12 :: st) (sx pl kp I A) P := rx_get (h := "DeltaRoad") (ci := 8) (k := 2) dq_Road_servedByRoad_9 (by decide +kernel) ho (up_b (by decide)) rfl rfl (fl_r (by decide) (by decide) (by decide) (by decide))
theorem sq_Road_servedByRoad_9_136 (ho : sx_o o pl true) : rn (lt_G o L) mm_Road_servedByRoad 9 lv (.ref 136 :: st) (sx pl true I A) P ↔ rn (lt_G o L) mm_Road_servedByRoad 12 lv (.ref 147 :: st) (sx pl true I A) P := rx_get (h := "DeltaRoad") (ci := 8) (k := 2) dq_Road_servedByRoad_9 (by decide +kernel) ho (up_k (by decide) (by decide)) rfl rfl (fl_k (by decide) (by decide))
theorem dq_Road_servedByRoad_12 : decode (km_c mm_Road_servedByRoad) 12 = .ok (.getfield 154, 3) := by decide +kernel
theorem sq_Road_servedByRoad_12_12 (ho : sx_o o pl kp) : rn (lt_G o L) mm_Road_servedByRoad 12 lv (.ref 12 :: st) (sx pl kp I A) P ↔ rn (lt_G o L) mm_Road_servedByRoad 15 lv (.int (I 12 1) :: st) (sx pl kp I A) P := rx_get (h := "DeltaRoad") (ci := 1) (k := 1) dq_Road_servedByRoad_12 (by decide +kernel) ho (up_b (by decide)) rfl rfl (fl_i (by decide))
theorem sq_Road_servedByRoad_12_147 (ho : sx_o o pl true) : rn (lt_G o L) mm_Road_servedByRoad 12 lv (.ref 147 :: st) (sx pl true I A) P ↔ rn (lt_G o L) mm_Road_servedByRoad 15 lv (.int (I 147 1) :: st) (sx pl true I A) P := rx_get (h := "DeltaRoad") (ci := 1) (k := 1) dq_Road_servedByRoad_12 (by decide +kernel) ho (up_k (by decide) (by decide)) rfl rfl (fl_i (by decide))
theorem dq_Road_servedByRoad_15 : decode (km_c mm_Road_servedByRoad) 15 = .ok (.if_icmp .ge 34, 3) := by decide +kernel
theorem sq_Road_servedByRoad_15 : rn G mm_Road_servedByRoad 15 lv (.int x2 :: .int x :: st) S P ↔ ((x2 ≤ x → rn G mm_Road_servedByRoad 49 lv st S P) ∧ (¬ (x2 ≤ x) → rn G mm_Road_servedByRoad 18 lv st S P)) := rn_b (off := 34) dq_Road_servedByRoad_15 rfl rfl rfl rfl
theorem dq_Road_servedByRoad_18 : decode (km_c mm_Road_servedByRoad) 18 = .ok (.iload_n 1, 1) := by decide +kernel
theorem sq_Road_servedByRoad_18 : rn G mm_Road_servedByRoad 18 [a0, some (.int x), a2] st S P ↔ rn G mm_Road_servedByRoad 19 [a0, some (.int x), a2] (.int x :: st) S P := rn_s dq_Road_servedByRoad_18 rfl rfl rfl
theorem dq_Road_servedByRoad_19 : decode (km_c mm_Road_servedByRoad) 19 = .ok (.aload_n 0, 1) := by decide +kernel
theorem sq_Road_servedByRoad_19 : rn G mm_Road_servedByRoad 19 [some (.ref z), a1, a2] st S P ↔ rn G mm_Road_servedByRoad 20 [some (.ref z), a1, a2] (.ref z :: st) S P := rn_s dq_Road_servedByRoad_19 rfl rfl rfl
theorem dq_Road_servedByRoad_20 : decode (km_c mm_Road_servedByRoad) 20 = .ok (.getfield 10, 3) := by decide +kernel
theorem sq_Road_servedByRoad_20_0 (ho : sx_o o pl kp) : rn (lt_G o L) mm_Road_servedByRoad 20 lv (.ref 0 :: st) (sx pl kp I A) P ↔ rn (lt_G o L) mm_Road_servedByRoad 23 lv (.ref 1 :: st) (sx pl kp I A) P := rx_get (h := "") (ci := 9) (k := 0) dq_Road_servedByRoad_20 (by decide +kernel) ho (up_b (by decide)) rfl rfl (fl_r (by decide) (by decide) (by decide) (by decide))
theorem dq_Road_servedByRoad_23 : decode (km_c mm_Road_servedByRoad) 23 = .ok (.getfield 141, 3) := by decide +kernel
theorem sq_Road_servedByRoad_23_1 (ho : sx_o o pl kp) : rn (lt_G o L) mm_Road_servedByRoad 23 lv (.ref 1 :: st) (sx pl kp I A) P ↔ rn (lt_G o L) mm_Road_servedByRoad 26 lv (.ref 9 :: st) (sx pl kp I A) P := rx_get (h := "DeltaRoad") (ci := 8) (k := 1) dq_Road_servedByRoad_23 (by decide +kernel) ho (up_b (by decide)) rfl rfl (fl_r (by decide) (by decide) (by decide) (by decide))
theorem sq_Road_servedByRoad_23_136 (ho : sx_o o pl true) : rn (lt_G o L) mm_Road_servedByRoad 23 lv (.ref 136 :: st) (sx pl true I A) P ↔ rn (lt_G o L) mm_Road_servedByRoad 26 lv (.ref 144 :: st) (sx pl true I A) P := rx_get (h := "DeltaRoad") (ci := 8) (k := 1) dq_Road_servedByRoad_23 (by decide +kernel) ho (up_k (by decide) (by decide)) rfl rfl (fl_k (by decide) (by decide))
theorem dq_Road_servedByRoad_26 : decode (km_c mm_Road_servedByRoad) 26 = .ok (.aload_n 0, 1) := by decide +kernel
theorem sq_Road_servedByRoad_26 : rn G mm_Road_servedByRoad 26 [some (.ref z), a1, a2] st S P ↔ rn G mm_Road_servedByRoad 27 [some (.ref z), a1, a2] (.ref z :: st) S P := rn_s dq_Road_servedByRoad_26 rfl rfl rfl
theorem dq_Road_servedByRoad_27 : decode (km_c mm_Road_servedByRoad) 27 = .ok (.getfield 10, 3) := by decide +kernel
theorem sq_Road_servedByRoad_27_0 (ho : sx_o o pl kp) : rn (lt_G o L) mm_Road_servedByRoad 27 lv (.ref 0 :: st) (sx pl kp I A) P ↔ rn (lt_G o L) mm_Road_servedByRoad 30 lv (.ref 1 :: st) (sx pl kp I A) P := rx_get (h := "") (ci := 9) (k := 0) dq_Road_servedByRoad_27 (by decide +kernel) ho (up_b (by decide)) rfl rfl (fl_r (by decide) (by decide) (by decide) (by decide))
theorem dq_Road_servedByRoad_30 : decode (km_c mm_Road_servedByRoad) 30 = .ok (.getfield 150, 3) := by decide +kernel
theorem sq_Road_servedByRoad_30_1 (ho : sx_o o pl kp) : rn (lt_G o L) mm_Road_servedByRoad 30 lv (.ref 1 :: st) (sx pl kp I A) P ↔ rn (lt_G o L) mm_Road_servedByRoad 33 lv (.ref 12 :: st) (sx pl kp I A) P := rx_get (h := "DeltaRoad") (ci := 8) (k := 2) dq_Road_servedByRoad_30 (by decide +kernel) ho (up_b (by decide)) rfl rfl (fl_r (by decide) (by decide) (by decide) (by decide))
theorem sq_Road_servedByRoad_30_136 (ho : sx_o o pl true) : rn (lt_G o L) mm_Road_servedByRoad 30 lv (.ref 136 :: st) (sx pl true I A) P ↔ rn (lt_G o L) mm_Road_servedByRoad 33 lv (.ref 147 :: st) (sx pl true I A) P := rx_get (h := "DeltaRoad") (ci := 8) (k := 2) dq_Road_servedByRoad_30 (by decide +kernel) ho (up_k (by decide) (by decide)) rfl rfl (fl_k (by decide) (by decide))
theorem dq_Road_servedByRoad_33 : decode (km_c mm_Road_servedByRoad) 33 = .ok (.getfield 227, 3) := by decide +kernel
theorem sq_Road_servedByRoad_33_12 (ho : sx_o o pl kp) : rn (lt_G o L) mm_Road_servedByRoad 33 lv (.ref 12 :: st) (sx pl kp I A) P ↔ rn (lt_G o L) mm_Road_servedByRoad 36 lv (.ref 13 :: st) (sx pl kp I A) P := rx_get (h := "DeltaRoad") (ci := 1) (k := 0) dq_Road_servedByRoad_33 (by decide +kernel) ho (up_b (by decide)) rfl rfl (fl_r (by decide) (by decide) (by decide) (by decide))
theorem sq_Road_servedByRoad_33_147 (ho : sx_o o pl true) : rn (lt_G o L) mm_Road_servedByRoad 33 lv (.ref 147 :: st) (sx pl true I A) P ↔ rn (lt_G o L) mm_Road_servedByRoad 36 lv (.ref 148 :: st) (sx pl true I A) P := rx_get (h := "DeltaRoad") (ci := 1) (k := 0) dq_Road_servedByRoad_33 (by decide +kernel) ho (up_k (by decide) (by decide)) rfl rfl (fl_k (by decide) (by decide))
theorem dq_Road_servedByRoad_36 : decode (km_c mm_Road_servedByRoad) 36 = .ok (.iload_n 2, 1) := by decide +kernel
theorem sq_Road_servedByRoad_36 : rn G mm_Road_servedByRoad 36 [a0, a1, some (.int x)] st S P ↔ rn G mm_Road_servedByRoad 37 [a0, a1, some (.int x)] (.int x :: st) S P := rn_s dq_Road_servedByRoad_36 rfl rfl rfl
theorem dq_Road_servedByRoad_37 : decode (km_c mm_Road_servedByRoad) 37 = .ok (.iaload, 1) := by decide +kernel
theorem sq_Road_servedByRoad_37 (ho : sx_o o pl kp) (hk : ak L a = 0) (hu : sx_up pl kp a = true ∨ 1000 ≤ a) (hc : c < ln L a) (hn : ln L a < 2 ^ 31) : rn (lt_G o L) mm_Road_servedByRoad 37 lv (.int (nI c) :: .ref a :: st) (sx pl kp I A) P ↔ rn (lt_G o L) mm_Road_servedByRoad 38 lv (.int (A a c) :: st) (sx pl kp I A) P := rx_ild dq_Road_servedByRoad_37 ho hk hu hc hn
theorem dq_Road_servedByRoad_38 : decode (km_c mm_Road_servedByRoad) 38 = .ok (.invokevirtual 312, 3) := by decide +kernel
theorem sq_Road_servedByRoad_38_9 {x1 : Int32} {v : Option Value} {S2 : ks_S} (hc : ev (lt_G o L) mm_Villages_servedFrom [.ref 9, .int x1] (sx pl kp I A) v S2) (ho : sx_o o pl kp) (hst : kx_cat st ≤ 8) : rn (lt_G o L) mm_Road_servedByRoad 38 lv (.int x1 :: .ref 9 :: st) (sx pl kp I A) P ↔ rn (lt_G o L) mm_Road_servedByRoad 41 lv (v.toList ++ st) S2 P := rn_cv (k := 0) (host := "") (E' := mm_Villages_servedFrom) dq_Road_servedByRoad_38 rfl (ok_v rfl (by decide) (by decide) (Nat.le_add_left _ _) hst (Nat.le_of_ble_eq_true rfl) (Or.inr (rc_v ho (up_b (by decide)) rfl))) rfl rfl hc
theorem sq_Road_servedByRoad_38_42 {x1 : Int32} {v : Option Value} {S2 : ks_S} (hc : ev (lt_G o L) mm_Villages_servedFrom [.ref 42, .int x1] (sx pl kp I A) v S2) (ho : sx_o o pl kp) (hst : kx_cat st ≤ 8) : rn (lt_G o L) mm_Road_servedByRoad 38 lv (.int x1 :: .ref 42 :: st) (sx pl kp I A) P ↔ rn (lt_G o L) mm_Road_servedByRoad 41 lv (v.toList ++ st) S2 P := rn_cv (k := 0) (host := "") (E' := mm_Villages_servedFrom) dq_Road_servedByRoad_38 rfl (ok_v rfl (by decide) (by decide) (Nat.le_add_left _ _) hst (Nat.le_of_ble_eq_true rfl) (Or.inr (rc_v ho (up_b (by decide)) rfl))) rfl rfl hc
theorem sq_Road_servedByRoad_38_144 {x1 : Int32} {v : Option Value} {S2 : ks_S} (hc : ev (lt_G o L) mm_Villages_servedFrom [.ref 144, .int x1] (sx pl true I A) v S2) (ho : sx_o o pl true) (hst : kx_cat st ≤ 8) : rn (lt_G o L) mm_Road_servedByRoad 38 lv (.int x1 :: .ref 144 :: st) (sx pl true I A) P ↔ rn (lt_G o L) mm_Road_servedByRoad 41 lv (v.toList ++ st) S2 P := rn_cv (k := 0) (host := "") (E' := mm_Villages_servedFrom) dq_Road_servedByRoad_38 rfl (ok_v rfl (by decide) (by decide) (Nat.le_add_left _ _) hst (Nat.le_of_ble_eq_true rfl) (Or.inr (rc_v ho (up_k (by decide) (by decide)) rfl))) rfl rfl hc
theorem dq_Road_servedByRoad_41 : decode (km_c mm_Road_servedByRoad) 41 = .ok (.ior, 1) := by decide +kernel
theorem sq_Road_servedByRoad_41 : rn G mm_Road_servedByRoad 41 lv (.int x2 :: .int x :: st) S P ↔ rn G mm_Road_servedByRoad 42 lv (.int (x ||| x2) :: st) S P := rn_s dq_Road_servedByRoad_41 rfl rfl rfl
theorem dq_Road_servedByRoad_42 : decode (km_c mm_Road_servedByRoad) 42 = .ok (.istore_n 1, 1) := by decide +kernel
theorem sq_Road_servedByRoad_42n : rn G mm_Road_servedByRoad 42 [none, a1, a2] (.int x :: st) S P ↔ rn G mm_Road_servedByRoad 43 [none, some (.int x), a2] st S P := rn_s dq_Road_servedByRoad_42 rfl rfl rfl
theorem sq_Road_servedByRoad_42i : rn G mm_Road_servedByRoad 42 [some (.int x2), a1, a2] (.int x :: st) S P ↔ rn G mm_Road_servedByRoad 43 [some (.int x2), some (.int x), a2] st S P := rn_s dq_Road_servedByRoad_42 rfl rfl rfl
theorem sq_Road_servedByRoad_42r : rn G mm_Road_servedByRoad 42 [some (.ref z2), a1, a2] (.int x :: st) S P ↔ rn G mm_Road_servedByRoad 43 [some (.ref z2), some (.int x), a2] st S P := rn_s dq_Road_servedByRoad_42 rfl rfl rfl
theorem dq_Road_servedByRoad_43 : decode (km_c mm_Road_servedByRoad) 43 = .ok (.iinc 2 1, 3) := by decide +kernel
theorem sq_Road_servedByRoad_43n : rn G mm_Road_servedByRoad 43 [a0, none, some (.int x)] st S P ↔ rn G mm_Road_servedByRoad 46 [a0, none, some (.int (x + nI 1))] st S P := rn_s dq_Road_servedByRoad_43 rfl rfl rfl
theorem sq_Road_servedByRoad_43i : rn G mm_Road_servedByRoad 43 [a0, some (.int x2), some (.int x)] st S P ↔ rn G mm_Road_servedByRoad 46 [a0, some (.int x2), some (.int (x + nI 1))] st S P := rn_s dq_Road_servedByRoad_43 rfl rfl rfl
theorem sq_Road_servedByRoad_43r : rn G mm_Road_servedByRoad 43 [a0, some (.ref z2), some (.int x)] st S P ↔ rn G mm_Road_servedByRoad 46 [a0, some (.ref z2), some (.int (x + nI 1))] st S P := rn_s dq_Road_servedByRoad_43 rfl rfl rfl
theorem dq_Road_servedByRoad_46 : decode (km_c mm_Road_servedByRoad) 46 = .ok (.goto (-42), 3) := by decide +kernel
theorem sq_Road_servedByRoad_46 : rn G mm_Road_servedByRoad 46 lv st S P ↔ rn G mm_Road_servedByRoad 4 lv st S P := rn_s dq_Road_servedByRoad_46 rfl rfl rfl
theorem dq_Road_servedByRoad_49 : decode (km_c mm_Road_servedByRoad) 49 = .ok (.iload_n 1, 1) := by decide +kernel
theorem sq_Road_servedByRoad_49 : rn G mm_Road_servedByRoad 49 [a0, some (.int x), a2] st S P ↔ rn G mm_Road_servedByRoad 50 [a0, some (.int x), a2] (.int x :: st) S P := rn_s dq_Road_servedByRoad_49 rfl rfl rfl
theorem dq_Road_servedByRoad_50 : decode (km_c mm_Road_servedByRoad) 50 = .ok (.ireturn, 1) := by decide +kernel
theorem sq_Road_servedByRoad_50 : rn G mm_Road_servedByRoad 50 lv [.int x] S P ↔ P (some (.int x)) S := rn_ir dq_Road_servedByRoad_50 rfl
theorem dq_Road_sinks_0 : decode (km_c mm_Road_sinks) 0 = .ok (.iload_n 1, 1) := by decide +kernel
theorem sq_Road_sinks_0 : rn G mm_Road_sinks 0 [a0, some (.int x), a2, a3, a4] st S P ↔ rn G mm_Road_sinks 1 [a0, some (.int x), a2, a3, a4] (.int x :: st) S P := rn_s dq_Road_sinks_0 rfl rfl rfl
theorem dq_Road_sinks_1 : decode (km_c mm_Road_sinks) 1 = .ok (.iconst 1, 1) := by decide +kernel
theorem sq_Road_sinks_1 : rn G mm_Road_sinks 1 lv st S P ↔ rn G mm_Road_sinks 2 lv (.int (nI 1) :: st) S P := rn_s dq_Road_sinks_1 rfl rfl rfl
theorem dq_Road_sinks_2 : decode (km_c mm_Road_sinks) 2 = .ok (.sipush 999, 3) := by decide +kernel
theorem sq_Road_sinks_2 : rn G mm_Road_sinks 2 lv st S P ↔ rn G mm_Road_sinks 5 lv (.int (nI 999) :: st) S P := rn_s dq_Road_sinks_2 rfl rfl rfl
theorem dq_Road_sinks_5 : decode (km_c mm_Road_sinks) 5 = .ok (.invokestatic 72, 3) := by decide +kernel
theorem sq_Road_sinks_5 {x1 : Int32} {x2 : Int32} {x3 : Int32} {v : Option Value} {S2 : ks_S} (hc : ev G mm_Road_outside [.int x1, .int x2, .int x3] S v S2) (hst : kx_cat st ≤ 8) : rn G mm_Road_sinks 5 lv (.int x3 :: .int x2 :: .int x1 :: st) S P ↔ rn G mm_Road_sinks 8 lv (v.toList ++ st) S2 P := rn_cs (k := 1) (host := "") (E' := mm_Road_outside) dq_Road_sinks_5 (by decide) (by decide) rfl (ok_v rfl (by decide) (by decide) (Nat.le_add_left _ _) hst (Nat.le_of_ble_eq_true rfl) (Or.inl rfl)) rfl rfl hc
theorem dq_Road_sinks_8 : decode (km_c mm_Road_sinks) 8 = .ok (.ifCond .ne 13, 3) := by decide +kernel
theorem sq_Road_sinks_8 : rn G mm_Road_sinks 8 lv (.int x :: st) S P ↔ ((¬ x = 0 → rn G mm_Road_sinks 21 lv st S P) ∧ (¬ (¬ x = 0) → rn G mm_Road_sinks 11 lv st S P)) := rn_b (off := 13) dq_Road_sinks_8 rfl rfl rfl rfl
theorem dq_Road_sinks_11 : decode (km_c mm_Road_sinks) 11 = .ok (.iload_n 2, 1) := by decide +kernel
theorem sq_Road_sinks_11 : rn G mm_Road_sinks 11 [a0, a1, some (.int x), a3, a4] st S P ↔ rn G mm_Road_sinks 12 [a0, a1, some (.int x), a3, a4] (.int x :: st) S P := rn_s dq_Road_sinks_11 rfl rfl rfl
theorem dq_Road_sinks_12 : decode (km_c mm_Road_sinks) 12 = .ok (.iconst 1, 1) := by decide +kernel
theorem sq_Road_sinks_12 : rn G mm_Road_sinks 12 lv st S P ↔ rn G mm_Road_sinks 13 lv (.int (nI 1) :: st) S P := rn_s dq_Road_sinks_12 rfl rfl rfl
theorem dq_Road_sinks_13 : decode (km_c mm_Road_sinks) 13 = .ok (.bipush 9, 2) := by decide +kernel
theorem sq_Road_sinks_13 : rn G mm_Road_sinks 13 lv st S P ↔ rn G mm_Road_sinks 15 lv (.int (nI 9) :: st) S P := rn_s dq_Road_sinks_13 rfl rfl rfl
theorem dq_Road_sinks_15 : decode (km_c mm_Road_sinks) 15 = .ok (.invokestatic 72, 3) := by decide +kernel
theorem sq_Road_sinks_15 {x1 : Int32} {x2 : Int32} {x3 : Int32} {v : Option Value} {S2 : ks_S} (hc : ev G mm_Road_outside [.int x1, .int x2, .int x3] S v S2) (hst : kx_cat st ≤ 8) : rn G mm_Road_sinks 15 lv (.int x3 :: .int x2 :: .int x1 :: st) S P ↔ rn G mm_Road_sinks 18 lv (v.toList ++ st) S2 P := rn_cs (k := 1) (host := "") (E' := mm_Road_outside) dq_Road_sinks_15 (by decide) (by decide) rfl (ok_v rfl (by decide) (by decide) (Nat.le_add_left _ _) hst (Nat.le_of_ble_eq_true rfl) (Or.inl rfl)) rfl rfl hc
theorem dq_Road_sinks_18 : decode (km_c mm_Road_sinks) 18 = .ok (.ifCond .eq 5, 3) := by decide +kernel
theorem sq_Road_sinks_18 : rn G mm_Road_sinks 18 lv (.int x :: st) S P ↔ ((x = 0 → rn G mm_Road_sinks 23 lv st S P) ∧ (¬ (x = 0) → rn G mm_Road_sinks 21 lv st S P)) := rn_b (off := 5) dq_Road_sinks_18 rfl rfl rfl rfl
theorem dq_Road_sinks_21 : decode (km_c mm_Road_sinks) 21 = .ok (.iconst (-1), 1) := by decide +kernel
theorem sq_Road_sinks_21 : rn G mm_Road_sinks 21 lv st S P ↔ rn G mm_Road_sinks 22 lv (.int ((-1)) :: st) S P := rn_s dq_Road_sinks_21 rfl rfl rfl
theorem dq_Road_sinks_22 : decode (km_c mm_Road_sinks) 22 = .ok (.ireturn, 1) := by decide +kernel
theorem sq_Road_sinks_22 : rn G mm_Road_sinks 22 lv [.int x] S P ↔ P (some (.int x)) S := rn_ir dq_Road_sinks_22 rfl
theorem dq_Road_sinks_23 : decode (km_c mm_Road_sinks) 23 = .ok (.iload_n 1, 1) := by decide +kernel
theorem sq_Road_sinks_23 : rn G mm_Road_sinks 23 [a0, some (.int x), a2, a3, a4] st S P ↔ rn G mm_Road_sinks 24 [a0, some (.int x), a2, a3, a4] (.int x :: st) S P := rn_s dq_Road_sinks_23 rfl rfl rfl
theorem dq_Road_sinks_24 : decode (km_c mm_Road_sinks) 24 = .ok (.iload_n 2, 1) := by decide +kernel
theorem sq_Road_sinks_24 : rn G mm_Road_sinks 24 [a0, a1, some (.int x), a3, a4] st S P ↔ rn G mm_Road_sinks 25 [a0, a1, some (.int x), a3, a4] (.int x :: st) S P := rn_s dq_Road_sinks_24 rfl rfl rfl
theorem dq_Road_sinks_25 : decode (km_c mm_Road_sinks) 25 = .ok (.idiv, 1) := by decide +kernel
theorem sq_Road_sinks_25 (hz : ¬ x2 = 0) : rn G mm_Road_sinks 25 lv (.int x2 :: .int x :: st) S P ↔ rn G mm_Road_sinks 26 lv (.int (x / x2) :: st) S P := rn_s dq_Road_sinks_25 rfl rfl (if_neg hz)
theorem dq_Road_sinks_26 : decode (km_c mm_Road_sinks) 26 = .ok (.istore_n 3, 1) := by decide +kernel
theorem sq_Road_sinks_26n : rn G mm_Road_sinks 26 [a0, a1, none, a3, a4] (.int x :: st) S P ↔ rn G mm_Road_sinks 27 [a0, a1, none, some (.int x), a4] st S P := rn_s dq_Road_sinks_26 rfl rfl rfl
theorem sq_Road_sinks_26i : rn G mm_Road_sinks 26 [a0, a1, some (.int x2), a3, a4] (.int x :: st) S P ↔ rn G mm_Road_sinks 27 [a0, a1, some (.int x2), some (.int x), a4] st S P := rn_s dq_Road_sinks_26 rfl rfl rfl
theorem sq_Road_sinks_26r : rn G mm_Road_sinks 26 [a0, a1, some (.ref z2), a3, a4] (.int x :: st) S P ↔ rn G mm_Road_sinks 27 [a0, a1, some (.ref z2), some (.int x), a4] st S P := rn_s dq_Road_sinks_26 rfl rfl rfl
theorem dq_Road_sinks_27 : decode (km_c mm_Road_sinks) 27 = .ok (.iconst 0, 1) := by decide +kernel
theorem sq_Road_sinks_27 : rn G mm_Road_sinks 27 lv st S P ↔ rn G mm_Road_sinks 28 lv (.int (nI 0) :: st) S P := rn_s dq_Road_sinks_27 rfl rfl rfl
theorem dq_Road_sinks_28 : decode (km_c mm_Road_sinks) 28 = .ok (.istore 4, 2) := by decide +kernel
theorem sq_Road_sinks_28n : rn G mm_Road_sinks 28 [a0, a1, a2, none, a4] (.int x :: st) S P ↔ rn G mm_Road_sinks 30 [a0, a1, a2, none, some (.int x)] st S P := rn_s dq_Road_sinks_28 rfl rfl rfl
theorem sq_Road_sinks_28i : rn G mm_Road_sinks 28 [a0, a1, a2, some (.int x2), a4] (.int x :: st) S P ↔ rn G mm_Road_sinks 30 [a0, a1, a2, some (.int x2), some (.int x)] st S P := rn_s dq_Road_sinks_28 rfl rfl rfl
theorem sq_Road_sinks_28r : rn G mm_Road_sinks 28 [a0, a1, a2, some (.ref z2), a4] (.int x :: st) S P ↔ rn G mm_Road_sinks 30 [a0, a1, a2, some (.ref z2), some (.int x)] st S P := rn_s dq_Road_sinks_28 rfl rfl rfl
theorem dq_Road_sinks_30 : decode (km_c mm_Road_sinks) 30 = .ok (.iload 4, 2) := by decide +kernel
theorem sq_Road_sinks_30 : rn G mm_Road_sinks 30 [a0, a1, a2, a3, some (.int x)] st S P ↔ rn G mm_Road_sinks 32 [a0, a1, a2, a3, some (.int x)] (.int x :: st) S P := rn_s dq_Road_sinks_30 rfl rfl rfl
theorem dq_Road_sinks_32 : decode (km_c mm_Road_sinks) 32 = .ok (.aload_n 0, 1) := by decide +kernel
theorem sq_Road_sinks_32 : rn G mm_Road_sinks 32 [some (.ref z), a1, a2, a3, a4] st S P ↔ rn G mm_Road_sinks 33 [some (.ref z), a1, a2, a3, a4] (.ref z :: st) S P := rn_s dq_Road_sinks_32 rfl rfl rfl
theorem dq_Road_sinks_33 : decode (km_c mm_Road_sinks) 33 = .ok (.getfield 10, 3) := by decide +kernel
theorem sq_Road_sinks_33_0 (ho : sx_o o pl kp) : rn (lt_G o L) mm_Road_sinks 33 lv (.ref 0 :: st) (sx pl kp I A) P ↔ rn (lt_G o L) mm_Road_sinks 36 lv (.ref 1 :: st) (sx pl kp I A) P := rx_get (h := "") (ci := 9) (k := 0) dq_Road_sinks_33 (by decide +kernel) ho (up_b (by decide)) rfl rfl (fl_r (by decide) (by decide) (by decide) (by decide))
theorem dq_Road_sinks_36 : decode (km_c mm_Road_sinks) 36 = .ok (.getfield 150, 3) := by decide +kernel
theorem sq_Road_sinks_36_1 (ho : sx_o o pl kp) : rn (lt_G o L) mm_Road_sinks 36 lv (.ref 1 :: st) (sx pl kp I A) P ↔ rn (lt_G o L) mm_Road_sinks 39 lv (.ref 12 :: st) (sx pl kp I A) P := rx_get (h := "DeltaRoad") (ci := 8) (k := 2) dq_Road_sinks_36 (by decide +kernel) ho (up_b (by decide)) rfl rfl (fl_r (by decide) (by decide) (by decide) (by decide))
theorem sq_Road_sinks_36_136 (ho : sx_o o pl true) : rn (lt_G o L) mm_Road_sinks 36 lv (.ref 136 :: st) (sx pl true I A) P ↔ rn (lt_G o L) mm_Road_sinks 39 lv (.ref 147 :: st) (sx pl true I A) P := rx_get (h := "DeltaRoad") (ci := 8) (k := 2) dq_Road_sinks_36 (by decide +kernel) ho (up_k (by decide) (by decide)) rfl rfl (fl_k (by decide) (by decide))
theorem dq_Road_sinks_39 : decode (km_c mm_Road_sinks) 39 = .ok (.getfield 154, 3) := by decide +kernel
theorem sq_Road_sinks_39_12 (ho : sx_o o pl kp) : rn (lt_G o L) mm_Road_sinks 39 lv (.ref 12 :: st) (sx pl kp I A) P ↔ rn (lt_G o L) mm_Road_sinks 42 lv (.int (I 12 1) :: st) (sx pl kp I A) P := rx_get (h := "DeltaRoad") (ci := 1) (k := 1) dq_Road_sinks_39 (by decide +kernel) ho (up_b (by decide)) rfl rfl (fl_i (by decide))
theorem sq_Road_sinks_39_147 (ho : sx_o o pl true) : rn (lt_G o L) mm_Road_sinks 39 lv (.ref 147 :: st) (sx pl true I A) P ↔ rn (lt_G o L) mm_Road_sinks 42 lv (.int (I 147 1) :: st) (sx pl true I A) P := rx_get (h := "DeltaRoad") (ci := 1) (k := 1) dq_Road_sinks_39 (by decide +kernel) ho (up_k (by decide) (by decide)) rfl rfl (fl_i (by decide))
theorem dq_Road_sinks_42 : decode (km_c mm_Road_sinks) 42 = .ok (.if_icmp .ge 33, 3) := by decide +kernel
theorem sq_Road_sinks_42 : rn G mm_Road_sinks 42 lv (.int x2 :: .int x :: st) S P ↔ ((x2 ≤ x → rn G mm_Road_sinks 75 lv st S P) ∧ (¬ (x2 ≤ x) → rn G mm_Road_sinks 45 lv st S P)) := rn_b (off := 33) dq_Road_sinks_42 rfl rfl rfl rfl
theorem dq_Road_sinks_45 : decode (km_c mm_Road_sinks) 45 = .ok (.iload_n 3, 1) := by decide +kernel
theorem sq_Road_sinks_45 : rn G mm_Road_sinks 45 [a0, a1, a2, some (.int x), a4] st S P ↔ rn G mm_Road_sinks 46 [a0, a1, a2, some (.int x), a4] (.int x :: st) S P := rn_s dq_Road_sinks_45 rfl rfl rfl
theorem dq_Road_sinks_46 : decode (km_c mm_Road_sinks) 46 = .ok (.aload_n 0, 1) := by decide +kernel
theorem sq_Road_sinks_46 : rn G mm_Road_sinks 46 [some (.ref z), a1, a2, a3, a4] st S P ↔ rn G mm_Road_sinks 47 [some (.ref z), a1, a2, a3, a4] (.ref z :: st) S P := rn_s dq_Road_sinks_46 rfl rfl rfl
theorem dq_Road_sinks_47 : decode (km_c mm_Road_sinks) 47 = .ok (.aload_n 0, 1) := by decide +kernel
theorem sq_Road_sinks_47 : rn G mm_Road_sinks 47 [some (.ref z), a1, a2, a3, a4] st S P ↔ rn G mm_Road_sinks 48 [some (.ref z), a1, a2, a3, a4] (.ref z :: st) S P := rn_s dq_Road_sinks_47 rfl rfl rfl
theorem dq_Road_sinks_48 : decode (km_c mm_Road_sinks) 48 = .ok (.getfield 10, 3) := by decide +kernel
theorem sq_Road_sinks_48_0 (ho : sx_o o pl kp) : rn (lt_G o L) mm_Road_sinks 48 lv (.ref 0 :: st) (sx pl kp I A) P ↔ rn (lt_G o L) mm_Road_sinks 51 lv (.ref 1 :: st) (sx pl kp I A) P := rx_get (h := "") (ci := 9) (k := 0) dq_Road_sinks_48 (by decide +kernel) ho (up_b (by decide)) rfl rfl (fl_r (by decide) (by decide) (by decide) (by decide))
theorem dq_Road_sinks_51 : decode (km_c mm_Road_sinks) 51 = .ok (.getfield 150, 3) := by decide +kernel
theorem sq_Road_sinks_51_1 (ho : sx_o o pl kp) : rn (lt_G o L) mm_Road_sinks 51 lv (.ref 1 :: st) (sx pl kp I A) P ↔ rn (lt_G o L) mm_Road_sinks 54 lv (.ref 12 :: st) (sx pl kp I A) P := rx_get (h := "DeltaRoad") (ci := 8) (k := 2) dq_Road_sinks_51 (by decide +kernel) ho (up_b (by decide)) rfl rfl (fl_r (by decide) (by decide) (by decide) (by decide))
theorem sq_Road_sinks_51_136 (ho : sx_o o pl true) : rn (lt_G o L) mm_Road_sinks 51 lv (.ref 136 :: st) (sx pl true I A) P ↔ rn (lt_G o L) mm_Road_sinks 54 lv (.ref 147 :: st) (sx pl true I A) P := rx_get (h := "DeltaRoad") (ci := 8) (k := 2) dq_Road_sinks_51 (by decide +kernel) ho (up_k (by decide) (by decide)) rfl rfl (fl_k (by decide) (by decide))
theorem dq_Road_sinks_54 : decode (km_c mm_Road_sinks) 54 = .ok (.getfield 227, 3) := by decide +kernel
theorem sq_Road_sinks_54_12 (ho : sx_o o pl kp) : rn (lt_G o L) mm_Road_sinks 54 lv (.ref 12 :: st) (sx pl kp I A) P ↔ rn (lt_G o L) mm_Road_sinks 57 lv (.ref 13 :: st) (sx pl kp I A) P := rx_get (h := "DeltaRoad") (ci := 1) (k := 0) dq_Road_sinks_54 (by decide +kernel) ho (up_b (by decide)) rfl rfl (fl_r (by decide) (by decide) (by decide) (by decide))
theorem sq_Road_sinks_54_147 (ho : sx_o o pl true) : rn (lt_G o L) mm_Road_sinks 54 lv (.ref 147 :: st) (sx pl true I A) P ↔ rn (lt_G o L) mm_Road_sinks 57 lv (.ref 148 :: st) (sx pl true I A) P := rx_get (h := "DeltaRoad") (ci := 1) (k := 0) dq_Road_sinks_54 (by decide +kernel) ho (up_k (by decide) (by decide)) rfl rfl (fl_k (by decide) (by decide))
theorem dq_Road_sinks_57 : decode (km_c mm_Road_sinks) 57 = .ok (.iload 4, 2) := by decide +kernel
theorem sq_Road_sinks_57 : rn G mm_Road_sinks 57 [a0, a1, a2, a3, some (.int x)] st S P ↔ rn G mm_Road_sinks 59 [a0, a1, a2, a3, some (.int x)] (.int x :: st) S P := rn_s dq_Road_sinks_57 rfl rfl rfl
theorem dq_Road_sinks_59 : decode (km_c mm_Road_sinks) 59 = .ok (.iaload, 1) := by decide +kernel
theorem sq_Road_sinks_59 (ho : sx_o o pl kp) (hk : ak L a = 0) (hu : sx_up pl kp a = true ∨ 1000 ≤ a) (hc : c < ln L a) (hn : ln L a < 2 ^ 31) : rn (lt_G o L) mm_Road_sinks 59 lv (.int (nI c) :: .ref a :: st) (sx pl kp I A) P ↔ rn (lt_G o L) mm_Road_sinks 60 lv (.int (A a c) :: st) (sx pl kp I A) P := rx_ild dq_Road_sinks_59 ho hk hu hc hn
theorem dq_Road_sinks_60 : decode (km_c mm_Road_sinks) 60 = .ok (.invokevirtual 101, 3) := by decide +kernel
theorem sq_Road_sinks_60_0 {x1 : Int32} {v : Option Value} {S2 : ks_S} (hc : ev (lt_G o L) mm_Road_bearingOf [.ref 0, .int x1] (sx pl kp I A) v S2) (ho : sx_o o pl kp) (hst : kx_cat st ≤ 8) : rn (lt_G o L) mm_Road_sinks 60 lv (.int x1 :: .ref 0 :: st) (sx pl kp I A) P ↔ rn (lt_G o L) mm_Road_sinks 63 lv (v.toList ++ st) S2 P := rn_cv (k := 0) (host := "") (E' := mm_Road_bearingOf) dq_Road_sinks_60 rfl (ok_v rfl (by decide) (by decide) (Nat.le_add_left _ _) hst (Nat.le_of_ble_eq_true rfl) (Or.inr (rc_v ho (up_b (by decide)) rfl))) rfl rfl hc
theorem dq_Road_sinks_63 : decode (km_c mm_Road_sinks) 63 = .ok (.if_icmp .le 6, 3) := by decide +kernel
theorem sq_Road_sinks_63 : rn G mm_Road_sinks 63 lv (.int x2 :: .int x :: st) S P ↔ ((x ≤ x2 → rn G mm_Road_sinks 69 lv st S P) ∧ (¬ (x ≤ x2) → rn G mm_Road_sinks 66 lv st S P)) := rn_b (off := 6) dq_Road_sinks_63 rfl rfl rfl rfl
theorem dq_Road_sinks_66 : decode (km_c mm_Road_sinks) 66 = .ok (.iload 4, 2) := by decide +kernel
theorem sq_Road_sinks_66 : rn G mm_Road_sinks 66 [a0, a1, a2, a3, some (.int x)] st S P ↔ rn G mm_Road_sinks 68 [a0, a1, a2, a3, some (.int x)] (.int x :: st) S P := rn_s dq_Road_sinks_66 rfl rfl rfl
theorem dq_Road_sinks_68 : decode (km_c mm_Road_sinks) 68 = .ok (.ireturn, 1) := by decide +kernel
theorem sq_Road_sinks_68 : rn G mm_Road_sinks 68 lv [.int x] S P ↔ P (some (.int x)) S := rn_ir dq_Road_sinks_68 rfl
theorem dq_Road_sinks_69 : decode (km_c mm_Road_sinks) 69 = .ok (.iinc 4 1, 3) := by decide +kernel
theorem sq_Road_sinks_69n : rn G mm_Road_sinks 69 [a0, a1, a2, none, some (.int x)] st S P ↔ rn G mm_Road_sinks 72 [a0, a1, a2, none, some (.int (x + nI 1))] st S P := rn_s dq_Road_sinks_69 rfl rfl rfl
theorem sq_Road_sinks_69i : rn G mm_Road_sinks 69 [a0, a1, a2, some (.int x2), some (.int x)] st S P ↔ rn G mm_Road_sinks 72 [a0, a1, a2, some (.int x2), some (.int (x + nI 1))] st S P := rn_s dq_Road_sinks_69 rfl rfl rfl
theorem sq_Road_sinks_69r : rn G mm_Road_sinks 69 [a0, a1, a2, some (.ref z2), some (.int x)] st S P ↔ rn G mm_Road_sinks 72 [a0, a1, a2, some (.ref z2), some (.int (x + nI 1))] st S P := rn_s dq_Road_sinks_69 rfl rfl rfl
theorem dq_Road_sinks_72 : decode (km_c mm_Road_sinks) 72 = .ok (.goto (-42), 3) := by decide +kernel
theorem sq_Road_sinks_72 : rn G mm_Road_sinks 72 lv st S P ↔ rn G mm_Road_sinks 30 lv st S P := rn_s dq_Road_sinks_72 rfl rfl rfl
theorem dq_Road_sinks_75 : decode (km_c mm_Road_sinks) 75 = .ok (.bipush (-4), 2) := by decide +kernel
theorem sq_Road_sinks_75 : rn G mm_Road_sinks 75 lv st S P ↔ rn G mm_Road_sinks 77 lv (.int ((-4)) :: st) S P := rn_s dq_Road_sinks_75 rfl rfl rfl
theorem dq_Road_sinks_77 : decode (km_c mm_Road_sinks) 77 = .ok (.ireturn, 1) := by decide +kernel
theorem sq_Road_sinks_77 : rn G mm_Road_sinks 77 lv [.int x] S P ↔ P (some (.int x)) S := rn_ir dq_Road_sinks_77 rfl
theorem dq_Road_toll_0 : decode (km_c mm_Road_toll) 0 = .ok (.iload_n 1, 1) := by decide +kernel
theorem sq_Road_toll_0 : rn G mm_Road_toll 0 [a0, some (.int x)] st S P ↔ rn G mm_Road_toll 1 [a0, some (.int x)] (.int x :: st) S P := rn_s dq_Road_toll_0 rfl rfl rfl
theorem dq_Road_toll_1 : decode (km_c mm_Road_toll) 1 = .ok (.iconst 1, 1) := by decide +kernel
theorem sq_Road_toll_1 : rn G mm_Road_toll 1 lv st S P ↔ rn G mm_Road_toll 2 lv (.int (nI 1) :: st) S P := rn_s dq_Road_toll_1 rfl rfl rfl
theorem dq_Road_toll_2 : decode (km_c mm_Road_toll) 2 = .ok (.bipush 9, 2) := by decide +kernel
theorem sq_Road_toll_2 : rn G mm_Road_toll 2 lv st S P ↔ rn G mm_Road_toll 4 lv (.int (nI 9) :: st) S P := rn_s dq_Road_toll_2 rfl rfl rfl
theorem dq_Road_toll_4 : decode (km_c mm_Road_toll) 4 = .ok (.invokestatic 72, 3) := by decide +kernel
theorem sq_Road_toll_4 {x1 : Int32} {x2 : Int32} {x3 : Int32} {v : Option Value} {S2 : ks_S} (hc : ev G mm_Road_outside [.int x1, .int x2, .int x3] S v S2) (hst : kx_cat st ≤ 8) : rn G mm_Road_toll 4 lv (.int x3 :: .int x2 :: .int x1 :: st) S P ↔ rn G mm_Road_toll 7 lv (v.toList ++ st) S2 P := rn_cs (k := 1) (host := "") (E' := mm_Road_outside) dq_Road_toll_4 (by decide) (by decide) rfl (ok_v rfl (by decide) (by decide) (Nat.le_add_left _ _) hst (Nat.le_of_ble_eq_true rfl) (Or.inl rfl)) rfl rfl hc
theorem dq_Road_toll_7 : decode (km_c mm_Road_toll) 7 = .ok (.ifCond .eq 5, 3) := by decide +kernel
theorem sq_Road_toll_7 : rn G mm_Road_toll 7 lv (.int x :: st) S P ↔ ((x = 0 → rn G mm_Road_toll 12 lv st S P) ∧ (¬ (x = 0) → rn G mm_Road_toll 10 lv st S P)) := rn_b (off := 5) dq_Road_toll_7 rfl rfl rfl rfl
theorem dq_Road_toll_10 : decode (km_c mm_Road_toll) 10 = .ok (.iconst (-1), 1) := by decide +kernel
theorem sq_Road_toll_10 : rn G mm_Road_toll 10 lv st S P ↔ rn G mm_Road_toll 11 lv (.int ((-1)) :: st) S P := rn_s dq_Road_toll_10 rfl rfl rfl
theorem dq_Road_toll_11 : decode (km_c mm_Road_toll) 11 = .ok (.ireturn, 1) := by decide +kernel
theorem sq_Road_toll_11 : rn G mm_Road_toll 11 lv [.int x] S P ↔ P (some (.int x)) S := rn_ir dq_Road_toll_11 rfl
theorem dq_Road_toll_12 : decode (km_c mm_Road_toll) 12 = .ok (.iconst 2, 1) := by decide +kernel
theorem sq_Road_toll_12 : rn G mm_Road_toll 12 lv st S P ↔ rn G mm_Road_toll 13 lv (.int (nI 2) :: st) S P := rn_s dq_Road_toll_12 rfl rfl rfl
theorem dq_Road_toll_13 : decode (km_c mm_Road_toll) 13 = .ok (.iload_n 1, 1) := by decide +kernel
theorem sq_Road_toll_13 : rn G mm_Road_toll 13 [a0, some (.int x)] st S P ↔ rn G mm_Road_toll 14 [a0, some (.int x)] (.int x :: st) S P := rn_s dq_Road_toll_13 rfl rfl rfl
theorem dq_Road_toll_14 : decode (km_c mm_Road_toll) 14 = .ok (.imul, 1) := by decide +kernel
theorem sq_Road_toll_14 : rn G mm_Road_toll 14 lv (.int x2 :: .int x :: st) S P ↔ rn G mm_Road_toll 15 lv (.int (x * x2) :: st) S P := rn_s dq_Road_toll_14 rfl rfl rfl
theorem dq_Road_toll_15 : decode (km_c mm_Road_toll) 15 = .ok (.aload_n 0, 1) := by decide +kernel
theorem sq_Road_toll_15 : rn G mm_Road_toll 15 [some (.ref z), a1] st S P ↔ rn G mm_Road_toll 16 [some (.ref z), a1] (.ref z :: st) S P := rn_s dq_Road_toll_15 rfl rfl rfl
theorem dq_Road_toll_16 : decode (km_c mm_Road_toll) 16 = .ok (.invokevirtual 90, 3) := by decide +kernel
theorem sq_Road_toll_16_0  {v : Option Value} {S2 : ks_S} (hc : ev (lt_G o L) mm_Road_waterNow [.ref 0] (sx pl kp I A) v S2) (ho : sx_o o pl kp) (hst : kx_cat st ≤ 8) : rn (lt_G o L) mm_Road_toll 16 lv (.ref 0 :: st) (sx pl kp I A) P ↔ rn (lt_G o L) mm_Road_toll 19 lv (v.toList ++ st) S2 P := rn_cv (k := 0) (host := "") (E' := mm_Road_waterNow) dq_Road_toll_16 rfl (ok_v rfl (by decide) (by decide) (Nat.le_add_left _ _) hst (Nat.le_of_ble_eq_true rfl) (Or.inr (rc_v ho (up_b (by decide)) rfl))) rfl rfl hc
theorem dq_Road_toll_19 : decode (km_c mm_Road_toll) 19 = .ok (.aload_n 0, 1) := by decide +kernel
theorem sq_Road_toll_19 : rn G mm_Road_toll 19 [some (.ref z), a1] st S P ↔ rn G mm_Road_toll 20 [some (.ref z), a1] (.ref z :: st) S P := rn_s dq_Road_toll_19 rfl rfl rfl
theorem dq_Road_toll_20 : decode (km_c mm_Road_toll) 20 = .ok (.getfield 10, 3) := by decide +kernel
theorem sq_Road_toll_20_0 (ho : sx_o o pl kp) : rn (lt_G o L) mm_Road_toll 20 lv (.ref 0 :: st) (sx pl kp I A) P ↔ rn (lt_G o L) mm_Road_toll 23 lv (.ref 1 :: st) (sx pl kp I A) P := rx_get (h := "") (ci := 9) (k := 0) dq_Road_toll_20 (by decide +kernel) ho (up_b (by decide)) rfl rfl (fl_r (by decide) (by decide) (by decide) (by decide))
theorem dq_Road_toll_23 : decode (km_c mm_Road_toll) 23 = .ok (.getfield 150, 3) := by decide +kernel
theorem sq_Road_toll_23_1 (ho : sx_o o pl kp) : rn (lt_G o L) mm_Road_toll 23 lv (.ref 1 :: st) (sx pl kp I A) P ↔ rn (lt_G o L) mm_Road_toll 26 lv (.ref 12 :: st) (sx pl kp I A) P := rx_get (h := "DeltaRoad") (ci := 8) (k := 2) dq_Road_toll_23 (by decide +kernel) ho (up_b (by decide)) rfl rfl (fl_r (by decide) (by decide) (by decide) (by decide))
theorem sq_Road_toll_23_136 (ho : sx_o o pl true) : rn (lt_G o L) mm_Road_toll 23 lv (.ref 136 :: st) (sx pl true I A) P ↔ rn (lt_G o L) mm_Road_toll 26 lv (.ref 147 :: st) (sx pl true I A) P := rx_get (h := "DeltaRoad") (ci := 8) (k := 2) dq_Road_toll_23 (by decide +kernel) ho (up_k (by decide) (by decide)) rfl rfl (fl_k (by decide) (by decide))
theorem dq_Road_toll_26 : decode (km_c mm_Road_toll) 26 = .ok (.invokevirtual 247, 3) := by decide +kernel
theorem sq_Road_toll_26_16 {z1 : Nat} {v : Option Value} {S2 : ks_S} (hc : ev (lt_G o L) mm_Water_wetCellsOf [.ref 16, .ref z1] (sx pl kp I A) v S2) (ho : sx_o o pl kp) (hst : kx_cat st ≤ 8) : rn (lt_G o L) mm_Road_toll 26 lv (.ref z1 :: .ref 16 :: st) (sx pl kp I A) P ↔ rn (lt_G o L) mm_Road_toll 29 lv (v.toList ++ st) S2 P := rn_cv (k := 0) (host := "") (E' := mm_Water_wetCellsOf) dq_Road_toll_26 rfl (ok_v rfl (by decide) (by decide) (Nat.le_add_left _ _) hst (Nat.le_of_ble_eq_true rfl) (Or.inr (rc_v ho (up_b (by decide)) rfl))) rfl rfl hc
theorem sq_Road_toll_26_20 {z1 : Nat} {v : Option Value} {S2 : ks_S} (hc : ev (lt_G o L) mm_Water_wetCellsOf [.ref 20, .ref z1] (sx pl kp I A) v S2) (ho : sx_o o pl kp) (hst : kx_cat st ≤ 8) : rn (lt_G o L) mm_Road_toll 26 lv (.ref z1 :: .ref 20 :: st) (sx pl kp I A) P ↔ rn (lt_G o L) mm_Road_toll 29 lv (v.toList ++ st) S2 P := rn_cv (k := 0) (host := "") (E' := mm_Water_wetCellsOf) dq_Road_toll_26 rfl (ok_v rfl (by decide) (by decide) (Nat.le_add_left _ _) hst (Nat.le_of_ble_eq_true rfl) (Or.inr (rc_v ho (up_b (by decide)) rfl))) rfl rfl hc
theorem dq_Road_toll_29 : decode (km_c mm_Road_toll) 29 = .ok (.imul, 1) := by decide +kernel
theorem sq_Road_toll_29 : rn G mm_Road_toll 29 lv (.int x2 :: .int x :: st) S P ↔ rn G mm_Road_toll 30 lv (.int (x * x2) :: st) S P := rn_s dq_Road_toll_29 rfl rfl rfl
theorem dq_Road_toll_30 : decode (km_c mm_Road_toll) 30 = .ok (.ireturn, 1) := by decide +kernel
theorem sq_Road_toll_30 : rn G mm_Road_toll 30 lv [.int x] S P ↔ P (some (.int x)) S := rn_ir dq_Road_toll_30 rfl
theorem dq_Road_goes_0 : decode (km_c mm_Road_goes) 0 = .ok (.aload_n 0, 1) := by decide +kernel
theorem sq_Road_goes_0 : rn G mm_Road_goes 0 [some (.ref z), a1] st S P ↔ rn G mm_Road_goes 1 [some (.ref z), a1] (.ref z :: st) S P := rn_s dq_Road_goes_0 rfl rfl rfl
theorem dq_Road_goes_1 : decode (km_c mm_Road_goes) 1 = .ok (.invokevirtual 250, 3) := by decide +kernel
theorem sq_Road_goes_1_0  {v : Option Value} {S2 : ks_S} (hc : ev (lt_G o L) mm_Road_leastGoingLevel [.ref 0] (sx pl kp I A) v S2) (ho : sx_o o pl kp) (hst : kx_cat st ≤ 8) : rn (lt_G o L) mm_Road_goes 1 lv (.ref 0 :: st) (sx pl kp I A) P ↔ rn (lt_G o L) mm_Road_goes 4 lv (v.toList ++ st) S2 P := rn_cv (k := 0) (host := "") (E' := mm_Road_leastGoingLevel) dq_Road_goes_1 rfl (ok_v rfl (by decide) (by decide) (Nat.le_add_left _ _) hst (Nat.le_of_ble_eq_true rfl) (Or.inr (rc_v ho (up_b (by decide)) rfl))) rfl rfl hc
theorem dq_Road_goes_4 : decode (km_c mm_Road_goes) 4 = .ok (.istore_n 1, 1) := by decide +kernel
theorem sq_Road_goes_4n : rn G mm_Road_goes 4 [none, a1] (.int x :: st) S P ↔ rn G mm_Road_goes 5 [none, some (.int x)] st S P := rn_s dq_Road_goes_4 rfl rfl rfl
theorem sq_Road_goes_4i : rn G mm_Road_goes 4 [some (.int x2), a1] (.int x :: st) S P ↔ rn G mm_Road_goes 5 [some (.int x2), some (.int x)] st S P := rn_s dq_Road_goes_4 rfl rfl rfl
theorem sq_Road_goes_4r : rn G mm_Road_goes 4 [some (.ref z2), a1] (.int x :: st) S P ↔ rn G mm_Road_goes 5 [some (.ref z2), some (.int x)] st S P := rn_s dq_Road_goes_4 rfl rfl rfl
theorem dq_Road_goes_5 : decode (km_c mm_Road_goes) 5 = .ok (.iload_n 1, 1) := by decide +kernel
theorem sq_Road_goes_5 : rn G mm_Road_goes 5 [a0, some (.int x)] st S P ↔ rn G mm_Road_goes 6 [a0, some (.int x)] (.int x :: st) S P := rn_s dq_Road_goes_5 rfl rfl rfl
theorem dq_Road_goes_6 : decode (km_c mm_Road_goes) 6 = .ok (.bipush 40, 2) := by decide +kernel
theorem sq_Road_goes_6 : rn G mm_Road_goes 6 lv st S P ↔ rn G mm_Road_goes 8 lv (.int (nI 40) :: st) S P := rn_s dq_Road_goes_6 rfl rfl rfl
theorem dq_Road_goes_8 : decode (km_c mm_Road_goes) 8 = .ok (.if_icmp .le 8, 3) := by decide +kernel
theorem sq_Road_goes_8 : rn G mm_Road_goes 8 lv (.int x2 :: .int x :: st) S P ↔ ((x ≤ x2 → rn G mm_Road_goes 16 lv st S P) ∧ (¬ (x ≤ x2) → rn G mm_Road_goes 11 lv st S P)) := rn_b (off := 8) dq_Road_goes_8 rfl rfl rfl rfl
theorem dq_Road_goes_11 : decode (km_c mm_Road_goes) 11 = .ok (.bipush (-4), 2) := by decide +kernel
theorem sq_Road_goes_11 : rn G mm_Road_goes 11 lv st S P ↔ rn G mm_Road_goes 13 lv (.int ((-4)) :: st) S P := rn_s dq_Road_goes_11 rfl rfl rfl
theorem dq_Road_goes_13 : decode (km_c mm_Road_goes) 13 = .ok (.goto 4, 3) := by decide +kernel
theorem sq_Road_goes_13 : rn G mm_Road_goes 13 lv st S P ↔ rn G mm_Road_goes 17 lv st S P := rn_s dq_Road_goes_13 rfl rfl rfl
theorem dq_Road_goes_16 : decode (km_c mm_Road_goes) 16 = .ok (.iload_n 1, 1) := by decide +kernel
theorem sq_Road_goes_16 : rn G mm_Road_goes 16 [a0, some (.int x)] st S P ↔ rn G mm_Road_goes 17 [a0, some (.int x)] (.int x :: st) S P := rn_s dq_Road_goes_16 rfl rfl rfl
theorem dq_Road_goes_17 : decode (km_c mm_Road_goes) 17 = .ok (.ireturn, 1) := by decide +kernel
theorem sq_Road_goes_17 : rn G mm_Road_goes 17 lv [.int x] S P ↔ P (some (.int x)) S := rn_ir dq_Road_goes_17 rfl
theorem dq_Road_leastGoingLevel_0 : decode (km_c mm_Road_leastGoingLevel) 0 = .ok (.iconst 0, 1) := by decide +kernel
theorem sq_Road_leastGoingLevel_0 : rn G mm_Road_leastGoingLevel 0 lv st S P ↔ rn G mm_Road_leastGoingLevel 1 lv (.int (nI 0) :: st) S P := rn_s dq_Road_leastGoingLevel_0 rfl rfl rfl
theorem dq_Road_leastGoingLevel_1 : decode (km_c mm_Road_leastGoingLevel) 1 = .ok (.istore_n 1, 1) := by decide +kernel
theorem sq_Road_leastGoingLevel_1n : rn G mm_Road_leastGoingLevel 1 [none, a1] (.int x :: st) S P ↔ rn G mm_Road_leastGoingLevel 2 [none, some (.int x)] st S P := rn_s dq_Road_leastGoingLevel_1 rfl rfl rfl
theorem sq_Road_leastGoingLevel_1i : rn G mm_Road_leastGoingLevel 1 [some (.int x2), a1] (.int x :: st) S P ↔ rn G mm_Road_leastGoingLevel 2 [some (.int x2), some (.int x)] st S P := rn_s dq_Road_leastGoingLevel_1 rfl rfl rfl
theorem sq_Road_leastGoingLevel_1r : rn G mm_Road_leastGoingLevel 1 [some (.ref z2), a1] (.int x :: st) S P ↔ rn G mm_Road_leastGoingLevel 2 [some (.ref z2), some (.int x)] st S P := rn_s dq_Road_leastGoingLevel_1 rfl rfl rfl
theorem dq_Road_leastGoingLevel_2 : decode (km_c mm_Road_leastGoingLevel) 2 = .ok (.iload_n 1, 1) := by decide +kernel
theorem sq_Road_leastGoingLevel_2 : rn G mm_Road_leastGoingLevel 2 [a0, some (.int x)] st S P ↔ rn G mm_Road_leastGoingLevel 3 [a0, some (.int x)] (.int x :: st) S P := rn_s dq_Road_leastGoingLevel_2 rfl rfl rfl
theorem dq_Road_leastGoingLevel_3 : decode (km_c mm_Road_leastGoingLevel) 3 = .ok (.bipush 40, 2) := by decide +kernel
theorem sq_Road_leastGoingLevel_3 : rn G mm_Road_leastGoingLevel 3 lv st S P ↔ rn G mm_Road_leastGoingLevel 5 lv (.int (nI 40) :: st) S P := rn_s dq_Road_leastGoingLevel_3 rfl rfl rfl
theorem dq_Road_leastGoingLevel_5 : decode (km_c mm_Road_leastGoingLevel) 5 = .ok (.if_icmp .gt 44, 3) := by decide +kernel
theorem sq_Road_leastGoingLevel_5 : rn G mm_Road_leastGoingLevel 5 lv (.int x2 :: .int x :: st) S P ↔ ((x2 < x → rn G mm_Road_leastGoingLevel 49 lv st S P) ∧ (¬ (x2 < x) → rn G mm_Road_leastGoingLevel 8 lv st S P)) := rn_b (off := 44) dq_Road_leastGoingLevel_5 rfl rfl rfl rfl
theorem dq_Road_leastGoingLevel_8 : decode (km_c mm_Road_leastGoingLevel) 8 = .ok (.aload_n 0, 1) := by decide +kernel
theorem sq_Road_leastGoingLevel_8 : rn G mm_Road_leastGoingLevel 8 [some (.ref z), a1] st S P ↔ rn G mm_Road_leastGoingLevel 9 [some (.ref z), a1] (.ref z :: st) S P := rn_s dq_Road_leastGoingLevel_8 rfl rfl rfl
theorem dq_Road_leastGoingLevel_9 : decode (km_c mm_Road_leastGoingLevel) 9 = .ok (.getfield 23, 3) := by decide +kernel
theorem sq_Road_leastGoingLevel_9_0 (ho : sx_o o pl kp) : rn (lt_G o L) mm_Road_leastGoingLevel 9 lv (.ref 0 :: st) (sx pl kp I A) P ↔ rn (lt_G o L) mm_Road_leastGoingLevel 12 lv (.ref 20 :: st) (sx pl kp I A) P := rx_get (h := "") (ci := 9) (k := 2) dq_Road_leastGoingLevel_9 (by decide +kernel) ho (up_b (by decide)) rfl rfl (fl_r (by decide) (by decide) (by decide) (by decide))
theorem dq_Road_leastGoingLevel_12 : decode (km_c mm_Road_leastGoingLevel) 12 = .ok (.aload_n 0, 1) := by decide +kernel
theorem sq_Road_leastGoingLevel_12 : rn G mm_Road_leastGoingLevel 12 [some (.ref z), a1] st S P ↔ rn G mm_Road_leastGoingLevel 13 [some (.ref z), a1] (.ref z :: st) S P := rn_s dq_Road_leastGoingLevel_12 rfl rfl rfl
theorem dq_Road_leastGoingLevel_13 : decode (km_c mm_Road_leastGoingLevel) 13 = .ok (.getfield 10, 3) := by decide +kernel
theorem sq_Road_leastGoingLevel_13_0 (ho : sx_o o pl kp) : rn (lt_G o L) mm_Road_leastGoingLevel 13 lv (.ref 0 :: st) (sx pl kp I A) P ↔ rn (lt_G o L) mm_Road_leastGoingLevel 16 lv (.ref 1 :: st) (sx pl kp I A) P := rx_get (h := "") (ci := 9) (k := 0) dq_Road_leastGoingLevel_13 (by decide +kernel) ho (up_b (by decide)) rfl rfl (fl_r (by decide) (by decide) (by decide) (by decide))
theorem dq_Road_leastGoingLevel_16 : decode (km_c mm_Road_leastGoingLevel) 16 = .ok (.getfield 80, 3) := by decide +kernel
theorem sq_Road_leastGoingLevel_16_1 (ho : sx_o o pl kp) : rn (lt_G o L) mm_Road_leastGoingLevel 16 lv (.ref 1 :: st) (sx pl kp I A) P ↔ rn (lt_G o L) mm_Road_leastGoingLevel 19 lv (.ref 2 :: st) (sx pl kp I A) P := rx_get (h := "DeltaRoad") (ci := 8) (k := 0) dq_Road_leastGoingLevel_16 (by decide +kernel) ho (up_b (by decide)) rfl rfl (fl_r (by decide) (by decide) (by decide) (by decide))
theorem sq_Road_leastGoingLevel_16_136 (ho : sx_o o pl true) : rn (lt_G o L) mm_Road_leastGoingLevel 16 lv (.ref 136 :: st) (sx pl true I A) P ↔ rn (lt_G o L) mm_Road_leastGoingLevel 19 lv (.ref 137 :: st) (sx pl true I A) P := rx_get (h := "DeltaRoad") (ci := 8) (k := 0) dq_Road_leastGoingLevel_16 (by decide +kernel) ho (up_k (by decide) (by decide)) rfl rfl (fl_k (by decide) (by decide))
theorem dq_Road_leastGoingLevel_19 : decode (km_c mm_Road_leastGoingLevel) 19 = .ok (.iload_n 1, 1) := by decide +kernel
theorem sq_Road_leastGoingLevel_19 : rn G mm_Road_leastGoingLevel 19 [a0, some (.int x)] st S P ↔ rn G mm_Road_leastGoingLevel 20 [a0, some (.int x)] (.int x :: st) S P := rn_s dq_Road_leastGoingLevel_19 rfl rfl rfl
theorem dq_Road_leastGoingLevel_20 : decode (km_c mm_Road_leastGoingLevel) 20 = .ok (.invokevirtual 307, 3) := by decide +kernel
theorem sq_Road_leastGoingLevel_20_16 {z1 : Nat} {x2 : Int32} {v : Option Value} {S2 : ks_S} (hc : ev (lt_G o L) mm_Water_rise [.ref 16, .ref z1, .int x2] (sx pl kp I A) v S2) (ho : sx_o o pl kp) (hst : kx_cat st ≤ 8) : rn (lt_G o L) mm_Road_leastGoingLevel 20 lv (.int x2 :: .ref z1 :: .ref 16 :: st) (sx pl kp I A) P ↔ rn (lt_G o L) mm_Road_leastGoingLevel 23 lv (v.toList ++ st) S2 P := rn_cv (k := 0) (host := "") (E' := mm_Water_rise) dq_Road_leastGoingLevel_20 rfl (ok_v rfl (by decide) (by decide) (Nat.le_add_left _ _) hst (Nat.le_of_ble_eq_true rfl) (Or.inr (rc_v ho (up_b (by decide)) rfl))) rfl rfl hc
theorem sq_Road_leastGoingLevel_20_20 {z1 : Nat} {x2 : Int32} {v : Option Value} {S2 : ks_S} (hc : ev (lt_G o L) mm_Water_rise [.ref 20, .ref z1, .int x2] (sx pl kp I A) v S2) (ho : sx_o o pl kp) (hst : kx_cat st ≤ 8) : rn (lt_G o L) mm_Road_leastGoingLevel 20 lv (.int x2 :: .ref z1 :: .ref 20 :: st) (sx pl kp I A) P ↔ rn (lt_G o L) mm_Road_leastGoingLevel 23 lv (v.toList ++ st) S2 P := rn_cv (k := 0) (host := "") (E' := mm_Water_rise) dq_Road_leastGoingLevel_20 rfl (ok_v rfl (by decide) (by decide) (Nat.le_add_left _ _) hst (Nat.le_of_ble_eq_true rfl) (Or.inr (rc_v ho (up_b (by decide)) rfl))) rfl rfl hc
theorem dq_Road_leastGoingLevel_23 : decode (km_c mm_Road_leastGoingLevel) 23 = .ok (.aload_n 0, 1) := by decide +kernel
theorem sq_Road_leastGoingLevel_23 : rn G mm_Road_leastGoingLevel 23 [some (.ref z), a1] st S P ↔ rn G mm_Road_leastGoingLevel 24 [some (.ref z), a1] (.ref z :: st) S P := rn_s dq_Road_leastGoingLevel_23 rfl rfl rfl
theorem dq_Road_leastGoingLevel_24 : decode (km_c mm_Road_leastGoingLevel) 24 = .ok (.getfield 23, 3) := by decide +kernel
theorem sq_Road_leastGoingLevel_24_0 (ho : sx_o o pl kp) : rn (lt_G o L) mm_Road_leastGoingLevel 24 lv (.ref 0 :: st) (sx pl kp I A) P ↔ rn (lt_G o L) mm_Road_leastGoingLevel 27 lv (.ref 20 :: st) (sx pl kp I A) P := rx_get (h := "") (ci := 9) (k := 2) dq_Road_leastGoingLevel_24 (by decide +kernel) ho (up_b (by decide)) rfl rfl (fl_r (by decide) (by decide) (by decide) (by decide))
theorem dq_Road_leastGoingLevel_27 : decode (km_c mm_Road_leastGoingLevel) 27 = .ok (.aload_n 0, 1) := by decide +kernel
theorem sq_Road_leastGoingLevel_27 : rn G mm_Road_leastGoingLevel 27 [some (.ref z), a1] st S P ↔ rn G mm_Road_leastGoingLevel 28 [some (.ref z), a1] (.ref z :: st) S P := rn_s dq_Road_leastGoingLevel_27 rfl rfl rfl
theorem dq_Road_leastGoingLevel_28 : decode (km_c mm_Road_leastGoingLevel) 28 = .ok (.getfield 10, 3) := by decide +kernel
theorem sq_Road_leastGoingLevel_28_0 (ho : sx_o o pl kp) : rn (lt_G o L) mm_Road_leastGoingLevel 28 lv (.ref 0 :: st) (sx pl kp I A) P ↔ rn (lt_G o L) mm_Road_leastGoingLevel 31 lv (.ref 1 :: st) (sx pl kp I A) P := rx_get (h := "") (ci := 9) (k := 0) dq_Road_leastGoingLevel_28 (by decide +kernel) ho (up_b (by decide)) rfl rfl (fl_r (by decide) (by decide) (by decide) (by decide))
theorem dq_Road_leastGoingLevel_31 : decode (km_c mm_Road_leastGoingLevel) 31 = .ok (.getfield 150, 3) := by decide +kernel
theorem sq_Road_leastGoingLevel_31_1 (ho : sx_o o pl kp) : rn (lt_G o L) mm_Road_leastGoingLevel 31 lv (.ref 1 :: st) (sx pl kp I A) P ↔ rn (lt_G o L) mm_Road_leastGoingLevel 34 lv (.ref 12 :: st) (sx pl kp I A) P := rx_get (h := "DeltaRoad") (ci := 8) (k := 2) dq_Road_leastGoingLevel_31 (by decide +kernel) ho (up_b (by decide)) rfl rfl (fl_r (by decide) (by decide) (by decide) (by decide))
theorem sq_Road_leastGoingLevel_31_136 (ho : sx_o o pl true) : rn (lt_G o L) mm_Road_leastGoingLevel 31 lv (.ref 136 :: st) (sx pl true I A) P ↔ rn (lt_G o L) mm_Road_leastGoingLevel 34 lv (.ref 147 :: st) (sx pl true I A) P := rx_get (h := "DeltaRoad") (ci := 8) (k := 2) dq_Road_leastGoingLevel_31 (by decide +kernel) ho (up_k (by decide) (by decide)) rfl rfl (fl_k (by decide) (by decide))
theorem dq_Road_leastGoingLevel_34 : decode (km_c mm_Road_leastGoingLevel) 34 = .ok (.invokevirtual 243, 3) := by decide +kernel
theorem sq_Road_leastGoingLevel_34_16 {z1 : Nat} {v : Option Value} {S2 : ks_S} (hc : ev (lt_G o L) mm_Water_deepest [.ref 16, .ref z1] (sx pl kp I A) v S2) (ho : sx_o o pl kp) (hst : kx_cat st ≤ 8) : rn (lt_G o L) mm_Road_leastGoingLevel 34 lv (.ref z1 :: .ref 16 :: st) (sx pl kp I A) P ↔ rn (lt_G o L) mm_Road_leastGoingLevel 37 lv (v.toList ++ st) S2 P := rn_cv (k := 0) (host := "") (E' := mm_Water_deepest) dq_Road_leastGoingLevel_34 rfl (ok_v rfl (by decide) (by decide) (Nat.le_add_left _ _) hst (Nat.le_of_ble_eq_true rfl) (Or.inr (rc_v ho (up_b (by decide)) rfl))) rfl rfl hc
theorem sq_Road_leastGoingLevel_34_20 {z1 : Nat} {v : Option Value} {S2 : ks_S} (hc : ev (lt_G o L) mm_Water_deepest [.ref 20, .ref z1] (sx pl kp I A) v S2) (ho : sx_o o pl kp) (hst : kx_cat st ≤ 8) : rn (lt_G o L) mm_Road_leastGoingLevel 34 lv (.ref z1 :: .ref 20 :: st) (sx pl kp I A) P ↔ rn (lt_G o L) mm_Road_leastGoingLevel 37 lv (v.toList ++ st) S2 P := rn_cv (k := 0) (host := "") (E' := mm_Water_deepest) dq_Road_leastGoingLevel_34 rfl (ok_v rfl (by decide) (by decide) (Nat.le_add_left _ _) hst (Nat.le_of_ble_eq_true rfl) (Or.inr (rc_v ho (up_b (by decide)) rfl))) rfl rfl hc
theorem dq_Road_leastGoingLevel_37 : decode (km_c mm_Road_leastGoingLevel) 37 = .ok (.iconst 3, 1) := by decide +kernel
theorem sq_Road_leastGoingLevel_37 : rn G mm_Road_leastGoingLevel 37 lv st S P ↔ rn G mm_Road_leastGoingLevel 38 lv (.int (nI 3) :: st) S P := rn_s dq_Road_leastGoingLevel_37 rfl rfl rfl
theorem dq_Road_leastGoingLevel_38 : decode (km_c mm_Road_leastGoingLevel) 38 = .ok (.if_icmp .le 5, 3) := by decide +kernel
theorem sq_Road_leastGoingLevel_38 : rn G mm_Road_leastGoingLevel 38 lv (.int x2 :: .int x :: st) S P ↔ ((x ≤ x2 → rn G mm_Road_leastGoingLevel 43 lv st S P) ∧ (¬ (x ≤ x2) → rn G mm_Road_leastGoingLevel 41 lv st S P)) := rn_b (off := 5) dq_Road_leastGoingLevel_38 rfl rfl rfl rfl
theorem dq_Road_leastGoingLevel_41 : decode (km_c mm_Road_leastGoingLevel) 41 = .ok (.iload_n 1, 1) := by decide +kernel
theorem sq_Road_leastGoingLevel_41 : rn G mm_Road_leastGoingLevel 41 [a0, some (.int x)] st S P ↔ rn G mm_Road_leastGoingLevel 42 [a0, some (.int x)] (.int x :: st) S P := rn_s dq_Road_leastGoingLevel_41 rfl rfl rfl
theorem dq_Road_leastGoingLevel_42 : decode (km_c mm_Road_leastGoingLevel) 42 = .ok (.ireturn, 1) := by decide +kernel
theorem sq_Road_leastGoingLevel_42 : rn G mm_Road_leastGoingLevel 42 lv [.int x] S P ↔ P (some (.int x)) S := rn_ir dq_Road_leastGoingLevel_42 rfl
theorem dq_Road_leastGoingLevel_43 : decode (km_c mm_Road_leastGoingLevel) 43 = .ok (.iinc 1 1, 3) := by decide +kernel
theorem sq_Road_leastGoingLevel_43n : rn G mm_Road_leastGoingLevel 43 [none, some (.int x)] st S P ↔ rn G mm_Road_leastGoingLevel 46 [none, some (.int (x + nI 1))] st S P := rn_s dq_Road_leastGoingLevel_43 rfl rfl rfl
theorem sq_Road_leastGoingLevel_43i : rn G mm_Road_leastGoingLevel 43 [some (.int x2), some (.int x)] st S P ↔ rn G mm_Road_leastGoingLevel 46 [some (.int x2), some (.int (x + nI 1))] st S P := rn_s dq_Road_leastGoingLevel_43 rfl rfl rfl
theorem sq_Road_leastGoingLevel_43r : rn G mm_Road_leastGoingLevel 43 [some (.ref z2), some (.int x)] st S P ↔ rn G mm_Road_leastGoingLevel 46 [some (.ref z2), some (.int (x + nI 1))] st S P := rn_s dq_Road_leastGoingLevel_43 rfl rfl rfl
theorem dq_Road_leastGoingLevel_46 : decode (km_c mm_Road_leastGoingLevel) 46 = .ok (.goto (-44), 3) := by decide +kernel
theorem sq_Road_leastGoingLevel_46 : rn G mm_Road_leastGoingLevel 46 lv st S P ↔ rn G mm_Road_leastGoingLevel 2 lv st S P := rn_s dq_Road_leastGoingLevel_46 rfl rfl rfl
theorem dq_Road_leastGoingLevel_49 : decode (km_c mm_Road_leastGoingLevel) 49 = .ok (.bipush 41, 2) := by decide +kernel
theorem sq_Road_leastGoingLevel_49 : rn G mm_Road_leastGoingLevel 49 lv st S P ↔ rn G mm_Road_leastGoingLevel 51 lv (.int (nI 41) :: st) S P := rn_s dq_Road_leastGoingLevel_49 rfl rfl rfl
theorem dq_Road_leastGoingLevel_51 : decode (km_c mm_Road_leastGoingLevel) 51 = .ok (.ireturn, 1) := by decide +kernel
theorem sq_Road_leastGoingLevel_51 : rn G mm_Road_leastGoingLevel 51 lv [.int x] S P ↔ P (some (.int x)) S := rn_ir dq_Road_leastGoingLevel_51 rfl
theorem dq_Road_weight_0 : decode (km_c mm_Road_weight) 0 = .ok (.iload_n 1, 1) := by decide +kernel
theorem sq_Road_weight_0 : rn G mm_Road_weight 0 [a0, some (.int x), a2, a3] st S P ↔ rn G mm_Road_weight 1 [a0, some (.int x), a2, a3] (.int x :: st) S P := rn_s dq_Road_weight_0 rfl rfl rfl
theorem dq_Road_weight_1 : decode (km_c mm_Road_weight) 1 = .ok (.iconst 0, 1) := by decide +kernel
theorem sq_Road_weight_1 : rn G mm_Road_weight 1 lv st S P ↔ rn G mm_Road_weight 2 lv (.int (nI 0) :: st) S P := rn_s dq_Road_weight_1 rfl rfl rfl
theorem dq_Road_weight_2 : decode (km_c mm_Road_weight) 2 = .ok (.bipush 40, 2) := by decide +kernel
theorem sq_Road_weight_2 : rn G mm_Road_weight 2 lv st S P ↔ rn G mm_Road_weight 4 lv (.int (nI 40) :: st) S P := rn_s dq_Road_weight_2 rfl rfl rfl
theorem dq_Road_weight_4 : decode (km_c mm_Road_weight) 4 = .ok (.invokestatic 72, 3) := by decide +kernel
theorem sq_Road_weight_4 {x1 : Int32} {x2 : Int32} {x3 : Int32} {v : Option Value} {S2 : ks_S} (hc : ev G mm_Road_outside [.int x1, .int x2, .int x3] S v S2) (hst : kx_cat st ≤ 8) : rn G mm_Road_weight 4 lv (.int x3 :: .int x2 :: .int x1 :: st) S P ↔ rn G mm_Road_weight 7 lv (v.toList ++ st) S2 P := rn_cs (k := 1) (host := "") (E' := mm_Road_outside) dq_Road_weight_4 (by decide) (by decide) rfl (ok_v rfl (by decide) (by decide) (Nat.le_add_left _ _) hst (Nat.le_of_ble_eq_true rfl) (Or.inl rfl)) rfl rfl hc
theorem dq_Road_weight_7 : decode (km_c mm_Road_weight) 7 = .ok (.ifCond .ne 13, 3) := by decide +kernel
theorem sq_Road_weight_7 : rn G mm_Road_weight 7 lv (.int x :: st) S P ↔ ((¬ x = 0 → rn G mm_Road_weight 20 lv st S P) ∧ (¬ (¬ x = 0) → rn G mm_Road_weight 10 lv st S P)) := rn_b (off := 13) dq_Road_weight_7 rfl rfl rfl rfl
theorem dq_Road_weight_10 : decode (km_c mm_Road_weight) 10 = .ok (.iload_n 2, 1) := by decide +kernel
theorem sq_Road_weight_10 : rn G mm_Road_weight 10 [a0, a1, some (.int x), a3] st S P ↔ rn G mm_Road_weight 11 [a0, a1, some (.int x), a3] (.int x :: st) S P := rn_s dq_Road_weight_10 rfl rfl rfl
theorem dq_Road_weight_11 : decode (km_c mm_Road_weight) 11 = .ok (.iconst 0, 1) := by decide +kernel
theorem sq_Road_weight_11 : rn G mm_Road_weight 11 lv st S P ↔ rn G mm_Road_weight 12 lv (.int (nI 0) :: st) S P := rn_s dq_Road_weight_11 rfl rfl rfl
theorem dq_Road_weight_12 : decode (km_c mm_Road_weight) 12 = .ok (.bipush 9, 2) := by decide +kernel
theorem sq_Road_weight_12 : rn G mm_Road_weight 12 lv st S P ↔ rn G mm_Road_weight 14 lv (.int (nI 9) :: st) S P := rn_s dq_Road_weight_12 rfl rfl rfl
theorem dq_Road_weight_14 : decode (km_c mm_Road_weight) 14 = .ok (.invokestatic 72, 3) := by decide +kernel
theorem sq_Road_weight_14 {x1 : Int32} {x2 : Int32} {x3 : Int32} {v : Option Value} {S2 : ks_S} (hc : ev G mm_Road_outside [.int x1, .int x2, .int x3] S v S2) (hst : kx_cat st ≤ 8) : rn G mm_Road_weight 14 lv (.int x3 :: .int x2 :: .int x1 :: st) S P ↔ rn G mm_Road_weight 17 lv (v.toList ++ st) S2 P := rn_cs (k := 1) (host := "") (E' := mm_Road_outside) dq_Road_weight_14 (by decide) (by decide) rfl (ok_v rfl (by decide) (by decide) (Nat.le_add_left _ _) hst (Nat.le_of_ble_eq_true rfl) (Or.inl rfl)) rfl rfl hc
theorem dq_Road_weight_17 : decode (km_c mm_Road_weight) 17 = .ok (.ifCond .eq 5, 3) := by decide +kernel
theorem sq_Road_weight_17 : rn G mm_Road_weight 17 lv (.int x :: st) S P ↔ ((x = 0 → rn G mm_Road_weight 22 lv st S P) ∧ (¬ (x = 0) → rn G mm_Road_weight 20 lv st S P)) := rn_b (off := 5) dq_Road_weight_17 rfl rfl rfl rfl
theorem dq_Road_weight_20 : decode (km_c mm_Road_weight) 20 = .ok (.iconst (-1), 1) := by decide +kernel
theorem sq_Road_weight_20 : rn G mm_Road_weight 20 lv st S P ↔ rn G mm_Road_weight 21 lv (.int ((-1)) :: st) S P := rn_s dq_Road_weight_20 rfl rfl rfl
theorem dq_Road_weight_21 : decode (km_c mm_Road_weight) 21 = .ok (.ireturn, 1) := by decide +kernel
theorem sq_Road_weight_21 : rn G mm_Road_weight 21 lv [.int x] S P ↔ P (some (.int x)) S := rn_ir dq_Road_weight_21 rfl
theorem dq_Road_weight_22 : decode (km_c mm_Road_weight) 22 = .ok (.aload_n 0, 1) := by decide +kernel
theorem sq_Road_weight_22 : rn G mm_Road_weight 22 [some (.ref z), a1, a2, a3] st S P ↔ rn G mm_Road_weight 23 [some (.ref z), a1, a2, a3] (.ref z :: st) S P := rn_s dq_Road_weight_22 rfl rfl rfl
theorem dq_Road_weight_23 : decode (km_c mm_Road_weight) 23 = .ok (.getfield 10, 3) := by decide +kernel
theorem sq_Road_weight_23_0 (ho : sx_o o pl kp) : rn (lt_G o L) mm_Road_weight 23 lv (.ref 0 :: st) (sx pl kp I A) P ↔ rn (lt_G o L) mm_Road_weight 26 lv (.ref 1 :: st) (sx pl kp I A) P := rx_get (h := "") (ci := 9) (k := 0) dq_Road_weight_23 (by decide +kernel) ho (up_b (by decide)) rfl rfl (fl_r (by decide) (by decide) (by decide) (by decide))
theorem dq_Road_weight_26 : decode (km_c mm_Road_weight) 26 = .ok (.getfield 160, 3) := by decide +kernel
theorem sq_Road_weight_26_1 (ho : sx_o o pl kp) : rn (lt_G o L) mm_Road_weight 26 lv (.ref 1 :: st) (sx pl kp I A) P ↔ rn (lt_G o L) mm_Road_weight 29 lv (.ref 14 :: st) (sx pl kp I A) P := rx_get (h := "DeltaRoad") (ci := 8) (k := 3) dq_Road_weight_26 (by decide +kernel) ho (up_b (by decide)) rfl rfl (fl_r (by decide) (by decide) (by decide) (by decide))
theorem sq_Road_weight_26_136 (ho : sx_o o pl true) : rn (lt_G o L) mm_Road_weight 26 lv (.ref 136 :: st) (sx pl true I A) P ↔ rn (lt_G o L) mm_Road_weight 29 lv (.ref 149 :: st) (sx pl true I A) P := rx_get (h := "DeltaRoad") (ci := 8) (k := 3) dq_Road_weight_26 (by decide +kernel) ho (up_k (by decide) (by decide)) rfl rfl (fl_k (by decide) (by decide))
theorem dq_Road_weight_29 : decode (km_c mm_Road_weight) 29 = .ok (.getfield 253, 3) := by decide +kernel
theorem sq_Road_weight_29_14 (ho : sx_o o pl kp) : rn (lt_G o L) mm_Road_weight 29 lv (.ref 14 :: st) (sx pl kp I A) P ↔ rn (lt_G o L) mm_Road_weight 32 lv (.ref 15 :: st) (sx pl kp I A) P := rx_get (h := "DeltaRoad") (ci := 7) (k := 0) dq_Road_weight_29 (by decide +kernel) ho (up_b (by decide)) rfl rfl (fl_r (by decide) (by decide) (by decide) (by decide))
theorem sq_Road_weight_29_149 (ho : sx_o o pl true) : rn (lt_G o L) mm_Road_weight 29 lv (.ref 149 :: st) (sx pl true I A) P ↔ rn (lt_G o L) mm_Road_weight 32 lv (.ref 150 :: st) (sx pl true I A) P := rx_get (h := "DeltaRoad") (ci := 7) (k := 0) dq_Road_weight_29 (by decide +kernel) ho (up_k (by decide) (by decide)) rfl rfl (fl_k (by decide) (by decide))
theorem dq_Road_weight_32 : decode (km_c mm_Road_weight) 32 = .ok (.iload_n 1, 1) := by decide +kernel
theorem sq_Road_weight_32 : rn G mm_Road_weight 32 [a0, some (.int x), a2, a3] st S P ↔ rn G mm_Road_weight 33 [a0, some (.int x), a2, a3] (.int x :: st) S P := rn_s dq_Road_weight_32 rfl rfl rfl
theorem dq_Road_weight_33 : decode (km_c mm_Road_weight) 33 = .ok (.iaload, 1) := by decide +kernel
theorem sq_Road_weight_33 (ho : sx_o o pl kp) (hk : ak L a = 0) (hu : sx_up pl kp a = true ∨ 1000 ≤ a) (hc : c < ln L a) (hn : ln L a < 2 ^ 31) : rn (lt_G o L) mm_Road_weight 33 lv (.int (nI c) :: .ref a :: st) (sx pl kp I A) P ↔ rn (lt_G o L) mm_Road_weight 34 lv (.int (A a c) :: st) (sx pl kp I A) P := rx_ild dq_Road_weight_33 ho hk hu hc hn
theorem dq_Road_weight_34 : decode (km_c mm_Road_weight) 34 = .ok (.istore_n 3, 1) := by decide +kernel
theorem sq_Road_weight_34n : rn G mm_Road_weight 34 [a0, a1, none, a3] (.int x :: st) S P ↔ rn G mm_Road_weight 35 [a0, a1, none, some (.int x)] st S P := rn_s dq_Road_weight_34 rfl rfl rfl
theorem sq_Road_weight_34i : rn G mm_Road_weight 34 [a0, a1, some (.int x2), a3] (.int x :: st) S P ↔ rn G mm_Road_weight 35 [a0, a1, some (.int x2), some (.int x)] st S P := rn_s dq_Road_weight_34 rfl rfl rfl
theorem sq_Road_weight_34r : rn G mm_Road_weight 34 [a0, a1, some (.ref z2), a3] (.int x :: st) S P ↔ rn G mm_Road_weight 35 [a0, a1, some (.ref z2), some (.int x)] st S P := rn_s dq_Road_weight_34 rfl rfl rfl
theorem dq_Road_weight_35 : decode (km_c mm_Road_weight) 35 = .ok (.aload_n 0, 1) := by decide +kernel
theorem sq_Road_weight_35 : rn G mm_Road_weight 35 [some (.ref z), a1, a2, a3] st S P ↔ rn G mm_Road_weight 36 [some (.ref z), a1, a2, a3] (.ref z :: st) S P := rn_s dq_Road_weight_35 rfl rfl rfl
theorem dq_Road_weight_36 : decode (km_c mm_Road_weight) 36 = .ok (.getfield 10, 3) := by decide +kernel
theorem sq_Road_weight_36_0 (ho : sx_o o pl kp) : rn (lt_G o L) mm_Road_weight 36 lv (.ref 0 :: st) (sx pl kp I A) P ↔ rn (lt_G o L) mm_Road_weight 39 lv (.ref 1 :: st) (sx pl kp I A) P := rx_get (h := "") (ci := 9) (k := 0) dq_Road_weight_36 (by decide +kernel) ho (up_b (by decide)) rfl rfl (fl_r (by decide) (by decide) (by decide) (by decide))
theorem dq_Road_weight_39 : decode (km_c mm_Road_weight) 39 = .ok (.getfield 160, 3) := by decide +kernel
theorem sq_Road_weight_39_1 (ho : sx_o o pl kp) : rn (lt_G o L) mm_Road_weight 39 lv (.ref 1 :: st) (sx pl kp I A) P ↔ rn (lt_G o L) mm_Road_weight 42 lv (.ref 14 :: st) (sx pl kp I A) P := rx_get (h := "DeltaRoad") (ci := 8) (k := 3) dq_Road_weight_39 (by decide +kernel) ho (up_b (by decide)) rfl rfl (fl_r (by decide) (by decide) (by decide) (by decide))
theorem sq_Road_weight_39_136 (ho : sx_o o pl true) : rn (lt_G o L) mm_Road_weight 39 lv (.ref 136 :: st) (sx pl true I A) P ↔ rn (lt_G o L) mm_Road_weight 42 lv (.ref 149 :: st) (sx pl true I A) P := rx_get (h := "DeltaRoad") (ci := 8) (k := 3) dq_Road_weight_39 (by decide +kernel) ho (up_k (by decide) (by decide)) rfl rfl (fl_k (by decide) (by decide))
theorem dq_Road_weight_42 : decode (km_c mm_Road_weight) 42 = .ok (.getfield 253, 3) := by decide +kernel
theorem sq_Road_weight_42_14 (ho : sx_o o pl kp) : rn (lt_G o L) mm_Road_weight 42 lv (.ref 14 :: st) (sx pl kp I A) P ↔ rn (lt_G o L) mm_Road_weight 45 lv (.ref 15 :: st) (sx pl kp I A) P := rx_get (h := "DeltaRoad") (ci := 7) (k := 0) dq_Road_weight_42 (by decide +kernel) ho (up_b (by decide)) rfl rfl (fl_r (by decide) (by decide) (by decide) (by decide))
theorem sq_Road_weight_42_149 (ho : sx_o o pl true) : rn (lt_G o L) mm_Road_weight 42 lv (.ref 149 :: st) (sx pl true I A) P ↔ rn (lt_G o L) mm_Road_weight 45 lv (.ref 150 :: st) (sx pl true I A) P := rx_get (h := "DeltaRoad") (ci := 7) (k := 0) dq_Road_weight_42 (by decide +kernel) ho (up_k (by decide) (by decide)) rfl rfl (fl_k (by decide) (by decide))
theorem dq_Road_weight_45 : decode (km_c mm_Road_weight) 45 = .ok (.iload_n 1, 1) := by decide +kernel
theorem sq_Road_weight_45 : rn G mm_Road_weight 45 [a0, some (.int x), a2, a3] st S P ↔ rn G mm_Road_weight 46 [a0, some (.int x), a2, a3] (.int x :: st) S P := rn_s dq_Road_weight_45 rfl rfl rfl
theorem dq_Road_weight_46 : decode (km_c mm_Road_weight) 46 = .ok (.iload_n 2, 1) := by decide +kernel
theorem sq_Road_weight_46 : rn G mm_Road_weight 46 [a0, a1, some (.int x), a3] st S P ↔ rn G mm_Road_weight 47 [a0, a1, some (.int x), a3] (.int x :: st) S P := rn_s dq_Road_weight_46 rfl rfl rfl
theorem dq_Road_weight_47 : decode (km_c mm_Road_weight) 47 = .ok (.iastore, 1) := by decide +kernel
theorem sq_Road_weight_47 (ho : sx_o o pl kp) (hk : ak L a = 0) (hu : sx_up pl kp a = true) (hc : c < ln L a) (hn : ln L a < 2 ^ 31) : rn (lt_G o L) mm_Road_weight 47 lv (.int x :: .int (nI c) :: .ref a :: st) (sx pl kp I A) P ↔ rn (lt_G o L) mm_Road_weight 48 lv st (sx pl kp I (u2 A a c x)) P := rx_ist dq_Road_weight_47 ho hk hu hc hn
theorem dq_Road_weight_48 : decode (km_c mm_Road_weight) 48 = .ok (.iload_n 3, 1) := by decide +kernel
theorem sq_Road_weight_48 : rn G mm_Road_weight 48 [a0, a1, a2, some (.int x)] st S P ↔ rn G mm_Road_weight 49 [a0, a1, a2, some (.int x)] (.int x :: st) S P := rn_s dq_Road_weight_48 rfl rfl rfl
theorem dq_Road_weight_49 : decode (km_c mm_Road_weight) 49 = .ok (.ireturn, 1) := by decide +kernel
theorem sq_Road_weight_49 : rn G mm_Road_weight 49 lv [.int x] S P ↔ P (some (.int x)) S := rn_ir dq_Road_weight_49 rfl
theorem dq_Road_odds_0 : decode (km_c mm_Road_odds) 0 = .ok (.iload_n 1, 1) := by decide +kernel
theorem sq_Road_odds_0 : rn G mm_Road_odds 0 [a0, some (.int x), a2, a3, a4, a5, a6, a7, a8] st S P ↔ rn G mm_Road_odds 1 [a0, some (.int x), a2, a3, a4, a5, a6, a7, a8] (.int x :: st) S P := rn_s dq_Road_odds_0 rfl rfl rfl
theorem dq_Road_odds_1 : decode (km_c mm_Road_odds) 1 = .ok (.iconst 1, 1) := by decide +kernel
theorem sq_Road_odds_1 : rn G mm_Road_odds 1 lv st S P ↔ rn G mm_Road_odds 2 lv (.int (nI 1) :: st) S P := rn_s dq_Road_odds_1 rfl rfl rfl
theorem dq_Road_odds_2 : decode (km_c mm_Road_odds) 2 = .ok (.bipush 6, 2) := by decide +kernel
theorem sq_Road_odds_2 : rn G mm_Road_odds 2 lv st S P ↔ rn G mm_Road_odds 4 lv (.int (nI 6) :: st) S P := rn_s dq_Road_odds_2 rfl rfl rfl
theorem dq_Road_odds_4 : decode (km_c mm_Road_odds) 4 = .ok (.invokestatic 72, 3) := by decide +kernel
theorem sq_Road_odds_4 {x1 : Int32} {x2 : Int32} {x3 : Int32} {v : Option Value} {S2 : ks_S} (hc : ev G mm_Road_outside [.int x1, .int x2, .int x3] S v S2) (hst : kx_cat st ≤ 8) : rn G mm_Road_odds 4 lv (.int x3 :: .int x2 :: .int x1 :: st) S P ↔ rn G mm_Road_odds 7 lv (v.toList ++ st) S2 P := rn_cs (k := 1) (host := "") (E' := mm_Road_outside) dq_Road_odds_4 (by decide) (by decide) rfl (ok_v rfl (by decide) (by decide) (Nat.le_add_left _ _) hst (Nat.le_of_ble_eq_true rfl) (Or.inl rfl)) rfl rfl hc
theorem dq_Road_odds_7 : decode (km_c mm_Road_odds) 7 = .ok (.ifCond .ne 12, 3) := by decide +kernel
theorem sq_Road_odds_7 : rn G mm_Road_odds 7 lv (.int x :: st) S P ↔ ((¬ x = 0 → rn G mm_Road_odds 19 lv st S P) ∧ (¬ (¬ x = 0) → rn G mm_Road_odds 10 lv st S P)) := rn_b (off := 12) dq_Road_odds_7 rfl rfl rfl rfl
theorem dq_Road_odds_10 : decode (km_c mm_Road_odds) 10 = .ok (.iload_n 2, 1) := by decide +kernel
theorem sq_Road_odds_10 : rn G mm_Road_odds 10 [a0, a1, some (.int x), a3, a4, a5, a6, a7, a8] st S P ↔ rn G mm_Road_odds 11 [a0, a1, some (.int x), a3, a4, a5, a6, a7, a8] (.int x :: st) S P := rn_s dq_Road_odds_10 rfl rfl rfl
theorem dq_Road_odds_11 : decode (km_c mm_Road_odds) 11 = .ok (.iconst 0, 1) := by decide +kernel
theorem sq_Road_odds_11 : rn G mm_Road_odds 11 lv st S P ↔ rn G mm_Road_odds 12 lv (.int (nI 0) :: st) S P := rn_s dq_Road_odds_11 rfl rfl rfl
theorem dq_Road_odds_12 : decode (km_c mm_Road_odds) 12 = .ok (.iconst 1, 1) := by decide +kernel
theorem sq_Road_odds_12 : rn G mm_Road_odds 12 lv st S P ↔ rn G mm_Road_odds 13 lv (.int (nI 1) :: st) S P := rn_s dq_Road_odds_12 rfl rfl rfl
theorem dq_Road_odds_13 : decode (km_c mm_Road_odds) 13 = .ok (.invokestatic 72, 3) := by decide +kernel
theorem sq_Road_odds_13 {x1 : Int32} {x2 : Int32} {x3 : Int32} {v : Option Value} {S2 : ks_S} (hc : ev G mm_Road_outside [.int x1, .int x2, .int x3] S v S2) (hst : kx_cat st ≤ 8) : rn G mm_Road_odds 13 lv (.int x3 :: .int x2 :: .int x1 :: st) S P ↔ rn G mm_Road_odds 16 lv (v.toList ++ st) S2 P := rn_cs (k := 1) (host := "") (E' := mm_Road_outside) dq_Road_odds_13 (by decide) (by decide) rfl (ok_v rfl (by decide) (by decide) (Nat.le_add_left _ _) hst (Nat.le_of_ble_eq_true rfl) (Or.inl rfl)) rfl rfl hc
theorem dq_Road_odds_16 : decode (km_c mm_Road_odds) 16 = .ok (.ifCond .eq 7, 3) := by decide +kernel
theorem sq_Road_odds_16 : rn G mm_Road_odds 16 lv (.int x :: st) S P ↔ ((x = 0 → rn G mm_Road_odds 23 lv st S P) ∧ (¬ (x = 0) → rn G mm_Road_odds 19 lv st S P)) := rn_b (off := 7) dq_Road_odds_16 rfl rfl rfl rfl
theorem dq_Road_odds_19 : decode (km_c mm_Road_odds) 19 = .ok (.ldc2_w 256, 3) := by decide +kernel
theorem sq_Road_odds_19 : rn G mm_Road_odds 19 lv st S P ↔ rn G mm_Road_odds 22 lv (.long (-1) :: st) S P := rn_s dq_Road_odds_19 rfl rfl rfl
theorem dq_Road_odds_22 : decode (km_c mm_Road_odds) 22 = .ok (.lreturn, 1) := by decide +kernel
theorem sq_Road_odds_22 : rn G mm_Road_odds 22 lv [.long y] S P ↔ P (some (.long y)) S := rn_lr dq_Road_odds_22 rfl
theorem dq_Road_odds_23 : decode (km_c mm_Road_odds) 23 = .ok (.aload_n 0, 1) := by decide +kernel
theorem sq_Road_odds_23 : rn G mm_Road_odds 23 [some (.ref z), a1, a2, a3, a4, a5, a6, a7, a8] st S P ↔ rn G mm_Road_odds 24 [some (.ref z), a1, a2, a3, a4, a5, a6, a7, a8] (.ref z :: st) S P := rn_s dq_Road_odds_23 rfl rfl rfl
theorem dq_Road_odds_24 : decode (km_c mm_Road_odds) 24 = .ok (.getfield 10, 3) := by decide +kernel
theorem sq_Road_odds_24_0 (ho : sx_o o pl kp) : rn (lt_G o L) mm_Road_odds 24 lv (.ref 0 :: st) (sx pl kp I A) P ↔ rn (lt_G o L) mm_Road_odds 27 lv (.ref 1 :: st) (sx pl kp I A) P := rx_get (h := "") (ci := 9) (k := 0) dq_Road_odds_24 (by decide +kernel) ho (up_b (by decide)) rfl rfl (fl_r (by decide) (by decide) (by decide) (by decide))
theorem dq_Road_odds_27 : decode (km_c mm_Road_odds) 27 = .ok (.getfield 160, 3) := by decide +kernel
theorem sq_Road_odds_27_1 (ho : sx_o o pl kp) : rn (lt_G o L) mm_Road_odds 27 lv (.ref 1 :: st) (sx pl kp I A) P ↔ rn (lt_G o L) mm_Road_odds 30 lv (.ref 14 :: st) (sx pl kp I A) P := rx_get (h := "DeltaRoad") (ci := 8) (k := 3) dq_Road_odds_27 (by decide +kernel) ho (up_b (by decide)) rfl rfl (fl_r (by decide) (by decide) (by decide) (by decide))
theorem sq_Road_odds_27_136 (ho : sx_o o pl true) : rn (lt_G o L) mm_Road_odds 27 lv (.ref 136 :: st) (sx pl true I A) P ↔ rn (lt_G o L) mm_Road_odds 30 lv (.ref 149 :: st) (sx pl true I A) P := rx_get (h := "DeltaRoad") (ci := 8) (k := 3) dq_Road_odds_27 (by decide +kernel) ho (up_k (by decide) (by decide)) rfl rfl (fl_k (by decide) (by decide))
theorem dq_Road_odds_30 : decode (km_c mm_Road_odds) 30 = .ok (.invokevirtual 164, 3) := by decide +kernel
theorem sq_Road_odds_30_14  {v : Option Value} {S2 : ks_S} (hc : ev (lt_G o L) mm_Weather_total [.ref 14] (sx pl kp I A) v S2) (ho : sx_o o pl kp) (hst : kx_cat st ≤ 8) : rn (lt_G o L) mm_Road_odds 30 lv (.ref 14 :: st) (sx pl kp I A) P ↔ rn (lt_G o L) mm_Road_odds 33 lv (v.toList ++ st) S2 P := rn_cv (k := 0) (host := "") (E' := mm_Weather_total) dq_Road_odds_30 rfl (ok_v rfl (by decide) (by decide) (Nat.le_add_left _ _) hst (Nat.le_of_ble_eq_true rfl) (Or.inr (rc_v ho (up_b (by decide)) rfl))) rfl rfl hc
theorem sq_Road_odds_30_149  {v : Option Value} {S2 : ks_S} (hc : ev (lt_G o L) mm_Weather_total [.ref 149] (sx pl true I A) v S2) (ho : sx_o o pl true) (hst : kx_cat st ≤ 8) : rn (lt_G o L) mm_Road_odds 30 lv (.ref 149 :: st) (sx pl true I A) P ↔ rn (lt_G o L) mm_Road_odds 33 lv (v.toList ++ st) S2 P := rn_cv (k := 0) (host := "") (E' := mm_Weather_total) dq_Road_odds_30 rfl (ok_v rfl (by decide) (by decide) (Nat.le_add_left _ _) hst (Nat.le_of_ble_eq_true rfl) (Or.inr (rc_v ho (up_k (by decide) (by decide)) rfl))) rfl rfl hc
theorem dq_Road_odds_33 : decode (km_c mm_Road_odds) 33 = .ok (.i2l, 1) := by decide +kernel
theorem sq_Road_odds_33 : rn G mm_Road_odds 33 lv (.int x :: st) S P ↔ rn G mm_Road_odds 34 lv (.long x.toInt64 :: st) S P := rn_s dq_Road_odds_33 rfl rfl rfl
theorem dq_Road_odds_34 : decode (km_c mm_Road_odds) 34 = .ok (.lstore_n 3, 1) := by decide +kernel
theorem sq_Road_odds_34n : rn G mm_Road_odds 34 [a0, a1, none, a3, a4, a5, a6, a7, a8] (.long y :: st) S P ↔ rn G mm_Road_odds 35 [a0, a1, none, some (.long y), none, a5, a6, a7, a8] st S P := rn_s dq_Road_odds_34 rfl rfl rfl
theorem sq_Road_odds_34i : rn G mm_Road_odds 34 [a0, a1, some (.int x2), a3, a4, a5, a6, a7, a8] (.long y :: st) S P ↔ rn G mm_Road_odds 35 [a0, a1, some (.int x2), some (.long y), none, a5, a6, a7, a8] st S P := rn_s dq_Road_odds_34 rfl rfl rfl
theorem sq_Road_odds_34r : rn G mm_Road_odds 34 [a0, a1, some (.ref z2), a3, a4, a5, a6, a7, a8] (.long y :: st) S P ↔ rn G mm_Road_odds 35 [a0, a1, some (.ref z2), some (.long y), none, a5, a6, a7, a8] st S P := rn_s dq_Road_odds_34 rfl rfl rfl
theorem sq_Road_odds_34l : rn G mm_Road_odds 34 [a0, a1, some (.long y2), a3, a4, a5, a6, a7, a8] (.long y :: st) S P ↔ rn G mm_Road_odds 35 [a0, a1, none, some (.long y), none, a5, a6, a7, a8] st S P := rn_s dq_Road_odds_34 rfl rfl rfl
theorem dq_Road_odds_35 : decode (km_c mm_Road_odds) 35 = .ok (.lload_n 3, 1) := by decide +kernel
theorem sq_Road_odds_35 : rn G mm_Road_odds 35 [a0, a1, a2, some (.long y), a4, a5, a6, a7, a8] st S P ↔ rn G mm_Road_odds 36 [a0, a1, a2, some (.long y), a4, a5, a6, a7, a8] (.long y :: st) S P := rn_s dq_Road_odds_35 rfl rfl rfl
theorem dq_Road_odds_36 : decode (km_c mm_Road_odds) 36 = .ok (.lconst 0, 1) := by decide +kernel
theorem sq_Road_odds_36 : rn G mm_Road_odds 36 lv st S P ↔ rn G mm_Road_odds 37 lv (.long (0) :: st) S P := rn_s dq_Road_odds_36 rfl rfl rfl
theorem dq_Road_odds_37 : decode (km_c mm_Road_odds) 37 = .ok (.lcmp, 1) := by decide +kernel
theorem sq_Road_odds_37 : rn G mm_Road_odds 37 lv (.long y2 :: .long y :: st) S P ↔ rn G mm_Road_odds 38 lv (.int (lg_cmp y y2) :: st) S P := rn_s dq_Road_odds_37 rfl rfl rfl
theorem dq_Road_odds_38 : decode (km_c mm_Road_odds) 38 = .ok (.ifCond .gt 7, 3) := by decide +kernel
theorem sq_Road_odds_38 : rn G mm_Road_odds 38 lv (.int x :: st) S P ↔ ((0 < x → rn G mm_Road_odds 45 lv st S P) ∧ (¬ (0 < x) → rn G mm_Road_odds 41 lv st S P)) := rn_b (off := 7) dq_Road_odds_38 rfl rfl rfl rfl
theorem dq_Road_odds_41 : decode (km_c mm_Road_odds) 41 = .ok (.ldc2_w 258, 3) := by decide +kernel
theorem sq_Road_odds_41 : rn G mm_Road_odds 41 lv st S P ↔ rn G mm_Road_odds 44 lv (.long (-2) :: st) S P := rn_s dq_Road_odds_41 rfl rfl rfl
theorem dq_Road_odds_44 : decode (km_c mm_Road_odds) 44 = .ok (.lreturn, 1) := by decide +kernel
theorem sq_Road_odds_44 : rn G mm_Road_odds 44 lv [.long y] S P ↔ P (some (.long y)) S := rn_lr dq_Road_odds_44 rfl
theorem dq_Road_odds_45 : decode (km_c mm_Road_odds) 45 = .ok (.aload_n 0, 1) := by decide +kernel
theorem sq_Road_odds_45 : rn G mm_Road_odds 45 [some (.ref z), a1, a2, a3, a4, a5, a6, a7, a8] st S P ↔ rn G mm_Road_odds 46 [some (.ref z), a1, a2, a3, a4, a5, a6, a7, a8] (.ref z :: st) S P := rn_s dq_Road_odds_45 rfl rfl rfl
theorem dq_Road_odds_46 : decode (km_c mm_Road_odds) 46 = .ok (.getfield 10, 3) := by decide +kernel
theorem sq_Road_odds_46_0 (ho : sx_o o pl kp) : rn (lt_G o L) mm_Road_odds 46 lv (.ref 0 :: st) (sx pl kp I A) P ↔ rn (lt_G o L) mm_Road_odds 49 lv (.ref 1 :: st) (sx pl kp I A) P := rx_get (h := "") (ci := 9) (k := 0) dq_Road_odds_46 (by decide +kernel) ho (up_b (by decide)) rfl rfl (fl_r (by decide) (by decide) (by decide) (by decide))
theorem dq_Road_odds_49 : decode (km_c mm_Road_odds) 49 = .ok (.getfield 160, 3) := by decide +kernel
theorem sq_Road_odds_49_1 (ho : sx_o o pl kp) : rn (lt_G o L) mm_Road_odds 49 lv (.ref 1 :: st) (sx pl kp I A) P ↔ rn (lt_G o L) mm_Road_odds 52 lv (.ref 14 :: st) (sx pl kp I A) P := rx_get (h := "DeltaRoad") (ci := 8) (k := 3) dq_Road_odds_49 (by decide +kernel) ho (up_b (by decide)) rfl rfl (fl_r (by decide) (by decide) (by decide) (by decide))
theorem sq_Road_odds_49_136 (ho : sx_o o pl true) : rn (lt_G o L) mm_Road_odds 49 lv (.ref 136 :: st) (sx pl true I A) P ↔ rn (lt_G o L) mm_Road_odds 52 lv (.ref 149 :: st) (sx pl true I A) P := rx_get (h := "DeltaRoad") (ci := 8) (k := 3) dq_Road_odds_49 (by decide +kernel) ho (up_k (by decide) (by decide)) rfl rfl (fl_k (by decide) (by decide))
theorem dq_Road_odds_52 : decode (km_c mm_Road_odds) 52 = .ok (.aload_n 0, 1) := by decide +kernel
theorem sq_Road_odds_52 : rn G mm_Road_odds 52 [some (.ref z), a1, a2, a3, a4, a5, a6, a7, a8] st S P ↔ rn G mm_Road_odds 53 [some (.ref z), a1, a2, a3, a4, a5, a6, a7, a8] (.ref z :: st) S P := rn_s dq_Road_odds_52 rfl rfl rfl
theorem dq_Road_odds_53 : decode (km_c mm_Road_odds) 53 = .ok (.invokevirtual 250, 3) := by decide +kernel
theorem sq_Road_odds_53_0  {v : Option Value} {S2 : ks_S} (hc : ev (lt_G o L) mm_Road_leastGoingLevel [.ref 0] (sx pl kp I A) v S2) (ho : sx_o o pl kp) (hst : kx_cat st ≤ 8) : rn (lt_G o L) mm_Road_odds 53 lv (.ref 0 :: st) (sx pl kp I A) P ↔ rn (lt_G o L) mm_Road_odds 56 lv (v.toList ++ st) S2 P := rn_cv (k := 0) (host := "") (E' := mm_Road_leastGoingLevel) dq_Road_odds_53 rfl (ok_v rfl (by decide) (by decide) (Nat.le_add_left _ _) hst (Nat.le_of_ble_eq_true rfl) (Or.inr (rc_v ho (up_b (by decide)) rfl))) rfl rfl hc
theorem dq_Road_odds_56 : decode (km_c mm_Road_odds) 56 = .ok (.invokevirtual 260, 3) := by decide +kernel
theorem sq_Road_odds_56_14 {x1 : Int32} {v : Option Value} {S2 : ks_S} (hc : ev (lt_G o L) mm_Weather_totalBelow [.ref 14, .int x1] (sx pl kp I A) v S2) (ho : sx_o o pl kp) (hst : kx_cat st ≤ 8) : rn (lt_G o L) mm_Road_odds 56 lv (.int x1 :: .ref 14 :: st) (sx pl kp I A) P ↔ rn (lt_G o L) mm_Road_odds 59 lv (v.toList ++ st) S2 P := rn_cv (k := 0) (host := "") (E' := mm_Weather_totalBelow) dq_Road_odds_56 rfl (ok_v rfl (by decide) (by decide) (Nat.le_add_left _ _) hst (Nat.le_of_ble_eq_true rfl) (Or.inr (rc_v ho (up_b (by decide)) rfl))) rfl rfl hc
theorem sq_Road_odds_56_149 {x1 : Int32} {v : Option Value} {S2 : ks_S} (hc : ev (lt_G o L) mm_Weather_totalBelow [.ref 149, .int x1] (sx pl true I A) v S2) (ho : sx_o o pl true) (hst : kx_cat st ≤ 8) : rn (lt_G o L) mm_Road_odds 56 lv (.int x1 :: .ref 149 :: st) (sx pl true I A) P ↔ rn (lt_G o L) mm_Road_odds 59 lv (v.toList ++ st) S2 P := rn_cv (k := 0) (host := "") (E' := mm_Weather_totalBelow) dq_Road_odds_56 rfl (ok_v rfl (by decide) (by decide) (Nat.le_add_left _ _) hst (Nat.le_of_ble_eq_true rfl) (Or.inr (rc_v ho (up_k (by decide) (by decide)) rfl))) rfl rfl hc
theorem dq_Road_odds_59 : decode (km_c mm_Road_odds) 59 = .ok (.i2l, 1) := by decide +kernel
theorem sq_Road_odds_59 : rn G mm_Road_odds 59 lv (.int x :: st) S P ↔ rn G mm_Road_odds 60 lv (.long x.toInt64 :: st) S P := rn_s dq_Road_odds_59 rfl rfl rfl
theorem dq_Road_odds_60 : decode (km_c mm_Road_odds) 60 = .ok (.lstore 5, 2) := by decide +kernel
theorem sq_Road_odds_60n : rn G mm_Road_odds 60 [a0, a1, a2, a3, none, a5, a6, a7, a8] (.long y :: st) S P ↔ rn G mm_Road_odds 62 [a0, a1, a2, a3, none, some (.long y), none, a7, a8] st S P := rn_s dq_Road_odds_60 rfl rfl rfl
theorem sq_Road_odds_60i : rn G mm_Road_odds 60 [a0, a1, a2, a3, some (.int x2), a5, a6, a7, a8] (.long y :: st) S P ↔ rn G mm_Road_odds 62 [a0, a1, a2, a3, some (.int x2), some (.long y), none, a7, a8] st S P := rn_s dq_Road_odds_60 rfl rfl rfl
theorem sq_Road_odds_60r : rn G mm_Road_odds 60 [a0, a1, a2, a3, some (.ref z2), a5, a6, a7, a8] (.long y :: st) S P ↔ rn G mm_Road_odds 62 [a0, a1, a2, a3, some (.ref z2), some (.long y), none, a7, a8] st S P := rn_s dq_Road_odds_60 rfl rfl rfl
theorem sq_Road_odds_60l : rn G mm_Road_odds 60 [a0, a1, a2, a3, some (.long y2), a5, a6, a7, a8] (.long y :: st) S P ↔ rn G mm_Road_odds 62 [a0, a1, a2, a3, none, some (.long y), none, a7, a8] st S P := rn_s dq_Road_odds_60 rfl rfl rfl
theorem dq_Road_odds_62 : decode (km_c mm_Road_odds) 62 = .ok (.lload_n 3, 1) := by decide +kernel
theorem sq_Road_odds_62 : rn G mm_Road_odds 62 [a0, a1, a2, some (.long y), a4, a5, a6, a7, a8] st S P ↔ rn G mm_Road_odds 63 [a0, a1, a2, some (.long y), a4, a5, a6, a7, a8] (.long y :: st) S P := rn_s dq_Road_odds_62 rfl rfl rfl
theorem dq_Road_odds_63 : decode (km_c mm_Road_odds) 63 = .ok (.iload_n 1, 1) := by decide +kernel
theorem sq_Road_odds_63 : rn G mm_Road_odds 63 [a0, some (.int x), a2, a3, a4, a5, a6, a7, a8] st S P ↔ rn G mm_Road_odds 64 [a0, some (.int x), a2, a3, a4, a5, a6, a7, a8] (.int x :: st) S P := rn_s dq_Road_odds_63 rfl rfl rfl
theorem dq_Road_odds_64 : decode (km_c mm_Road_odds) 64 = .ok (.invokestatic 263, 3) := by decide +kernel
theorem sq_Road_odds_64 {y1 : Int64} {x2 : Int32} {v : Option Value} {S2 : ks_S} (hc : ev G mm_Road_power [.long y1, .int x2] S v S2) (hst : kx_cat st ≤ 8) : rn G mm_Road_odds 64 lv (.int x2 :: .long y1 :: st) S P ↔ rn G mm_Road_odds 67 lv (v.toList ++ st) S2 P := rn_cs (k := 1) (host := "") (E' := mm_Road_power) dq_Road_odds_64 (by decide) (by decide) rfl (ok_v rfl (by decide) (by decide) (Nat.le_add_left _ _) hst (Nat.le_of_ble_eq_true rfl) (Or.inl rfl)) rfl rfl hc
theorem dq_Road_odds_67 : decode (km_c mm_Road_odds) 67 = .ok (.lstore 7, 2) := by decide +kernel
theorem sq_Road_odds_67n : rn G mm_Road_odds 67 [a0, a1, a2, a3, a4, a5, none, a7, a8] (.long y :: st) S P ↔ rn G mm_Road_odds 69 [a0, a1, a2, a3, a4, a5, none, some (.long y), none] st S P := rn_s dq_Road_odds_67 rfl rfl rfl
theorem sq_Road_odds_67i : rn G mm_Road_odds 67 [a0, a1, a2, a3, a4, a5, some (.int x2), a7, a8] (.long y :: st) S P ↔ rn G mm_Road_odds 69 [a0, a1, a2, a3, a4, a5, some (.int x2), some (.long y), none] st S P := rn_s dq_Road_odds_67 rfl rfl rfl
theorem sq_Road_odds_67r : rn G mm_Road_odds 67 [a0, a1, a2, a3, a4, a5, some (.ref z2), a7, a8] (.long y :: st) S P ↔ rn G mm_Road_odds 69 [a0, a1, a2, a3, a4, a5, some (.ref z2), some (.long y), none] st S P := rn_s dq_Road_odds_67 rfl rfl rfl
theorem sq_Road_odds_67l : rn G mm_Road_odds 67 [a0, a1, a2, a3, a4, a5, some (.long y2), a7, a8] (.long y :: st) S P ↔ rn G mm_Road_odds 69 [a0, a1, a2, a3, a4, a5, none, some (.long y), none] st S P := rn_s dq_Road_odds_67 rfl rfl rfl
theorem dq_Road_odds_69 : decode (km_c mm_Road_odds) 69 = .ok (.lload 7, 2) := by decide +kernel
theorem sq_Road_odds_69 : rn G mm_Road_odds 69 [a0, a1, a2, a3, a4, a5, a6, some (.long y), a8] st S P ↔ rn G mm_Road_odds 71 [a0, a1, a2, a3, a4, a5, a6, some (.long y), a8] (.long y :: st) S P := rn_s dq_Road_odds_69 rfl rfl rfl
theorem dq_Road_odds_71 : decode (km_c mm_Road_odds) 71 = .ok (.lload 5, 2) := by decide +kernel
theorem sq_Road_odds_71 : rn G mm_Road_odds 71 [a0, a1, a2, a3, a4, some (.long y), a6, a7, a8] st S P ↔ rn G mm_Road_odds 73 [a0, a1, a2, a3, a4, some (.long y), a6, a7, a8] (.long y :: st) S P := rn_s dq_Road_odds_71 rfl rfl rfl
theorem dq_Road_odds_73 : decode (km_c mm_Road_odds) 73 = .ok (.iload_n 1, 1) := by decide +kernel
theorem sq_Road_odds_73 : rn G mm_Road_odds 73 [a0, some (.int x), a2, a3, a4, a5, a6, a7, a8] st S P ↔ rn G mm_Road_odds 74 [a0, some (.int x), a2, a3, a4, a5, a6, a7, a8] (.int x :: st) S P := rn_s dq_Road_odds_73 rfl rfl rfl
theorem dq_Road_odds_74 : decode (km_c mm_Road_odds) 74 = .ok (.invokestatic 263, 3) := by decide +kernel
theorem sq_Road_odds_74 {y1 : Int64} {x2 : Int32} {v : Option Value} {S2 : ks_S} (hc : ev G mm_Road_power [.long y1, .int x2] S v S2) (hst : kx_cat st ≤ 8) : rn G mm_Road_odds 74 lv (.int x2 :: .long y1 :: st) S P ↔ rn G mm_Road_odds 77 lv (v.toList ++ st) S2 P := rn_cs (k := 1) (host := "") (E' := mm_Road_power) dq_Road_odds_74 (by decide) (by decide) rfl (ok_v rfl (by decide) (by decide) (Nat.le_add_left _ _) hst (Nat.le_of_ble_eq_true rfl) (Or.inl rfl)) rfl rfl hc
theorem dq_Road_odds_77 : decode (km_c mm_Road_odds) 77 = .ok (.lsub, 1) := by decide +kernel
theorem sq_Road_odds_77 : rn G mm_Road_odds 77 lv (.long y2 :: .long y :: st) S P ↔ rn G mm_Road_odds 78 lv (.long (y - y2) :: st) S P := rn_s dq_Road_odds_77 rfl rfl rfl
theorem dq_Road_odds_78 : decode (km_c mm_Road_odds) 78 = .ok (.lload 7, 2) := by decide +kernel
theorem sq_Road_odds_78 : rn G mm_Road_odds 78 [a0, a1, a2, a3, a4, a5, a6, some (.long y), a8] st S P ↔ rn G mm_Road_odds 80 [a0, a1, a2, a3, a4, a5, a6, some (.long y), a8] (.long y :: st) S P := rn_s dq_Road_odds_78 rfl rfl rfl
theorem dq_Road_odds_80 : decode (km_c mm_Road_odds) 80 = .ok (.iload_n 2, 1) := by decide +kernel
theorem sq_Road_odds_80 : rn G mm_Road_odds 80 [a0, a1, some (.int x), a3, a4, a5, a6, a7, a8] st S P ↔ rn G mm_Road_odds 81 [a0, a1, some (.int x), a3, a4, a5, a6, a7, a8] (.int x :: st) S P := rn_s dq_Road_odds_80 rfl rfl rfl
theorem dq_Road_odds_81 : decode (km_c mm_Road_odds) 81 = .ok (.invokestatic 216, 3) := by decide +kernel
theorem sq_Road_odds_81 {y1 : Int64} {y2 : Int64} {x3 : Int32} {v : Option Value} {S2 : ks_S} (hc : ev G mm_Road_lowestTerms [.long y1, .long y2, .int x3] S v S2) (hst : kx_cat st ≤ 8) : rn G mm_Road_odds 81 lv (.int x3 :: .long y2 :: .long y1 :: st) S P ↔ rn G mm_Road_odds 84 lv (v.toList ++ st) S2 P := rn_cs (k := 1) (host := "") (E' := mm_Road_lowestTerms) dq_Road_odds_81 (by decide) (by decide) rfl (ok_v rfl (by decide) (by decide) (Nat.le_add_left _ _) hst (Nat.le_of_ble_eq_true rfl) (Or.inl rfl)) rfl rfl hc
theorem dq_Road_odds_84 : decode (km_c mm_Road_odds) 84 = .ok (.lreturn, 1) := by decide +kernel
theorem sq_Road_odds_84 : rn G mm_Road_odds 84 lv [.long y] S P ↔ P (some (.long y)) S := rn_lr dq_Road_odds_84 rfl
theorem dq_Road_power_0 : decode (km_c mm_Road_power) 0 = .ok (.lconst 1, 1) := by decide +kernel
theorem sq_Road_power_0 : rn G mm_Road_power 0 lv st S P ↔ rn G mm_Road_power 1 lv (.long (1) :: st) S P := rn_s dq_Road_power_0 rfl rfl rfl
theorem dq_Road_power_1 : decode (km_c mm_Road_power) 1 = .ok (.lstore_n 3, 1) := by decide +kernel
theorem sq_Road_power_1n : rn G mm_Road_power 1 [a0, a1, none, a3, a4, a5] (.long y :: st) S P ↔ rn G mm_Road_power 2 [a0, a1, none, some (.long y), none, a5] st S P := rn_s dq_Road_power_1 rfl rfl rfl
theorem sq_Road_power_1i : rn G mm_Road_power 1 [a0, a1, some (.int x2), a3, a4, a5] (.long y :: st) S P ↔ rn G mm_Road_power 2 [a0, a1, some (.int x2), some (.long y), none, a5] st S P := rn_s dq_Road_power_1 rfl rfl rfl
theorem sq_Road_power_1r : rn G mm_Road_power 1 [a0, a1, some (.ref z2), a3, a4, a5] (.long y :: st) S P ↔ rn G mm_Road_power 2 [a0, a1, some (.ref z2), some (.long y), none, a5] st S P := rn_s dq_Road_power_1 rfl rfl rfl
theorem sq_Road_power_1l : rn G mm_Road_power 1 [a0, a1, some (.long y2), a3, a4, a5] (.long y :: st) S P ↔ rn G mm_Road_power 2 [a0, a1, none, some (.long y), none, a5] st S P := rn_s dq_Road_power_1 rfl rfl rfl
theorem dq_Road_power_2 : decode (km_c mm_Road_power) 2 = .ok (.iconst 0, 1) := by decide +kernel
theorem sq_Road_power_2 : rn G mm_Road_power 2 lv st S P ↔ rn G mm_Road_power 3 lv (.int (nI 0) :: st) S P := rn_s dq_Road_power_2 rfl rfl rfl
theorem dq_Road_power_3 : decode (km_c mm_Road_power) 3 = .ok (.istore 5, 2) := by decide +kernel
theorem sq_Road_power_3n : rn G mm_Road_power 3 [a0, a1, a2, a3, none, a5] (.int x :: st) S P ↔ rn G mm_Road_power 5 [a0, a1, a2, a3, none, some (.int x)] st S P := rn_s dq_Road_power_3 rfl rfl rfl
theorem sq_Road_power_3i : rn G mm_Road_power 3 [a0, a1, a2, a3, some (.int x2), a5] (.int x :: st) S P ↔ rn G mm_Road_power 5 [a0, a1, a2, a3, some (.int x2), some (.int x)] st S P := rn_s dq_Road_power_3 rfl rfl rfl
theorem sq_Road_power_3r : rn G mm_Road_power 3 [a0, a1, a2, a3, some (.ref z2), a5] (.int x :: st) S P ↔ rn G mm_Road_power 5 [a0, a1, a2, a3, some (.ref z2), some (.int x)] st S P := rn_s dq_Road_power_3 rfl rfl rfl
theorem sq_Road_power_3l : rn G mm_Road_power 3 [a0, a1, a2, a3, some (.long y2), a5] (.int x :: st) S P ↔ rn G mm_Road_power 5 [a0, a1, a2, a3, none, some (.int x)] st S P := rn_s dq_Road_power_3 rfl rfl rfl
theorem dq_Road_power_5 : decode (km_c mm_Road_power) 5 = .ok (.iload 5, 2) := by decide +kernel
theorem sq_Road_power_5 : rn G mm_Road_power 5 [a0, a1, a2, a3, a4, some (.int x)] st S P ↔ rn G mm_Road_power 7 [a0, a1, a2, a3, a4, some (.int x)] (.int x :: st) S P := rn_s dq_Road_power_5 rfl rfl rfl
theorem dq_Road_power_7 : decode (km_c mm_Road_power) 7 = .ok (.iload_n 2, 1) := by decide +kernel
theorem sq_Road_power_7 : rn G mm_Road_power 7 [a0, a1, some (.int x), a3, a4, a5] st S P ↔ rn G mm_Road_power 8 [a0, a1, some (.int x), a3, a4, a5] (.int x :: st) S P := rn_s dq_Road_power_7 rfl rfl rfl
theorem dq_Road_power_8 : decode (km_c mm_Road_power) 8 = .ok (.if_icmp .ge 13, 3) := by decide +kernel
theorem sq_Road_power_8 : rn G mm_Road_power 8 lv (.int x2 :: .int x :: st) S P ↔ ((x2 ≤ x → rn G mm_Road_power 21 lv st S P) ∧ (¬ (x2 ≤ x) → rn G mm_Road_power 11 lv st S P)) := rn_b (off := 13) dq_Road_power_8 rfl rfl rfl rfl
theorem dq_Road_power_11 : decode (km_c mm_Road_power) 11 = .ok (.lload_n 3, 1) := by decide +kernel
theorem sq_Road_power_11 : rn G mm_Road_power 11 [a0, a1, a2, some (.long y), a4, a5] st S P ↔ rn G mm_Road_power 12 [a0, a1, a2, some (.long y), a4, a5] (.long y :: st) S P := rn_s dq_Road_power_11 rfl rfl rfl
theorem dq_Road_power_12 : decode (km_c mm_Road_power) 12 = .ok (.lload_n 0, 1) := by decide +kernel
theorem sq_Road_power_12 : rn G mm_Road_power 12 [some (.long y), a1, a2, a3, a4, a5] st S P ↔ rn G mm_Road_power 13 [some (.long y), a1, a2, a3, a4, a5] (.long y :: st) S P := rn_s dq_Road_power_12 rfl rfl rfl
theorem dq_Road_power_13 : decode (km_c mm_Road_power) 13 = .ok (.lmul, 1) := by decide +kernel
theorem sq_Road_power_13 : rn G mm_Road_power 13 lv (.long y2 :: .long y :: st) S P ↔ rn G mm_Road_power 14 lv (.long (y * y2) :: st) S P := rn_s dq_Road_power_13 rfl rfl rfl
theorem dq_Road_power_14 : decode (km_c mm_Road_power) 14 = .ok (.lstore_n 3, 1) := by decide +kernel
theorem sq_Road_power_14n : rn G mm_Road_power 14 [a0, a1, none, a3, a4, a5] (.long y :: st) S P ↔ rn G mm_Road_power 15 [a0, a1, none, some (.long y), none, a5] st S P := rn_s dq_Road_power_14 rfl rfl rfl
theorem sq_Road_power_14i : rn G mm_Road_power 14 [a0, a1, some (.int x2), a3, a4, a5] (.long y :: st) S P ↔ rn G mm_Road_power 15 [a0, a1, some (.int x2), some (.long y), none, a5] st S P := rn_s dq_Road_power_14 rfl rfl rfl
theorem sq_Road_power_14r : rn G mm_Road_power 14 [a0, a1, some (.ref z2), a3, a4, a5] (.long y :: st) S P ↔ rn G mm_Road_power 15 [a0, a1, some (.ref z2), some (.long y), none, a5] st S P := rn_s dq_Road_power_14 rfl rfl rfl
theorem sq_Road_power_14l : rn G mm_Road_power 14 [a0, a1, some (.long y2), a3, a4, a5] (.long y :: st) S P ↔ rn G mm_Road_power 15 [a0, a1, none, some (.long y), none, a5] st S P := rn_s dq_Road_power_14 rfl rfl rfl
theorem dq_Road_power_15 : decode (km_c mm_Road_power) 15 = .ok (.iinc 5 1, 3) := by decide +kernel
theorem sq_Road_power_15n : rn G mm_Road_power 15 [a0, a1, a2, a3, none, some (.int x)] st S P ↔ rn G mm_Road_power 18 [a0, a1, a2, a3, none, some (.int (x + nI 1))] st S P := rn_s dq_Road_power_15 rfl rfl rfl
theorem sq_Road_power_15i : rn G mm_Road_power 15 [a0, a1, a2, a3, some (.int x2), some (.int x)] st S P ↔ rn G mm_Road_power 18 [a0, a1, a2, a3, some (.int x2), some (.int (x + nI 1))] st S P := rn_s dq_Road_power_15 rfl rfl rfl
theorem sq_Road_power_15r : rn G mm_Road_power 15 [a0, a1, a2, a3, some (.ref z2), some (.int x)] st S P ↔ rn G mm_Road_power 18 [a0, a1, a2, a3, some (.ref z2), some (.int (x + nI 1))] st S P := rn_s dq_Road_power_15 rfl rfl rfl
theorem sq_Road_power_15l : rn G mm_Road_power 15 [a0, a1, a2, a3, some (.long y2), some (.int x)] st S P ↔ rn G mm_Road_power 18 [a0, a1, a2, a3, none, some (.int (x + nI 1))] st S P := rn_s dq_Road_power_15 rfl rfl rfl
theorem dq_Road_power_18 : decode (km_c mm_Road_power) 18 = .ok (.goto (-13), 3) := by decide +kernel
theorem sq_Road_power_18 : rn G mm_Road_power 18 lv st S P ↔ rn G mm_Road_power 5 lv st S P := rn_s dq_Road_power_18 rfl rfl rfl
theorem dq_Road_power_21 : decode (km_c mm_Road_power) 21 = .ok (.lload_n 3, 1) := by decide +kernel
theorem sq_Road_power_21 : rn G mm_Road_power 21 [a0, a1, a2, some (.long y), a4, a5] st S P ↔ rn G mm_Road_power 22 [a0, a1, a2, some (.long y), a4, a5] (.long y :: st) S P := rn_s dq_Road_power_21 rfl rfl rfl
theorem dq_Road_power_22 : decode (km_c mm_Road_power) 22 = .ok (.lreturn, 1) := by decide +kernel
theorem sq_Road_power_22 : rn G mm_Road_power 22 lv [.long y] S P ↔ P (some (.long y)) S := rn_lr dq_Road_power_22 rfl
theorem dq_Road_weeks_0 : decode (km_c mm_Road_weeks) 0 = .ok (.iload_n 1, 1) := by decide +kernel
theorem sq_Road_weeks_0 : rn G mm_Road_weeks 0 [a0, some (.int x), a2, a3] st S P ↔ rn G mm_Road_weeks 1 [a0, some (.int x), a2, a3] (.int x :: st) S P := rn_s dq_Road_weeks_0 rfl rfl rfl
theorem dq_Road_weeks_1 : decode (km_c mm_Road_weeks) 1 = .ok (.iconst 1, 1) := by decide +kernel
theorem sq_Road_weeks_1 : rn G mm_Road_weeks 1 lv st S P ↔ rn G mm_Road_weeks 2 lv (.int (nI 1) :: st) S P := rn_s dq_Road_weeks_1 rfl rfl rfl
theorem dq_Road_weeks_2 : decode (km_c mm_Road_weeks) 2 = .ok (.bipush 60, 2) := by decide +kernel
theorem sq_Road_weeks_2 : rn G mm_Road_weeks 2 lv st S P ↔ rn G mm_Road_weeks 4 lv (.int (nI 60) :: st) S P := rn_s dq_Road_weeks_2 rfl rfl rfl
theorem dq_Road_weeks_4 : decode (km_c mm_Road_weeks) 4 = .ok (.invokestatic 72, 3) := by decide +kernel
theorem sq_Road_weeks_4 {x1 : Int32} {x2 : Int32} {x3 : Int32} {v : Option Value} {S2 : ks_S} (hc : ev G mm_Road_outside [.int x1, .int x2, .int x3] S v S2) (hst : kx_cat st ≤ 8) : rn G mm_Road_weeks 4 lv (.int x3 :: .int x2 :: .int x1 :: st) S P ↔ rn G mm_Road_weeks 7 lv (v.toList ++ st) S2 P := rn_cs (k := 1) (host := "") (E' := mm_Road_outside) dq_Road_weeks_4 (by decide) (by decide) rfl (ok_v rfl (by decide) (by decide) (Nat.le_add_left _ _) hst (Nat.le_of_ble_eq_true rfl) (Or.inl rfl)) rfl rfl hc
theorem dq_Road_weeks_7 : decode (km_c mm_Road_weeks) 7 = .ok (.ifCond .eq 5, 3) := by decide +kernel
theorem sq_Road_weeks_7 : rn G mm_Road_weeks 7 lv (.int x :: st) S P ↔ ((x = 0 → rn G mm_Road_weeks 12 lv st S P) ∧ (¬ (x = 0) → rn G mm_Road_weeks 10 lv st S P)) := rn_b (off := 5) dq_Road_weeks_7 rfl rfl rfl rfl
theorem dq_Road_weeks_10 : decode (km_c mm_Road_weeks) 10 = .ok (.iconst (-1), 1) := by decide +kernel
theorem sq_Road_weeks_10 : rn G mm_Road_weeks 10 lv st S P ↔ rn G mm_Road_weeks 11 lv (.int ((-1)) :: st) S P := rn_s dq_Road_weeks_10 rfl rfl rfl
theorem dq_Road_weeks_11 : decode (km_c mm_Road_weeks) 11 = .ok (.ireturn, 1) := by decide +kernel
theorem sq_Road_weeks_11 : rn G mm_Road_weeks 11 lv [.int x] S P ↔ P (some (.int x)) S := rn_ir dq_Road_weeks_11 rfl
theorem dq_Road_weeks_12 : decode (km_c mm_Road_weeks) 12 = .ok (.aload_n 0, 1) := by decide +kernel
theorem sq_Road_weeks_12 : rn G mm_Road_weeks 12 [some (.ref z), a1, a2, a3] st S P ↔ rn G mm_Road_weeks 13 [some (.ref z), a1, a2, a3] (.ref z :: st) S P := rn_s dq_Road_weeks_12 rfl rfl rfl
theorem dq_Road_weeks_13 : decode (km_c mm_Road_weeks) 13 = .ok (.getfield 10, 3) := by decide +kernel
theorem sq_Road_weeks_13_0 (ho : sx_o o pl kp) : rn (lt_G o L) mm_Road_weeks 13 lv (.ref 0 :: st) (sx pl kp I A) P ↔ rn (lt_G o L) mm_Road_weeks 16 lv (.ref 1 :: st) (sx pl kp I A) P := rx_get (h := "") (ci := 9) (k := 0) dq_Road_weeks_13 (by decide +kernel) ho (up_b (by decide)) rfl rfl (fl_r (by decide) (by decide) (by decide) (by decide))
theorem dq_Road_weeks_16 : decode (km_c mm_Road_weeks) 16 = .ok (.getfield 160, 3) := by decide +kernel
theorem sq_Road_weeks_16_1 (ho : sx_o o pl kp) : rn (lt_G o L) mm_Road_weeks 16 lv (.ref 1 :: st) (sx pl kp I A) P ↔ rn (lt_G o L) mm_Road_weeks 19 lv (.ref 14 :: st) (sx pl kp I A) P := rx_get (h := "DeltaRoad") (ci := 8) (k := 3) dq_Road_weeks_16 (by decide +kernel) ho (up_b (by decide)) rfl rfl (fl_r (by decide) (by decide) (by decide) (by decide))
theorem sq_Road_weeks_16_136 (ho : sx_o o pl true) : rn (lt_G o L) mm_Road_weeks 16 lv (.ref 136 :: st) (sx pl true I A) P ↔ rn (lt_G o L) mm_Road_weeks 19 lv (.ref 149 :: st) (sx pl true I A) P := rx_get (h := "DeltaRoad") (ci := 8) (k := 3) dq_Road_weeks_16 (by decide +kernel) ho (up_k (by decide) (by decide)) rfl rfl (fl_k (by decide) (by decide))
theorem dq_Road_weeks_19 : decode (km_c mm_Road_weeks) 19 = .ok (.invokevirtual 164, 3) := by decide +kernel
theorem sq_Road_weeks_19_14  {v : Option Value} {S2 : ks_S} (hc : ev (lt_G o L) mm_Weather_total [.ref 14] (sx pl kp I A) v S2) (ho : sx_o o pl kp) (hst : kx_cat st ≤ 8) : rn (lt_G o L) mm_Road_weeks 19 lv (.ref 14 :: st) (sx pl kp I A) P ↔ rn (lt_G o L) mm_Road_weeks 22 lv (v.toList ++ st) S2 P := rn_cv (k := 0) (host := "") (E' := mm_Weather_total) dq_Road_weeks_19 rfl (ok_v rfl (by decide) (by decide) (Nat.le_add_left _ _) hst (Nat.le_of_ble_eq_true rfl) (Or.inr (rc_v ho (up_b (by decide)) rfl))) rfl rfl hc
theorem sq_Road_weeks_19_149  {v : Option Value} {S2 : ks_S} (hc : ev (lt_G o L) mm_Weather_total [.ref 149] (sx pl true I A) v S2) (ho : sx_o o pl true) (hst : kx_cat st ≤ 8) : rn (lt_G o L) mm_Road_weeks 19 lv (.ref 149 :: st) (sx pl true I A) P ↔ rn (lt_G o L) mm_Road_weeks 22 lv (v.toList ++ st) S2 P := rn_cv (k := 0) (host := "") (E' := mm_Weather_total) dq_Road_weeks_19 rfl (ok_v rfl (by decide) (by decide) (Nat.le_add_left _ _) hst (Nat.le_of_ble_eq_true rfl) (Or.inr (rc_v ho (up_k (by decide) (by decide)) rfl))) rfl rfl hc
theorem dq_Road_weeks_22 : decode (km_c mm_Road_weeks) 22 = .ok (.ifCond .gt 6, 3) := by decide +kernel
theorem sq_Road_weeks_22 : rn G mm_Road_weeks 22 lv (.int x :: st) S P ↔ ((0 < x → rn G mm_Road_weeks 28 lv st S P) ∧ (¬ (0 < x) → rn G mm_Road_weeks 25 lv st S P)) := rn_b (off := 6) dq_Road_weeks_22 rfl rfl rfl rfl
theorem dq_Road_weeks_25 : decode (km_c mm_Road_weeks) 25 = .ok (.bipush (-2), 2) := by decide +kernel
theorem sq_Road_weeks_25 : rn G mm_Road_weeks 25 lv st S P ↔ rn G mm_Road_weeks 27 lv (.int ((-2)) :: st) S P := rn_s dq_Road_weeks_25 rfl rfl rfl
theorem dq_Road_weeks_27 : decode (km_c mm_Road_weeks) 27 = .ok (.ireturn, 1) := by decide +kernel
theorem sq_Road_weeks_27 : rn G mm_Road_weeks 27 lv [.int x] S P ↔ P (some (.int x)) S := rn_ir dq_Road_weeks_27 rfl
theorem dq_Road_weeks_28 : decode (km_c mm_Road_weeks) 28 = .ok (.iconst 1, 1) := by decide +kernel
theorem sq_Road_weeks_28 : rn G mm_Road_weeks 28 lv st S P ↔ rn G mm_Road_weeks 29 lv (.int (nI 1) :: st) S P := rn_s dq_Road_weeks_28 rfl rfl rfl
theorem dq_Road_weeks_29 : decode (km_c mm_Road_weeks) 29 = .ok (.istore_n 2, 1) := by decide +kernel
theorem sq_Road_weeks_29n : rn G mm_Road_weeks 29 [a0, none, a2, a3] (.int x :: st) S P ↔ rn G mm_Road_weeks 30 [a0, none, some (.int x), a3] st S P := rn_s dq_Road_weeks_29 rfl rfl rfl
theorem sq_Road_weeks_29i : rn G mm_Road_weeks 29 [a0, some (.int x2), a2, a3] (.int x :: st) S P ↔ rn G mm_Road_weeks 30 [a0, some (.int x2), some (.int x), a3] st S P := rn_s dq_Road_weeks_29 rfl rfl rfl
theorem sq_Road_weeks_29r : rn G mm_Road_weeks 29 [a0, some (.ref z2), a2, a3] (.int x :: st) S P ↔ rn G mm_Road_weeks 30 [a0, some (.ref z2), some (.int x), a3] st S P := rn_s dq_Road_weeks_29 rfl rfl rfl
theorem dq_Road_weeks_30 : decode (km_c mm_Road_weeks) 30 = .ok (.iload_n 2, 1) := by decide +kernel
theorem sq_Road_weeks_30 : rn G mm_Road_weeks 30 [a0, a1, some (.int x), a3] st S P ↔ rn G mm_Road_weeks 31 [a0, a1, some (.int x), a3] (.int x :: st) S P := rn_s dq_Road_weeks_30 rfl rfl rfl
theorem dq_Road_weeks_31 : decode (km_c mm_Road_weeks) 31 = .ok (.iload_n 1, 1) := by decide +kernel
theorem sq_Road_weeks_31 : rn G mm_Road_weeks 31 [a0, some (.int x), a2, a3] st S P ↔ rn G mm_Road_weeks 32 [a0, some (.int x), a2, a3] (.int x :: st) S P := rn_s dq_Road_weeks_31 rfl rfl rfl
theorem dq_Road_weeks_32 : decode (km_c mm_Road_weeks) 32 = .ok (.if_icmp .gt 68, 3) := by decide +kernel
theorem sq_Road_weeks_32 : rn G mm_Road_weeks 32 lv (.int x2 :: .int x :: st) S P ↔ ((x2 < x → rn G mm_Road_weeks 100 lv st S P) ∧ (¬ (x2 < x) → rn G mm_Road_weeks 35 lv st S P)) := rn_b (off := 68) dq_Road_weeks_32 rfl rfl rfl rfl
theorem dq_Road_weeks_35 : decode (km_c mm_Road_weeks) 35 = .ok (.aload_n 0, 1) := by decide +kernel
theorem sq_Road_weeks_35 : rn G mm_Road_weeks 35 [some (.ref z), a1, a2, a3] st S P ↔ rn G mm_Road_weeks 36 [some (.ref z), a1, a2, a3] (.ref z :: st) S P := rn_s dq_Road_weeks_35 rfl rfl rfl
theorem dq_Road_weeks_36 : decode (km_c mm_Road_weeks) 36 = .ok (.getfield 10, 3) := by decide +kernel
theorem sq_Road_weeks_36_0 (ho : sx_o o pl kp) : rn (lt_G o L) mm_Road_weeks 36 lv (.ref 0 :: st) (sx pl kp I A) P ↔ rn (lt_G o L) mm_Road_weeks 39 lv (.ref 1 :: st) (sx pl kp I A) P := rx_get (h := "") (ci := 9) (k := 0) dq_Road_weeks_36 (by decide +kernel) ho (up_b (by decide)) rfl rfl (fl_r (by decide) (by decide) (by decide) (by decide))
theorem dq_Road_weeks_39 : decode (km_c mm_Road_weeks) 39 = .ok (.getfield 80, 3) := by decide +kernel
theorem sq_Road_weeks_39_1 (ho : sx_o o pl kp) : rn (lt_G o L) mm_Road_weeks 39 lv (.ref 1 :: st) (sx pl kp I A) P ↔ rn (lt_G o L) mm_Road_weeks 42 lv (.ref 2 :: st) (sx pl kp I A) P := rx_get (h := "DeltaRoad") (ci := 8) (k := 0) dq_Road_weeks_39 (by decide +kernel) ho (up_b (by decide)) rfl rfl (fl_r (by decide) (by decide) (by decide) (by decide))
theorem sq_Road_weeks_39_136 (ho : sx_o o pl true) : rn (lt_G o L) mm_Road_weeks 39 lv (.ref 136 :: st) (sx pl true I A) P ↔ rn (lt_G o L) mm_Road_weeks 42 lv (.ref 137 :: st) (sx pl true I A) P := rx_get (h := "DeltaRoad") (ci := 8) (k := 0) dq_Road_weeks_39 (by decide +kernel) ho (up_k (by decide) (by decide)) rfl rfl (fl_k (by decide) (by decide))
theorem dq_Road_weeks_42 : decode (km_c mm_Road_weeks) 42 = .ok (.aload_n 0, 1) := by decide +kernel
theorem sq_Road_weeks_42 : rn G mm_Road_weeks 42 [some (.ref z), a1, a2, a3] st S P ↔ rn G mm_Road_weeks 43 [some (.ref z), a1, a2, a3] (.ref z :: st) S P := rn_s dq_Road_weeks_42 rfl rfl rfl
theorem dq_Road_weeks_43 : decode (km_c mm_Road_weeks) 43 = .ok (.getfield 10, 3) := by decide +kernel
theorem sq_Road_weeks_43_0 (ho : sx_o o pl kp) : rn (lt_G o L) mm_Road_weeks 43 lv (.ref 0 :: st) (sx pl kp I A) P ↔ rn (lt_G o L) mm_Road_weeks 46 lv (.ref 1 :: st) (sx pl kp I A) P := rx_get (h := "") (ci := 9) (k := 0) dq_Road_weeks_43 (by decide +kernel) ho (up_b (by decide)) rfl rfl (fl_r (by decide) (by decide) (by decide) (by decide))
theorem dq_Road_weeks_46 : decode (km_c mm_Road_weeks) 46 = .ok (.getfield 160, 3) := by decide +kernel
theorem sq_Road_weeks_46_1 (ho : sx_o o pl kp) : rn (lt_G o L) mm_Road_weeks 46 lv (.ref 1 :: st) (sx pl kp I A) P ↔ rn (lt_G o L) mm_Road_weeks 49 lv (.ref 14 :: st) (sx pl kp I A) P := rx_get (h := "DeltaRoad") (ci := 8) (k := 3) dq_Road_weeks_46 (by decide +kernel) ho (up_b (by decide)) rfl rfl (fl_r (by decide) (by decide) (by decide) (by decide))
theorem sq_Road_weeks_46_136 (ho : sx_o o pl true) : rn (lt_G o L) mm_Road_weeks 46 lv (.ref 136 :: st) (sx pl true I A) P ↔ rn (lt_G o L) mm_Road_weeks 49 lv (.ref 149 :: st) (sx pl true I A) P := rx_get (h := "DeltaRoad") (ci := 8) (k := 3) dq_Road_weeks_46 (by decide +kernel) ho (up_k (by decide) (by decide)) rfl rfl (fl_k (by decide) (by decide))
theorem dq_Road_weeks_49 : decode (km_c mm_Road_weeks) 49 = .ok (.invokevirtual 267, 3) := by decide +kernel
theorem sq_Road_weeks_49_14  {v : Option Value} {S2 : ks_S} (hc : ev (lt_G o L) mm_Weather_nextLevel [.ref 14] (sx pl kp I A) v S2) (ho : sx_o o pl kp) (hst : kx_cat st ≤ 8) : rn (lt_G o L) mm_Road_weeks 49 lv (.ref 14 :: st) (sx pl kp I A) P ↔ rn (lt_G o L) mm_Road_weeks 52 lv (v.toList ++ st) S2 P := rn_cv (k := 0) (host := "") (E' := mm_Weather_nextLevel) dq_Road_weeks_49 rfl (ok_v rfl (by decide) (by decide) (Nat.le_add_left _ _) hst (Nat.le_of_ble_eq_true rfl) (Or.inr (rc_v ho (up_b (by decide)) rfl))) rfl rfl hc
theorem sq_Road_weeks_49_149  {v : Option Value} {S2 : ks_S} (hc : ev (lt_G o L) mm_Weather_nextLevel [.ref 149] (sx pl true I A) v S2) (ho : sx_o o pl true) (hst : kx_cat st ≤ 8) : rn (lt_G o L) mm_Road_weeks 49 lv (.ref 149 :: st) (sx pl true I A) P ↔ rn (lt_G o L) mm_Road_weeks 52 lv (v.toList ++ st) S2 P := rn_cv (k := 0) (host := "") (E' := mm_Weather_nextLevel) dq_Road_weeks_49 rfl (ok_v rfl (by decide) (by decide) (Nat.le_add_left _ _) hst (Nat.le_of_ble_eq_true rfl) (Or.inr (rc_v ho (up_k (by decide) (by decide)) rfl))) rfl rfl hc
theorem dq_Road_weeks_52 : decode (km_c mm_Road_weeks) 52 = .ok (.putfield 104, 3) := by decide +kernel
theorem sq_Road_weeks_52_2 (ho : sx_o o pl kp) : rn (lt_G o L) mm_Road_weeks 52 lv (.int x :: .ref 2 :: st) (sx pl kp I A) P ↔ rn (lt_G o L) mm_Road_weeks 55 lv st (sx pl kp (u2 I 2 1 x) A) P := rx_put (h := "DeltaRoad") (ci := 0) (k := 1) dq_Road_weeks_52 (by decide +kernel) ho (up_b (by decide)) rfl rfl (by decide) (by decide)
theorem sq_Road_weeks_52_35 (ho : sx_o o pl kp) : rn (lt_G o L) mm_Road_weeks 52 lv (.int x :: .ref 35 :: st) (sx pl kp I A) P ↔ rn (lt_G o L) mm_Road_weeks 55 lv st (sx pl kp (u2 I 35 1 x) A) P := rx_put (h := "DeltaRoad") (ci := 0) (k := 1) dq_Road_weeks_52 (by decide +kernel) ho (up_b (by decide)) rfl rfl (by decide) (by decide)
theorem sq_Road_weeks_52_137 (ho : sx_o o pl true) : rn (lt_G o L) mm_Road_weeks 52 lv (.int x :: .ref 137 :: st) (sx pl true I A) P ↔ rn (lt_G o L) mm_Road_weeks 55 lv st (sx pl true (u2 I 137 1 x) A) P := rx_put (h := "DeltaRoad") (ci := 0) (k := 1) dq_Road_weeks_52 (by decide +kernel) ho (up_k (by decide) (by decide)) rfl rfl (by decide) (by decide)
theorem dq_Road_weeks_55 : decode (km_c mm_Road_weeks) 55 = .ok (.aload_n 0, 1) := by decide +kernel
theorem sq_Road_weeks_55 : rn G mm_Road_weeks 55 [some (.ref z), a1, a2, a3] st S P ↔ rn G mm_Road_weeks 56 [some (.ref z), a1, a2, a3] (.ref z :: st) S P := rn_s dq_Road_weeks_55 rfl rfl rfl
theorem dq_Road_weeks_56 : decode (km_c mm_Road_weeks) 56 = .ok (.invokevirtual 87, 3) := by decide +kernel
theorem sq_Road_weeks_56_0  {v : Option Value} {S2 : ks_S} (hc : ev (lt_G o L) mm_Road_forget [.ref 0] (sx pl kp I A) v S2) (ho : sx_o o pl kp) (hst : kx_cat st ≤ 8) : rn (lt_G o L) mm_Road_weeks 56 lv (.ref 0 :: st) (sx pl kp I A) P ↔ rn (lt_G o L) mm_Road_weeks 59 lv (v.toList ++ st) S2 P := rn_cv (k := 0) (host := "") (E' := mm_Road_forget) dq_Road_weeks_56 rfl (ok_v rfl (by decide) (by decide) (Nat.le_add_left _ _) hst (Nat.le_of_ble_eq_true rfl) (Or.inr (rc_v ho (up_b (by decide)) rfl))) rfl rfl hc
theorem dq_Road_weeks_59 : decode (km_c mm_Road_weeks) 59 = .ok (.aload_n 0, 1) := by decide +kernel
theorem sq_Road_weeks_59 : rn G mm_Road_weeks 59 [some (.ref z), a1, a2, a3] st S P ↔ rn G mm_Road_weeks 60 [some (.ref z), a1, a2, a3] (.ref z :: st) S P := rn_s dq_Road_weeks_59 rfl rfl rfl
theorem dq_Road_weeks_60 : decode (km_c mm_Road_weeks) 60 = .ok (.invokevirtual 90, 3) := by decide +kernel
theorem sq_Road_weeks_60_0  {v : Option Value} {S2 : ks_S} (hc : ev (lt_G o L) mm_Road_waterNow [.ref 0] (sx pl kp I A) v S2) (ho : sx_o o pl kp) (hst : kx_cat st ≤ 8) : rn (lt_G o L) mm_Road_weeks 60 lv (.ref 0 :: st) (sx pl kp I A) P ↔ rn (lt_G o L) mm_Road_weeks 63 lv (v.toList ++ st) S2 P := rn_cv (k := 0) (host := "") (E' := mm_Road_waterNow) dq_Road_weeks_60 rfl (ok_v rfl (by decide) (by decide) (Nat.le_add_left _ _) hst (Nat.le_of_ble_eq_true rfl) (Or.inr (rc_v ho (up_b (by decide)) rfl))) rfl rfl hc
theorem dq_Road_weeks_63 : decode (km_c mm_Road_weeks) 63 = .ok (.aload_n 0, 1) := by decide +kernel
theorem sq_Road_weeks_63 : rn G mm_Road_weeks 63 [some (.ref z), a1, a2, a3] st S P ↔ rn G mm_Road_weeks 64 [some (.ref z), a1, a2, a3] (.ref z :: st) S P := rn_s dq_Road_weeks_63 rfl rfl rfl
theorem dq_Road_weeks_64 : decode (km_c mm_Road_weeks) 64 = .ok (.getfield 10, 3) := by decide +kernel
theorem sq_Road_weeks_64_0 (ho : sx_o o pl kp) : rn (lt_G o L) mm_Road_weeks 64 lv (.ref 0 :: st) (sx pl kp I A) P ↔ rn (lt_G o L) mm_Road_weeks 67 lv (.ref 1 :: st) (sx pl kp I A) P := rx_get (h := "") (ci := 9) (k := 0) dq_Road_weeks_64 (by decide +kernel) ho (up_b (by decide)) rfl rfl (fl_r (by decide) (by decide) (by decide) (by decide))
theorem dq_Road_weeks_67 : decode (km_c mm_Road_weeks) 67 = .ok (.getfield 150, 3) := by decide +kernel
theorem sq_Road_weeks_67_1 (ho : sx_o o pl kp) : rn (lt_G o L) mm_Road_weeks 67 lv (.ref 1 :: st) (sx pl kp I A) P ↔ rn (lt_G o L) mm_Road_weeks 70 lv (.ref 12 :: st) (sx pl kp I A) P := rx_get (h := "DeltaRoad") (ci := 8) (k := 2) dq_Road_weeks_67 (by decide +kernel) ho (up_b (by decide)) rfl rfl (fl_r (by decide) (by decide) (by decide) (by decide))
theorem sq_Road_weeks_67_136 (ho : sx_o o pl true) : rn (lt_G o L) mm_Road_weeks 67 lv (.ref 136 :: st) (sx pl true I A) P ↔ rn (lt_G o L) mm_Road_weeks 70 lv (.ref 147 :: st) (sx pl true I A) P := rx_get (h := "DeltaRoad") (ci := 8) (k := 2) dq_Road_weeks_67 (by decide +kernel) ho (up_k (by decide) (by decide)) rfl rfl (fl_k (by decide) (by decide))
theorem dq_Road_weeks_70 : decode (km_c mm_Road_weeks) 70 = .ok (.invokevirtual 243, 3) := by decide +kernel
theorem sq_Road_weeks_70_16 {z1 : Nat} {v : Option Value} {S2 : ks_S} (hc : ev (lt_G o L) mm_Water_deepest [.ref 16, .ref z1] (sx pl kp I A) v S2) (ho : sx_o o pl kp) (hst : kx_cat st ≤ 8) : rn (lt_G o L) mm_Road_weeks 70 lv (.ref z1 :: .ref 16 :: st) (sx pl kp I A) P ↔ rn (lt_G o L) mm_Road_weeks 73 lv (v.toList ++ st) S2 P := rn_cv (k := 0) (host := "") (E' := mm_Water_deepest) dq_Road_weeks_70 rfl (ok_v rfl (by decide) (by decide) (Nat.le_add_left _ _) hst (Nat.le_of_ble_eq_true rfl) (Or.inr (rc_v ho (up_b (by decide)) rfl))) rfl rfl hc
theorem sq_Road_weeks_70_20 {z1 : Nat} {v : Option Value} {S2 : ks_S} (hc : ev (lt_G o L) mm_Water_deepest [.ref 20, .ref z1] (sx pl kp I A) v S2) (ho : sx_o o pl kp) (hst : kx_cat st ≤ 8) : rn (lt_G o L) mm_Road_weeks 70 lv (.ref z1 :: .ref 20 :: st) (sx pl kp I A) P ↔ rn (lt_G o L) mm_Road_weeks 73 lv (v.toList ++ st) S2 P := rn_cv (k := 0) (host := "") (E' := mm_Water_deepest) dq_Road_weeks_70 rfl (ok_v rfl (by decide) (by decide) (Nat.le_add_left _ _) hst (Nat.le_of_ble_eq_true rfl) (Or.inr (rc_v ho (up_b (by decide)) rfl))) rfl rfl hc
theorem dq_Road_weeks_73 : decode (km_c mm_Road_weeks) 73 = .ok (.iconst 3, 1) := by decide +kernel
theorem sq_Road_weeks_73 : rn G mm_Road_weeks 73 lv st S P ↔ rn G mm_Road_weeks 74 lv (.int (nI 3) :: st) S P := rn_s dq_Road_weeks_73 rfl rfl rfl
theorem dq_Road_weeks_74 : decode (km_c mm_Road_weeks) 74 = .ok (.if_icmp .le 7, 3) := by decide +kernel
theorem sq_Road_weeks_74 : rn G mm_Road_weeks 74 lv (.int x2 :: .int x :: st) S P ↔ ((x ≤ x2 → rn G mm_Road_weeks 81 lv st S P) ∧ (¬ (x ≤ x2) → rn G mm_Road_weeks 77 lv st S P)) := rn_b (off := 7) dq_Road_weeks_74 rfl rfl rfl rfl
theorem dq_Road_weeks_77 : decode (km_c mm_Road_weeks) 77 = .ok (.iconst 1, 1) := by decide +kernel
theorem sq_Road_weeks_77 : rn G mm_Road_weeks 77 lv st S P ↔ rn G mm_Road_weeks 78 lv (.int (nI 1) :: st) S P := rn_s dq_Road_weeks_77 rfl rfl rfl
theorem dq_Road_weeks_78 : decode (km_c mm_Road_weeks) 78 = .ok (.goto 4, 3) := by decide +kernel
theorem sq_Road_weeks_78 : rn G mm_Road_weeks 78 lv st S P ↔ rn G mm_Road_weeks 82 lv st S P := rn_s dq_Road_weeks_78 rfl rfl rfl
theorem dq_Road_weeks_81 : decode (km_c mm_Road_weeks) 81 = .ok (.iconst 0, 1) := by decide +kernel
theorem sq_Road_weeks_81 : rn G mm_Road_weeks 81 lv st S P ↔ rn G mm_Road_weeks 82 lv (.int (nI 0) :: st) S P := rn_s dq_Road_weeks_81 rfl rfl rfl
theorem dq_Road_weeks_82 : decode (km_c mm_Road_weeks) 82 = .ok (.istore_n 3, 1) := by decide +kernel
theorem sq_Road_weeks_82n : rn G mm_Road_weeks 82 [a0, a1, none, a3] (.int x :: st) S P ↔ rn G mm_Road_weeks 83 [a0, a1, none, some (.int x)] st S P := rn_s dq_Road_weeks_82 rfl rfl rfl
theorem sq_Road_weeks_82i : rn G mm_Road_weeks 82 [a0, a1, some (.int x2), a3] (.int x :: st) S P ↔ rn G mm_Road_weeks 83 [a0, a1, some (.int x2), some (.int x)] st S P := rn_s dq_Road_weeks_82 rfl rfl rfl
theorem sq_Road_weeks_82r : rn G mm_Road_weeks 82 [a0, a1, some (.ref z2), a3] (.int x :: st) S P ↔ rn G mm_Road_weeks 83 [a0, a1, some (.ref z2), some (.int x)] st S P := rn_s dq_Road_weeks_82 rfl rfl rfl
theorem dq_Road_weeks_83 : decode (km_c mm_Road_weeks) 83 = .ok (.aload_n 0, 1) := by decide +kernel
theorem sq_Road_weeks_83 : rn G mm_Road_weeks 83 [some (.ref z), a1, a2, a3] st S P ↔ rn G mm_Road_weeks 84 [some (.ref z), a1, a2, a3] (.ref z :: st) S P := rn_s dq_Road_weeks_83 rfl rfl rfl
theorem dq_Road_weeks_84 : decode (km_c mm_Road_weeks) 84 = .ok (.invokevirtual 112, 3) := by decide +kernel
theorem sq_Road_weeks_84_0  {v : Option Value} {S2 : ks_S} (hc : ev (lt_G o L) mm_Road_runFlood [.ref 0] (sx pl kp I A) v S2) (ho : sx_o o pl kp) (hst : kx_cat st ≤ 8) : rn (lt_G o L) mm_Road_weeks 84 lv (.ref 0 :: st) (sx pl kp I A) P ↔ rn (lt_G o L) mm_Road_weeks 87 lv (v.toList ++ st) S2 P := rn_cv (k := 0) (host := "") (E' := mm_Road_runFlood) dq_Road_weeks_84 rfl (ok_v rfl (by decide) (by decide) (Nat.le_add_left _ _) hst (Nat.le_of_ble_eq_true rfl) (Or.inr (rc_v ho (up_b (by decide)) rfl))) rfl rfl hc
theorem dq_Road_weeks_87 : decode (km_c mm_Road_weeks) 87 = .ok (.pop, 1) := by decide +kernel
theorem sq_Road_weeks_87i : rn G mm_Road_weeks 87 lv (.int x :: st) S P ↔ rn G mm_Road_weeks 88 lv st S P := rn_s dq_Road_weeks_87 rfl rfl rfl
theorem dq_Road_weeks_88 : decode (km_c mm_Road_weeks) 88 = .ok (.iload_n 3, 1) := by decide +kernel
theorem sq_Road_weeks_88 : rn G mm_Road_weeks 88 [a0, a1, a2, some (.int x)] st S P ↔ rn G mm_Road_weeks 89 [a0, a1, a2, some (.int x)] (.int x :: st) S P := rn_s dq_Road_weeks_88 rfl rfl rfl
theorem dq_Road_weeks_89 : decode (km_c mm_Road_weeks) 89 = .ok (.ifCond .eq 5, 3) := by decide +kernel
theorem sq_Road_weeks_89 : rn G mm_Road_weeks 89 lv (.int x :: st) S P ↔ ((x = 0 → rn G mm_Road_weeks 94 lv st S P) ∧ (¬ (x = 0) → rn G mm_Road_weeks 92 lv st S P)) := rn_b (off := 5) dq_Road_weeks_89 rfl rfl rfl rfl
theorem dq_Road_weeks_92 : decode (km_c mm_Road_weeks) 92 = .ok (.iload_n 2, 1) := by decide +kernel
theorem sq_Road_weeks_92 : rn G mm_Road_weeks 92 [a0, a1, some (.int x), a3] st S P ↔ rn G mm_Road_weeks 93 [a0, a1, some (.int x), a3] (.int x :: st) S P := rn_s dq_Road_weeks_92 rfl rfl rfl
theorem dq_Road_weeks_93 : decode (km_c mm_Road_weeks) 93 = .ok (.ireturn, 1) := by decide +kernel
theorem sq_Road_weeks_93 : rn G mm_Road_weeks 93 lv [.int x] S P ↔ P (some (.int x)) S := rn_ir dq_Road_weeks_93 rfl
theorem dq_Road_weeks_94 : decode (km_c mm_Road_weeks) 94 = .ok (.iinc 2 1, 3) := by decide +kernel
theorem sq_Road_weeks_94n : rn G mm_Road_weeks 94 [a0, none, some (.int x), a3] st S P ↔ rn G mm_Road_weeks 97 [a0, none, some (.int (x + nI 1)), a3] st S P := rn_s dq_Road_weeks_94 rfl rfl rfl
theorem sq_Road_weeks_94i : rn G mm_Road_weeks 94 [a0, some (.int x2), some (.int x), a3] st S P ↔ rn G mm_Road_weeks 97 [a0, some (.int x2), some (.int (x + nI 1)), a3] st S P := rn_s dq_Road_weeks_94 rfl rfl rfl
theorem sq_Road_weeks_94r : rn G mm_Road_weeks 94 [a0, some (.ref z2), some (.int x), a3] st S P ↔ rn G mm_Road_weeks 97 [a0, some (.ref z2), some (.int (x + nI 1)), a3] st S P := rn_s dq_Road_weeks_94 rfl rfl rfl
theorem dq_Road_weeks_97 : decode (km_c mm_Road_weeks) 97 = .ok (.goto (-67), 3) := by decide +kernel
theorem sq_Road_weeks_97 : rn G mm_Road_weeks 97 lv st S P ↔ rn G mm_Road_weeks 30 lv st S P := rn_s dq_Road_weeks_97 rfl rfl rfl
theorem dq_Road_weeks_100 : decode (km_c mm_Road_weeks) 100 = .ok (.bipush (-4), 2) := by decide +kernel
theorem sq_Road_weeks_100 : rn G mm_Road_weeks 100 lv st S P ↔ rn G mm_Road_weeks 102 lv (.int ((-4)) :: st) S P := rn_s dq_Road_weeks_100 rfl rfl rfl
theorem dq_Road_weeks_102 : decode (km_c mm_Road_weeks) 102 = .ok (.ireturn, 1) := by decide +kernel
theorem sq_Road_weeks_102 : rn G mm_Road_weeks 102 lv [.int x] S P ↔ P (some (.int x)) S := rn_ir dq_Road_weeks_102 rfl
theorem dq_Road_seed_0 : decode (km_c mm_Road_seed) 0 = .ok (.iload_n 1, 1) := by decide +kernel
theorem sq_Road_seed_0 : rn G mm_Road_seed 0 [a0, some (.int x), a2] st S P ↔ rn G mm_Road_seed 1 [a0, some (.int x), a2] (.int x :: st) S P := rn_s dq_Road_seed_0 rfl rfl rfl
theorem dq_Road_seed_1 : decode (km_c mm_Road_seed) 1 = .ok (.ifCond .ge 5, 3) := by decide +kernel
theorem sq_Road_seed_1 : rn G mm_Road_seed 1 lv (.int x :: st) S P ↔ ((0 ≤ x → rn G mm_Road_seed 6 lv st S P) ∧ (¬ (0 ≤ x) → rn G mm_Road_seed 4 lv st S P)) := rn_b (off := 5) dq_Road_seed_1 rfl rfl rfl rfl
theorem dq_Road_seed_4 : decode (km_c mm_Road_seed) 4 = .ok (.iconst (-1), 1) := by decide +kernel
theorem sq_Road_seed_4 : rn G mm_Road_seed 4 lv st S P ↔ rn G mm_Road_seed 5 lv (.int ((-1)) :: st) S P := rn_s dq_Road_seed_4 rfl rfl rfl
theorem dq_Road_seed_5 : decode (km_c mm_Road_seed) 5 = .ok (.ireturn, 1) := by decide +kernel
theorem sq_Road_seed_5 : rn G mm_Road_seed 5 lv [.int x] S P ↔ P (some (.int x)) S := rn_ir dq_Road_seed_5 rfl
theorem dq_Road_seed_6 : decode (km_c mm_Road_seed) 6 = .ok (.aload_n 0, 1) := by decide +kernel
theorem sq_Road_seed_6 : rn G mm_Road_seed 6 [some (.ref z), a1, a2] st S P ↔ rn G mm_Road_seed 7 [some (.ref z), a1, a2] (.ref z :: st) S P := rn_s dq_Road_seed_6 rfl rfl rfl
theorem dq_Road_seed_7 : decode (km_c mm_Road_seed) 7 = .ok (.getfield 10, 3) := by decide +kernel
theorem sq_Road_seed_7_0 (ho : sx_o o pl kp) : rn (lt_G o L) mm_Road_seed 7 lv (.ref 0 :: st) (sx pl kp I A) P ↔ rn (lt_G o L) mm_Road_seed 10 lv (.ref 1 :: st) (sx pl kp I A) P := rx_get (h := "") (ci := 9) (k := 0) dq_Road_seed_7 (by decide +kernel) ho (up_b (by decide)) rfl rfl (fl_r (by decide) (by decide) (by decide) (by decide))
theorem dq_Road_seed_10 : decode (km_c mm_Road_seed) 10 = .ok (.getfield 160, 3) := by decide +kernel
theorem sq_Road_seed_10_1 (ho : sx_o o pl kp) : rn (lt_G o L) mm_Road_seed 10 lv (.ref 1 :: st) (sx pl kp I A) P ↔ rn (lt_G o L) mm_Road_seed 13 lv (.ref 14 :: st) (sx pl kp I A) P := rx_get (h := "DeltaRoad") (ci := 8) (k := 3) dq_Road_seed_10 (by decide +kernel) ho (up_b (by decide)) rfl rfl (fl_r (by decide) (by decide) (by decide) (by decide))
theorem sq_Road_seed_10_136 (ho : sx_o o pl true) : rn (lt_G o L) mm_Road_seed 10 lv (.ref 136 :: st) (sx pl true I A) P ↔ rn (lt_G o L) mm_Road_seed 13 lv (.ref 149 :: st) (sx pl true I A) P := rx_get (h := "DeltaRoad") (ci := 8) (k := 3) dq_Road_seed_10 (by decide +kernel) ho (up_k (by decide) (by decide)) rfl rfl (fl_k (by decide) (by decide))
theorem dq_Road_seed_13 : decode (km_c mm_Road_seed) 13 = .ok (.getfield 270, 3) := by decide +kernel
theorem sq_Road_seed_13_14 (ho : sx_o o pl kp) : rn (lt_G o L) mm_Road_seed 13 lv (.ref 14 :: st) (sx pl kp I A) P ↔ rn (lt_G o L) mm_Road_seed 16 lv (.int (I 14 1) :: st) (sx pl kp I A) P := rx_get (h := "DeltaRoad") (ci := 7) (k := 1) dq_Road_seed_13 (by decide +kernel) ho (up_b (by decide)) rfl rfl (fl_i (by decide))
theorem sq_Road_seed_13_149 (ho : sx_o o pl true) : rn (lt_G o L) mm_Road_seed 13 lv (.ref 149 :: st) (sx pl true I A) P ↔ rn (lt_G o L) mm_Road_seed 16 lv (.int (I 149 1) :: st) (sx pl true I A) P := rx_get (h := "DeltaRoad") (ci := 7) (k := 1) dq_Road_seed_13 (by decide +kernel) ho (up_k (by decide) (by decide)) rfl rfl (fl_i (by decide))
theorem dq_Road_seed_16 : decode (km_c mm_Road_seed) 16 = .ok (.istore_n 2, 1) := by decide +kernel
theorem sq_Road_seed_16n : rn G mm_Road_seed 16 [a0, none, a2] (.int x :: st) S P ↔ rn G mm_Road_seed 17 [a0, none, some (.int x)] st S P := rn_s dq_Road_seed_16 rfl rfl rfl
theorem sq_Road_seed_16i : rn G mm_Road_seed 16 [a0, some (.int x2), a2] (.int x :: st) S P ↔ rn G mm_Road_seed 17 [a0, some (.int x2), some (.int x)] st S P := rn_s dq_Road_seed_16 rfl rfl rfl
theorem sq_Road_seed_16r : rn G mm_Road_seed 16 [a0, some (.ref z2), a2] (.int x :: st) S P ↔ rn G mm_Road_seed 17 [a0, some (.ref z2), some (.int x)] st S P := rn_s dq_Road_seed_16 rfl rfl rfl
theorem dq_Road_seed_17 : decode (km_c mm_Road_seed) 17 = .ok (.aload_n 0, 1) := by decide +kernel
theorem sq_Road_seed_17 : rn G mm_Road_seed 17 [some (.ref z), a1, a2] st S P ↔ rn G mm_Road_seed 18 [some (.ref z), a1, a2] (.ref z :: st) S P := rn_s dq_Road_seed_17 rfl rfl rfl
theorem dq_Road_seed_18 : decode (km_c mm_Road_seed) 18 = .ok (.getfield 10, 3) := by decide +kernel
theorem sq_Road_seed_18_0 (ho : sx_o o pl kp) : rn (lt_G o L) mm_Road_seed 18 lv (.ref 0 :: st) (sx pl kp I A) P ↔ rn (lt_G o L) mm_Road_seed 21 lv (.ref 1 :: st) (sx pl kp I A) P := rx_get (h := "") (ci := 9) (k := 0) dq_Road_seed_18 (by decide +kernel) ho (up_b (by decide)) rfl rfl (fl_r (by decide) (by decide) (by decide) (by decide))
theorem dq_Road_seed_21 : decode (km_c mm_Road_seed) 21 = .ok (.getfield 160, 3) := by decide +kernel
theorem sq_Road_seed_21_1 (ho : sx_o o pl kp) : rn (lt_G o L) mm_Road_seed 21 lv (.ref 1 :: st) (sx pl kp I A) P ↔ rn (lt_G o L) mm_Road_seed 24 lv (.ref 14 :: st) (sx pl kp I A) P := rx_get (h := "DeltaRoad") (ci := 8) (k := 3) dq_Road_seed_21 (by decide +kernel) ho (up_b (by decide)) rfl rfl (fl_r (by decide) (by decide) (by decide) (by decide))
theorem sq_Road_seed_21_136 (ho : sx_o o pl true) : rn (lt_G o L) mm_Road_seed 21 lv (.ref 136 :: st) (sx pl true I A) P ↔ rn (lt_G o L) mm_Road_seed 24 lv (.ref 149 :: st) (sx pl true I A) P := rx_get (h := "DeltaRoad") (ci := 8) (k := 3) dq_Road_seed_21 (by decide +kernel) ho (up_k (by decide) (by decide)) rfl rfl (fl_k (by decide) (by decide))
theorem dq_Road_seed_24 : decode (km_c mm_Road_seed) 24 = .ok (.iload_n 1, 1) := by decide +kernel
theorem sq_Road_seed_24 : rn G mm_Road_seed 24 [a0, some (.int x), a2] st S P ↔ rn G mm_Road_seed 25 [a0, some (.int x), a2] (.int x :: st) S P := rn_s dq_Road_seed_24 rfl rfl rfl
theorem dq_Road_seed_25 : decode (km_c mm_Road_seed) 25 = .ok (.putfield 270, 3) := by decide +kernel
theorem sq_Road_seed_25_14 (ho : sx_o o pl kp) : rn (lt_G o L) mm_Road_seed 25 lv (.int x :: .ref 14 :: st) (sx pl kp I A) P ↔ rn (lt_G o L) mm_Road_seed 28 lv st (sx pl kp (u2 I 14 1 x) A) P := rx_put (h := "DeltaRoad") (ci := 7) (k := 1) dq_Road_seed_25 (by decide +kernel) ho (up_b (by decide)) rfl rfl (by decide) (by decide)
theorem sq_Road_seed_25_149 (ho : sx_o o pl true) : rn (lt_G o L) mm_Road_seed 25 lv (.int x :: .ref 149 :: st) (sx pl true I A) P ↔ rn (lt_G o L) mm_Road_seed 28 lv st (sx pl true (u2 I 149 1 x) A) P := rx_put (h := "DeltaRoad") (ci := 7) (k := 1) dq_Road_seed_25 (by decide +kernel) ho (up_k (by decide) (by decide)) rfl rfl (by decide) (by decide)
theorem dq_Road_seed_28 : decode (km_c mm_Road_seed) 28 = .ok (.iload_n 2, 1) := by decide +kernel
theorem sq_Road_seed_28 : rn G mm_Road_seed 28 [a0, a1, some (.int x)] st S P ↔ rn G mm_Road_seed 29 [a0, a1, some (.int x)] (.int x :: st) S P := rn_s dq_Road_seed_28 rfl rfl rfl
theorem dq_Road_seed_29 : decode (km_c mm_Road_seed) 29 = .ok (.ireturn, 1) := by decide +kernel
theorem sq_Road_seed_29 : rn G mm_Road_seed 29 lv [.int x] S P ↔ P (some (.int x)) S := rn_ir dq_Road_seed_29 rfl
theorem dq_Road_leave_0 : decode (km_c mm_Road_leave) 0 = .ok (.aload_n 0, 1) := by decide +kernel
theorem sq_Road_leave_0 : rn G mm_Road_leave 0 [some (.ref z), a1] st S P ↔ rn G mm_Road_leave 1 [some (.ref z), a1] (.ref z :: st) S P := rn_s dq_Road_leave_0 rfl rfl rfl
theorem dq_Road_leave_1 : decode (km_c mm_Road_leave) 1 = .ok (.getfield 10, 3) := by decide +kernel
theorem sq_Road_leave_1_0 (ho : sx_o o pl kp) : rn (lt_G o L) mm_Road_leave 1 lv (.ref 0 :: st) (sx pl kp I A) P ↔ rn (lt_G o L) mm_Road_leave 4 lv (.ref 1 :: st) (sx pl kp I A) P := rx_get (h := "") (ci := 9) (k := 0) dq_Road_leave_1 (by decide +kernel) ho (up_b (by decide)) rfl rfl (fl_r (by decide) (by decide) (by decide) (by decide))
theorem dq_Road_leave_4 : decode (km_c mm_Road_leave) 4 = .ok (.getfield 80, 3) := by decide +kernel
theorem sq_Road_leave_4_1 (ho : sx_o o pl kp) : rn (lt_G o L) mm_Road_leave 4 lv (.ref 1 :: st) (sx pl kp I A) P ↔ rn (lt_G o L) mm_Road_leave 7 lv (.ref 2 :: st) (sx pl kp I A) P := rx_get (h := "DeltaRoad") (ci := 8) (k := 0) dq_Road_leave_4 (by decide +kernel) ho (up_b (by decide)) rfl rfl (fl_r (by decide) (by decide) (by decide) (by decide))
theorem sq_Road_leave_4_136 (ho : sx_o o pl true) : rn (lt_G o L) mm_Road_leave 4 lv (.ref 136 :: st) (sx pl true I A) P ↔ rn (lt_G o L) mm_Road_leave 7 lv (.ref 137 :: st) (sx pl true I A) P := rx_get (h := "DeltaRoad") (ci := 8) (k := 0) dq_Road_leave_4 (by decide +kernel) ho (up_k (by decide) (by decide)) rfl rfl (fl_k (by decide) (by decide))
theorem dq_Road_leave_7 : decode (km_c mm_Road_leave) 7 = .ok (.aload_n 0, 1) := by decide +kernel
theorem sq_Road_leave_7 : rn G mm_Road_leave 7 [some (.ref z), a1] st S P ↔ rn G mm_Road_leave 8 [some (.ref z), a1] (.ref z :: st) S P := rn_s dq_Road_leave_7 rfl rfl rfl
theorem dq_Road_leave_8 : decode (km_c mm_Road_leave) 8 = .ok (.getfield 10, 3) := by decide +kernel
theorem sq_Road_leave_8_0 (ho : sx_o o pl kp) : rn (lt_G o L) mm_Road_leave 8 lv (.ref 0 :: st) (sx pl kp I A) P ↔ rn (lt_G o L) mm_Road_leave 11 lv (.ref 1 :: st) (sx pl kp I A) P := rx_get (h := "") (ci := 9) (k := 0) dq_Road_leave_8 (by decide +kernel) ho (up_b (by decide)) rfl rfl (fl_r (by decide) (by decide) (by decide) (by decide))
theorem dq_Road_leave_11 : decode (km_c mm_Road_leave) 11 = .ok (.getfield 150, 3) := by decide +kernel
theorem sq_Road_leave_11_1 (ho : sx_o o pl kp) : rn (lt_G o L) mm_Road_leave 11 lv (.ref 1 :: st) (sx pl kp I A) P ↔ rn (lt_G o L) mm_Road_leave 14 lv (.ref 12 :: st) (sx pl kp I A) P := rx_get (h := "DeltaRoad") (ci := 8) (k := 2) dq_Road_leave_11 (by decide +kernel) ho (up_b (by decide)) rfl rfl (fl_r (by decide) (by decide) (by decide) (by decide))
theorem sq_Road_leave_11_136 (ho : sx_o o pl true) : rn (lt_G o L) mm_Road_leave 11 lv (.ref 136 :: st) (sx pl true I A) P ↔ rn (lt_G o L) mm_Road_leave 14 lv (.ref 147 :: st) (sx pl true I A) P := rx_get (h := "DeltaRoad") (ci := 8) (k := 2) dq_Road_leave_11 (by decide +kernel) ho (up_k (by decide) (by decide)) rfl rfl (fl_k (by decide) (by decide))
theorem dq_Road_leave_14 : decode (km_c mm_Road_leave) 14 = .ok (.invokevirtual 273, 3) := by decide +kernel
theorem sq_Road_leave_14_2 {z1 : Nat} {v : Option Value} {S2 : ks_S} (hc : ev (lt_G o L) mm_Ground_layBones [.ref 2, .ref z1] (sx pl kp I A) v S2) (ho : sx_o o pl kp) (hst : kx_cat st ≤ 8) : rn (lt_G o L) mm_Road_leave 14 lv (.ref z1 :: .ref 2 :: st) (sx pl kp I A) P ↔ rn (lt_G o L) mm_Road_leave 17 lv (v.toList ++ st) S2 P := rn_cv (k := 0) (host := "") (E' := mm_Ground_layBones) dq_Road_leave_14 rfl (ok_v rfl (by decide) (by decide) (Nat.le_add_left _ _) hst (Nat.le_of_ble_eq_true rfl) (Or.inr (rc_v ho (up_b (by decide)) rfl))) rfl rfl hc
theorem sq_Road_leave_14_35 {z1 : Nat} {v : Option Value} {S2 : ks_S} (hc : ev (lt_G o L) mm_Ground_layBones [.ref 35, .ref z1] (sx pl kp I A) v S2) (ho : sx_o o pl kp) (hst : kx_cat st ≤ 8) : rn (lt_G o L) mm_Road_leave 14 lv (.ref z1 :: .ref 35 :: st) (sx pl kp I A) P ↔ rn (lt_G o L) mm_Road_leave 17 lv (v.toList ++ st) S2 P := rn_cv (k := 0) (host := "") (E' := mm_Ground_layBones) dq_Road_leave_14 rfl (ok_v rfl (by decide) (by decide) (Nat.le_add_left _ _) hst (Nat.le_of_ble_eq_true rfl) (Or.inr (rc_v ho (up_b (by decide)) rfl))) rfl rfl hc
theorem sq_Road_leave_14_137 {z1 : Nat} {v : Option Value} {S2 : ks_S} (hc : ev (lt_G o L) mm_Ground_layBones [.ref 137, .ref z1] (sx pl true I A) v S2) (ho : sx_o o pl true) (hst : kx_cat st ≤ 8) : rn (lt_G o L) mm_Road_leave 14 lv (.ref z1 :: .ref 137 :: st) (sx pl true I A) P ↔ rn (lt_G o L) mm_Road_leave 17 lv (v.toList ++ st) S2 P := rn_cv (k := 0) (host := "") (E' := mm_Ground_layBones) dq_Road_leave_14 rfl (ok_v rfl (by decide) (by decide) (Nat.le_add_left _ _) hst (Nat.le_of_ble_eq_true rfl) (Or.inr (rc_v ho (up_k (by decide) (by decide)) rfl))) rfl rfl hc
theorem dq_Road_leave_17 : decode (km_c mm_Road_leave) 17 = .ok (.istore_n 1, 1) := by decide +kernel
theorem sq_Road_leave_17n : rn G mm_Road_leave 17 [none, a1] (.int x :: st) S P ↔ rn G mm_Road_leave 18 [none, some (.int x)] st S P := rn_s dq_Road_leave_17 rfl rfl rfl
theorem sq_Road_leave_17i : rn G mm_Road_leave 17 [some (.int x2), a1] (.int x :: st) S P ↔ rn G mm_Road_leave 18 [some (.int x2), some (.int x)] st S P := rn_s dq_Road_leave_17 rfl rfl rfl
theorem sq_Road_leave_17r : rn G mm_Road_leave 17 [some (.ref z2), a1] (.int x :: st) S P ↔ rn G mm_Road_leave 18 [some (.ref z2), some (.int x)] st S P := rn_s dq_Road_leave_17 rfl rfl rfl
theorem dq_Road_leave_18 : decode (km_c mm_Road_leave) 18 = .ok (.aload_n 0, 1) := by decide +kernel
theorem sq_Road_leave_18 : rn G mm_Road_leave 18 [some (.ref z), a1] st S P ↔ rn G mm_Road_leave 19 [some (.ref z), a1] (.ref z :: st) S P := rn_s dq_Road_leave_18 rfl rfl rfl
theorem dq_Road_leave_19 : decode (km_c mm_Road_leave) 19 = .ok (.getfield 10, 3) := by decide +kernel
theorem sq_Road_leave_19_0 (ho : sx_o o pl kp) : rn (lt_G o L) mm_Road_leave 19 lv (.ref 0 :: st) (sx pl kp I A) P ↔ rn (lt_G o L) mm_Road_leave 22 lv (.ref 1 :: st) (sx pl kp I A) P := rx_get (h := "") (ci := 9) (k := 0) dq_Road_leave_19 (by decide +kernel) ho (up_b (by decide)) rfl rfl (fl_r (by decide) (by decide) (by decide) (by decide))
theorem dq_Road_leave_22 : decode (km_c mm_Road_leave) 22 = .ok (.getfield 150, 3) := by decide +kernel
theorem sq_Road_leave_22_1 (ho : sx_o o pl kp) : rn (lt_G o L) mm_Road_leave 22 lv (.ref 1 :: st) (sx pl kp I A) P ↔ rn (lt_G o L) mm_Road_leave 25 lv (.ref 12 :: st) (sx pl kp I A) P := rx_get (h := "DeltaRoad") (ci := 8) (k := 2) dq_Road_leave_22 (by decide +kernel) ho (up_b (by decide)) rfl rfl (fl_r (by decide) (by decide) (by decide) (by decide))
theorem sq_Road_leave_22_136 (ho : sx_o o pl true) : rn (lt_G o L) mm_Road_leave 22 lv (.ref 136 :: st) (sx pl true I A) P ↔ rn (lt_G o L) mm_Road_leave 25 lv (.ref 147 :: st) (sx pl true I A) P := rx_get (h := "DeltaRoad") (ci := 8) (k := 2) dq_Road_leave_22 (by decide +kernel) ho (up_k (by decide) (by decide)) rfl rfl (fl_k (by decide) (by decide))
theorem dq_Road_leave_25 : decode (km_c mm_Road_leave) 25 = .ok (.iconst 0, 1) := by decide +kernel
theorem sq_Road_leave_25 : rn G mm_Road_leave 25 lv st S P ↔ rn G mm_Road_leave 26 lv (.int (nI 0) :: st) S P := rn_s dq_Road_leave_25 rfl rfl rfl
theorem dq_Road_leave_26 : decode (km_c mm_Road_leave) 26 = .ok (.putfield 154, 3) := by decide +kernel
theorem sq_Road_leave_26_12 (ho : sx_o o pl kp) : rn (lt_G o L) mm_Road_leave 26 lv (.int x :: .ref 12 :: st) (sx pl kp I A) P ↔ rn (lt_G o L) mm_Road_leave 29 lv st (sx pl kp (u2 I 12 1 x) A) P := rx_put (h := "DeltaRoad") (ci := 1) (k := 1) dq_Road_leave_26 (by decide +kernel) ho (up_b (by decide)) rfl rfl (by decide) (by decide)
theorem sq_Road_leave_26_147 (ho : sx_o o pl true) : rn (lt_G o L) mm_Road_leave 26 lv (.int x :: .ref 147 :: st) (sx pl true I A) P ↔ rn (lt_G o L) mm_Road_leave 29 lv st (sx pl true (u2 I 147 1 x) A) P := rx_put (h := "DeltaRoad") (ci := 1) (k := 1) dq_Road_leave_26 (by decide +kernel) ho (up_k (by decide) (by decide)) rfl rfl (by decide) (by decide)
theorem dq_Road_leave_29 : decode (km_c mm_Road_leave) 29 = .ok (.aload_n 0, 1) := by decide +kernel
theorem sq_Road_leave_29 : rn G mm_Road_leave 29 [some (.ref z), a1] st S P ↔ rn G mm_Road_leave 30 [some (.ref z), a1] (.ref z :: st) S P := rn_s dq_Road_leave_29 rfl rfl rfl
theorem dq_Road_leave_30 : decode (km_c mm_Road_leave) 30 = .ok (.invokevirtual 87, 3) := by decide +kernel
theorem sq_Road_leave_30_0  {v : Option Value} {S2 : ks_S} (hc : ev (lt_G o L) mm_Road_forget [.ref 0] (sx pl kp I A) v S2) (ho : sx_o o pl kp) (hst : kx_cat st ≤ 8) : rn (lt_G o L) mm_Road_leave 30 lv (.ref 0 :: st) (sx pl kp I A) P ↔ rn (lt_G o L) mm_Road_leave 33 lv (v.toList ++ st) S2 P := rn_cv (k := 0) (host := "") (E' := mm_Road_forget) dq_Road_leave_30 rfl (ok_v rfl (by decide) (by decide) (Nat.le_add_left _ _) hst (Nat.le_of_ble_eq_true rfl) (Or.inr (rc_v ho (up_b (by decide)) rfl))) rfl rfl hc
theorem dq_Road_leave_33 : decode (km_c mm_Road_leave) 33 = .ok (.iload_n 1, 1) := by decide +kernel
theorem sq_Road_leave_33 : rn G mm_Road_leave 33 [a0, some (.int x)] st S P ↔ rn G mm_Road_leave 34 [a0, some (.int x)] (.int x :: st) S P := rn_s dq_Road_leave_33 rfl rfl rfl
theorem dq_Road_leave_34 : decode (km_c mm_Road_leave) 34 = .ok (.ireturn, 1) := by decide +kernel
theorem sq_Road_leave_34 : rn G mm_Road_leave 34 lv [.int x] S P ↔ P (some (.int x)) S := rn_ir dq_Road_leave_34 rfl
theorem dq_Road_image_0 : decode (km_c mm_Road_image) 0 = .ok (.aload_n 0, 1) := by decide +kernel
theorem sq_Road_image_0 : rn G mm_Road_image 0 [some (.ref z)] st S P ↔ rn G mm_Road_image 1 [some (.ref z)] (.ref z :: st) S P := rn_s dq_Road_image_0 rfl rfl rfl
theorem dq_Road_image_1 : decode (km_c mm_Road_image) 1 = .ok (.getfield 54, 3) := by decide +kernel
theorem sq_Road_image_1_0t (ho : sx_o o pl true) : rn (lt_G o L) mm_Road_image 1 lv (.ref 0 :: st) (sx pl true I A) P ↔ rn (lt_G o L) mm_Road_image 4 lv (.ref 136 :: st) (sx pl true I A) P := rx_get (h := "") (ci := 9) (k := 7) dq_Road_image_1 (by decide +kernel) ho (up_b (by decide)) rfl rfl rfl
theorem sq_Road_image_1_0f (ho : sx_o o pl false) : rn (lt_G o L) mm_Road_image 1 lv (.ref 0 :: st) (sx pl false I A) P ↔ rn (lt_G o L) mm_Road_image 4 lv (.null :: st) (sx pl false I A) P := rx_get (h := "") (ci := 9) (k := 7) dq_Road_image_1 (by decide +kernel) ho (up_b (by decide)) rfl rfl rfl
theorem dq_Road_image_4 : decode (km_c mm_Road_image) 4 = .ok (.ifnonnull 14, 3) := by decide +kernel
theorem sq_Road_image_4r : rn G mm_Road_image 4 lv (.ref z :: st) S P ↔ rn G mm_Road_image 18 lv st S P := rn_s dq_Road_image_4 rfl rfl rfl
theorem sq_Road_image_4n : rn G mm_Road_image 4 lv (.null :: st) S P ↔ rn G mm_Road_image 7 lv st S P := rn_s dq_Road_image_4 rfl rfl rfl
theorem dq_Road_image_7 : decode (km_c mm_Road_image) 7 = .ok (.aload_n 0, 1) := by decide +kernel
theorem sq_Road_image_7 : rn G mm_Road_image 7 [some (.ref z)] st S P ↔ rn G mm_Road_image 8 [some (.ref z)] (.ref z :: st) S P := rn_s dq_Road_image_7 rfl rfl rfl
theorem dq_Road_image_8 : decode (km_c mm_Road_image) 8 = .ok (.new 7, 3) := by decide +kernel
theorem dq_Road_image_11 : decode (km_c mm_Road_image) 11 = .ok (.dup, 1) := by decide +kernel
theorem sq_Road_image_11i : rn G mm_Road_image 11 lv (.int x :: st) S P ↔ rn G mm_Road_image 12 lv (.int x :: .int x :: st) S P := rn_s dq_Road_image_11 rfl rfl rfl
theorem sq_Road_image_11r : rn G mm_Road_image 11 lv (.ref z :: st) S P ↔ rn G mm_Road_image 12 lv (.ref z :: .ref z :: st) S P := rn_s dq_Road_image_11 rfl rfl rfl
theorem dq_Road_image_12 : decode (km_c mm_Road_image) 12 = .ok (.invokespecial 9, 3) := by decide +kernel
theorem sq_Road_image_12_1  {v : Option Value} {S2 : ks_S} (hc : ev (lt_G o L) mm_World_init [.ref 1] (sx pl kp I A) v S2) (ho : sx_o o pl kp) (hst : kx_cat st ≤ 8) : rn (lt_G o L) mm_Road_image 12 lv (.ref 1 :: st) (sx pl kp I A) P ↔ rn (lt_G o L) mm_Road_image 15 lv (v.toList ++ st) S2 P := rn_ci (k := 2) (host := "DeltaRoad") (E' := mm_World_init) dq_Road_image_12 (by decide) rfl (ok_v rfl (by decide) (by decide) (Nat.le_add_left _ _) hst (Nat.le_of_ble_eq_true rfl) (Or.inr (rc_v ho (up_b (by decide)) rfl))) rfl rfl hc
theorem sq_Road_image_12_136  {v : Option Value} {S2 : ks_S} (hc : ev (lt_G o L) mm_World_init [.ref 136] (sx pl true I A) v S2) (ho : sx_o o pl true) (hst : kx_cat st ≤ 8) : rn (lt_G o L) mm_Road_image 12 lv (.ref 136 :: st) (sx pl true I A) P ↔ rn (lt_G o L) mm_Road_image 15 lv (v.toList ++ st) S2 P := rn_ci (k := 2) (host := "DeltaRoad") (E' := mm_World_init) dq_Road_image_12 (by decide) rfl (ok_v rfl (by decide) (by decide) (Nat.le_add_left _ _) hst (Nat.le_of_ble_eq_true rfl) (Or.inr (rc_v ho (up_k (by decide) (by decide)) rfl))) rfl rfl hc
theorem dq_Road_image_15 : decode (km_c mm_Road_image) 15 = .ok (.putfield 54, 3) := by decide +kernel
theorem dq_Road_image_18 : decode (km_c mm_Road_image) 18 = .ok (.aload_n 0, 1) := by decide +kernel
theorem sq_Road_image_18 : rn G mm_Road_image 18 [some (.ref z)] st S P ↔ rn G mm_Road_image 19 [some (.ref z)] (.ref z :: st) S P := rn_s dq_Road_image_18 rfl rfl rfl
theorem dq_Road_image_19 : decode (km_c mm_Road_image) 19 = .ok (.getfield 54, 3) := by decide +kernel
theorem sq_Road_image_19_0t (ho : sx_o o pl true) : rn (lt_G o L) mm_Road_image 19 lv (.ref 0 :: st) (sx pl true I A) P ↔ rn (lt_G o L) mm_Road_image 22 lv (.ref 136 :: st) (sx pl true I A) P := rx_get (h := "") (ci := 9) (k := 7) dq_Road_image_19 (by decide +kernel) ho (up_b (by decide)) rfl rfl rfl
theorem sq_Road_image_19_0f (ho : sx_o o pl false) : rn (lt_G o L) mm_Road_image 19 lv (.ref 0 :: st) (sx pl false I A) P ↔ rn (lt_G o L) mm_Road_image 22 lv (.null :: st) (sx pl false I A) P := rx_get (h := "") (ci := 9) (k := 7) dq_Road_image_19 (by decide +kernel) ho (up_b (by decide)) rfl rfl rfl
theorem dq_Road_image_22 : decode (km_c mm_Road_image) 22 = .ok (.aload_n 0, 1) := by decide +kernel
theorem sq_Road_image_22 : rn G mm_Road_image 22 [some (.ref z)] st S P ↔ rn G mm_Road_image 23 [some (.ref z)] (.ref z :: st) S P := rn_s dq_Road_image_22 rfl rfl rfl
theorem dq_Road_image_23 : decode (km_c mm_Road_image) 23 = .ok (.getfield 10, 3) := by decide +kernel
theorem sq_Road_image_23_0 (ho : sx_o o pl kp) : rn (lt_G o L) mm_Road_image 23 lv (.ref 0 :: st) (sx pl kp I A) P ↔ rn (lt_G o L) mm_Road_image 26 lv (.ref 1 :: st) (sx pl kp I A) P := rx_get (h := "") (ci := 9) (k := 0) dq_Road_image_23 (by decide +kernel) ho (up_b (by decide)) rfl rfl (fl_r (by decide) (by decide) (by decide) (by decide))
theorem dq_Road_image_26 : decode (km_c mm_Road_image) 26 = .ok (.invokevirtual 276, 3) := by decide +kernel
theorem sq_Road_image_26_1 {z1 : Nat} {v : Option Value} {S2 : ks_S} (hc : ev (lt_G o L) mm_World_copy [.ref 1, .ref z1] (sx pl kp I A) v S2) (ho : sx_o o pl kp) (hst : kx_cat st ≤ 8) : rn (lt_G o L) mm_Road_image 26 lv (.ref z1 :: .ref 1 :: st) (sx pl kp I A) P ↔ rn (lt_G o L) mm_Road_image 29 lv (v.toList ++ st) S2 P := rn_cv (k := 0) (host := "") (E' := mm_World_copy) dq_Road_image_26 rfl (ok_v rfl (by decide) (by decide) (Nat.le_add_left _ _) hst (Nat.le_of_ble_eq_true rfl) (Or.inr (rc_v ho (up_b (by decide)) rfl))) rfl rfl hc
theorem sq_Road_image_26_136 {z1 : Nat} {v : Option Value} {S2 : ks_S} (hc : ev (lt_G o L) mm_World_copy [.ref 136, .ref z1] (sx pl true I A) v S2) (ho : sx_o o pl true) (hst : kx_cat st ≤ 8) : rn (lt_G o L) mm_Road_image 26 lv (.ref z1 :: .ref 136 :: st) (sx pl true I A) P ↔ rn (lt_G o L) mm_Road_image 29 lv (v.toList ++ st) S2 P := rn_cv (k := 0) (host := "") (E' := mm_World_copy) dq_Road_image_26 rfl (ok_v rfl (by decide) (by decide) (Nat.le_add_left _ _) hst (Nat.le_of_ble_eq_true rfl) (Or.inr (rc_v ho (up_k (by decide) (by decide)) rfl))) rfl rfl hc
theorem dq_Road_image_29 : decode (km_c mm_Road_image) 29 = .ok (.iconst 1, 1) := by decide +kernel
theorem sq_Road_image_29 : rn G mm_Road_image 29 lv st S P ↔ rn G mm_Road_image 30 lv (.int (nI 1) :: st) S P := rn_s dq_Road_image_29 rfl rfl rfl
theorem dq_Road_image_30 : decode (km_c mm_Road_image) 30 = .ok (.ireturn, 1) := by decide +kernel
theorem sq_Road_image_30 : rn G mm_Road_image 30 lv [.int x] S P ↔ P (some (.int x)) S := rn_ir dq_Road_image_30 rfl
theorem dq_Road_restore_0 : decode (km_c mm_Road_restore) 0 = .ok (.aload_n 0, 1) := by decide +kernel
theorem sq_Road_restore_0 : rn G mm_Road_restore 0 [some (.ref z)] st S P ↔ rn G mm_Road_restore 1 [some (.ref z)] (.ref z :: st) S P := rn_s dq_Road_restore_0 rfl rfl rfl
theorem dq_Road_restore_1 : decode (km_c mm_Road_restore) 1 = .ok (.getfield 54, 3) := by decide +kernel
theorem sq_Road_restore_1_0t (ho : sx_o o pl true) : rn (lt_G o L) mm_Road_restore 1 lv (.ref 0 :: st) (sx pl true I A) P ↔ rn (lt_G o L) mm_Road_restore 4 lv (.ref 136 :: st) (sx pl true I A) P := rx_get (h := "") (ci := 9) (k := 7) dq_Road_restore_1 (by decide +kernel) ho (up_b (by decide)) rfl rfl rfl
theorem sq_Road_restore_1_0f (ho : sx_o o pl false) : rn (lt_G o L) mm_Road_restore 1 lv (.ref 0 :: st) (sx pl false I A) P ↔ rn (lt_G o L) mm_Road_restore 4 lv (.null :: st) (sx pl false I A) P := rx_get (h := "") (ci := 9) (k := 7) dq_Road_restore_1 (by decide +kernel) ho (up_b (by decide)) rfl rfl rfl
theorem dq_Road_restore_4 : decode (km_c mm_Road_restore) 4 = .ok (.ifnonnull 6, 3) := by decide +kernel
theorem sq_Road_restore_4r : rn G mm_Road_restore 4 lv (.ref z :: st) S P ↔ rn G mm_Road_restore 10 lv st S P := rn_s dq_Road_restore_4 rfl rfl rfl
theorem sq_Road_restore_4n : rn G mm_Road_restore 4 lv (.null :: st) S P ↔ rn G mm_Road_restore 7 lv st S P := rn_s dq_Road_restore_4 rfl rfl rfl
theorem dq_Road_restore_7 : decode (km_c mm_Road_restore) 7 = .ok (.bipush (-4), 2) := by decide +kernel
theorem sq_Road_restore_7 : rn G mm_Road_restore 7 lv st S P ↔ rn G mm_Road_restore 9 lv (.int ((-4)) :: st) S P := rn_s dq_Road_restore_7 rfl rfl rfl
theorem dq_Road_restore_9 : decode (km_c mm_Road_restore) 9 = .ok (.ireturn, 1) := by decide +kernel
theorem sq_Road_restore_9 : rn G mm_Road_restore 9 lv [.int x] S P ↔ P (some (.int x)) S := rn_ir dq_Road_restore_9 rfl
theorem dq_Road_restore_10 : decode (km_c mm_Road_restore) 10 = .ok (.aload_n 0, 1) := by decide +kernel
theorem sq_Road_restore_10 : rn G mm_Road_restore 10 [some (.ref z)] st S P ↔ rn G mm_Road_restore 11 [some (.ref z)] (.ref z :: st) S P := rn_s dq_Road_restore_10 rfl rfl rfl
theorem dq_Road_restore_11 : decode (km_c mm_Road_restore) 11 = .ok (.getfield 10, 3) := by decide +kernel
theorem sq_Road_restore_11_0 (ho : sx_o o pl kp) : rn (lt_G o L) mm_Road_restore 11 lv (.ref 0 :: st) (sx pl kp I A) P ↔ rn (lt_G o L) mm_Road_restore 14 lv (.ref 1 :: st) (sx pl kp I A) P := rx_get (h := "") (ci := 9) (k := 0) dq_Road_restore_11 (by decide +kernel) ho (up_b (by decide)) rfl rfl (fl_r (by decide) (by decide) (by decide) (by decide))
theorem dq_Road_restore_14 : decode (km_c mm_Road_restore) 14 = .ok (.aload_n 0, 1) := by decide +kernel
theorem sq_Road_restore_14 : rn G mm_Road_restore 14 [some (.ref z)] st S P ↔ rn G mm_Road_restore 15 [some (.ref z)] (.ref z :: st) S P := rn_s dq_Road_restore_14 rfl rfl rfl
theorem dq_Road_restore_15 : decode (km_c mm_Road_restore) 15 = .ok (.getfield 54, 3) := by decide +kernel
theorem sq_Road_restore_15_0t (ho : sx_o o pl true) : rn (lt_G o L) mm_Road_restore 15 lv (.ref 0 :: st) (sx pl true I A) P ↔ rn (lt_G o L) mm_Road_restore 18 lv (.ref 136 :: st) (sx pl true I A) P := rx_get (h := "") (ci := 9) (k := 7) dq_Road_restore_15 (by decide +kernel) ho (up_b (by decide)) rfl rfl rfl
theorem sq_Road_restore_15_0f (ho : sx_o o pl false) : rn (lt_G o L) mm_Road_restore 15 lv (.ref 0 :: st) (sx pl false I A) P ↔ rn (lt_G o L) mm_Road_restore 18 lv (.null :: st) (sx pl false I A) P := rx_get (h := "") (ci := 9) (k := 7) dq_Road_restore_15 (by decide +kernel) ho (up_b (by decide)) rfl rfl rfl
theorem dq_Road_restore_18 : decode (km_c mm_Road_restore) 18 = .ok (.invokevirtual 276, 3) := by decide +kernel
theorem sq_Road_restore_18_1 {z1 : Nat} {v : Option Value} {S2 : ks_S} (hc : ev (lt_G o L) mm_World_copy [.ref 1, .ref z1] (sx pl kp I A) v S2) (ho : sx_o o pl kp) (hst : kx_cat st ≤ 8) : rn (lt_G o L) mm_Road_restore 18 lv (.ref z1 :: .ref 1 :: st) (sx pl kp I A) P ↔ rn (lt_G o L) mm_Road_restore 21 lv (v.toList ++ st) S2 P := rn_cv (k := 0) (host := "") (E' := mm_World_copy) dq_Road_restore_18 rfl (ok_v rfl (by decide) (by decide) (Nat.le_add_left _ _) hst (Nat.le_of_ble_eq_true rfl) (Or.inr (rc_v ho (up_b (by decide)) rfl))) rfl rfl hc
theorem sq_Road_restore_18_136 {z1 : Nat} {v : Option Value} {S2 : ks_S} (hc : ev (lt_G o L) mm_World_copy [.ref 136, .ref z1] (sx pl true I A) v S2) (ho : sx_o o pl true) (hst : kx_cat st ≤ 8) : rn (lt_G o L) mm_Road_restore 18 lv (.ref z1 :: .ref 136 :: st) (sx pl true I A) P ↔ rn (lt_G o L) mm_Road_restore 21 lv (v.toList ++ st) S2 P := rn_cv (k := 0) (host := "") (E' := mm_World_copy) dq_Road_restore_18 rfl (ok_v rfl (by decide) (by decide) (Nat.le_add_left _ _) hst (Nat.le_of_ble_eq_true rfl) (Or.inr (rc_v ho (up_k (by decide) (by decide)) rfl))) rfl rfl hc
theorem dq_Road_restore_21 : decode (km_c mm_Road_restore) 21 = .ok (.aload_n 0, 1) := by decide +kernel
theorem sq_Road_restore_21 : rn G mm_Road_restore 21 [some (.ref z)] st S P ↔ rn G mm_Road_restore 22 [some (.ref z)] (.ref z :: st) S P := rn_s dq_Road_restore_21 rfl rfl rfl
theorem dq_Road_restore_22 : decode (km_c mm_Road_restore) 22 = .ok (.invokevirtual 87, 3) := by decide +kernel
theorem sq_Road_restore_22_0  {v : Option Value} {S2 : ks_S} (hc : ev (lt_G o L) mm_Road_forget [.ref 0] (sx pl kp I A) v S2) (ho : sx_o o pl kp) (hst : kx_cat st ≤ 8) : rn (lt_G o L) mm_Road_restore 22 lv (.ref 0 :: st) (sx pl kp I A) P ↔ rn (lt_G o L) mm_Road_restore 25 lv (v.toList ++ st) S2 P := rn_cv (k := 0) (host := "") (E' := mm_Road_forget) dq_Road_restore_22 rfl (ok_v rfl (by decide) (by decide) (Nat.le_add_left _ _) hst (Nat.le_of_ble_eq_true rfl) (Or.inr (rc_v ho (up_b (by decide)) rfl))) rfl rfl hc
theorem dq_Road_restore_25 : decode (km_c mm_Road_restore) 25 = .ok (.iconst 1, 1) := by decide +kernel
theorem sq_Road_restore_25 : rn G mm_Road_restore 25 lv st S P ↔ rn G mm_Road_restore 26 lv (.int (nI 1) :: st) S P := rn_s dq_Road_restore_25 rfl rfl rfl
theorem dq_Road_restore_26 : decode (km_c mm_Road_restore) 26 = .ok (.ireturn, 1) := by decide +kernel
theorem sq_Road_restore_26 : rn G mm_Road_restore 26 lv [.int x] S P ↔ P (some (.int x)) S := rn_ir dq_Road_restore_26 rfl
end SQ
