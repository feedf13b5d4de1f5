section SQ
variable {o pl kp : Bool} {L : Nat} {I A : Nat → Nat → Int32} {G : kg_G} {S : ks_S} {lv : List (Option Value)} {st : List Value} {P : Option Value → ks_S → Prop} {x x2 : Int32} {y y2 : Int64} {z z2 c a : Nat} {a0 a1 a2 a3 a4 a5 a6 a7 a8 a9 a10 a11 a12 a13 a14 a15 a16 a17 a18 a19 a20 a21 a22 a23 : Option Value}
theorem dq_Model_film_0 : decode (km_c mm_Model_film) 0 = .ok (.iload_n 1, 1) := by decide +kernel
theorem sq_Model_film_0 : rn G mm_Model_film 0 [a0, some (.int x), a2, a3, a4, a5, a6] st S P ↔ rn G mm_Model_film 1 [a0, some (.int x), a2, a3, a4, a5, a6] (.int x :: st) S P := rn_s dq_Model_film_0 rfl rfl rfl
theorem dq_Model_film_1 : decode (km_c mm_Model_film) 1 = .ok (.i2l, 1) := by decide +kernel
theorem sq_Model_film_1 : rn G mm_Model_film 1 lv (.int x :: st) S P ↔ rn G mm_Model_film 2 lv (.long x.toInt64 :: st) S P := rn_s dq_Model_film_1 rfl rfl rfl
theorem dq_Model_film_2 : decode (km_c mm_Model_film) 2 = .ok (.lconst 0, 1) := by decide +kernel
theorem sq_Model_film_2 : rn G mm_Model_film 2 lv st S P ↔ rn G mm_Model_film 3 lv (.long (0) :: st) S P := rn_s dq_Model_film_2 rfl rfl rfl
theorem dq_Model_film_3 : decode (km_c mm_Model_film) 3 = .ok (.ldc2_w 242, 3) := by decide +kernel
theorem sq_Model_film_3 : rn G mm_Model_film 3 lv st S P ↔ rn G mm_Model_film 6 lv (.long (6) :: st) S P := rn_s dq_Model_film_3 rfl rfl rfl
theorem dq_Model_film_6 : decode (km_c mm_Model_film) 6 = .ok (.invokestatic 76, 3) := by decide +kernel
theorem sq_Model_film_6 {y1 : Int64} {y2 : Int64} {y3 : Int64} {v : Option Value} {S2 : ks_S} (hc : ev G mm_Model_in [.long y1, .long y2, .long y3] S v S2) (hst : kx_cat st ≤ 8) : rn G mm_Model_film 6 lv (.long y3 :: .long y2 :: .long y1 :: st) S P ↔ rn G mm_Model_film 9 lv (v.toList ++ st) S2 P := rn_cs (k := 1) (host := "") (E' := mm_Model_in) dq_Model_film_6 (by decide) (by decide) rfl (ok_v rfl (by decide) (by decide) (Nat.le_add_left _ _) hst (Nat.le_of_ble_eq_true rfl) (Or.inl rfl)) rfl rfl hc
theorem dq_Model_film_9 : decode (km_c mm_Model_film) 9 = .ok (.ifCond .eq 11, 3) := by decide +kernel
theorem sq_Model_film_9 : rn G mm_Model_film 9 lv (.int x :: st) S P ↔ ((x = 0 → rn G mm_Model_film 20 lv st S P) ∧ (¬ (x = 0) → rn G mm_Model_film 12 lv st S P)) := rn_b (off := 11) dq_Model_film_9 rfl rfl rfl rfl
theorem dq_Model_film_12 : decode (km_c mm_Model_film) 12 = .ok (.iload_n 2, 1) := by decide +kernel
theorem sq_Model_film_12 : rn G mm_Model_film 12 [a0, a1, some (.int x), a3, a4, a5, a6] st S P ↔ rn G mm_Model_film 13 [a0, a1, some (.int x), a3, a4, a5, a6] (.int x :: st) S P := rn_s dq_Model_film_12 rfl rfl rfl
theorem dq_Model_film_13 : decode (km_c mm_Model_film) 13 = .ok (.iload_n 3, 1) := by decide +kernel
theorem sq_Model_film_13 : rn G mm_Model_film 13 [a0, a1, a2, some (.int x), a4, a5, a6] st S P ↔ rn G mm_Model_film 14 [a0, a1, a2, some (.int x), a4, a5, a6] (.int x :: st) S P := rn_s dq_Model_film_13 rfl rfl rfl
theorem dq_Model_film_14 : decode (km_c mm_Model_film) 14 = .ok (.invokestatic 265, 3) := by decide +kernel
theorem sq_Model_film_14 {x1 : Int32} {x2 : Int32} {v : Option Value} {S2 : ks_S} (hc : ev G mm_Model_isSheet [.int x1, .int x2] S v S2) (hst : kx_cat st ≤ 8) : rn G mm_Model_film 14 lv (.int x2 :: .int x1 :: st) S P ↔ rn G mm_Model_film 17 lv (v.toList ++ st) S2 P := rn_cs (k := 1) (host := "") (E' := mm_Model_isSheet) dq_Model_film_14 (by decide) (by decide) rfl (ok_v rfl (by decide) (by decide) (Nat.le_add_left _ _) hst (Nat.le_of_ble_eq_true rfl) (Or.inl rfl)) rfl rfl hc
theorem dq_Model_film_17 : decode (km_c mm_Model_film) 17 = .ok (.ifCond .ne 5, 3) := by decide +kernel
theorem sq_Model_film_17 : rn G mm_Model_film 17 lv (.int x :: st) S P ↔ ((¬ x = 0 → rn G mm_Model_film 22 lv st S P) ∧ (¬ (¬ x = 0) → rn G mm_Model_film 20 lv st S P)) := rn_b (off := 5) dq_Model_film_17 rfl rfl rfl rfl
theorem dq_Model_film_20 : decode (km_c mm_Model_film) 20 = .ok (.iconst (-1), 1) := by decide +kernel
theorem sq_Model_film_20 : rn G mm_Model_film 20 lv st S P ↔ rn G mm_Model_film 21 lv (.int ((-1)) :: st) S P := rn_s dq_Model_film_20 rfl rfl rfl
theorem dq_Model_film_21 : decode (km_c mm_Model_film) 21 = .ok (.ireturn, 1) := by decide +kernel
theorem sq_Model_film_21 : rn G mm_Model_film 21 lv [.int x] S P ↔ P (some (.int x)) S := rn_ir dq_Model_film_21 rfl
theorem dq_Model_film_22 : decode (km_c mm_Model_film) 22 = .ok (.aload_n 0, 1) := by decide +kernel
theorem sq_Model_film_22 : rn G mm_Model_film 22 [some (.ref z), a1, a2, a3, a4, a5, a6] st S P ↔ rn G mm_Model_film 23 [some (.ref z), a1, a2, a3, a4, a5, a6] (.ref z :: st) S P := rn_s dq_Model_film_22 rfl rfl rfl
theorem dq_Model_film_23 : decode (km_c mm_Model_film) 23 = .ok (.iload_n 2, 1) := by decide +kernel
theorem sq_Model_film_23 : rn G mm_Model_film 23 [a0, a1, some (.int x), a3, a4, a5, a6] st S P ↔ rn G mm_Model_film 24 [a0, a1, some (.int x), a3, a4, a5, a6] (.int x :: st) S P := rn_s dq_Model_film_23 rfl rfl rfl
theorem dq_Model_film_24 : decode (km_c mm_Model_film) 24 = .ok (.iload_n 3, 1) := by decide +kernel
theorem sq_Model_film_24 : rn G mm_Model_film 24 [a0, a1, a2, some (.int x), a4, a5, a6] st S P ↔ rn G mm_Model_film 25 [a0, a1, a2, some (.int x), a4, a5, a6] (.int x :: st) S P := rn_s dq_Model_film_24 rfl rfl rfl
theorem dq_Model_film_25 : decode (km_c mm_Model_film) 25 = .ok (.iload 4, 2) := by decide +kernel
theorem sq_Model_film_25 : rn G mm_Model_film 25 [a0, a1, a2, a3, some (.int x), a5, a6] st S P ↔ rn G mm_Model_film 27 [a0, a1, a2, a3, some (.int x), a5, a6] (.int x :: st) S P := rn_s dq_Model_film_25 rfl rfl rfl
theorem dq_Model_film_27 : decode (km_c mm_Model_film) 27 = .ok (.bipush 7, 2) := by decide +kernel
theorem sq_Model_film_27 : rn G mm_Model_film 27 lv st S P ↔ rn G mm_Model_film 29 lv (.int (nI 7) :: st) S P := rn_s dq_Model_film_27 rfl rfl rfl
theorem dq_Model_film_29 : decode (km_c mm_Model_film) 29 = .ok (.invokevirtual 268, 3) := by decide +kernel
theorem sq_Model_film_29_45 {x1 : Int32} {x2 : Int32} {x3 : Int32} {x4 : Int32} {v : Option Value} {S2 : ks_S} (hc : ev (lt_G o L) mm_Model_lacksRow [.ref 45, .int x1, .int x2, .int x3, .int x4] (sx pl kp I A) v S2) (ho : sx_o o pl kp) (hst : kx_cat st ≤ 8) : rn (lt_G o L) mm_Model_film 29 lv (.int x4 :: .int x3 :: .int x2 :: .int x1 :: .ref 45 :: st) (sx pl kp I A) P ↔ rn (lt_G o L) mm_Model_film 32 lv (v.toList ++ st) S2 P := rn_cv (k := 0) (host := "") (E' := mm_Model_lacksRow) dq_Model_film_29 rfl (ok_v rfl (by decide) (by decide) (Nat.le_add_left _ _) hst (Nat.le_of_ble_eq_true rfl) (Or.inr (rc_v ho (up_b (by decide)) rfl))) rfl rfl hc
theorem dq_Model_film_32 : decode (km_c mm_Model_film) 32 = .ok (.istore 5, 2) := by decide +kernel
theorem sq_Model_film_32n : rn G mm_Model_film 32 [a0, a1, a2, a3, none, a5, a6] (.int x :: st) S P ↔ rn G mm_Model_film 34 [a0, a1, a2, a3, none, some (.int x), a6] st S P := rn_s dq_Model_film_32 rfl rfl rfl
theorem sq_Model_film_32i : rn G mm_Model_film 32 [a0, a1, a2, a3, some (.int x2), a5, a6] (.int x :: st) S P ↔ rn G mm_Model_film 34 [a0, a1, a2, a3, some (.int x2), some (.int x), a6] st S P := rn_s dq_Model_film_32 rfl rfl rfl
theorem sq_Model_film_32r : rn G mm_Model_film 32 [a0, a1, a2, a3, some (.ref z2), a5, a6] (.int x :: st) S P ↔ rn G mm_Model_film 34 [a0, a1, a2, a3, some (.ref z2), some (.int x), a6] st S P := rn_s dq_Model_film_32 rfl rfl rfl
theorem dq_Model_film_34 : decode (km_c mm_Model_film) 34 = .ok (.iload 5, 2) := by decide +kernel
theorem sq_Model_film_34 : rn G mm_Model_film 34 [a0, a1, a2, a3, a4, some (.int x), a6] st S P ↔ rn G mm_Model_film 36 [a0, a1, a2, a3, a4, some (.int x), a6] (.int x :: st) S P := rn_s dq_Model_film_34 rfl rfl rfl
theorem dq_Model_film_36 : decode (km_c mm_Model_film) 36 = .ok (.ifCond .ge 6, 3) := by decide +kernel
theorem sq_Model_film_36 : rn G mm_Model_film 36 lv (.int x :: st) S P ↔ ((0 ≤ x → rn G mm_Model_film 42 lv st S P) ∧ (¬ (0 ≤ x) → rn G mm_Model_film 39 lv st S P)) := rn_b (off := 6) dq_Model_film_36 rfl rfl rfl rfl
theorem dq_Model_film_39 : decode (km_c mm_Model_film) 39 = .ok (.iload 5, 2) := by decide +kernel
theorem sq_Model_film_39 : rn G mm_Model_film 39 [a0, a1, a2, a3, a4, some (.int x), a6] st S P ↔ rn G mm_Model_film 41 [a0, a1, a2, a3, a4, some (.int x), a6] (.int x :: st) S P := rn_s dq_Model_film_39 rfl rfl rfl
theorem dq_Model_film_41 : decode (km_c mm_Model_film) 41 = .ok (.ireturn, 1) := by decide +kernel
theorem sq_Model_film_41 : rn G mm_Model_film 41 lv [.int x] S P ↔ P (some (.int x)) S := rn_ir dq_Model_film_41 rfl
theorem dq_Model_film_42 : decode (km_c mm_Model_film) 42 = .ok (.aload_n 0, 1) := by decide +kernel
theorem sq_Model_film_42 : rn G mm_Model_film 42 [some (.ref z), a1, a2, a3, a4, a5, a6] st S P ↔ rn G mm_Model_film 43 [some (.ref z), a1, a2, a3, a4, a5, a6] (.ref z :: st) S P := rn_s dq_Model_film_42 rfl rfl rfl
theorem dq_Model_film_43 : decode (km_c mm_Model_film) 43 = .ok (.aload_n 0, 1) := by decide +kernel
theorem sq_Model_film_43 : rn G mm_Model_film 43 [some (.ref z), a1, a2, a3, a4, a5, a6] st S P ↔ rn G mm_Model_film 44 [some (.ref z), a1, a2, a3, a4, a5, a6] (.ref z :: st) S P := rn_s dq_Model_film_43 rfl rfl rfl
theorem dq_Model_film_44 : decode (km_c mm_Model_film) 44 = .ok (.getfield 98, 3) := by decide +kernel
theorem sq_Model_film_44_45 (ho : sx_o o pl kp) : rn (lt_G o L) mm_Model_film 44 lv (.ref 45 :: st) (sx pl kp I A) P ↔ rn (lt_G o L) mm_Model_film 47 lv (.int (I 45 1) :: st) (sx pl kp I A) P := rx_get (h := "") (ci := 10) (k := 1) dq_Model_film_44 (by decide +kernel) ho (up_b (by decide)) rfl rfl (fl_i (by decide))
theorem dq_Model_film_47 : decode (km_c mm_Model_film) 47 = .ok (.invokevirtual 115, 3) := by decide +kernel
theorem sq_Model_film_47_45 {x1 : Int32} {v : Option Value} {S2 : ks_S} (hc : ev (lt_G o L) mm_Model_findWet [.ref 45, .int x1] (sx pl kp I A) v S2) (ho : sx_o o pl kp) (hst : kx_cat st ≤ 8) : rn (lt_G o L) mm_Model_film 47 lv (.int x1 :: .ref 45 :: st) (sx pl kp I A) P ↔ rn (lt_G o L) mm_Model_film 50 lv (v.toList ++ st) S2 P := rn_cv (k := 0) (host := "") (E' := mm_Model_findWet) dq_Model_film_47 rfl (ok_v rfl (by decide) (by decide) (Nat.le_add_left _ _) hst (Nat.le_of_ble_eq_true rfl) (Or.inr (rc_v ho (up_b (by decide)) rfl))) rfl rfl hc
theorem dq_Model_film_50 : decode (km_c mm_Model_film) 50 = .ok (.iconst 0, 1) := by decide +kernel
theorem sq_Model_film_50 : rn G mm_Model_film 50 lv st S P ↔ rn G mm_Model_film 51 lv (.int (nI 0) :: st) S P := rn_s dq_Model_film_50 rfl rfl rfl
theorem dq_Model_film_51 : decode (km_c mm_Model_film) 51 = .ok (.istore 6, 2) := by decide +kernel
theorem sq_Model_film_51n : rn G mm_Model_film 51 [a0, a1, a2, a3, a4, none, a6] (.int x :: st) S P ↔ rn G mm_Model_film 53 [a0, a1, a2, a3, a4, none, some (.int x)] st S P := rn_s dq_Model_film_51 rfl rfl rfl
theorem sq_Model_film_51i : rn G mm_Model_film 51 [a0, a1, a2, a3, a4, some (.int x2), a6] (.int x :: st) S P ↔ rn G mm_Model_film 53 [a0, a1, a2, a3, a4, some (.int x2), some (.int x)] st S P := rn_s dq_Model_film_51 rfl rfl rfl
theorem sq_Model_film_51r : rn G mm_Model_film 51 [a0, a1, a2, a3, a4, some (.ref z2), a6] (.int x :: st) S P ↔ rn G mm_Model_film 53 [a0, a1, a2, a3, a4, some (.ref z2), some (.int x)] st S P := rn_s dq_Model_film_51 rfl rfl rfl
theorem dq_Model_film_53 : decode (km_c mm_Model_film) 53 = .ok (.iload 6, 2) := by decide +kernel
theorem sq_Model_film_53 : rn G mm_Model_film 53 [a0, a1, a2, a3, a4, a5, some (.int x)] st S P ↔ rn G mm_Model_film 55 [a0, a1, a2, a3, a4, a5, some (.int x)] (.int x :: st) S P := rn_s dq_Model_film_53 rfl rfl rfl
theorem dq_Model_film_55 : decode (km_c mm_Model_film) 55 = .ok (.bipush 7, 2) := by decide +kernel
theorem sq_Model_film_55 : rn G mm_Model_film 55 lv st S P ↔ rn G mm_Model_film 57 lv (.int (nI 7) :: st) S P := rn_s dq_Model_film_55 rfl rfl rfl
theorem dq_Model_film_57 : decode (km_c mm_Model_film) 57 = .ok (.if_icmp .ge 43, 3) := by decide +kernel
theorem sq_Model_film_57 : rn G mm_Model_film 57 lv (.int x2 :: .int x :: st) S P ↔ ((x2 ≤ x → rn G mm_Model_film 100 lv st S P) ∧ (¬ (x2 ≤ x) → rn G mm_Model_film 60 lv st S P)) := rn_b (off := 43) dq_Model_film_57 rfl rfl rfl rfl
theorem dq_Model_film_60 : decode (km_c mm_Model_film) 60 = .ok (.aload_n 0, 1) := by decide +kernel
theorem sq_Model_film_60 : rn G mm_Model_film 60 [some (.ref z), a1, a2, a3, a4, a5, a6] st S P ↔ rn G mm_Model_film 61 [some (.ref z), a1, a2, a3, a4, a5, a6] (.ref z :: st) S P := rn_s dq_Model_film_60 rfl rfl rfl
theorem dq_Model_film_61 : decode (km_c mm_Model_film) 61 = .ok (.getfield 71, 3) := by decide +kernel
theorem sq_Model_film_61_45 (ho : sx_o o pl kp) : rn (lt_G o L) mm_Model_film 61 lv (.ref 45 :: st) (sx pl kp I A) P ↔ rn (lt_G o L) mm_Model_film 64 lv (.ref 64 :: st) (sx pl kp I A) P := rx_get (h := "") (ci := 10) (k := 29) dq_Model_film_61 (by decide +kernel) ho (up_b (by decide)) rfl rfl (fl_r (by decide) (by decide) (by decide) (by decide))
theorem dq_Model_film_64 : decode (km_c mm_Model_film) 64 = .ok (.bipush 24, 2) := by decide +kernel
theorem sq_Model_film_64 : rn G mm_Model_film 64 lv st S P ↔ rn G mm_Model_film 66 lv (.int (nI 24) :: st) S P := rn_s dq_Model_film_64 rfl rfl rfl
theorem dq_Model_film_66 : decode (km_c mm_Model_film) 66 = .ok (.iload_n 2, 1) := by decide +kernel
theorem sq_Model_film_66 : rn G mm_Model_film 66 [a0, a1, some (.int x), a3, a4, a5, a6] st S P ↔ rn G mm_Model_film 67 [a0, a1, some (.int x), a3, a4, a5, a6] (.int x :: st) S P := rn_s dq_Model_film_66 rfl rfl rfl
theorem dq_Model_film_67 : decode (km_c mm_Model_film) 67 = .ok (.imul, 1) := by decide +kernel
theorem sq_Model_film_67 : rn G mm_Model_film 67 lv (.int x2 :: .int x :: st) S P ↔ rn G mm_Model_film 68 lv (.int (x * x2) :: st) S P := rn_s dq_Model_film_67 rfl rfl rfl
theorem dq_Model_film_68 : decode (km_c mm_Model_film) 68 = .ok (.iload 4, 2) := by decide +kernel
theorem sq_Model_film_68 : rn G mm_Model_film 68 [a0, a1, a2, a3, some (.int x), a5, a6] st S P ↔ rn G mm_Model_film 70 [a0, a1, a2, a3, some (.int x), a5, a6] (.int x :: st) S P := rn_s dq_Model_film_68 rfl rfl rfl
theorem dq_Model_film_70 : decode (km_c mm_Model_film) 70 = .ok (.iadd, 1) := by decide +kernel
theorem sq_Model_film_70 : rn G mm_Model_film 70 lv (.int x2 :: .int x :: st) S P ↔ rn G mm_Model_film 71 lv (.int (x + x2) :: st) S P := rn_s dq_Model_film_70 rfl rfl rfl
theorem dq_Model_film_71 : decode (km_c mm_Model_film) 71 = .ok (.iload 6, 2) := by decide +kernel
theorem sq_Model_film_71 : rn G mm_Model_film 71 [a0, a1, a2, a3, a4, a5, some (.int x)] st S P ↔ rn G mm_Model_film 73 [a0, a1, a2, a3, a4, a5, some (.int x)] (.int x :: st) S P := rn_s dq_Model_film_71 rfl rfl rfl
theorem dq_Model_film_73 : decode (km_c mm_Model_film) 73 = .ok (.iadd, 1) := by decide +kernel
theorem sq_Model_film_73 : rn G mm_Model_film 73 lv (.int x2 :: .int x :: st) S P ↔ rn G mm_Model_film 74 lv (.int (x + x2) :: st) S P := rn_s dq_Model_film_73 rfl rfl rfl
theorem dq_Model_film_74 : decode (km_c mm_Model_film) 74 = .ok (.iload_n 3, 1) := by decide +kernel
theorem sq_Model_film_74 : rn G mm_Model_film 74 [a0, a1, a2, some (.int x), a4, a5, a6] st S P ↔ rn G mm_Model_film 75 [a0, a1, a2, some (.int x), a4, a5, a6] (.int x :: st) S P := rn_s dq_Model_film_74 rfl rfl rfl
theorem dq_Model_film_75 : decode (km_c mm_Model_film) 75 = .ok (.aload_n 0, 1) := by decide +kernel
theorem sq_Model_film_75 : rn G mm_Model_film 75 [some (.ref z), a1, a2, a3, a4, a5, a6] st S P ↔ rn G mm_Model_film 76 [some (.ref z), a1, a2, a3, a4, a5, a6] (.ref z :: st) S P := rn_s dq_Model_film_75 rfl rfl rfl
theorem dq_Model_film_76 : decode (km_c mm_Model_film) 76 = .ok (.bipush 7, 2) := by decide +kernel
theorem sq_Model_film_76 : rn G mm_Model_film 76 lv st S P ↔ rn G mm_Model_film 78 lv (.int (nI 7) :: st) S P := rn_s dq_Model_film_76 rfl rfl rfl
theorem dq_Model_film_78 : decode (km_c mm_Model_film) 78 = .ok (.iload_n 1, 1) := by decide +kernel
theorem sq_Model_film_78 : rn G mm_Model_film 78 [a0, some (.int x), a2, a3, a4, a5, a6] st S P ↔ rn G mm_Model_film 79 [a0, some (.int x), a2, a3, a4, a5, a6] (.int x :: st) S P := rn_s dq_Model_film_78 rfl rfl rfl
theorem dq_Model_film_79 : decode (km_c mm_Model_film) 79 = .ok (.imul, 1) := by decide +kernel
theorem sq_Model_film_79 : rn G mm_Model_film 79 lv (.int x2 :: .int x :: st) S P ↔ rn G mm_Model_film 80 lv (.int (x * x2) :: st) S P := rn_s dq_Model_film_79 rfl rfl rfl
theorem dq_Model_film_80 : decode (km_c mm_Model_film) 80 = .ok (.iload 6, 2) := by decide +kernel
theorem sq_Model_film_80 : rn G mm_Model_film 80 [a0, a1, a2, a3, a4, a5, some (.int x)] st S P ↔ rn G mm_Model_film 82 [a0, a1, a2, a3, a4, a5, some (.int x)] (.int x :: st) S P := rn_s dq_Model_film_80 rfl rfl rfl
theorem dq_Model_film_82 : decode (km_c mm_Model_film) 82 = .ok (.iadd, 1) := by decide +kernel
theorem sq_Model_film_82 : rn G mm_Model_film 82 lv (.int x2 :: .int x :: st) S P ↔ rn G mm_Model_film 83 lv (.int (x + x2) :: st) S P := rn_s dq_Model_film_82 rfl rfl rfl
theorem dq_Model_film_83 : decode (km_c mm_Model_film) 83 = .ok (.aload_n 0, 1) := by decide +kernel
theorem sq_Model_film_83 : rn G mm_Model_film 83 [some (.ref z), a1, a2, a3, a4, a5, a6] st S P ↔ rn G mm_Model_film 84 [some (.ref z), a1, a2, a3, a4, a5, a6] (.ref z :: st) S P := rn_s dq_Model_film_83 rfl rfl rfl
theorem dq_Model_film_84 : decode (km_c mm_Model_film) 84 = .ok (.getfield 98, 3) := by decide +kernel
theorem sq_Model_film_84_45 (ho : sx_o o pl kp) : rn (lt_G o L) mm_Model_film 84 lv (.ref 45 :: st) (sx pl kp I A) P ↔ rn (lt_G o L) mm_Model_film 87 lv (.int (I 45 1) :: st) (sx pl kp I A) P := rx_get (h := "") (ci := 10) (k := 1) dq_Model_film_84 (by decide +kernel) ho (up_b (by decide)) rfl rfl (fl_i (by decide))
theorem dq_Model_film_87 : decode (km_c mm_Model_film) 87 = .ok (.invokevirtual 101, 3) := by decide +kernel
theorem sq_Model_film_87_45 {x1 : Int32} {x2 : Int32} {v : Option Value} {S2 : ks_S} (hc : ev (lt_G o L) mm_Model_waterAt [.ref 45, .int x1, .int x2] (sx pl kp I A) v S2) (ho : sx_o o pl kp) (hst : kx_cat st ≤ 8) : rn (lt_G o L) mm_Model_film 87 lv (.int x2 :: .int x1 :: .ref 45 :: st) (sx pl kp I A) P ↔ rn (lt_G o L) mm_Model_film 90 lv (v.toList ++ st) S2 P := rn_cv (k := 0) (host := "") (E' := mm_Model_waterAt) dq_Model_film_87 rfl (ok_v rfl (by decide) (by decide) (Nat.le_add_left _ _) hst (Nat.le_of_ble_eq_true rfl) (Or.inr (rc_v ho (up_b (by decide)) rfl))) rfl rfl hc
theorem dq_Model_film_90 : decode (km_c mm_Model_film) 90 = .ok (.invokestatic 272, 3) := by decide +kernel
theorem sq_Model_film_90 {x1 : Int32} {x2 : Int32} {v : Option Value} {S2 : ks_S} (hc : ev G mm_Model_asLane [.int x1, .int x2] S v S2) (hst : kx_cat st ≤ 8) : rn G mm_Model_film 90 lv (.int x2 :: .int x1 :: st) S P ↔ rn G mm_Model_film 93 lv (v.toList ++ st) S2 P := rn_cs (k := 1) (host := "") (E' := mm_Model_asLane) dq_Model_film_90 (by decide) (by decide) rfl (ok_v rfl (by decide) (by decide) (Nat.le_add_left _ _) hst (Nat.le_of_ble_eq_true rfl) (Or.inl rfl)) rfl rfl hc
theorem dq_Model_film_93 : decode (km_c mm_Model_film) 93 = .ok (.iastore, 1) := by decide +kernel
theorem sq_Model_film_93 (ho : sx_o o pl kp) (hk : ak L a = 0) (hu : sx_up pl kp a = true) (hc : c < ln L a) (hn : ln L a < 2 ^ 31) : rn (lt_G o L) mm_Model_film 93 lv (.int x :: .int (nI c) :: .ref a :: st) (sx pl kp I A) P ↔ rn (lt_G o L) mm_Model_film 94 lv st (sx pl kp I (u2 A a c x)) P := rx_ist dq_Model_film_93 ho hk hu hc hn
theorem dq_Model_film_94 : decode (km_c mm_Model_film) 94 = .ok (.iinc 6 1, 3) := by decide +kernel
theorem sq_Model_film_94n : rn G mm_Model_film 94 [a0, a1, a2, a3, a4, none, some (.int x)] st S P ↔ rn G mm_Model_film 97 [a0, a1, a2, a3, a4, none, some (.int (x + nI 1))] st S P := rn_s dq_Model_film_94 rfl rfl rfl
theorem sq_Model_film_94i : rn G mm_Model_film 94 [a0, a1, a2, a3, a4, some (.int x2), some (.int x)] st S P ↔ rn G mm_Model_film 97 [a0, a1, a2, a3, a4, some (.int x2), some (.int (x + nI 1))] st S P := rn_s dq_Model_film_94 rfl rfl rfl
theorem sq_Model_film_94r : rn G mm_Model_film 94 [a0, a1, a2, a3, a4, some (.ref z2), some (.int x)] st S P ↔ rn G mm_Model_film 97 [a0, a1, a2, a3, a4, some (.ref z2), some (.int (x + nI 1))] st S P := rn_s dq_Model_film_94 rfl rfl rfl
theorem dq_Model_film_97 : decode (km_c mm_Model_film) 97 = .ok (.goto (-44), 3) := by decide +kernel
theorem sq_Model_film_97 : rn G mm_Model_film 97 lv st S P ↔ rn G mm_Model_film 53 lv st S P := rn_s dq_Model_film_97 rfl rfl rfl
theorem dq_Model_film_100 : decode (km_c mm_Model_film) 100 = .ok (.bipush 7, 2) := by decide +kernel
theorem sq_Model_film_100 : rn G mm_Model_film 100 lv st S P ↔ rn G mm_Model_film 102 lv (.int (nI 7) :: st) S P := rn_s dq_Model_film_100 rfl rfl rfl
theorem dq_Model_film_102 : decode (km_c mm_Model_film) 102 = .ok (.ireturn, 1) := by decide +kernel
theorem sq_Model_film_102 : rn G mm_Model_film 102 lv [.int x] S P ↔ P (some (.int x)) S := rn_ir dq_Model_film_102 rfl
end SQ
