section SQ
variable {o pl kp : Bool} {L : Nat} {I A : Nat → Nat → Int32} {G : kg_G} {S : ks_S} {lv : List (Option Value)} {st : List Value} {P : Option Value → ks_S → Prop} {x x2 : Int32} {y y2 : Int64} {z z2 c a : Nat} {a0 a1 a2 a3 a4 a5 a6 a7 a8 a9 a10 a11 a12 a13 a14 a15 a16 a17 a18 a19 a20 a21 a22 a23 : Option Value}
theorem dq_Model_villages_0 : decode (km_c mm_Model_villages) 0 = .ok (.aload_n 0, 1) := by decide +kernel
theorem sq_Model_villages_0 : rn G mm_Model_villages 0 [some (.ref z), a1, a2] st S P ↔ rn G mm_Model_villages 1 [some (.ref z), a1, a2] (.ref z :: st) S P := rn_s dq_Model_villages_0 rfl rfl rfl
theorem dq_Model_villages_1 : decode (km_c mm_Model_villages) 1 = .ok (.invokevirtual 181, 3) := by decide +kernel
theorem sq_Model_villages_1_45  {v : Option Value} {S2 : ks_S} (hc : ev (lt_G o L) mm_Model_readVillages [.ref 45] (sx pl kp I A) v S2) (ho : sx_o o pl kp) (hst : kx_cat st ≤ 8) : rn (lt_G o L) mm_Model_villages 1 lv (.ref 45 :: st) (sx pl kp I A) P ↔ rn (lt_G o L) mm_Model_villages 4 lv (v.toList ++ st) S2 P := rn_cv (k := 0) (host := "") (E' := mm_Model_readVillages) dq_Model_villages_1 rfl (ok_v rfl (by decide) (by decide) (Nat.le_add_left _ _) hst (Nat.le_of_ble_eq_true rfl) (Or.inr (rc_v ho (up_b (by decide)) rfl))) rfl rfl hc
theorem dq_Model_villages_4 : decode (km_c mm_Model_villages) 4 = .ok (.istore_n 1, 1) := by decide +kernel
theorem sq_Model_villages_4n : rn G mm_Model_villages 4 [none, a1, a2] (.int x :: st) S P ↔ rn G mm_Model_villages 5 [none, some (.int x), a2] st S P := rn_s dq_Model_villages_4 rfl rfl rfl
theorem sq_Model_villages_4i : rn G mm_Model_villages 4 [some (.int x2), a1, a2] (.int x :: st) S P ↔ rn G mm_Model_villages 5 [some (.int x2), some (.int x), a2] st S P := rn_s dq_Model_villages_4 rfl rfl rfl
theorem sq_Model_villages_4r : rn G mm_Model_villages 4 [some (.ref z2), a1, a2] (.int x :: st) S P ↔ rn G mm_Model_villages 5 [some (.ref z2), some (.int x), a2] st S P := rn_s dq_Model_villages_4 rfl rfl rfl
theorem dq_Model_villages_5 : decode (km_c mm_Model_villages) 5 = .ok (.iload_n 1, 1) := by decide +kernel
theorem sq_Model_villages_5 : rn G mm_Model_villages 5 [a0, some (.int x), a2] st S P ↔ rn G mm_Model_villages 6 [a0, some (.int x), a2] (.int x :: st) S P := rn_s dq_Model_villages_5 rfl rfl rfl
theorem dq_Model_villages_6 : decode (km_c mm_Model_villages) 6 = .ok (.ifCond .ne 8, 3) := by decide +kernel
theorem sq_Model_villages_6 : rn G mm_Model_villages 6 lv (.int x :: st) S P ↔ ((¬ x = 0 → rn G mm_Model_villages 14 lv st S P) ∧ (¬ (¬ x = 0) → rn G mm_Model_villages 9 lv st S P)) := rn_b (off := 8) dq_Model_villages_6 rfl rfl rfl rfl
theorem dq_Model_villages_9 : decode (km_c mm_Model_villages) 9 = .ok (.aload_n 0, 1) := by decide +kernel
theorem sq_Model_villages_9 : rn G mm_Model_villages 9 [some (.ref z), a1, a2] st S P ↔ rn G mm_Model_villages 10 [some (.ref z), a1, a2] (.ref z :: st) S P := rn_s dq_Model_villages_9 rfl rfl rfl
theorem dq_Model_villages_10 : decode (km_c mm_Model_villages) 10 = .ok (.invokevirtual 154, 3) := by decide +kernel
theorem sq_Model_villages_10_45  {v : Option Value} {S2 : ks_S} (hc : ev (lt_G o L) mm_Model_nextByte [.ref 45] (sx pl kp I A) v S2) (ho : sx_o o pl kp) (hst : kx_cat st ≤ 8) : rn (lt_G o L) mm_Model_villages 10 lv (.ref 45 :: st) (sx pl kp I A) P ↔ rn (lt_G o L) mm_Model_villages 13 lv (v.toList ++ st) S2 P := rn_cv (k := 0) (host := "") (E' := mm_Model_nextByte) dq_Model_villages_10 rfl (ok_v rfl (by decide) (by decide) (Nat.le_add_left _ _) hst (Nat.le_of_ble_eq_true rfl) (Or.inr (rc_v ho (up_b (by decide)) rfl))) rfl rfl hc
theorem dq_Model_villages_13 : decode (km_c mm_Model_villages) 13 = .ok (.pop, 1) := by decide +kernel
theorem sq_Model_villages_13i : rn G mm_Model_villages 13 lv (.int x :: st) S P ↔ rn G mm_Model_villages 14 lv st S P := rn_s dq_Model_villages_13 rfl rfl rfl
theorem dq_Model_villages_14 : decode (km_c mm_Model_villages) 14 = .ok (.aload_n 0, 1) := by decide +kernel
theorem sq_Model_villages_14 : rn G mm_Model_villages 14 [some (.ref z), a1, a2] st S P ↔ rn G mm_Model_villages 15 [some (.ref z), a1, a2] (.ref z :: st) S P := rn_s dq_Model_villages_14 rfl rfl rfl
theorem dq_Model_villages_15 : decode (km_c mm_Model_villages) 15 = .ok (.iconst 0, 1) := by decide +kernel
theorem sq_Model_villages_15 : rn G mm_Model_villages 15 lv st S P ↔ rn G mm_Model_villages 16 lv (.int (nI 0) :: st) S P := rn_s dq_Model_villages_15 rfl rfl rfl
theorem dq_Model_villages_16 : decode (km_c mm_Model_villages) 16 = .ok (.putfield 148, 3) := by decide +kernel
theorem sq_Model_villages_16_45 (ho : sx_o o pl kp) : rn (lt_G o L) mm_Model_villages 16 lv (.int x :: .ref 45 :: st) (sx pl kp I A) P ↔ rn (lt_G o L) mm_Model_villages 19 lv st (sx pl kp (u2 I 45 16 x) A) P := rx_put (h := "") (ci := 10) (k := 16) dq_Model_villages_16 (by decide +kernel) ho (up_b (by decide)) rfl rfl (by decide) (by decide)
theorem dq_Model_villages_19 : decode (km_c mm_Model_villages) 19 = .ok (.iload_n 1, 1) := by decide +kernel
theorem sq_Model_villages_19 : rn G mm_Model_villages 19 [a0, some (.int x), a2] st S P ↔ rn G mm_Model_villages 20 [a0, some (.int x), a2] (.int x :: st) S P := rn_s dq_Model_villages_19 rfl rfl rfl
theorem dq_Model_villages_20 : decode (km_c mm_Model_villages) 20 = .ok (.ifCond .ne 11, 3) := by decide +kernel
theorem sq_Model_villages_20 : rn G mm_Model_villages 20 lv (.int x :: st) S P ↔ ((¬ x = 0 → rn G mm_Model_villages 31 lv st S P) ∧ (¬ (¬ x = 0) → rn G mm_Model_villages 23 lv st S P)) := rn_b (off := 11) dq_Model_villages_20 rfl rfl rfl rfl
theorem dq_Model_villages_23 : decode (km_c mm_Model_villages) 23 = .ok (.bipush (-20), 2) := by decide +kernel
theorem sq_Model_villages_23 : rn G mm_Model_villages 23 lv st S P ↔ rn G mm_Model_villages 25 lv (.int ((-20)) :: st) S P := rn_s dq_Model_villages_23 rfl rfl rfl
theorem dq_Model_villages_25 : decode (km_c mm_Model_villages) 25 = .ok (.aload_n 0, 1) := by decide +kernel
theorem sq_Model_villages_25 : rn G mm_Model_villages 25 [some (.ref z), a1, a2] st S P ↔ rn G mm_Model_villages 26 [some (.ref z), a1, a2] (.ref z :: st) S P := rn_s dq_Model_villages_25 rfl rfl rfl
theorem dq_Model_villages_26 : decode (km_c mm_Model_villages) 26 = .ok (.getfield 151, 3) := by decide +kernel
theorem sq_Model_villages_26_45 (ho : sx_o o pl kp) : rn (lt_G o L) mm_Model_villages 26 lv (.ref 45 :: st) (sx pl kp I A) P ↔ rn (lt_G o L) mm_Model_villages 29 lv (.int (I 45 17) :: st) (sx pl kp I A) P := rx_get (h := "") (ci := 10) (k := 17) dq_Model_villages_26 (by decide +kernel) ho (up_b (by decide)) rfl rfl (fl_i (by decide))
theorem dq_Model_villages_29 : decode (km_c mm_Model_villages) 29 = .ok (.isub, 1) := by decide +kernel
theorem sq_Model_villages_29 : rn G mm_Model_villages 29 lv (.int x2 :: .int x :: st) S P ↔ rn G mm_Model_villages 30 lv (.int (x - x2) :: st) S P := rn_s dq_Model_villages_29 rfl rfl rfl
theorem dq_Model_villages_30 : decode (km_c mm_Model_villages) 30 = .ok (.ireturn, 1) := by decide +kernel
theorem sq_Model_villages_30 : rn G mm_Model_villages 30 lv [.int x] S P ↔ P (some (.int x)) S := rn_ir dq_Model_villages_30 rfl
theorem dq_Model_villages_31 : decode (km_c mm_Model_villages) 31 = .ok (.aload_n 0, 1) := by decide +kernel
theorem sq_Model_villages_31 : rn G mm_Model_villages 31 [some (.ref z), a1, a2] st S P ↔ rn G mm_Model_villages 32 [some (.ref z), a1, a2] (.ref z :: st) S P := rn_s dq_Model_villages_31 rfl rfl rfl
theorem dq_Model_villages_32 : decode (km_c mm_Model_villages) 32 = .ok (.aload_n 0, 1) := by decide +kernel
theorem sq_Model_villages_32 : rn G mm_Model_villages 32 [some (.ref z), a1, a2] st S P ↔ rn G mm_Model_villages 33 [some (.ref z), a1, a2] (.ref z :: st) S P := rn_s dq_Model_villages_32 rfl rfl rfl
theorem dq_Model_villages_33 : decode (km_c mm_Model_villages) 33 = .ok (.getfield 165, 3) := by decide +kernel
theorem sq_Model_villages_33_45 (ho : sx_o o pl kp) : rn (lt_G o L) mm_Model_villages 33 lv (.ref 45 :: st) (sx pl kp I A) P ↔ rn (lt_G o L) mm_Model_villages 36 lv (.int (I 45 18) :: st) (sx pl kp I A) P := rx_get (h := "") (ci := 10) (k := 18) dq_Model_villages_33 (by decide +kernel) ho (up_b (by decide)) rfl rfl (fl_i (by decide))
theorem dq_Model_villages_36 : decode (km_c mm_Model_villages) 36 = .ok (.putfield 131, 3) := by decide +kernel
theorem sq_Model_villages_36_45 (ho : sx_o o pl kp) : rn (lt_G o L) mm_Model_villages 36 lv (.int x :: .ref 45 :: st) (sx pl kp I A) P ↔ rn (lt_G o L) mm_Model_villages 39 lv st (sx pl kp (u2 I 45 4 x) A) P := rx_put (h := "") (ci := 10) (k := 4) dq_Model_villages_36 (by decide +kernel) ho (up_b (by decide)) rfl rfl (by decide) (by decide)
theorem dq_Model_villages_39 : decode (km_c mm_Model_villages) 39 = .ok (.iconst 0, 1) := by decide +kernel
theorem sq_Model_villages_39 : rn G mm_Model_villages 39 lv st S P ↔ rn G mm_Model_villages 40 lv (.int (nI 0) :: st) S P := rn_s dq_Model_villages_39 rfl rfl rfl
theorem dq_Model_villages_40 : decode (km_c mm_Model_villages) 40 = .ok (.istore_n 2, 1) := by decide +kernel
theorem sq_Model_villages_40n : rn G mm_Model_villages 40 [a0, none, a2] (.int x :: st) S P ↔ rn G mm_Model_villages 41 [a0, none, some (.int x)] st S P := rn_s dq_Model_villages_40 rfl rfl rfl
theorem sq_Model_villages_40i : rn G mm_Model_villages 40 [a0, some (.int x2), a2] (.int x :: st) S P ↔ rn G mm_Model_villages 41 [a0, some (.int x2), some (.int x)] st S P := rn_s dq_Model_villages_40 rfl rfl rfl
theorem sq_Model_villages_40r : rn G mm_Model_villages 40 [a0, some (.ref z2), a2] (.int x :: st) S P ↔ rn G mm_Model_villages 41 [a0, some (.ref z2), some (.int x)] st S P := rn_s dq_Model_villages_40 rfl rfl rfl
theorem dq_Model_villages_41 : decode (km_c mm_Model_villages) 41 = .ok (.iload_n 2, 1) := by decide +kernel
theorem sq_Model_villages_41 : rn G mm_Model_villages 41 [a0, a1, some (.int x)] st S P ↔ rn G mm_Model_villages 42 [a0, a1, some (.int x)] (.int x :: st) S P := rn_s dq_Model_villages_41 rfl rfl rfl
theorem dq_Model_villages_42 : decode (km_c mm_Model_villages) 42 = .ok (.aload_n 0, 1) := by decide +kernel
theorem sq_Model_villages_42 : rn G mm_Model_villages 42 [some (.ref z), a1, a2] st S P ↔ rn G mm_Model_villages 43 [some (.ref z), a1, a2] (.ref z :: st) S P := rn_s dq_Model_villages_42 rfl rfl rfl
theorem dq_Model_villages_43 : decode (km_c mm_Model_villages) 43 = .ok (.getfield 131, 3) := by decide +kernel
theorem sq_Model_villages_43_45 (ho : sx_o o pl kp) : rn (lt_G o L) mm_Model_villages 43 lv (.ref 45 :: st) (sx pl kp I A) P ↔ rn (lt_G o L) mm_Model_villages 46 lv (.int (I 45 4) :: st) (sx pl kp I A) P := rx_get (h := "") (ci := 10) (k := 4) dq_Model_villages_43 (by decide +kernel) ho (up_b (by decide)) rfl rfl (fl_i (by decide))
theorem dq_Model_villages_46 : decode (km_c mm_Model_villages) 46 = .ok (.if_icmp .ge 39, 3) := by decide +kernel
theorem sq_Model_villages_46 : rn G mm_Model_villages 46 lv (.int x2 :: .int x :: st) S P ↔ ((x2 ≤ x → rn G mm_Model_villages 85 lv st S P) ∧ (¬ (x2 ≤ x) → rn G mm_Model_villages 49 lv st S P)) := rn_b (off := 39) dq_Model_villages_46 rfl rfl rfl rfl
theorem dq_Model_villages_49 : decode (km_c mm_Model_villages) 49 = .ok (.aload_n 0, 1) := by decide +kernel
theorem sq_Model_villages_49 : rn G mm_Model_villages 49 [some (.ref z), a1, a2] st S P ↔ rn G mm_Model_villages 50 [some (.ref z), a1, a2] (.ref z :: st) S P := rn_s dq_Model_villages_49 rfl rfl rfl
theorem dq_Model_villages_50 : decode (km_c mm_Model_villages) 50 = .ok (.getfield 13, 3) := by decide +kernel
theorem sq_Model_villages_50_45 (ho : sx_o o pl kp) : rn (lt_G o L) mm_Model_villages 50 lv (.ref 45 :: st) (sx pl kp I A) P ↔ rn (lt_G o L) mm_Model_villages 53 lv (.ref 47 :: st) (sx pl kp I A) P := rx_get (h := "") (ci := 10) (k := 2) dq_Model_villages_50 (by decide +kernel) ho (up_b (by decide)) rfl rfl (fl_r (by decide) (by decide) (by decide) (by decide))
theorem dq_Model_villages_53 : decode (km_c mm_Model_villages) 53 = .ok (.iload_n 2, 1) := by decide +kernel
theorem sq_Model_villages_53 : rn G mm_Model_villages 53 [a0, a1, some (.int x)] st S P ↔ rn G mm_Model_villages 54 [a0, a1, some (.int x)] (.int x :: st) S P := rn_s dq_Model_villages_53 rfl rfl rfl
theorem dq_Model_villages_54 : decode (km_c mm_Model_villages) 54 = .ok (.aload_n 0, 1) := by decide +kernel
theorem sq_Model_villages_54 : rn G mm_Model_villages 54 [some (.ref z), a1, a2] st S P ↔ rn G mm_Model_villages 55 [some (.ref z), a1, a2] (.ref z :: st) S P := rn_s dq_Model_villages_54 rfl rfl rfl
theorem dq_Model_villages_55 : decode (km_c mm_Model_villages) 55 = .ok (.getfield 44, 3) := by decide +kernel
theorem sq_Model_villages_55_45 (ho : sx_o o pl kp) : rn (lt_G o L) mm_Model_villages 55 lv (.ref 45 :: st) (sx pl kp I A) P ↔ rn (lt_G o L) mm_Model_villages 58 lv (.ref 55 :: st) (sx pl kp I A) P := rx_get (h := "") (ci := 10) (k := 19) dq_Model_villages_55 (by decide +kernel) ho (up_b (by decide)) rfl rfl (fl_r (by decide) (by decide) (by decide) (by decide))
theorem dq_Model_villages_58 : decode (km_c mm_Model_villages) 58 = .ok (.iconst 2, 1) := by decide +kernel
theorem sq_Model_villages_58 : rn G mm_Model_villages 58 lv st S P ↔ rn G mm_Model_villages 59 lv (.int (nI 2) :: st) S P := rn_s dq_Model_villages_58 rfl rfl rfl
theorem dq_Model_villages_59 : decode (km_c mm_Model_villages) 59 = .ok (.iload_n 2, 1) := by decide +kernel
theorem sq_Model_villages_59 : rn G mm_Model_villages 59 [a0, a1, some (.int x)] st S P ↔ rn G mm_Model_villages 60 [a0, a1, some (.int x)] (.int x :: st) S P := rn_s dq_Model_villages_59 rfl rfl rfl
theorem dq_Model_villages_60 : decode (km_c mm_Model_villages) 60 = .ok (.imul, 1) := by decide +kernel
theorem sq_Model_villages_60 : rn G mm_Model_villages 60 lv (.int x2 :: .int x :: st) S P ↔ rn G mm_Model_villages 61 lv (.int (x * x2) :: st) S P := rn_s dq_Model_villages_60 rfl rfl rfl
theorem dq_Model_villages_61 : decode (km_c mm_Model_villages) 61 = .ok (.iaload, 1) := by decide +kernel
theorem sq_Model_villages_61 (ho : sx_o o pl kp) (hk : ak L a = 0) (hu : sx_up pl kp a = true ∨ 1000 ≤ a) (hc : c < ln L a) (hn : ln L a < 2 ^ 31) : rn (lt_G o L) mm_Model_villages 61 lv (.int (nI c) :: .ref a :: st) (sx pl kp I A) P ↔ rn (lt_G o L) mm_Model_villages 62 lv (.int (A a c) :: st) (sx pl kp I A) P := rx_ild dq_Model_villages_61 ho hk hu hc hn
theorem dq_Model_villages_62 : decode (km_c mm_Model_villages) 62 = .ok (.iastore, 1) := by decide +kernel
theorem sq_Model_villages_62 (ho : sx_o o pl kp) (hk : ak L a = 0) (hu : sx_up pl kp a = true) (hc : c < ln L a) (hn : ln L a < 2 ^ 31) : rn (lt_G o L) mm_Model_villages 62 lv (.int x :: .int (nI c) :: .ref a :: st) (sx pl kp I A) P ↔ rn (lt_G o L) mm_Model_villages 63 lv st (sx pl kp I (u2 A a c x)) P := rx_ist dq_Model_villages_62 ho hk hu hc hn
theorem dq_Model_villages_63 : decode (km_c mm_Model_villages) 63 = .ok (.aload_n 0, 1) := by decide +kernel
theorem sq_Model_villages_63 : rn G mm_Model_villages 63 [some (.ref z), a1, a2] st S P ↔ rn G mm_Model_villages 64 [some (.ref z), a1, a2] (.ref z :: st) S P := rn_s dq_Model_villages_63 rfl rfl rfl
theorem dq_Model_villages_64 : decode (km_c mm_Model_villages) 64 = .ok (.getfield 16, 3) := by decide +kernel
theorem sq_Model_villages_64_45 (ho : sx_o o pl kp) : rn (lt_G o L) mm_Model_villages 64 lv (.ref 45 :: st) (sx pl kp I A) P ↔ rn (lt_G o L) mm_Model_villages 67 lv (.ref 48 :: st) (sx pl kp I A) P := rx_get (h := "") (ci := 10) (k := 3) dq_Model_villages_64 (by decide +kernel) ho (up_b (by decide)) rfl rfl (fl_r (by decide) (by decide) (by decide) (by decide))
theorem dq_Model_villages_67 : decode (km_c mm_Model_villages) 67 = .ok (.iload_n 2, 1) := by decide +kernel
theorem sq_Model_villages_67 : rn G mm_Model_villages 67 [a0, a1, some (.int x)] st S P ↔ rn G mm_Model_villages 68 [a0, a1, some (.int x)] (.int x :: st) S P := rn_s dq_Model_villages_67 rfl rfl rfl
theorem dq_Model_villages_68 : decode (km_c mm_Model_villages) 68 = .ok (.aload_n 0, 1) := by decide +kernel
theorem sq_Model_villages_68 : rn G mm_Model_villages 68 [some (.ref z), a1, a2] st S P ↔ rn G mm_Model_villages 69 [some (.ref z), a1, a2] (.ref z :: st) S P := rn_s dq_Model_villages_68 rfl rfl rfl
theorem dq_Model_villages_69 : decode (km_c mm_Model_villages) 69 = .ok (.getfield 44, 3) := by decide +kernel
theorem sq_Model_villages_69_45 (ho : sx_o o pl kp) : rn (lt_G o L) mm_Model_villages 69 lv (.ref 45 :: st) (sx pl kp I A) P ↔ rn (lt_G o L) mm_Model_villages 72 lv (.ref 55 :: st) (sx pl kp I A) P := rx_get (h := "") (ci := 10) (k := 19) dq_Model_villages_69 (by decide +kernel) ho (up_b (by decide)) rfl rfl (fl_r (by decide) (by decide) (by decide) (by decide))
theorem dq_Model_villages_72 : decode (km_c mm_Model_villages) 72 = .ok (.iconst 2, 1) := by decide +kernel
theorem sq_Model_villages_72 : rn G mm_Model_villages 72 lv st S P ↔ rn G mm_Model_villages 73 lv (.int (nI 2) :: st) S P := rn_s dq_Model_villages_72 rfl rfl rfl
theorem dq_Model_villages_73 : decode (km_c mm_Model_villages) 73 = .ok (.iload_n 2, 1) := by decide +kernel
theorem sq_Model_villages_73 : rn G mm_Model_villages 73 [a0, a1, some (.int x)] st S P ↔ rn G mm_Model_villages 74 [a0, a1, some (.int x)] (.int x :: st) S P := rn_s dq_Model_villages_73 rfl rfl rfl
theorem dq_Model_villages_74 : decode (km_c mm_Model_villages) 74 = .ok (.imul, 1) := by decide +kernel
theorem sq_Model_villages_74 : rn G mm_Model_villages 74 lv (.int x2 :: .int x :: st) S P ↔ rn G mm_Model_villages 75 lv (.int (x * x2) :: st) S P := rn_s dq_Model_villages_74 rfl rfl rfl
theorem dq_Model_villages_75 : decode (km_c mm_Model_villages) 75 = .ok (.iconst 1, 1) := by decide +kernel
theorem sq_Model_villages_75 : rn G mm_Model_villages 75 lv st S P ↔ rn G mm_Model_villages 76 lv (.int (nI 1) :: st) S P := rn_s dq_Model_villages_75 rfl rfl rfl
theorem dq_Model_villages_76 : decode (km_c mm_Model_villages) 76 = .ok (.iadd, 1) := by decide +kernel
theorem sq_Model_villages_76 : rn G mm_Model_villages 76 lv (.int x2 :: .int x :: st) S P ↔ rn G mm_Model_villages 77 lv (.int (x + x2) :: st) S P := rn_s dq_Model_villages_76 rfl rfl rfl
theorem dq_Model_villages_77 : decode (km_c mm_Model_villages) 77 = .ok (.iaload, 1) := by decide +kernel
theorem sq_Model_villages_77 (ho : sx_o o pl kp) (hk : ak L a = 0) (hu : sx_up pl kp a = true ∨ 1000 ≤ a) (hc : c < ln L a) (hn : ln L a < 2 ^ 31) : rn (lt_G o L) mm_Model_villages 77 lv (.int (nI c) :: .ref a :: st) (sx pl kp I A) P ↔ rn (lt_G o L) mm_Model_villages 78 lv (.int (A a c) :: st) (sx pl kp I A) P := rx_ild dq_Model_villages_77 ho hk hu hc hn
theorem dq_Model_villages_78 : decode (km_c mm_Model_villages) 78 = .ok (.iastore, 1) := by decide +kernel
theorem sq_Model_villages_78 (ho : sx_o o pl kp) (hk : ak L a = 0) (hu : sx_up pl kp a = true) (hc : c < ln L a) (hn : ln L a < 2 ^ 31) : rn (lt_G o L) mm_Model_villages 78 lv (.int x :: .int (nI c) :: .ref a :: st) (sx pl kp I A) P ↔ rn (lt_G o L) mm_Model_villages 79 lv st (sx pl kp I (u2 A a c x)) P := rx_ist dq_Model_villages_78 ho hk hu hc hn
theorem dq_Model_villages_79 : decode (km_c mm_Model_villages) 79 = .ok (.iinc 2 1, 3) := by decide +kernel
theorem sq_Model_villages_79n : rn G mm_Model_villages 79 [a0, none, some (.int x)] st S P ↔ rn G mm_Model_villages 82 [a0, none, some (.int (x + nI 1))] st S P := rn_s dq_Model_villages_79 rfl rfl rfl
theorem sq_Model_villages_79i : rn G mm_Model_villages 79 [a0, some (.int x2), some (.int x)] st S P ↔ rn G mm_Model_villages 82 [a0, some (.int x2), some (.int (x + nI 1))] st S P := rn_s dq_Model_villages_79 rfl rfl rfl
theorem sq_Model_villages_79r : rn G mm_Model_villages 79 [a0, some (.ref z2), some (.int x)] st S P ↔ rn G mm_Model_villages 82 [a0, some (.ref z2), some (.int (x + nI 1))] st S P := rn_s dq_Model_villages_79 rfl rfl rfl
theorem dq_Model_villages_82 : decode (km_c mm_Model_villages) 82 = .ok (.goto (-41), 3) := by decide +kernel
theorem sq_Model_villages_82 : rn G mm_Model_villages 82 lv st S P ↔ rn G mm_Model_villages 41 lv st S P := rn_s dq_Model_villages_82 rfl rfl rfl
theorem dq_Model_villages_85 : decode (km_c mm_Model_villages) 85 = .ok (.aload_n 0, 1) := by decide +kernel
theorem sq_Model_villages_85 : rn G mm_Model_villages 85 [some (.ref z), a1, a2] st S P ↔ rn G mm_Model_villages 86 [some (.ref z), a1, a2] (.ref z :: st) S P := rn_s dq_Model_villages_85 rfl rfl rfl
theorem dq_Model_villages_86 : decode (km_c mm_Model_villages) 86 = .ok (.getfield 131, 3) := by decide +kernel
theorem sq_Model_villages_86_45 (ho : sx_o o pl kp) : rn (lt_G o L) mm_Model_villages 86 lv (.ref 45 :: st) (sx pl kp I A) P ↔ rn (lt_G o L) mm_Model_villages 89 lv (.int (I 45 4) :: st) (sx pl kp I A) P := rx_get (h := "") (ci := 10) (k := 4) dq_Model_villages_86 (by decide +kernel) ho (up_b (by decide)) rfl rfl (fl_i (by decide))
theorem dq_Model_villages_89 : decode (km_c mm_Model_villages) 89 = .ok (.ireturn, 1) := by decide +kernel
theorem sq_Model_villages_89 : rn G mm_Model_villages 89 lv [.int x] S P ↔ P (some (.int x)) S := rn_ir dq_Model_villages_89 rfl
theorem dq_Model_readVillages_0 : decode (km_c mm_Model_readVillages) 0 = .ok (.aload_n 0, 1) := by decide +kernel
theorem sq_Model_readVillages_0 : rn G mm_Model_readVillages 0 [some (.ref z), a1, a2] st S P ↔ rn G mm_Model_readVillages 1 [some (.ref z), a1, a2] (.ref z :: st) S P := rn_s dq_Model_readVillages_0 rfl rfl rfl
theorem dq_Model_readVillages_1 : decode (km_c mm_Model_readVillages) 1 = .ok (.iconst 0, 1) := by decide +kernel
theorem sq_Model_readVillages_1 : rn G mm_Model_readVillages 1 lv st S P ↔ rn G mm_Model_readVillages 2 lv (.int (nI 0) :: st) S P := rn_s dq_Model_readVillages_1 rfl rfl rfl
theorem dq_Model_readVillages_2 : decode (km_c mm_Model_readVillages) 2 = .ok (.putfield 151, 3) := by decide +kernel
theorem sq_Model_readVillages_2_45 (ho : sx_o o pl kp) : rn (lt_G o L) mm_Model_readVillages 2 lv (.int x :: .ref 45 :: st) (sx pl kp I A) P ↔ rn (lt_G o L) mm_Model_readVillages 5 lv st (sx pl kp (u2 I 45 17 x) A) P := rx_put (h := "") (ci := 10) (k := 17) dq_Model_readVillages_2 (by decide +kernel) ho (up_b (by decide)) rfl rfl (by decide) (by decide)
theorem dq_Model_readVillages_5 : decode (km_c mm_Model_readVillages) 5 = .ok (.iconst 0, 1) := by decide +kernel
theorem sq_Model_readVillages_5 : rn G mm_Model_readVillages 5 lv st S P ↔ rn G mm_Model_readVillages 6 lv (.int (nI 0) :: st) S P := rn_s dq_Model_readVillages_5 rfl rfl rfl
theorem dq_Model_readVillages_6 : decode (km_c mm_Model_readVillages) 6 = .ok (.istore_n 1, 1) := by decide +kernel
theorem sq_Model_readVillages_6n : rn G mm_Model_readVillages 6 [none, a1, a2] (.int x :: st) S P ↔ rn G mm_Model_readVillages 7 [none, some (.int x), a2] st S P := rn_s dq_Model_readVillages_6 rfl rfl rfl
theorem sq_Model_readVillages_6i : rn G mm_Model_readVillages 6 [some (.int x2), a1, a2] (.int x :: st) S P ↔ rn G mm_Model_readVillages 7 [some (.int x2), some (.int x), a2] st S P := rn_s dq_Model_readVillages_6 rfl rfl rfl
theorem sq_Model_readVillages_6r : rn G mm_Model_readVillages 6 [some (.ref z2), a1, a2] (.int x :: st) S P ↔ rn G mm_Model_readVillages 7 [some (.ref z2), some (.int x), a2] st S P := rn_s dq_Model_readVillages_6 rfl rfl rfl
theorem dq_Model_readVillages_7 : decode (km_c mm_Model_readVillages) 7 = .ok (.iload_n 1, 1) := by decide +kernel
theorem sq_Model_readVillages_7 : rn G mm_Model_readVillages 7 [a0, some (.int x), a2] st S P ↔ rn G mm_Model_readVillages 8 [a0, some (.int x), a2] (.int x :: st) S P := rn_s dq_Model_readVillages_7 rfl rfl rfl
theorem dq_Model_readVillages_8 : decode (km_c mm_Model_readVillages) 8 = .ok (.bipush 6, 2) := by decide +kernel
theorem sq_Model_readVillages_8 : rn G mm_Model_readVillages 8 lv st S P ↔ rn G mm_Model_readVillages 10 lv (.int (nI 6) :: st) S P := rn_s dq_Model_readVillages_8 rfl rfl rfl
theorem dq_Model_readVillages_10 : decode (km_c mm_Model_readVillages) 10 = .ok (.if_icmp .ge 60, 3) := by decide +kernel
theorem sq_Model_readVillages_10 : rn G mm_Model_readVillages 10 lv (.int x2 :: .int x :: st) S P ↔ ((x2 ≤ x → rn G mm_Model_readVillages 70 lv st S P) ∧ (¬ (x2 ≤ x) → rn G mm_Model_readVillages 13 lv st S P)) := rn_b (off := 60) dq_Model_readVillages_10 rfl rfl rfl rfl
theorem dq_Model_readVillages_13 : decode (km_c mm_Model_readVillages) 13 = .ok (.aload_n 0, 1) := by decide +kernel
theorem sq_Model_readVillages_13 : rn G mm_Model_readVillages 13 [some (.ref z), a1, a2] st S P ↔ rn G mm_Model_readVillages 14 [some (.ref z), a1, a2] (.ref z :: st) S P := rn_s dq_Model_readVillages_13 rfl rfl rfl
theorem dq_Model_readVillages_14 : decode (km_c mm_Model_readVillages) 14 = .ok (.iload_n 1, 1) := by decide +kernel
theorem sq_Model_readVillages_14 : rn G mm_Model_readVillages 14 [a0, some (.int x), a2] st S P ↔ rn G mm_Model_readVillages 15 [a0, some (.int x), a2] (.int x :: st) S P := rn_s dq_Model_readVillages_14 rfl rfl rfl
theorem dq_Model_readVillages_15 : decode (km_c mm_Model_readVillages) 15 = .ok (.invokevirtual 178, 3) := by decide +kernel
theorem sq_Model_readVillages_15_45 {x1 : Int32} {v : Option Value} {S2 : ks_S} (hc : ev (lt_G o L) mm_Model_readVillage [.ref 45, .int x1] (sx pl kp I A) v S2) (ho : sx_o o pl kp) (hst : kx_cat st ≤ 8) : rn (lt_G o L) mm_Model_readVillages 15 lv (.int x1 :: .ref 45 :: st) (sx pl kp I A) P ↔ rn (lt_G o L) mm_Model_readVillages 18 lv (v.toList ++ st) S2 P := rn_cv (k := 0) (host := "") (E' := mm_Model_readVillage) dq_Model_readVillages_15 rfl (ok_v rfl (by decide) (by decide) (Nat.le_add_left _ _) hst (Nat.le_of_ble_eq_true rfl) (Or.inr (rc_v ho (up_b (by decide)) rfl))) rfl rfl hc
theorem dq_Model_readVillages_18 : decode (km_c mm_Model_readVillages) 18 = .ok (.ifCond .ne 5, 3) := by decide +kernel
theorem sq_Model_readVillages_18 : rn G mm_Model_readVillages 18 lv (.int x :: st) S P ↔ ((¬ x = 0 → rn G mm_Model_readVillages 23 lv st S P) ∧ (¬ (¬ x = 0) → rn G mm_Model_readVillages 21 lv st S P)) := rn_b (off := 5) dq_Model_readVillages_18 rfl rfl rfl rfl
theorem dq_Model_readVillages_21 : decode (km_c mm_Model_readVillages) 21 = .ok (.iconst 0, 1) := by decide +kernel
theorem sq_Model_readVillages_21 : rn G mm_Model_readVillages 21 lv st S P ↔ rn G mm_Model_readVillages 22 lv (.int (nI 0) :: st) S P := rn_s dq_Model_readVillages_21 rfl rfl rfl
theorem dq_Model_readVillages_22 : decode (km_c mm_Model_readVillages) 22 = .ok (.ireturn, 1) := by decide +kernel
theorem sq_Model_readVillages_22_0 : rn G mm_Model_readVillages 22 lv [.int (nI 0)] S P ↔ P (some (.int (nI 0))) S := rn_ir dq_Model_readVillages_22 (by decide)
theorem sq_Model_readVillages_22_1 : rn G mm_Model_readVillages 22 lv [.int (nI 1)] S P ↔ P (some (.int (nI 1))) S := rn_ir dq_Model_readVillages_22 (by decide)
theorem dq_Model_readVillages_23 : decode (km_c mm_Model_readVillages) 23 = .ok (.aload_n 0, 1) := by decide +kernel
theorem sq_Model_readVillages_23 : rn G mm_Model_readVillages 23 [some (.ref z), a1, a2] st S P ↔ rn G mm_Model_readVillages 24 [some (.ref z), a1, a2] (.ref z :: st) S P := rn_s dq_Model_readVillages_23 rfl rfl rfl
theorem dq_Model_readVillages_24 : decode (km_c mm_Model_readVillages) 24 = .ok (.iload_n 1, 1) := by decide +kernel
theorem sq_Model_readVillages_24 : rn G mm_Model_readVillages 24 [a0, some (.int x), a2] st S P ↔ rn G mm_Model_readVillages 25 [a0, some (.int x), a2] (.int x :: st) S P := rn_s dq_Model_readVillages_24 rfl rfl rfl
theorem dq_Model_readVillages_25 : decode (km_c mm_Model_readVillages) 25 = .ok (.iconst 1, 1) := by decide +kernel
theorem sq_Model_readVillages_25 : rn G mm_Model_readVillages 25 lv st S P ↔ rn G mm_Model_readVillages 26 lv (.int (nI 1) :: st) S P := rn_s dq_Model_readVillages_25 rfl rfl rfl
theorem dq_Model_readVillages_26 : decode (km_c mm_Model_readVillages) 26 = .ok (.iadd, 1) := by decide +kernel
theorem sq_Model_readVillages_26 : rn G mm_Model_readVillages 26 lv (.int x2 :: .int x :: st) S P ↔ rn G mm_Model_readVillages 27 lv (.int (x + x2) :: st) S P := rn_s dq_Model_readVillages_26 rfl rfl rfl
theorem dq_Model_readVillages_27 : decode (km_c mm_Model_readVillages) 27 = .ok (.putfield 165, 3) := by decide +kernel
theorem sq_Model_readVillages_27_45 (ho : sx_o o pl kp) : rn (lt_G o L) mm_Model_readVillages 27 lv (.int x :: .ref 45 :: st) (sx pl kp I A) P ↔ rn (lt_G o L) mm_Model_readVillages 30 lv st (sx pl kp (u2 I 45 18 x) A) P := rx_put (h := "") (ci := 10) (k := 18) dq_Model_readVillages_27 (by decide +kernel) ho (up_b (by decide)) rfl rfl (by decide) (by decide)
theorem dq_Model_readVillages_30 : decode (km_c mm_Model_readVillages) 30 = .ok (.aload_n 0, 1) := by decide +kernel
theorem sq_Model_readVillages_30 : rn G mm_Model_readVillages 30 [some (.ref z), a1, a2] st S P ↔ rn G mm_Model_readVillages 31 [some (.ref z), a1, a2] (.ref z :: st) S P := rn_s dq_Model_readVillages_30 rfl rfl rfl
theorem dq_Model_readVillages_31 : decode (km_c mm_Model_readVillages) 31 = .ok (.invokevirtual 154, 3) := by decide +kernel
theorem sq_Model_readVillages_31_45  {v : Option Value} {S2 : ks_S} (hc : ev (lt_G o L) mm_Model_nextByte [.ref 45] (sx pl kp I A) v S2) (ho : sx_o o pl kp) (hst : kx_cat st ≤ 8) : rn (lt_G o L) mm_Model_readVillages 31 lv (.ref 45 :: st) (sx pl kp I A) P ↔ rn (lt_G o L) mm_Model_readVillages 34 lv (v.toList ++ st) S2 P := rn_cv (k := 0) (host := "") (E' := mm_Model_nextByte) dq_Model_readVillages_31 rfl (ok_v rfl (by decide) (by decide) (Nat.le_add_left _ _) hst (Nat.le_of_ble_eq_true rfl) (Or.inr (rc_v ho (up_b (by decide)) rfl))) rfl rfl hc
theorem dq_Model_readVillages_34 : decode (km_c mm_Model_readVillages) 34 = .ok (.istore_n 2, 1) := by decide +kernel
theorem sq_Model_readVillages_34n : rn G mm_Model_readVillages 34 [a0, none, a2] (.int x :: st) S P ↔ rn G mm_Model_readVillages 35 [a0, none, some (.int x)] st S P := rn_s dq_Model_readVillages_34 rfl rfl rfl
theorem sq_Model_readVillages_34i : rn G mm_Model_readVillages 34 [a0, some (.int x2), a2] (.int x :: st) S P ↔ rn G mm_Model_readVillages 35 [a0, some (.int x2), some (.int x)] st S P := rn_s dq_Model_readVillages_34 rfl rfl rfl
theorem sq_Model_readVillages_34r : rn G mm_Model_readVillages 34 [a0, some (.ref z2), a2] (.int x :: st) S P ↔ rn G mm_Model_readVillages 35 [a0, some (.ref z2), some (.int x)] st S P := rn_s dq_Model_readVillages_34 rfl rfl rfl
theorem dq_Model_readVillages_35 : decode (km_c mm_Model_readVillages) 35 = .ok (.iload_n 2, 1) := by decide +kernel
theorem sq_Model_readVillages_35 : rn G mm_Model_readVillages 35 [a0, a1, some (.int x)] st S P ↔ rn G mm_Model_readVillages 36 [a0, a1, some (.int x)] (.int x :: st) S P := rn_s dq_Model_readVillages_35 rfl rfl rfl
theorem dq_Model_readVillages_36 : decode (km_c mm_Model_readVillages) 36 = .ok (.ifCond .ge 5, 3) := by decide +kernel
theorem sq_Model_readVillages_36 : rn G mm_Model_readVillages 36 lv (.int x :: st) S P ↔ ((0 ≤ x → rn G mm_Model_readVillages 41 lv st S P) ∧ (¬ (0 ≤ x) → rn G mm_Model_readVillages 39 lv st S P)) := rn_b (off := 5) dq_Model_readVillages_36 rfl rfl rfl rfl
theorem dq_Model_readVillages_39 : decode (km_c mm_Model_readVillages) 39 = .ok (.iconst 1, 1) := by decide +kernel
theorem sq_Model_readVillages_39 : rn G mm_Model_readVillages 39 lv st S P ↔ rn G mm_Model_readVillages 40 lv (.int (nI 1) :: st) S P := rn_s dq_Model_readVillages_39 rfl rfl rfl
theorem dq_Model_readVillages_40 : decode (km_c mm_Model_readVillages) 40 = .ok (.ireturn, 1) := by decide +kernel
theorem sq_Model_readVillages_40_0 : rn G mm_Model_readVillages 40 lv [.int (nI 0)] S P ↔ P (some (.int (nI 0))) S := rn_ir dq_Model_readVillages_40 (by decide)
theorem sq_Model_readVillages_40_1 : rn G mm_Model_readVillages 40 lv [.int (nI 1)] S P ↔ P (some (.int (nI 1))) S := rn_ir dq_Model_readVillages_40 (by decide)
theorem dq_Model_readVillages_41 : decode (km_c mm_Model_readVillages) 41 = .ok (.iload_n 2, 1) := by decide +kernel
theorem sq_Model_readVillages_41 : rn G mm_Model_readVillages 41 [a0, a1, some (.int x)] st S P ↔ rn G mm_Model_readVillages 42 [a0, a1, some (.int x)] (.int x :: st) S P := rn_s dq_Model_readVillages_41 rfl rfl rfl
theorem dq_Model_readVillages_42 : decode (km_c mm_Model_readVillages) 42 = .ok (.bipush 44, 2) := by decide +kernel
theorem sq_Model_readVillages_42 : rn G mm_Model_readVillages 42 lv st S P ↔ rn G mm_Model_readVillages 44 lv (.int (nI 44) :: st) S P := rn_s dq_Model_readVillages_42 rfl rfl rfl
theorem dq_Model_readVillages_44 : decode (km_c mm_Model_readVillages) 44 = .ok (.if_icmp .ne 8, 3) := by decide +kernel
theorem sq_Model_readVillages_44 : rn G mm_Model_readVillages 44 lv (.int x2 :: .int x :: st) S P ↔ ((¬ x = x2 → rn G mm_Model_readVillages 52 lv st S P) ∧ (¬ (¬ x = x2) → rn G mm_Model_readVillages 47 lv st S P)) := rn_b (off := 8) dq_Model_readVillages_44 rfl rfl rfl rfl
theorem dq_Model_readVillages_47 : decode (km_c mm_Model_readVillages) 47 = .ok (.iload_n 1, 1) := by decide +kernel
theorem sq_Model_readVillages_47 : rn G mm_Model_readVillages 47 [a0, some (.int x), a2] st S P ↔ rn G mm_Model_readVillages 48 [a0, some (.int x), a2] (.int x :: st) S P := rn_s dq_Model_readVillages_47 rfl rfl rfl
theorem dq_Model_readVillages_48 : decode (km_c mm_Model_readVillages) 48 = .ok (.iconst 5, 1) := by decide +kernel
theorem sq_Model_readVillages_48 : rn G mm_Model_readVillages 48 lv st S P ↔ rn G mm_Model_readVillages 49 lv (.int (nI 5) :: st) S P := rn_s dq_Model_readVillages_48 rfl rfl rfl
theorem dq_Model_readVillages_49 : decode (km_c mm_Model_readVillages) 49 = .ok (.if_icmp .ne 5, 3) := by decide +kernel
theorem sq_Model_readVillages_49 : rn G mm_Model_readVillages 49 lv (.int x2 :: .int x :: st) S P ↔ ((¬ x = x2 → rn G mm_Model_readVillages 54 lv st S P) ∧ (¬ (¬ x = x2) → rn G mm_Model_readVillages 52 lv st S P)) := rn_b (off := 5) dq_Model_readVillages_49 rfl rfl rfl rfl
theorem dq_Model_readVillages_52 : decode (km_c mm_Model_readVillages) 52 = .ok (.iconst 0, 1) := by decide +kernel
theorem sq_Model_readVillages_52 : rn G mm_Model_readVillages 52 lv st S P ↔ rn G mm_Model_readVillages 53 lv (.int (nI 0) :: st) S P := rn_s dq_Model_readVillages_52 rfl rfl rfl
theorem dq_Model_readVillages_53 : decode (km_c mm_Model_readVillages) 53 = .ok (.ireturn, 1) := by decide +kernel
theorem sq_Model_readVillages_53_0 : rn G mm_Model_readVillages 53 lv [.int (nI 0)] S P ↔ P (some (.int (nI 0))) S := rn_ir dq_Model_readVillages_53 (by decide)
theorem sq_Model_readVillages_53_1 : rn G mm_Model_readVillages 53 lv [.int (nI 1)] S P ↔ P (some (.int (nI 1))) S := rn_ir dq_Model_readVillages_53 (by decide)
theorem dq_Model_readVillages_54 : decode (km_c mm_Model_readVillages) 54 = .ok (.aload_n 0, 1) := by decide +kernel
theorem sq_Model_readVillages_54 : rn G mm_Model_readVillages 54 [some (.ref z), a1, a2] st S P ↔ rn G mm_Model_readVillages 55 [some (.ref z), a1, a2] (.ref z :: st) S P := rn_s dq_Model_readVillages_54 rfl rfl rfl
theorem dq_Model_readVillages_55 : decode (km_c mm_Model_readVillages) 55 = .ok (.dup, 1) := by decide +kernel
theorem sq_Model_readVillages_55i : rn G mm_Model_readVillages 55 lv (.int x :: st) S P ↔ rn G mm_Model_readVillages 56 lv (.int x :: .int x :: st) S P := rn_s dq_Model_readVillages_55 rfl rfl rfl
theorem sq_Model_readVillages_55r : rn G mm_Model_readVillages 55 lv (.ref z :: st) S P ↔ rn G mm_Model_readVillages 56 lv (.ref z :: .ref z :: st) S P := rn_s dq_Model_readVillages_55 rfl rfl rfl
theorem dq_Model_readVillages_56 : decode (km_c mm_Model_readVillages) 56 = .ok (.getfield 151, 3) := by decide +kernel
theorem sq_Model_readVillages_56_45 (ho : sx_o o pl kp) : rn (lt_G o L) mm_Model_readVillages 56 lv (.ref 45 :: st) (sx pl kp I A) P ↔ rn (lt_G o L) mm_Model_readVillages 59 lv (.int (I 45 17) :: st) (sx pl kp I A) P := rx_get (h := "") (ci := 10) (k := 17) dq_Model_readVillages_56 (by decide +kernel) ho (up_b (by decide)) rfl rfl (fl_i (by decide))
theorem dq_Model_readVillages_59 : decode (km_c mm_Model_readVillages) 59 = .ok (.iconst 1, 1) := by decide +kernel
theorem sq_Model_readVillages_59 : rn G mm_Model_readVillages 59 lv st S P ↔ rn G mm_Model_readVillages 60 lv (.int (nI 1) :: st) S P := rn_s dq_Model_readVillages_59 rfl rfl rfl
theorem dq_Model_readVillages_60 : decode (km_c mm_Model_readVillages) 60 = .ok (.iadd, 1) := by decide +kernel
theorem sq_Model_readVillages_60 : rn G mm_Model_readVillages 60 lv (.int x2 :: .int x :: st) S P ↔ rn G mm_Model_readVillages 61 lv (.int (x + x2) :: st) S P := rn_s dq_Model_readVillages_60 rfl rfl rfl
theorem dq_Model_readVillages_61 : decode (km_c mm_Model_readVillages) 61 = .ok (.putfield 151, 3) := by decide +kernel
theorem sq_Model_readVillages_61_45 (ho : sx_o o pl kp) : rn (lt_G o L) mm_Model_readVillages 61 lv (.int x :: .ref 45 :: st) (sx pl kp I A) P ↔ rn (lt_G o L) mm_Model_readVillages 64 lv st (sx pl kp (u2 I 45 17 x) A) P := rx_put (h := "") (ci := 10) (k := 17) dq_Model_readVillages_61 (by decide +kernel) ho (up_b (by decide)) rfl rfl (by decide) (by decide)
theorem dq_Model_readVillages_64 : decode (km_c mm_Model_readVillages) 64 = .ok (.iinc 1 1, 3) := by decide +kernel
theorem sq_Model_readVillages_64n : rn G mm_Model_readVillages 64 [none, some (.int x), a2] st S P ↔ rn G mm_Model_readVillages 67 [none, some (.int (x + nI 1)), a2] st S P := rn_s dq_Model_readVillages_64 rfl rfl rfl
theorem sq_Model_readVillages_64i : rn G mm_Model_readVillages 64 [some (.int x2), some (.int x), a2] st S P ↔ rn G mm_Model_readVillages 67 [some (.int x2), some (.int (x + nI 1)), a2] st S P := rn_s dq_Model_readVillages_64 rfl rfl rfl
theorem sq_Model_readVillages_64r : rn G mm_Model_readVillages 64 [some (.ref z2), some (.int x), a2] st S P ↔ rn G mm_Model_readVillages 67 [some (.ref z2), some (.int (x + nI 1)), a2] st S P := rn_s dq_Model_readVillages_64 rfl rfl rfl
theorem dq_Model_readVillages_67 : decode (km_c mm_Model_readVillages) 67 = .ok (.goto (-60), 3) := by decide +kernel
theorem sq_Model_readVillages_67 : rn G mm_Model_readVillages 67 lv st S P ↔ rn G mm_Model_readVillages 7 lv st S P := rn_s dq_Model_readVillages_67 rfl rfl rfl
theorem dq_Model_readVillages_70 : decode (km_c mm_Model_readVillages) 70 = .ok (.iconst 0, 1) := by decide +kernel
theorem sq_Model_readVillages_70 : rn G mm_Model_readVillages 70 lv st S P ↔ rn G mm_Model_readVillages 71 lv (.int (nI 0) :: st) S P := rn_s dq_Model_readVillages_70 rfl rfl rfl
theorem dq_Model_readVillages_71 : decode (km_c mm_Model_readVillages) 71 = .ok (.ireturn, 1) := by decide +kernel
theorem sq_Model_readVillages_71_0 : rn G mm_Model_readVillages 71 lv [.int (nI 0)] S P ↔ P (some (.int (nI 0))) S := rn_ir dq_Model_readVillages_71 (by decide)
theorem sq_Model_readVillages_71_1 : rn G mm_Model_readVillages 71 lv [.int (nI 1)] S P ↔ P (some (.int (nI 1))) S := rn_ir dq_Model_readVillages_71 (by decide)
theorem dq_Model_readVillage_0 : decode (km_c mm_Model_readVillage) 0 = .ok (.aload_n 0, 1) := by decide +kernel
theorem sq_Model_readVillage_0 : rn G mm_Model_readVillage 0 [some (.ref z), a1, a2, a3, a4] st S P ↔ rn G mm_Model_readVillage 1 [some (.ref z), a1, a2, a3, a4] (.ref z :: st) S P := rn_s dq_Model_readVillage_0 rfl rfl rfl
theorem dq_Model_readVillage_1 : decode (km_c mm_Model_readVillage) 1 = .ok (.bipush 6, 2) := by decide +kernel
theorem sq_Model_readVillage_1 : rn G mm_Model_readVillage 1 lv st S P ↔ rn G mm_Model_readVillage 3 lv (.int (nI 6) :: st) S P := rn_s dq_Model_readVillage_1 rfl rfl rfl
theorem dq_Model_readVillage_3 : decode (km_c mm_Model_readVillage) 3 = .ok (.invokevirtual 159, 3) := by decide +kernel
theorem sq_Model_readVillage_3_45 {x1 : Int32} {v : Option Value} {S2 : ks_S} (hc : ev (lt_G o L) mm_Model_readDigit [.ref 45, .int x1] (sx pl kp I A) v S2) (ho : sx_o o pl kp) (hst : kx_cat st ≤ 8) : rn (lt_G o L) mm_Model_readVillage 3 lv (.int x1 :: .ref 45 :: st) (sx pl kp I A) P ↔ rn (lt_G o L) mm_Model_readVillage 6 lv (v.toList ++ st) S2 P := rn_cv (k := 0) (host := "") (E' := mm_Model_readDigit) dq_Model_readVillage_3 rfl (ok_v rfl (by decide) (by decide) (Nat.le_add_left _ _) hst (Nat.le_of_ble_eq_true rfl) (Or.inr (rc_v ho (up_b (by decide)) rfl))) rfl rfl hc
theorem dq_Model_readVillage_6 : decode (km_c mm_Model_readVillage) 6 = .ok (.istore_n 2, 1) := by decide +kernel
theorem sq_Model_readVillage_6n : rn G mm_Model_readVillage 6 [a0, none, a2, a3, a4] (.int x :: st) S P ↔ rn G mm_Model_readVillage 7 [a0, none, some (.int x), a3, a4] st S P := rn_s dq_Model_readVillage_6 rfl rfl rfl
theorem sq_Model_readVillage_6i : rn G mm_Model_readVillage 6 [a0, some (.int x2), a2, a3, a4] (.int x :: st) S P ↔ rn G mm_Model_readVillage 7 [a0, some (.int x2), some (.int x), a3, a4] st S P := rn_s dq_Model_readVillage_6 rfl rfl rfl
theorem sq_Model_readVillage_6r : rn G mm_Model_readVillage 6 [a0, some (.ref z2), a2, a3, a4] (.int x :: st) S P ↔ rn G mm_Model_readVillage 7 [a0, some (.ref z2), some (.int x), a3, a4] st S P := rn_s dq_Model_readVillage_6 rfl rfl rfl
theorem dq_Model_readVillage_7 : decode (km_c mm_Model_readVillage) 7 = .ok (.iload_n 2, 1) := by decide +kernel
theorem sq_Model_readVillage_7 : rn G mm_Model_readVillage 7 [a0, a1, some (.int x), a3, a4] st S P ↔ rn G mm_Model_readVillage 8 [a0, a1, some (.int x), a3, a4] (.int x :: st) S P := rn_s dq_Model_readVillage_7 rfl rfl rfl
theorem dq_Model_readVillage_8 : decode (km_c mm_Model_readVillage) 8 = .ok (.ifCond .ge 7, 3) := by decide +kernel
theorem sq_Model_readVillage_8 : rn G mm_Model_readVillage 8 lv (.int x :: st) S P ↔ ((0 ≤ x → rn G mm_Model_readVillage 15 lv st S P) ∧ (¬ (0 ≤ x) → rn G mm_Model_readVillage 11 lv st S P)) := rn_b (off := 7) dq_Model_readVillage_8 rfl rfl rfl rfl
theorem dq_Model_readVillage_11 : decode (km_c mm_Model_readVillage) 11 = .ok (.iconst (-1), 1) := by decide +kernel
theorem sq_Model_readVillage_11 : rn G mm_Model_readVillage 11 lv st S P ↔ rn G mm_Model_readVillage 12 lv (.int ((-1)) :: st) S P := rn_s dq_Model_readVillage_11 rfl rfl rfl
theorem dq_Model_readVillage_12 : decode (km_c mm_Model_readVillage) 12 = .ok (.goto 9, 3) := by decide +kernel
theorem sq_Model_readVillage_12 : rn G mm_Model_readVillage 12 lv st S P ↔ rn G mm_Model_readVillage 21 lv st S P := rn_s dq_Model_readVillage_12 rfl rfl rfl
theorem dq_Model_readVillage_15 : decode (km_c mm_Model_readVillage) 15 = .ok (.aload_n 0, 1) := by decide +kernel
theorem sq_Model_readVillage_15 : rn G mm_Model_readVillage 15 [some (.ref z), a1, a2, a3, a4] st S P ↔ rn G mm_Model_readVillage 16 [some (.ref z), a1, a2, a3, a4] (.ref z :: st) S P := rn_s dq_Model_readVillage_15 rfl rfl rfl
theorem dq_Model_readVillage_16 : decode (km_c mm_Model_readVillage) 16 = .ok (.bipush 6, 2) := by decide +kernel
theorem sq_Model_readVillage_16 : rn G mm_Model_readVillage 16 lv st S P ↔ rn G mm_Model_readVillage 18 lv (.int (nI 6) :: st) S P := rn_s dq_Model_readVillage_16 rfl rfl rfl
theorem dq_Model_readVillage_18 : decode (km_c mm_Model_readVillage) 18 = .ok (.invokevirtual 159, 3) := by decide +kernel
theorem sq_Model_readVillage_18_45 {x1 : Int32} {v : Option Value} {S2 : ks_S} (hc : ev (lt_G o L) mm_Model_readDigit [.ref 45, .int x1] (sx pl kp I A) v S2) (ho : sx_o o pl kp) (hst : kx_cat st ≤ 8) : rn (lt_G o L) mm_Model_readVillage 18 lv (.int x1 :: .ref 45 :: st) (sx pl kp I A) P ↔ rn (lt_G o L) mm_Model_readVillage 21 lv (v.toList ++ st) S2 P := rn_cv (k := 0) (host := "") (E' := mm_Model_readDigit) dq_Model_readVillage_18 rfl (ok_v rfl (by decide) (by decide) (Nat.le_add_left _ _) hst (Nat.le_of_ble_eq_true rfl) (Or.inr (rc_v ho (up_b (by decide)) rfl))) rfl rfl hc
theorem dq_Model_readVillage_21 : decode (km_c mm_Model_readVillage) 21 = .ok (.istore_n 3, 1) := by decide +kernel
theorem sq_Model_readVillage_21n : rn G mm_Model_readVillage 21 [a0, a1, none, a3, a4] (.int x :: st) S P ↔ rn G mm_Model_readVillage 22 [a0, a1, none, some (.int x), a4] st S P := rn_s dq_Model_readVillage_21 rfl rfl rfl
theorem sq_Model_readVillage_21i : rn G mm_Model_readVillage 21 [a0, a1, some (.int x2), a3, a4] (.int x :: st) S P ↔ rn G mm_Model_readVillage 22 [a0, a1, some (.int x2), some (.int x), a4] st S P := rn_s dq_Model_readVillage_21 rfl rfl rfl
theorem sq_Model_readVillage_21r : rn G mm_Model_readVillage 21 [a0, a1, some (.ref z2), a3, a4] (.int x :: st) S P ↔ rn G mm_Model_readVillage 22 [a0, a1, some (.ref z2), some (.int x), a4] st S P := rn_s dq_Model_readVillage_21 rfl rfl rfl
theorem dq_Model_readVillage_22 : decode (km_c mm_Model_readVillage) 22 = .ok (.iload_n 3, 1) := by decide +kernel
theorem sq_Model_readVillage_22 : rn G mm_Model_readVillage 22 [a0, a1, a2, some (.int x), a4] st S P ↔ rn G mm_Model_readVillage 23 [a0, a1, a2, some (.int x), a4] (.int x :: st) S P := rn_s dq_Model_readVillage_22 rfl rfl rfl
theorem dq_Model_readVillage_23 : decode (km_c mm_Model_readVillage) 23 = .ok (.ifCond .lt 12, 3) := by decide +kernel
theorem sq_Model_readVillage_23 : rn G mm_Model_readVillage 23 lv (.int x :: st) S P ↔ ((x < 0 → rn G mm_Model_readVillage 35 lv st S P) ∧ (¬ (x < 0) → rn G mm_Model_readVillage 26 lv st S P)) := rn_b (off := 12) dq_Model_readVillage_23 rfl rfl rfl rfl
theorem dq_Model_readVillage_26 : decode (km_c mm_Model_readVillage) 26 = .ok (.aload_n 0, 1) := by decide +kernel
theorem sq_Model_readVillage_26 : rn G mm_Model_readVillage 26 [some (.ref z), a1, a2, a3, a4] st S P ↔ rn G mm_Model_readVillage 27 [some (.ref z), a1, a2, a3, a4] (.ref z :: st) S P := rn_s dq_Model_readVillage_26 rfl rfl rfl
theorem dq_Model_readVillage_27 : decode (km_c mm_Model_readVillage) 27 = .ok (.bipush 58, 2) := by decide +kernel
theorem sq_Model_readVillage_27 : rn G mm_Model_readVillage 27 lv st S P ↔ rn G mm_Model_readVillage 29 lv (.int (nI 58) :: st) S P := rn_s dq_Model_readVillage_27 rfl rfl rfl
theorem dq_Model_readVillage_29 : decode (km_c mm_Model_readVillage) 29 = .ok (.invokevirtual 162, 3) := by decide +kernel
theorem sq_Model_readVillage_29_45 {x1 : Int32} {v : Option Value} {S2 : ks_S} (hc : ev (lt_G o L) mm_Model_takes [.ref 45, .int x1] (sx pl kp I A) v S2) (ho : sx_o o pl kp) (hst : kx_cat st ≤ 8) : rn (lt_G o L) mm_Model_readVillage 29 lv (.int x1 :: .ref 45 :: st) (sx pl kp I A) P ↔ rn (lt_G o L) mm_Model_readVillage 32 lv (v.toList ++ st) S2 P := rn_cv (k := 0) (host := "") (E' := mm_Model_takes) dq_Model_readVillage_29 rfl (ok_v rfl (by decide) (by decide) (Nat.le_add_left _ _) hst (Nat.le_of_ble_eq_true rfl) (Or.inr (rc_v ho (up_b (by decide)) rfl))) rfl rfl hc
theorem dq_Model_readVillage_32 : decode (km_c mm_Model_readVillage) 32 = .ok (.ifCond .ne 5, 3) := by decide +kernel
theorem sq_Model_readVillage_32 : rn G mm_Model_readVillage 32 lv (.int x :: st) S P ↔ ((¬ x = 0 → rn G mm_Model_readVillage 37 lv st S P) ∧ (¬ (¬ x = 0) → rn G mm_Model_readVillage 35 lv st S P)) := rn_b (off := 5) dq_Model_readVillage_32 rfl rfl rfl rfl
theorem dq_Model_readVillage_35 : decode (km_c mm_Model_readVillage) 35 = .ok (.iconst 0, 1) := by decide +kernel
theorem sq_Model_readVillage_35 : rn G mm_Model_readVillage 35 lv st S P ↔ rn G mm_Model_readVillage 36 lv (.int (nI 0) :: st) S P := rn_s dq_Model_readVillage_35 rfl rfl rfl
theorem dq_Model_readVillage_36 : decode (km_c mm_Model_readVillage) 36 = .ok (.ireturn, 1) := by decide +kernel
theorem sq_Model_readVillage_36_0 : rn G mm_Model_readVillage 36 lv [.int (nI 0)] S P ↔ P (some (.int (nI 0))) S := rn_ir dq_Model_readVillage_36 (by decide)
theorem sq_Model_readVillage_36_1 : rn G mm_Model_readVillage 36 lv [.int (nI 1)] S P ↔ P (some (.int (nI 1))) S := rn_ir dq_Model_readVillage_36 (by decide)
theorem dq_Model_readVillage_37 : decode (km_c mm_Model_readVillage) 37 = .ok (.aload_n 0, 1) := by decide +kernel
theorem sq_Model_readVillage_37 : rn G mm_Model_readVillage 37 [some (.ref z), a1, a2, a3, a4] st S P ↔ rn G mm_Model_readVillage 38 [some (.ref z), a1, a2, a3, a4] (.ref z :: st) S P := rn_s dq_Model_readVillage_37 rfl rfl rfl
theorem dq_Model_readVillage_38 : decode (km_c mm_Model_readVillage) 38 = .ok (.iconst 1, 1) := by decide +kernel
theorem sq_Model_readVillage_38 : rn G mm_Model_readVillage 38 lv st S P ↔ rn G mm_Model_readVillage 39 lv (.int (nI 1) :: st) S P := rn_s dq_Model_readVillage_38 rfl rfl rfl
theorem dq_Model_readVillage_39 : decode (km_c mm_Model_readVillage) 39 = .ok (.bipush 99, 2) := by decide +kernel
theorem sq_Model_readVillage_39 : rn G mm_Model_readVillage 39 lv st S P ↔ rn G mm_Model_readVillage 41 lv (.int (nI 99) :: st) S P := rn_s dq_Model_readVillage_39 rfl rfl rfl
theorem dq_Model_readVillage_41 : decode (km_c mm_Model_readVillage) 41 = .ok (.invokevirtual 175, 3) := by decide +kernel
theorem sq_Model_readVillage_41_45 {x1 : Int32} {x2 : Int32} {v : Option Value} {S2 : ks_S} (hc : ev (lt_G o L) mm_Model_readNumber [.ref 45, .int x1, .int x2] (sx pl kp I A) v S2) (ho : sx_o o pl kp) (hst : kx_cat st ≤ 8) : rn (lt_G o L) mm_Model_readVillage 41 lv (.int x2 :: .int x1 :: .ref 45 :: st) (sx pl kp I A) P ↔ rn (lt_G o L) mm_Model_readVillage 44 lv (v.toList ++ st) S2 P := rn_cv (k := 0) (host := "") (E' := mm_Model_readNumber) dq_Model_readVillage_41 rfl (ok_v rfl (by decide) (by decide) (Nat.le_add_left _ _) hst (Nat.le_of_ble_eq_true rfl) (Or.inr (rc_v ho (up_b (by decide)) rfl))) rfl rfl hc
theorem dq_Model_readVillage_44 : decode (km_c mm_Model_readVillage) 44 = .ok (.istore 4, 2) := by decide +kernel
theorem sq_Model_readVillage_44n : rn G mm_Model_readVillage 44 [a0, a1, a2, none, a4] (.int x :: st) S P ↔ rn G mm_Model_readVillage 46 [a0, a1, a2, none, some (.int x)] st S P := rn_s dq_Model_readVillage_44 rfl rfl rfl
theorem sq_Model_readVillage_44i : rn G mm_Model_readVillage 44 [a0, a1, a2, some (.int x2), a4] (.int x :: st) S P ↔ rn G mm_Model_readVillage 46 [a0, a1, a2, some (.int x2), some (.int x)] st S P := rn_s dq_Model_readVillage_44 rfl rfl rfl
theorem sq_Model_readVillage_44r : rn G mm_Model_readVillage 44 [a0, a1, a2, some (.ref z2), a4] (.int x :: st) S P ↔ rn G mm_Model_readVillage 46 [a0, a1, a2, some (.ref z2), some (.int x)] st S P := rn_s dq_Model_readVillage_44 rfl rfl rfl
theorem dq_Model_readVillage_46 : decode (km_c mm_Model_readVillage) 46 = .ok (.aload_n 0, 1) := by decide +kernel
theorem sq_Model_readVillage_46 : rn G mm_Model_readVillage 46 [some (.ref z), a1, a2, a3, a4] st S P ↔ rn G mm_Model_readVillage 47 [some (.ref z), a1, a2, a3, a4] (.ref z :: st) S P := rn_s dq_Model_readVillage_46 rfl rfl rfl
theorem dq_Model_readVillage_47 : decode (km_c mm_Model_readVillage) 47 = .ok (.getfield 44, 3) := by decide +kernel
theorem sq_Model_readVillage_47_45 (ho : sx_o o pl kp) : rn (lt_G o L) mm_Model_readVillage 47 lv (.ref 45 :: st) (sx pl kp I A) P ↔ rn (lt_G o L) mm_Model_readVillage 50 lv (.ref 55 :: st) (sx pl kp I A) P := rx_get (h := "") (ci := 10) (k := 19) dq_Model_readVillage_47 (by decide +kernel) ho (up_b (by decide)) rfl rfl (fl_r (by decide) (by decide) (by decide) (by decide))
theorem dq_Model_readVillage_50 : decode (km_c mm_Model_readVillage) 50 = .ok (.iconst 2, 1) := by decide +kernel
theorem sq_Model_readVillage_50 : rn G mm_Model_readVillage 50 lv st S P ↔ rn G mm_Model_readVillage 51 lv (.int (nI 2) :: st) S P := rn_s dq_Model_readVillage_50 rfl rfl rfl
theorem dq_Model_readVillage_51 : decode (km_c mm_Model_readVillage) 51 = .ok (.iload_n 1, 1) := by decide +kernel
theorem sq_Model_readVillage_51 : rn G mm_Model_readVillage 51 [a0, some (.int x), a2, a3, a4] st S P ↔ rn G mm_Model_readVillage 52 [a0, some (.int x), a2, a3, a4] (.int x :: st) S P := rn_s dq_Model_readVillage_51 rfl rfl rfl
theorem dq_Model_readVillage_52 : decode (km_c mm_Model_readVillage) 52 = .ok (.imul, 1) := by decide +kernel
theorem sq_Model_readVillage_52 : rn G mm_Model_readVillage 52 lv (.int x2 :: .int x :: st) S P ↔ rn G mm_Model_readVillage 53 lv (.int (x * x2) :: st) S P := rn_s dq_Model_readVillage_52 rfl rfl rfl
theorem dq_Model_readVillage_53 : decode (km_c mm_Model_readVillage) 53 = .ok (.bipush 7, 2) := by decide +kernel
theorem sq_Model_readVillage_53 : rn G mm_Model_readVillage 53 lv st S P ↔ rn G mm_Model_readVillage 55 lv (.int (nI 7) :: st) S P := rn_s dq_Model_readVillage_53 rfl rfl rfl
theorem dq_Model_readVillage_55 : decode (km_c mm_Model_readVillage) 55 = .ok (.iload_n 2, 1) := by decide +kernel
theorem sq_Model_readVillage_55 : rn G mm_Model_readVillage 55 [a0, a1, some (.int x), a3, a4] st S P ↔ rn G mm_Model_readVillage 56 [a0, a1, some (.int x), a3, a4] (.int x :: st) S P := rn_s dq_Model_readVillage_55 rfl rfl rfl
theorem dq_Model_readVillage_56 : decode (km_c mm_Model_readVillage) 56 = .ok (.imul, 1) := by decide +kernel
theorem sq_Model_readVillage_56 : rn G mm_Model_readVillage 56 lv (.int x2 :: .int x :: st) S P ↔ rn G mm_Model_readVillage 57 lv (.int (x * x2) :: st) S P := rn_s dq_Model_readVillage_56 rfl rfl rfl
theorem dq_Model_readVillage_57 : decode (km_c mm_Model_readVillage) 57 = .ok (.iload_n 3, 1) := by decide +kernel
theorem sq_Model_readVillage_57 : rn G mm_Model_readVillage 57 [a0, a1, a2, some (.int x), a4] st S P ↔ rn G mm_Model_readVillage 58 [a0, a1, a2, some (.int x), a4] (.int x :: st) S P := rn_s dq_Model_readVillage_57 rfl rfl rfl
theorem dq_Model_readVillage_58 : decode (km_c mm_Model_readVillage) 58 = .ok (.iadd, 1) := by decide +kernel
theorem sq_Model_readVillage_58 : rn G mm_Model_readVillage 58 lv (.int x2 :: .int x :: st) S P ↔ rn G mm_Model_readVillage 59 lv (.int (x + x2) :: st) S P := rn_s dq_Model_readVillage_58 rfl rfl rfl
theorem dq_Model_readVillage_59 : decode (km_c mm_Model_readVillage) 59 = .ok (.iastore, 1) := by decide +kernel
theorem sq_Model_readVillage_59 (ho : sx_o o pl kp) (hk : ak L a = 0) (hu : sx_up pl kp a = true) (hc : c < ln L a) (hn : ln L a < 2 ^ 31) : rn (lt_G o L) mm_Model_readVillage 59 lv (.int x :: .int (nI c) :: .ref a :: st) (sx pl kp I A) P ↔ rn (lt_G o L) mm_Model_readVillage 60 lv st (sx pl kp I (u2 A a c x)) P := rx_ist dq_Model_readVillage_59 ho hk hu hc hn
theorem dq_Model_readVillage_60 : decode (km_c mm_Model_readVillage) 60 = .ok (.aload_n 0, 1) := by decide +kernel
theorem sq_Model_readVillage_60 : rn G mm_Model_readVillage 60 [some (.ref z), a1, a2, a3, a4] st S P ↔ rn G mm_Model_readVillage 61 [some (.ref z), a1, a2, a3, a4] (.ref z :: st) S P := rn_s dq_Model_readVillage_60 rfl rfl rfl
theorem dq_Model_readVillage_61 : decode (km_c mm_Model_readVillage) 61 = .ok (.getfield 44, 3) := by decide +kernel
theorem sq_Model_readVillage_61_45 (ho : sx_o o pl kp) : rn (lt_G o L) mm_Model_readVillage 61 lv (.ref 45 :: st) (sx pl kp I A) P ↔ rn (lt_G o L) mm_Model_readVillage 64 lv (.ref 55 :: st) (sx pl kp I A) P := rx_get (h := "") (ci := 10) (k := 19) dq_Model_readVillage_61 (by decide +kernel) ho (up_b (by decide)) rfl rfl (fl_r (by decide) (by decide) (by decide) (by decide))
theorem dq_Model_readVillage_64 : decode (km_c mm_Model_readVillage) 64 = .ok (.iconst 2, 1) := by decide +kernel
theorem sq_Model_readVillage_64 : rn G mm_Model_readVillage 64 lv st S P ↔ rn G mm_Model_readVillage 65 lv (.int (nI 2) :: st) S P := rn_s dq_Model_readVillage_64 rfl rfl rfl
theorem dq_Model_readVillage_65 : decode (km_c mm_Model_readVillage) 65 = .ok (.iload_n 1, 1) := by decide +kernel
theorem sq_Model_readVillage_65 : rn G mm_Model_readVillage 65 [a0, some (.int x), a2, a3, a4] st S P ↔ rn G mm_Model_readVillage 66 [a0, some (.int x), a2, a3, a4] (.int x :: st) S P := rn_s dq_Model_readVillage_65 rfl rfl rfl
theorem dq_Model_readVillage_66 : decode (km_c mm_Model_readVillage) 66 = .ok (.imul, 1) := by decide +kernel
theorem sq_Model_readVillage_66 : rn G mm_Model_readVillage 66 lv (.int x2 :: .int x :: st) S P ↔ rn G mm_Model_readVillage 67 lv (.int (x * x2) :: st) S P := rn_s dq_Model_readVillage_66 rfl rfl rfl
theorem dq_Model_readVillage_67 : decode (km_c mm_Model_readVillage) 67 = .ok (.iconst 1, 1) := by decide +kernel
theorem sq_Model_readVillage_67 : rn G mm_Model_readVillage 67 lv st S P ↔ rn G mm_Model_readVillage 68 lv (.int (nI 1) :: st) S P := rn_s dq_Model_readVillage_67 rfl rfl rfl
theorem dq_Model_readVillage_68 : decode (km_c mm_Model_readVillage) 68 = .ok (.iadd, 1) := by decide +kernel
theorem sq_Model_readVillage_68 : rn G mm_Model_readVillage 68 lv (.int x2 :: .int x :: st) S P ↔ rn G mm_Model_readVillage 69 lv (.int (x + x2) :: st) S P := rn_s dq_Model_readVillage_68 rfl rfl rfl
theorem dq_Model_readVillage_69 : decode (km_c mm_Model_readVillage) 69 = .ok (.iload 4, 2) := by decide +kernel
theorem sq_Model_readVillage_69 : rn G mm_Model_readVillage 69 [a0, a1, a2, a3, some (.int x)] st S P ↔ rn G mm_Model_readVillage 71 [a0, a1, a2, a3, some (.int x)] (.int x :: st) S P := rn_s dq_Model_readVillage_69 rfl rfl rfl
theorem dq_Model_readVillage_71 : decode (km_c mm_Model_readVillage) 71 = .ok (.iastore, 1) := by decide +kernel
theorem sq_Model_readVillage_71 (ho : sx_o o pl kp) (hk : ak L a = 0) (hu : sx_up pl kp a = true) (hc : c < ln L a) (hn : ln L a < 2 ^ 31) : rn (lt_G o L) mm_Model_readVillage 71 lv (.int x :: .int (nI c) :: .ref a :: st) (sx pl kp I A) P ↔ rn (lt_G o L) mm_Model_readVillage 72 lv st (sx pl kp I (u2 A a c x)) P := rx_ist dq_Model_readVillage_71 ho hk hu hc hn
theorem dq_Model_readVillage_72 : decode (km_c mm_Model_readVillage) 72 = .ok (.iload 4, 2) := by decide +kernel
theorem sq_Model_readVillage_72 : rn G mm_Model_readVillage 72 [a0, a1, a2, a3, some (.int x)] st S P ↔ rn G mm_Model_readVillage 74 [a0, a1, a2, a3, some (.int x)] (.int x :: st) S P := rn_s dq_Model_readVillage_72 rfl rfl rfl
theorem dq_Model_readVillage_74 : decode (km_c mm_Model_readVillage) 74 = .ok (.ifCond .le 7, 3) := by decide +kernel
theorem sq_Model_readVillage_74 : rn G mm_Model_readVillage 74 lv (.int x :: st) S P ↔ ((x ≤ 0 → rn G mm_Model_readVillage 81 lv st S P) ∧ (¬ (x ≤ 0) → rn G mm_Model_readVillage 77 lv st S P)) := rn_b (off := 7) dq_Model_readVillage_74 rfl rfl rfl rfl
theorem dq_Model_readVillage_77 : decode (km_c mm_Model_readVillage) 77 = .ok (.iconst 1, 1) := by decide +kernel
theorem sq_Model_readVillage_77 : rn G mm_Model_readVillage 77 lv st S P ↔ rn G mm_Model_readVillage 78 lv (.int (nI 1) :: st) S P := rn_s dq_Model_readVillage_77 rfl rfl rfl
theorem dq_Model_readVillage_78 : decode (km_c mm_Model_readVillage) 78 = .ok (.goto 4, 3) := by decide +kernel
theorem sq_Model_readVillage_78 : rn G mm_Model_readVillage 78 lv st S P ↔ rn G mm_Model_readVillage 82 lv st S P := rn_s dq_Model_readVillage_78 rfl rfl rfl
theorem dq_Model_readVillage_81 : decode (km_c mm_Model_readVillage) 81 = .ok (.iconst 0, 1) := by decide +kernel
theorem sq_Model_readVillage_81 : rn G mm_Model_readVillage 81 lv st S P ↔ rn G mm_Model_readVillage 82 lv (.int (nI 0) :: st) S P := rn_s dq_Model_readVillage_81 rfl rfl rfl
theorem dq_Model_readVillage_82 : decode (km_c mm_Model_readVillage) 82 = .ok (.ireturn, 1) := by decide +kernel
theorem sq_Model_readVillage_82_0 : rn G mm_Model_readVillage 82 lv [.int (nI 0)] S P ↔ P (some (.int (nI 0))) S := rn_ir dq_Model_readVillage_82 (by decide)
theorem sq_Model_readVillage_82_1 : rn G mm_Model_readVillage 82 lv [.int (nI 1)] S P ↔ P (some (.int (nI 1))) S := rn_ir dq_Model_readVillage_82 (by decide)
theorem dq_Model_readNumber_0 : decode (km_c mm_Model_readNumber) 0 = .ok (.aload_n 0, 1) := by decide +kernel
theorem sq_Model_readNumber_0 : rn G mm_Model_readNumber 0 [some (.ref z), a1, a2, a3, a4] st S P ↔ rn G mm_Model_readNumber 1 [some (.ref z), a1, a2, a3, a4] (.ref z :: st) S P := rn_s dq_Model_readNumber_0 rfl rfl rfl
theorem dq_Model_readNumber_1 : decode (km_c mm_Model_readNumber) 1 = .ok (.invokevirtual 154, 3) := by decide +kernel
theorem sq_Model_readNumber_1_45  {v : Option Value} {S2 : ks_S} (hc : ev (lt_G o L) mm_Model_nextByte [.ref 45] (sx pl kp I A) v S2) (ho : sx_o o pl kp) (hst : kx_cat st ≤ 8) : rn (lt_G o L) mm_Model_readNumber 1 lv (.ref 45 :: st) (sx pl kp I A) P ↔ rn (lt_G o L) mm_Model_readNumber 4 lv (v.toList ++ st) S2 P := rn_cv (k := 0) (host := "") (E' := mm_Model_nextByte) dq_Model_readNumber_1 rfl (ok_v rfl (by decide) (by decide) (Nat.le_add_left _ _) hst (Nat.le_of_ble_eq_true rfl) (Or.inr (rc_v ho (up_b (by decide)) rfl))) rfl rfl hc
theorem dq_Model_readNumber_4 : decode (km_c mm_Model_readNumber) 4 = .ok (.pop, 1) := by decide +kernel
theorem sq_Model_readNumber_4i : rn G mm_Model_readNumber 4 lv (.int x :: st) S P ↔ rn G mm_Model_readNumber 5 lv st S P := rn_s dq_Model_readNumber_4 rfl rfl rfl
theorem dq_Model_readNumber_5 : decode (km_c mm_Model_readNumber) 5 = .ok (.aload_n 0, 1) := by decide +kernel
theorem sq_Model_readNumber_5 : rn G mm_Model_readNumber 5 [some (.ref z), a1, a2, a3, a4] st S P ↔ rn G mm_Model_readNumber 6 [some (.ref z), a1, a2, a3, a4] (.ref z :: st) S P := rn_s dq_Model_readNumber_5 rfl rfl rfl
theorem dq_Model_readNumber_6 : decode (km_c mm_Model_readNumber) 6 = .ok (.getfield 151, 3) := by decide +kernel
theorem sq_Model_readNumber_6_45 (ho : sx_o o pl kp) : rn (lt_G o L) mm_Model_readNumber 6 lv (.ref 45 :: st) (sx pl kp I A) P ↔ rn (lt_G o L) mm_Model_readNumber 9 lv (.int (I 45 17) :: st) (sx pl kp I A) P := rx_get (h := "") (ci := 10) (k := 17) dq_Model_readNumber_6 (by decide +kernel) ho (up_b (by decide)) rfl rfl (fl_i (by decide))
theorem dq_Model_readNumber_9 : decode (km_c mm_Model_readNumber) 9 = .ok (.istore_n 3, 1) := by decide +kernel
theorem sq_Model_readNumber_9n : rn G mm_Model_readNumber 9 [a0, a1, none, a3, a4] (.int x :: st) S P ↔ rn G mm_Model_readNumber 10 [a0, a1, none, some (.int x), a4] st S P := rn_s dq_Model_readNumber_9 rfl rfl rfl
theorem sq_Model_readNumber_9i : rn G mm_Model_readNumber 9 [a0, a1, some (.int x2), a3, a4] (.int x :: st) S P ↔ rn G mm_Model_readNumber 10 [a0, a1, some (.int x2), some (.int x), a4] st S P := rn_s dq_Model_readNumber_9 rfl rfl rfl
theorem sq_Model_readNumber_9r : rn G mm_Model_readNumber 9 [a0, a1, some (.ref z2), a3, a4] (.int x :: st) S P ↔ rn G mm_Model_readNumber 10 [a0, a1, some (.ref z2), some (.int x), a4] st S P := rn_s dq_Model_readNumber_9 rfl rfl rfl
theorem dq_Model_readNumber_10 : decode (km_c mm_Model_readNumber) 10 = .ok (.iconst 0, 1) := by decide +kernel
theorem sq_Model_readNumber_10 : rn G mm_Model_readNumber 10 lv st S P ↔ rn G mm_Model_readNumber 11 lv (.int (nI 0) :: st) S P := rn_s dq_Model_readNumber_10 rfl rfl rfl
theorem dq_Model_readNumber_11 : decode (km_c mm_Model_readNumber) 11 = .ok (.istore 4, 2) := by decide +kernel
theorem sq_Model_readNumber_11n : rn G mm_Model_readNumber 11 [a0, a1, a2, none, a4] (.int x :: st) S P ↔ rn G mm_Model_readNumber 13 [a0, a1, a2, none, some (.int x)] st S P := rn_s dq_Model_readNumber_11 rfl rfl rfl
theorem sq_Model_readNumber_11i : rn G mm_Model_readNumber 11 [a0, a1, a2, some (.int x2), a4] (.int x :: st) S P ↔ rn G mm_Model_readNumber 13 [a0, a1, a2, some (.int x2), some (.int x)] st S P := rn_s dq_Model_readNumber_11 rfl rfl rfl
theorem sq_Model_readNumber_11r : rn G mm_Model_readNumber 11 [a0, a1, a2, some (.ref z2), a4] (.int x :: st) S P ↔ rn G mm_Model_readNumber 13 [a0, a1, a2, some (.ref z2), some (.int x)] st S P := rn_s dq_Model_readNumber_11 rfl rfl rfl
theorem dq_Model_readNumber_13 : decode (km_c mm_Model_readNumber) 13 = .ok (.aload_n 0, 1) := by decide +kernel
theorem sq_Model_readNumber_13 : rn G mm_Model_readNumber 13 [some (.ref z), a1, a2, a3, a4] st S P ↔ rn G mm_Model_readNumber 14 [some (.ref z), a1, a2, a3, a4] (.ref z :: st) S P := rn_s dq_Model_readNumber_13 rfl rfl rfl
theorem dq_Model_readNumber_14 : decode (km_c mm_Model_readNumber) 14 = .ok (.getfield 151, 3) := by decide +kernel
theorem sq_Model_readNumber_14_45 (ho : sx_o o pl kp) : rn (lt_G o L) mm_Model_readNumber 14 lv (.ref 45 :: st) (sx pl kp I A) P ↔ rn (lt_G o L) mm_Model_readNumber 17 lv (.int (I 45 17) :: st) (sx pl kp I A) P := rx_get (h := "") (ci := 10) (k := 17) dq_Model_readNumber_14 (by decide +kernel) ho (up_b (by decide)) rfl rfl (fl_i (by decide))
theorem dq_Model_readNumber_17 : decode (km_c mm_Model_readNumber) 17 = .ok (.aload_n 0, 1) := by decide +kernel
theorem sq_Model_readNumber_17 : rn G mm_Model_readNumber 17 [some (.ref z), a1, a2, a3, a4] st S P ↔ rn G mm_Model_readNumber 18 [some (.ref z), a1, a2, a3, a4] (.ref z :: st) S P := rn_s dq_Model_readNumber_17 rfl rfl rfl
theorem dq_Model_readNumber_18 : decode (km_c mm_Model_readNumber) 18 = .ok (.getfield 148, 3) := by decide +kernel
theorem sq_Model_readNumber_18_45 (ho : sx_o o pl kp) : rn (lt_G o L) mm_Model_readNumber 18 lv (.ref 45 :: st) (sx pl kp I A) P ↔ rn (lt_G o L) mm_Model_readNumber 21 lv (.int (I 45 16) :: st) (sx pl kp I A) P := rx_get (h := "") (ci := 10) (k := 16) dq_Model_readNumber_18 (by decide +kernel) ho (up_b (by decide)) rfl rfl (fl_i (by decide))
theorem dq_Model_readNumber_21 : decode (km_c mm_Model_readNumber) 21 = .ok (.if_icmp .ge 71, 3) := by decide +kernel
theorem sq_Model_readNumber_21 : rn G mm_Model_readNumber 21 lv (.int x2 :: .int x :: st) S P ↔ ((x2 ≤ x → rn G mm_Model_readNumber 92 lv st S P) ∧ (¬ (x2 ≤ x) → rn G mm_Model_readNumber 24 lv st S P)) := rn_b (off := 71) dq_Model_readNumber_21 rfl rfl rfl rfl
theorem dq_Model_readNumber_24 : decode (km_c mm_Model_readNumber) 24 = .ok (.aload_n 0, 1) := by decide +kernel
theorem sq_Model_readNumber_24 : rn G mm_Model_readNumber 24 [some (.ref z), a1, a2, a3, a4] st S P ↔ rn G mm_Model_readNumber 25 [some (.ref z), a1, a2, a3, a4] (.ref z :: st) S P := rn_s dq_Model_readNumber_24 rfl rfl rfl
theorem dq_Model_readNumber_25 : decode (km_c mm_Model_readNumber) 25 = .ok (.getfield 41, 3) := by decide +kernel
theorem sq_Model_readNumber_25_45 (ho : sx_o o pl kp) : rn (lt_G o L) mm_Model_readNumber 25 lv (.ref 45 :: st) (sx pl kp I A) P ↔ rn (lt_G o L) mm_Model_readNumber 28 lv (.ref 54 :: st) (sx pl kp I A) P := rx_get (h := "") (ci := 10) (k := 15) dq_Model_readNumber_25 (by decide +kernel) ho (up_b (by decide)) rfl rfl (fl_r (by decide) (by decide) (by decide) (by decide))
theorem dq_Model_readNumber_28 : decode (km_c mm_Model_readNumber) 28 = .ok (.aload_n 0, 1) := by decide +kernel
theorem sq_Model_readNumber_28 : rn G mm_Model_readNumber 28 [some (.ref z), a1, a2, a3, a4] st S P ↔ rn G mm_Model_readNumber 29 [some (.ref z), a1, a2, a3, a4] (.ref z :: st) S P := rn_s dq_Model_readNumber_28 rfl rfl rfl
theorem dq_Model_readNumber_29 : decode (km_c mm_Model_readNumber) 29 = .ok (.getfield 151, 3) := by decide +kernel
theorem sq_Model_readNumber_29_45 (ho : sx_o o pl kp) : rn (lt_G o L) mm_Model_readNumber 29 lv (.ref 45 :: st) (sx pl kp I A) P ↔ rn (lt_G o L) mm_Model_readNumber 32 lv (.int (I 45 17) :: st) (sx pl kp I A) P := rx_get (h := "") (ci := 10) (k := 17) dq_Model_readNumber_29 (by decide +kernel) ho (up_b (by decide)) rfl rfl (fl_i (by decide))
theorem dq_Model_readNumber_32 : decode (km_c mm_Model_readNumber) 32 = .ok (.iaload, 1) := by decide +kernel
theorem sq_Model_readNumber_32 (ho : sx_o o pl kp) (hk : ak L a = 0) (hu : sx_up pl kp a = true ∨ 1000 ≤ a) (hc : c < ln L a) (hn : ln L a < 2 ^ 31) : rn (lt_G o L) mm_Model_readNumber 32 lv (.int (nI c) :: .ref a :: st) (sx pl kp I A) P ↔ rn (lt_G o L) mm_Model_readNumber 33 lv (.int (A a c) :: st) (sx pl kp I A) P := rx_ild dq_Model_readNumber_32 ho hk hu hc hn
theorem dq_Model_readNumber_33 : decode (km_c mm_Model_readNumber) 33 = .ok (.i2l, 1) := by decide +kernel
theorem sq_Model_readNumber_33 : rn G mm_Model_readNumber 33 lv (.int x :: st) S P ↔ rn G mm_Model_readNumber 34 lv (.long x.toInt64 :: st) S P := rn_s dq_Model_readNumber_33 rfl rfl rfl
theorem dq_Model_readNumber_34 : decode (km_c mm_Model_readNumber) 34 = .ok (.ldc2_w 74, 3) := by decide +kernel
theorem sq_Model_readNumber_34 : rn G mm_Model_readNumber 34 lv st S P ↔ rn G mm_Model_readNumber 37 lv (.long (48) :: st) S P := rn_s dq_Model_readNumber_34 rfl rfl rfl
theorem dq_Model_readNumber_37 : decode (km_c mm_Model_readNumber) 37 = .ok (.ldc2_w 157, 3) := by decide +kernel
theorem sq_Model_readNumber_37 : rn G mm_Model_readNumber 37 lv st S P ↔ rn G mm_Model_readNumber 40 lv (.long (57) :: st) S P := rn_s dq_Model_readNumber_37 rfl rfl rfl
theorem dq_Model_readNumber_40 : decode (km_c mm_Model_readNumber) 40 = .ok (.invokestatic 76, 3) := by decide +kernel
theorem sq_Model_readNumber_40 {y1 : Int64} {y2 : Int64} {y3 : Int64} {v : Option Value} {S2 : ks_S} (hc : ev G mm_Model_in [.long y1, .long y2, .long y3] S v S2) (hst : kx_cat st ≤ 8) : rn G mm_Model_readNumber 40 lv (.long y3 :: .long y2 :: .long y1 :: st) S P ↔ rn G mm_Model_readNumber 43 lv (v.toList ++ st) S2 P := rn_cs (k := 1) (host := "") (E' := mm_Model_in) dq_Model_readNumber_40 (by decide) (by decide) rfl (ok_v rfl (by decide) (by decide) (Nat.le_add_left _ _) hst (Nat.le_of_ble_eq_true rfl) (Or.inl rfl)) rfl rfl hc
theorem dq_Model_readNumber_43 : decode (km_c mm_Model_readNumber) 43 = .ok (.ifCond .eq 49, 3) := by decide +kernel
theorem sq_Model_readNumber_43 : rn G mm_Model_readNumber 43 lv (.int x :: st) S P ↔ ((x = 0 → rn G mm_Model_readNumber 92 lv st S P) ∧ (¬ (x = 0) → rn G mm_Model_readNumber 46 lv st S P)) := rn_b (off := 49) dq_Model_readNumber_43 rfl rfl rfl rfl
theorem dq_Model_readNumber_46 : decode (km_c mm_Model_readNumber) 46 = .ok (.iload 4, 2) := by decide +kernel
theorem sq_Model_readNumber_46 : rn G mm_Model_readNumber 46 [a0, a1, a2, a3, some (.int x)] st S P ↔ rn G mm_Model_readNumber 48 [a0, a1, a2, a3, some (.int x)] (.int x :: st) S P := rn_s dq_Model_readNumber_46 rfl rfl rfl
theorem dq_Model_readNumber_48 : decode (km_c mm_Model_readNumber) 48 = .ok (.sipush 999, 3) := by decide +kernel
theorem sq_Model_readNumber_48 : rn G mm_Model_readNumber 48 lv st S P ↔ rn G mm_Model_readNumber 51 lv (.int (nI 999) :: st) S P := rn_s dq_Model_readNumber_48 rfl rfl rfl
theorem dq_Model_readNumber_51 : decode (km_c mm_Model_readNumber) 51 = .ok (.if_icmp .le 8, 3) := by decide +kernel
theorem sq_Model_readNumber_51 : rn G mm_Model_readNumber 51 lv (.int x2 :: .int x :: st) S P ↔ ((x ≤ x2 → rn G mm_Model_readNumber 59 lv st S P) ∧ (¬ (x ≤ x2) → rn G mm_Model_readNumber 54 lv st S P)) := rn_b (off := 8) dq_Model_readNumber_51 rfl rfl rfl rfl
theorem dq_Model_readNumber_54 : decode (km_c mm_Model_readNumber) 54 = .ok (.iload 4, 2) := by decide +kernel
theorem sq_Model_readNumber_54 : rn G mm_Model_readNumber 54 [a0, a1, a2, a3, some (.int x)] st S P ↔ rn G mm_Model_readNumber 56 [a0, a1, a2, a3, some (.int x)] (.int x :: st) S P := rn_s dq_Model_readNumber_54 rfl rfl rfl
theorem dq_Model_readNumber_56 : decode (km_c mm_Model_readNumber) 56 = .ok (.goto 21, 3) := by decide +kernel
theorem sq_Model_readNumber_56 : rn G mm_Model_readNumber 56 lv st S P ↔ rn G mm_Model_readNumber 77 lv st S P := rn_s dq_Model_readNumber_56 rfl rfl rfl
theorem dq_Model_readNumber_59 : decode (km_c mm_Model_readNumber) 59 = .ok (.bipush 10, 2) := by decide +kernel
theorem sq_Model_readNumber_59 : rn G mm_Model_readNumber 59 lv st S P ↔ rn G mm_Model_readNumber 61 lv (.int (nI 10) :: st) S P := rn_s dq_Model_readNumber_59 rfl rfl rfl
theorem dq_Model_readNumber_61 : decode (km_c mm_Model_readNumber) 61 = .ok (.iload 4, 2) := by decide +kernel
theorem sq_Model_readNumber_61 : rn G mm_Model_readNumber 61 [a0, a1, a2, a3, some (.int x)] st S P ↔ rn G mm_Model_readNumber 63 [a0, a1, a2, a3, some (.int x)] (.int x :: st) S P := rn_s dq_Model_readNumber_61 rfl rfl rfl
theorem dq_Model_readNumber_63 : decode (km_c mm_Model_readNumber) 63 = .ok (.imul, 1) := by decide +kernel
theorem sq_Model_readNumber_63 : rn G mm_Model_readNumber 63 lv (.int x2 :: .int x :: st) S P ↔ rn G mm_Model_readNumber 64 lv (.int (x * x2) :: st) S P := rn_s dq_Model_readNumber_63 rfl rfl rfl
theorem dq_Model_readNumber_64 : decode (km_c mm_Model_readNumber) 64 = .ok (.aload_n 0, 1) := by decide +kernel
theorem sq_Model_readNumber_64 : rn G mm_Model_readNumber 64 [some (.ref z), a1, a2, a3, a4] st S P ↔ rn G mm_Model_readNumber 65 [some (.ref z), a1, a2, a3, a4] (.ref z :: st) S P := rn_s dq_Model_readNumber_64 rfl rfl rfl
theorem dq_Model_readNumber_65 : decode (km_c mm_Model_readNumber) 65 = .ok (.getfield 41, 3) := by decide +kernel
theorem sq_Model_readNumber_65_45 (ho : sx_o o pl kp) : rn (lt_G o L) mm_Model_readNumber 65 lv (.ref 45 :: st) (sx pl kp I A) P ↔ rn (lt_G o L) mm_Model_readNumber 68 lv (.ref 54 :: st) (sx pl kp I A) P := rx_get (h := "") (ci := 10) (k := 15) dq_Model_readNumber_65 (by decide +kernel) ho (up_b (by decide)) rfl rfl (fl_r (by decide) (by decide) (by decide) (by decide))
theorem dq_Model_readNumber_68 : decode (km_c mm_Model_readNumber) 68 = .ok (.aload_n 0, 1) := by decide +kernel
theorem sq_Model_readNumber_68 : rn G mm_Model_readNumber 68 [some (.ref z), a1, a2, a3, a4] st S P ↔ rn G mm_Model_readNumber 69 [some (.ref z), a1, a2, a3, a4] (.ref z :: st) S P := rn_s dq_Model_readNumber_68 rfl rfl rfl
theorem dq_Model_readNumber_69 : decode (km_c mm_Model_readNumber) 69 = .ok (.getfield 151, 3) := by decide +kernel
theorem sq_Model_readNumber_69_45 (ho : sx_o o pl kp) : rn (lt_G o L) mm_Model_readNumber 69 lv (.ref 45 :: st) (sx pl kp I A) P ↔ rn (lt_G o L) mm_Model_readNumber 72 lv (.int (I 45 17) :: st) (sx pl kp I A) P := rx_get (h := "") (ci := 10) (k := 17) dq_Model_readNumber_69 (by decide +kernel) ho (up_b (by decide)) rfl rfl (fl_i (by decide))
theorem dq_Model_readNumber_72 : decode (km_c mm_Model_readNumber) 72 = .ok (.iaload, 1) := by decide +kernel
theorem sq_Model_readNumber_72 (ho : sx_o o pl kp) (hk : ak L a = 0) (hu : sx_up pl kp a = true ∨ 1000 ≤ a) (hc : c < ln L a) (hn : ln L a < 2 ^ 31) : rn (lt_G o L) mm_Model_readNumber 72 lv (.int (nI c) :: .ref a :: st) (sx pl kp I A) P ↔ rn (lt_G o L) mm_Model_readNumber 73 lv (.int (A a c) :: st) (sx pl kp I A) P := rx_ild dq_Model_readNumber_72 ho hk hu hc hn
theorem dq_Model_readNumber_73 : decode (km_c mm_Model_readNumber) 73 = .ok (.iadd, 1) := by decide +kernel
theorem sq_Model_readNumber_73 : rn G mm_Model_readNumber 73 lv (.int x2 :: .int x :: st) S P ↔ rn G mm_Model_readNumber 74 lv (.int (x + x2) :: st) S P := rn_s dq_Model_readNumber_73 rfl rfl rfl
theorem dq_Model_readNumber_74 : decode (km_c mm_Model_readNumber) 74 = .ok (.bipush 48, 2) := by decide +kernel
theorem sq_Model_readNumber_74 : rn G mm_Model_readNumber 74 lv st S P ↔ rn G mm_Model_readNumber 76 lv (.int (nI 48) :: st) S P := rn_s dq_Model_readNumber_74 rfl rfl rfl
theorem dq_Model_readNumber_76 : decode (km_c mm_Model_readNumber) 76 = .ok (.isub, 1) := by decide +kernel
theorem sq_Model_readNumber_76 : rn G mm_Model_readNumber 76 lv (.int x2 :: .int x :: st) S P ↔ rn G mm_Model_readNumber 77 lv (.int (x - x2) :: st) S P := rn_s dq_Model_readNumber_76 rfl rfl rfl
theorem dq_Model_readNumber_77 : decode (km_c mm_Model_readNumber) 77 = .ok (.istore 4, 2) := by decide +kernel
theorem sq_Model_readNumber_77n : rn G mm_Model_readNumber 77 [a0, a1, a2, none, a4] (.int x :: st) S P ↔ rn G mm_Model_readNumber 79 [a0, a1, a2, none, some (.int x)] st S P := rn_s dq_Model_readNumber_77 rfl rfl rfl
theorem sq_Model_readNumber_77i : rn G mm_Model_readNumber 77 [a0, a1, a2, some (.int x2), a4] (.int x :: st) S P ↔ rn G mm_Model_readNumber 79 [a0, a1, a2, some (.int x2), some (.int x)] st S P := rn_s dq_Model_readNumber_77 rfl rfl rfl
theorem sq_Model_readNumber_77r : rn G mm_Model_readNumber 77 [a0, a1, a2, some (.ref z2), a4] (.int x :: st) S P ↔ rn G mm_Model_readNumber 79 [a0, a1, a2, some (.ref z2), some (.int x)] st S P := rn_s dq_Model_readNumber_77 rfl rfl rfl
theorem dq_Model_readNumber_79 : decode (km_c mm_Model_readNumber) 79 = .ok (.aload_n 0, 1) := by decide +kernel
theorem sq_Model_readNumber_79 : rn G mm_Model_readNumber 79 [some (.ref z), a1, a2, a3, a4] st S P ↔ rn G mm_Model_readNumber 80 [some (.ref z), a1, a2, a3, a4] (.ref z :: st) S P := rn_s dq_Model_readNumber_79 rfl rfl rfl
theorem dq_Model_readNumber_80 : decode (km_c mm_Model_readNumber) 80 = .ok (.dup, 1) := by decide +kernel
theorem sq_Model_readNumber_80i : rn G mm_Model_readNumber 80 lv (.int x :: st) S P ↔ rn G mm_Model_readNumber 81 lv (.int x :: .int x :: st) S P := rn_s dq_Model_readNumber_80 rfl rfl rfl
theorem sq_Model_readNumber_80r : rn G mm_Model_readNumber 80 lv (.ref z :: st) S P ↔ rn G mm_Model_readNumber 81 lv (.ref z :: .ref z :: st) S P := rn_s dq_Model_readNumber_80 rfl rfl rfl
theorem dq_Model_readNumber_81 : decode (km_c mm_Model_readNumber) 81 = .ok (.getfield 151, 3) := by decide +kernel
theorem sq_Model_readNumber_81_45 (ho : sx_o o pl kp) : rn (lt_G o L) mm_Model_readNumber 81 lv (.ref 45 :: st) (sx pl kp I A) P ↔ rn (lt_G o L) mm_Model_readNumber 84 lv (.int (I 45 17) :: st) (sx pl kp I A) P := rx_get (h := "") (ci := 10) (k := 17) dq_Model_readNumber_81 (by decide +kernel) ho (up_b (by decide)) rfl rfl (fl_i (by decide))
theorem dq_Model_readNumber_84 : decode (km_c mm_Model_readNumber) 84 = .ok (.iconst 1, 1) := by decide +kernel
theorem sq_Model_readNumber_84 : rn G mm_Model_readNumber 84 lv st S P ↔ rn G mm_Model_readNumber 85 lv (.int (nI 1) :: st) S P := rn_s dq_Model_readNumber_84 rfl rfl rfl
theorem dq_Model_readNumber_85 : decode (km_c mm_Model_readNumber) 85 = .ok (.iadd, 1) := by decide +kernel
theorem sq_Model_readNumber_85 : rn G mm_Model_readNumber 85 lv (.int x2 :: .int x :: st) S P ↔ rn G mm_Model_readNumber 86 lv (.int (x + x2) :: st) S P := rn_s dq_Model_readNumber_85 rfl rfl rfl
theorem dq_Model_readNumber_86 : decode (km_c mm_Model_readNumber) 86 = .ok (.putfield 151, 3) := by decide +kernel
theorem sq_Model_readNumber_86_45 (ho : sx_o o pl kp) : rn (lt_G o L) mm_Model_readNumber 86 lv (.int x :: .ref 45 :: st) (sx pl kp I A) P ↔ rn (lt_G o L) mm_Model_readNumber 89 lv st (sx pl kp (u2 I 45 17 x) A) P := rx_put (h := "") (ci := 10) (k := 17) dq_Model_readNumber_86 (by decide +kernel) ho (up_b (by decide)) rfl rfl (by decide) (by decide)
theorem dq_Model_readNumber_89 : decode (km_c mm_Model_readNumber) 89 = .ok (.goto (-76), 3) := by decide +kernel
theorem sq_Model_readNumber_89 : rn G mm_Model_readNumber 89 lv st S P ↔ rn G mm_Model_readNumber 13 lv st S P := rn_s dq_Model_readNumber_89 rfl rfl rfl
theorem dq_Model_readNumber_92 : decode (km_c mm_Model_readNumber) 92 = .ok (.aload_n 0, 1) := by decide +kernel
theorem sq_Model_readNumber_92 : rn G mm_Model_readNumber 92 [some (.ref z), a1, a2, a3, a4] st S P ↔ rn G mm_Model_readNumber 93 [some (.ref z), a1, a2, a3, a4] (.ref z :: st) S P := rn_s dq_Model_readNumber_92 rfl rfl rfl
theorem dq_Model_readNumber_93 : decode (km_c mm_Model_readNumber) 93 = .ok (.getfield 151, 3) := by decide +kernel
theorem sq_Model_readNumber_93_45 (ho : sx_o o pl kp) : rn (lt_G o L) mm_Model_readNumber 93 lv (.ref 45 :: st) (sx pl kp I A) P ↔ rn (lt_G o L) mm_Model_readNumber 96 lv (.int (I 45 17) :: st) (sx pl kp I A) P := rx_get (h := "") (ci := 10) (k := 17) dq_Model_readNumber_93 (by decide +kernel) ho (up_b (by decide)) rfl rfl (fl_i (by decide))
theorem dq_Model_readNumber_96 : decode (km_c mm_Model_readNumber) 96 = .ok (.iload_n 3, 1) := by decide +kernel
theorem sq_Model_readNumber_96 : rn G mm_Model_readNumber 96 [a0, a1, a2, some (.int x), a4] st S P ↔ rn G mm_Model_readNumber 97 [a0, a1, a2, some (.int x), a4] (.int x :: st) S P := rn_s dq_Model_readNumber_96 rfl rfl rfl
theorem dq_Model_readNumber_97 : decode (km_c mm_Model_readNumber) 97 = .ok (.if_icmp .ne 5, 3) := by decide +kernel
theorem sq_Model_readNumber_97 : rn G mm_Model_readNumber 97 lv (.int x2 :: .int x :: st) S P ↔ ((¬ x = x2 → rn G mm_Model_readNumber 102 lv st S P) ∧ (¬ (¬ x = x2) → rn G mm_Model_readNumber 100 lv st S P)) := rn_b (off := 5) dq_Model_readNumber_97 rfl rfl rfl rfl
theorem dq_Model_readNumber_100 : decode (km_c mm_Model_readNumber) 100 = .ok (.iconst (-1), 1) := by decide +kernel
theorem sq_Model_readNumber_100 : rn G mm_Model_readNumber 100 lv st S P ↔ rn G mm_Model_readNumber 101 lv (.int ((-1)) :: st) S P := rn_s dq_Model_readNumber_100 rfl rfl rfl
theorem dq_Model_readNumber_101 : decode (km_c mm_Model_readNumber) 101 = .ok (.ireturn, 1) := by decide +kernel
theorem sq_Model_readNumber_101 : rn G mm_Model_readNumber 101 lv [.int x] S P ↔ P (some (.int x)) S := rn_ir dq_Model_readNumber_101 rfl
theorem dq_Model_readNumber_102 : decode (km_c mm_Model_readNumber) 102 = .ok (.iload 4, 2) := by decide +kernel
theorem sq_Model_readNumber_102 : rn G mm_Model_readNumber 102 [a0, a1, a2, a3, some (.int x)] st S P ↔ rn G mm_Model_readNumber 104 [a0, a1, a2, a3, some (.int x)] (.int x :: st) S P := rn_s dq_Model_readNumber_102 rfl rfl rfl
theorem dq_Model_readNumber_104 : decode (km_c mm_Model_readNumber) 104 = .ok (.i2l, 1) := by decide +kernel
theorem sq_Model_readNumber_104 : rn G mm_Model_readNumber 104 lv (.int x :: st) S P ↔ rn G mm_Model_readNumber 105 lv (.long x.toInt64 :: st) S P := rn_s dq_Model_readNumber_104 rfl rfl rfl
theorem dq_Model_readNumber_105 : decode (km_c mm_Model_readNumber) 105 = .ok (.iload_n 1, 1) := by decide +kernel
theorem sq_Model_readNumber_105 : rn G mm_Model_readNumber 105 [a0, some (.int x), a2, a3, a4] st S P ↔ rn G mm_Model_readNumber 106 [a0, some (.int x), a2, a3, a4] (.int x :: st) S P := rn_s dq_Model_readNumber_105 rfl rfl rfl
theorem dq_Model_readNumber_106 : decode (km_c mm_Model_readNumber) 106 = .ok (.i2l, 1) := by decide +kernel
theorem sq_Model_readNumber_106 : rn G mm_Model_readNumber 106 lv (.int x :: st) S P ↔ rn G mm_Model_readNumber 107 lv (.long x.toInt64 :: st) S P := rn_s dq_Model_readNumber_106 rfl rfl rfl
theorem dq_Model_readNumber_107 : decode (km_c mm_Model_readNumber) 107 = .ok (.iload_n 2, 1) := by decide +kernel
theorem sq_Model_readNumber_107 : rn G mm_Model_readNumber 107 [a0, a1, some (.int x), a3, a4] st S P ↔ rn G mm_Model_readNumber 108 [a0, a1, some (.int x), a3, a4] (.int x :: st) S P := rn_s dq_Model_readNumber_107 rfl rfl rfl
theorem dq_Model_readNumber_108 : decode (km_c mm_Model_readNumber) 108 = .ok (.i2l, 1) := by decide +kernel
theorem sq_Model_readNumber_108 : rn G mm_Model_readNumber 108 lv (.int x :: st) S P ↔ rn G mm_Model_readNumber 109 lv (.long x.toInt64 :: st) S P := rn_s dq_Model_readNumber_108 rfl rfl rfl
theorem dq_Model_readNumber_109 : decode (km_c mm_Model_readNumber) 109 = .ok (.invokestatic 76, 3) := by decide +kernel
theorem sq_Model_readNumber_109 {y1 : Int64} {y2 : Int64} {y3 : Int64} {v : Option Value} {S2 : ks_S} (hc : ev G mm_Model_in [.long y1, .long y2, .long y3] S v S2) (hst : kx_cat st ≤ 8) : rn G mm_Model_readNumber 109 lv (.long y3 :: .long y2 :: .long y1 :: st) S P ↔ rn G mm_Model_readNumber 112 lv (v.toList ++ st) S2 P := rn_cs (k := 1) (host := "") (E' := mm_Model_in) dq_Model_readNumber_109 (by decide) (by decide) rfl (ok_v rfl (by decide) (by decide) (Nat.le_add_left _ _) hst (Nat.le_of_ble_eq_true rfl) (Or.inl rfl)) rfl rfl hc
theorem dq_Model_readNumber_112 : decode (km_c mm_Model_readNumber) 112 = .ok (.ifCond .ne 10, 3) := by decide +kernel
theorem sq_Model_readNumber_112 : rn G mm_Model_readNumber 112 lv (.int x :: st) S P ↔ ((¬ x = 0 → rn G mm_Model_readNumber 122 lv st S P) ∧ (¬ (¬ x = 0) → rn G mm_Model_readNumber 115 lv st S P)) := rn_b (off := 10) dq_Model_readNumber_112 rfl rfl rfl rfl
theorem dq_Model_readNumber_115 : decode (km_c mm_Model_readNumber) 115 = .ok (.aload_n 0, 1) := by decide +kernel
theorem sq_Model_readNumber_115 : rn G mm_Model_readNumber 115 [some (.ref z), a1, a2, a3, a4] st S P ↔ rn G mm_Model_readNumber 116 [some (.ref z), a1, a2, a3, a4] (.ref z :: st) S P := rn_s dq_Model_readNumber_115 rfl rfl rfl
theorem dq_Model_readNumber_116 : decode (km_c mm_Model_readNumber) 116 = .ok (.iload_n 3, 1) := by decide +kernel
theorem sq_Model_readNumber_116 : rn G mm_Model_readNumber 116 [a0, a1, a2, some (.int x), a4] st S P ↔ rn G mm_Model_readNumber 117 [a0, a1, a2, some (.int x), a4] (.int x :: st) S P := rn_s dq_Model_readNumber_116 rfl rfl rfl
theorem dq_Model_readNumber_117 : decode (km_c mm_Model_readNumber) 117 = .ok (.putfield 151, 3) := by decide +kernel
theorem sq_Model_readNumber_117_45 (ho : sx_o o pl kp) : rn (lt_G o L) mm_Model_readNumber 117 lv (.int x :: .ref 45 :: st) (sx pl kp I A) P ↔ rn (lt_G o L) mm_Model_readNumber 120 lv st (sx pl kp (u2 I 45 17 x) A) P := rx_put (h := "") (ci := 10) (k := 17) dq_Model_readNumber_117 (by decide +kernel) ho (up_b (by decide)) rfl rfl (by decide) (by decide)
theorem dq_Model_readNumber_120 : decode (km_c mm_Model_readNumber) 120 = .ok (.iconst (-1), 1) := by decide +kernel
theorem sq_Model_readNumber_120 : rn G mm_Model_readNumber 120 lv st S P ↔ rn G mm_Model_readNumber 121 lv (.int ((-1)) :: st) S P := rn_s dq_Model_readNumber_120 rfl rfl rfl
theorem dq_Model_readNumber_121 : decode (km_c mm_Model_readNumber) 121 = .ok (.ireturn, 1) := by decide +kernel
theorem sq_Model_readNumber_121 : rn G mm_Model_readNumber 121 lv [.int x] S P ↔ P (some (.int x)) S := rn_ir dq_Model_readNumber_121 rfl
theorem dq_Model_readNumber_122 : decode (km_c mm_Model_readNumber) 122 = .ok (.iload 4, 2) := by decide +kernel
theorem sq_Model_readNumber_122 : rn G mm_Model_readNumber 122 [a0, a1, a2, a3, some (.int x)] st S P ↔ rn G mm_Model_readNumber 124 [a0, a1, a2, a3, some (.int x)] (.int x :: st) S P := rn_s dq_Model_readNumber_122 rfl rfl rfl
theorem dq_Model_readNumber_124 : decode (km_c mm_Model_readNumber) 124 = .ok (.ireturn, 1) := by decide +kernel
theorem sq_Model_readNumber_124 : rn G mm_Model_readNumber 124 lv [.int x] S P ↔ P (some (.int x)) S := rn_ir dq_Model_readNumber_124 rfl
theorem dq_Model_village_0 : decode (km_c mm_Model_village) 0 = .ok (.iload_n 1, 1) := by decide +kernel
theorem sq_Model_village_0 : rn G mm_Model_village 0 [a0, some (.int x), a2] st S P ↔ rn G mm_Model_village 1 [a0, some (.int x), a2] (.int x :: st) S P := rn_s dq_Model_village_0 rfl rfl rfl
theorem dq_Model_village_1 : decode (km_c mm_Model_village) 1 = .ok (.invokestatic 104, 3) := by decide +kernel
theorem sq_Model_village_1 {x1 : Int32} {v : Option Value} {S2 : ks_S} (hc : ev G mm_Model_isCell [.int x1] S v S2) (hst : kx_cat st ≤ 8) : rn G mm_Model_village 1 lv (.int x1 :: st) S P ↔ rn G mm_Model_village 4 lv (v.toList ++ st) S2 P := rn_cs (k := 1) (host := "") (E' := mm_Model_isCell) dq_Model_village_1 (by decide) (by decide) rfl (ok_v rfl (by decide) (by decide) (Nat.le_add_left _ _) hst (Nat.le_of_ble_eq_true rfl) (Or.inl rfl)) rfl rfl hc
theorem dq_Model_village_4 : decode (km_c mm_Model_village) 4 = .ok (.ifCond .eq 15, 3) := by decide +kernel
theorem sq_Model_village_4 : rn G mm_Model_village 4 lv (.int x :: st) S P ↔ ((x = 0 → rn G mm_Model_village 19 lv st S P) ∧ (¬ (x = 0) → rn G mm_Model_village 7 lv st S P)) := rn_b (off := 15) dq_Model_village_4 rfl rfl rfl rfl
theorem dq_Model_village_7 : decode (km_c mm_Model_village) 7 = .ok (.iload_n 2, 1) := by decide +kernel
theorem sq_Model_village_7 : rn G mm_Model_village 7 [a0, a1, some (.int x)] st S P ↔ rn G mm_Model_village 8 [a0, a1, some (.int x)] (.int x :: st) S P := rn_s dq_Model_village_7 rfl rfl rfl
theorem dq_Model_village_8 : decode (km_c mm_Model_village) 8 = .ok (.i2l, 1) := by decide +kernel
theorem sq_Model_village_8 : rn G mm_Model_village 8 lv (.int x :: st) S P ↔ rn G mm_Model_village 9 lv (.long x.toInt64 :: st) S P := rn_s dq_Model_village_8 rfl rfl rfl
theorem dq_Model_village_9 : decode (km_c mm_Model_village) 9 = .ok (.lconst 1, 1) := by decide +kernel
theorem sq_Model_village_9 : rn G mm_Model_village 9 lv st S P ↔ rn G mm_Model_village 10 lv (.long (1) :: st) S P := rn_s dq_Model_village_9 rfl rfl rfl
theorem dq_Model_village_10 : decode (km_c mm_Model_village) 10 = .ok (.ldc2_w 184, 3) := by decide +kernel
theorem sq_Model_village_10 : rn G mm_Model_village 10 lv st S P ↔ rn G mm_Model_village 13 lv (.long (99) :: st) S P := rn_s dq_Model_village_10 rfl rfl rfl
theorem dq_Model_village_13 : decode (km_c mm_Model_village) 13 = .ok (.invokestatic 76, 3) := by decide +kernel
theorem sq_Model_village_13 {y1 : Int64} {y2 : Int64} {y3 : Int64} {v : Option Value} {S2 : ks_S} (hc : ev G mm_Model_in [.long y1, .long y2, .long y3] S v S2) (hst : kx_cat st ≤ 8) : rn G mm_Model_village 13 lv (.long y3 :: .long y2 :: .long y1 :: st) S P ↔ rn G mm_Model_village 16 lv (v.toList ++ st) S2 P := rn_cs (k := 1) (host := "") (E' := mm_Model_in) dq_Model_village_13 (by decide) (by decide) rfl (ok_v rfl (by decide) (by decide) (Nat.le_add_left _ _) hst (Nat.le_of_ble_eq_true rfl) (Or.inl rfl)) rfl rfl hc
theorem dq_Model_village_16 : decode (km_c mm_Model_village) 16 = .ok (.ifCond .ne 5, 3) := by decide +kernel
theorem sq_Model_village_16 : rn G mm_Model_village 16 lv (.int x :: st) S P ↔ ((¬ x = 0 → rn G mm_Model_village 21 lv st S P) ∧ (¬ (¬ x = 0) → rn G mm_Model_village 19 lv st S P)) := rn_b (off := 5) dq_Model_village_16 rfl rfl rfl rfl
theorem dq_Model_village_19 : decode (km_c mm_Model_village) 19 = .ok (.iconst (-1), 1) := by decide +kernel
theorem sq_Model_village_19 : rn G mm_Model_village 19 lv st S P ↔ rn G mm_Model_village 20 lv (.int ((-1)) :: st) S P := rn_s dq_Model_village_19 rfl rfl rfl
theorem dq_Model_village_20 : decode (km_c mm_Model_village) 20 = .ok (.ireturn, 1) := by decide +kernel
theorem sq_Model_village_20 : rn G mm_Model_village 20 lv [.int x] S P ↔ P (some (.int x)) S := rn_ir dq_Model_village_20 rfl
theorem dq_Model_village_21 : decode (km_c mm_Model_village) 21 = .ok (.aload_n 0, 1) := by decide +kernel
theorem sq_Model_village_21 : rn G mm_Model_village 21 [some (.ref z), a1, a2] st S P ↔ rn G mm_Model_village 22 [some (.ref z), a1, a2] (.ref z :: st) S P := rn_s dq_Model_village_21 rfl rfl rfl
theorem dq_Model_village_22 : decode (km_c mm_Model_village) 22 = .ok (.getfield 131, 3) := by decide +kernel
theorem sq_Model_village_22_45 (ho : sx_o o pl kp) : rn (lt_G o L) mm_Model_village 22 lv (.ref 45 :: st) (sx pl kp I A) P ↔ rn (lt_G o L) mm_Model_village 25 lv (.int (I 45 4) :: st) (sx pl kp I A) P := rx_get (h := "") (ci := 10) (k := 4) dq_Model_village_22 (by decide +kernel) ho (up_b (by decide)) rfl rfl (fl_i (by decide))
theorem dq_Model_village_25 : decode (km_c mm_Model_village) 25 = .ok (.bipush 6, 2) := by decide +kernel
theorem sq_Model_village_25 : rn G mm_Model_village 25 lv st S P ↔ rn G mm_Model_village 27 lv (.int (nI 6) :: st) S P := rn_s dq_Model_village_25 rfl rfl rfl
theorem dq_Model_village_27 : decode (km_c mm_Model_village) 27 = .ok (.if_icmp .ne 6, 3) := by decide +kernel
theorem sq_Model_village_27 : rn G mm_Model_village 27 lv (.int x2 :: .int x :: st) S P ↔ ((¬ x = x2 → rn G mm_Model_village 33 lv st S P) ∧ (¬ (¬ x = x2) → rn G mm_Model_village 30 lv st S P)) := rn_b (off := 6) dq_Model_village_27 rfl rfl rfl rfl
theorem dq_Model_village_30 : decode (km_c mm_Model_village) 30 = .ok (.bipush (-3), 2) := by decide +kernel
theorem sq_Model_village_30 : rn G mm_Model_village 30 lv st S P ↔ rn G mm_Model_village 32 lv (.int ((-3)) :: st) S P := rn_s dq_Model_village_30 rfl rfl rfl
theorem dq_Model_village_32 : decode (km_c mm_Model_village) 32 = .ok (.ireturn, 1) := by decide +kernel
theorem sq_Model_village_32 : rn G mm_Model_village 32 lv [.int x] S P ↔ P (some (.int x)) S := rn_ir dq_Model_village_32 rfl
theorem dq_Model_village_33 : decode (km_c mm_Model_village) 33 = .ok (.aload_n 0, 1) := by decide +kernel
theorem sq_Model_village_33 : rn G mm_Model_village 33 [some (.ref z), a1, a2] st S P ↔ rn G mm_Model_village 34 [some (.ref z), a1, a2] (.ref z :: st) S P := rn_s dq_Model_village_33 rfl rfl rfl
theorem dq_Model_village_34 : decode (km_c mm_Model_village) 34 = .ok (.getfield 13, 3) := by decide +kernel
theorem sq_Model_village_34_45 (ho : sx_o o pl kp) : rn (lt_G o L) mm_Model_village 34 lv (.ref 45 :: st) (sx pl kp I A) P ↔ rn (lt_G o L) mm_Model_village 37 lv (.ref 47 :: st) (sx pl kp I A) P := rx_get (h := "") (ci := 10) (k := 2) dq_Model_village_34 (by decide +kernel) ho (up_b (by decide)) rfl rfl (fl_r (by decide) (by decide) (by decide) (by decide))
theorem dq_Model_village_37 : decode (km_c mm_Model_village) 37 = .ok (.aload_n 0, 1) := by decide +kernel
theorem sq_Model_village_37 : rn G mm_Model_village 37 [some (.ref z), a1, a2] st S P ↔ rn G mm_Model_village 38 [some (.ref z), a1, a2] (.ref z :: st) S P := rn_s dq_Model_village_37 rfl rfl rfl
theorem dq_Model_village_38 : decode (km_c mm_Model_village) 38 = .ok (.getfield 131, 3) := by decide +kernel
theorem sq_Model_village_38_45 (ho : sx_o o pl kp) : rn (lt_G o L) mm_Model_village 38 lv (.ref 45 :: st) (sx pl kp I A) P ↔ rn (lt_G o L) mm_Model_village 41 lv (.int (I 45 4) :: st) (sx pl kp I A) P := rx_get (h := "") (ci := 10) (k := 4) dq_Model_village_38 (by decide +kernel) ho (up_b (by decide)) rfl rfl (fl_i (by decide))
theorem dq_Model_village_41 : decode (km_c mm_Model_village) 41 = .ok (.iload_n 1, 1) := by decide +kernel
theorem sq_Model_village_41 : rn G mm_Model_village 41 [a0, some (.int x), a2] st S P ↔ rn G mm_Model_village 42 [a0, some (.int x), a2] (.int x :: st) S P := rn_s dq_Model_village_41 rfl rfl rfl
theorem dq_Model_village_42 : decode (km_c mm_Model_village) 42 = .ok (.iastore, 1) := by decide +kernel
theorem sq_Model_village_42 (ho : sx_o o pl kp) (hk : ak L a = 0) (hu : sx_up pl kp a = true) (hc : c < ln L a) (hn : ln L a < 2 ^ 31) : rn (lt_G o L) mm_Model_village 42 lv (.int x :: .int (nI c) :: .ref a :: st) (sx pl kp I A) P ↔ rn (lt_G o L) mm_Model_village 43 lv st (sx pl kp I (u2 A a c x)) P := rx_ist dq_Model_village_42 ho hk hu hc hn
theorem dq_Model_village_43 : decode (km_c mm_Model_village) 43 = .ok (.aload_n 0, 1) := by decide +kernel
theorem sq_Model_village_43 : rn G mm_Model_village 43 [some (.ref z), a1, a2] st S P ↔ rn G mm_Model_village 44 [some (.ref z), a1, a2] (.ref z :: st) S P := rn_s dq_Model_village_43 rfl rfl rfl
theorem dq_Model_village_44 : decode (km_c mm_Model_village) 44 = .ok (.getfield 16, 3) := by decide +kernel
theorem sq_Model_village_44_45 (ho : sx_o o pl kp) : rn (lt_G o L) mm_Model_village 44 lv (.ref 45 :: st) (sx pl kp I A) P ↔ rn (lt_G o L) mm_Model_village 47 lv (.ref 48 :: st) (sx pl kp I A) P := rx_get (h := "") (ci := 10) (k := 3) dq_Model_village_44 (by decide +kernel) ho (up_b (by decide)) rfl rfl (fl_r (by decide) (by decide) (by decide) (by decide))
theorem dq_Model_village_47 : decode (km_c mm_Model_village) 47 = .ok (.aload_n 0, 1) := by decide +kernel
theorem sq_Model_village_47 : rn G mm_Model_village 47 [some (.ref z), a1, a2] st S P ↔ rn G mm_Model_village 48 [some (.ref z), a1, a2] (.ref z :: st) S P := rn_s dq_Model_village_47 rfl rfl rfl
theorem dq_Model_village_48 : decode (km_c mm_Model_village) 48 = .ok (.getfield 131, 3) := by decide +kernel
theorem sq_Model_village_48_45 (ho : sx_o o pl kp) : rn (lt_G o L) mm_Model_village 48 lv (.ref 45 :: st) (sx pl kp I A) P ↔ rn (lt_G o L) mm_Model_village 51 lv (.int (I 45 4) :: st) (sx pl kp I A) P := rx_get (h := "") (ci := 10) (k := 4) dq_Model_village_48 (by decide +kernel) ho (up_b (by decide)) rfl rfl (fl_i (by decide))
theorem dq_Model_village_51 : decode (km_c mm_Model_village) 51 = .ok (.iload_n 2, 1) := by decide +kernel
theorem sq_Model_village_51 : rn G mm_Model_village 51 [a0, a1, some (.int x)] st S P ↔ rn G mm_Model_village 52 [a0, a1, some (.int x)] (.int x :: st) S P := rn_s dq_Model_village_51 rfl rfl rfl
theorem dq_Model_village_52 : decode (km_c mm_Model_village) 52 = .ok (.iastore, 1) := by decide +kernel
theorem sq_Model_village_52 (ho : sx_o o pl kp) (hk : ak L a = 0) (hu : sx_up pl kp a = true) (hc : c < ln L a) (hn : ln L a < 2 ^ 31) : rn (lt_G o L) mm_Model_village 52 lv (.int x :: .int (nI c) :: .ref a :: st) (sx pl kp I A) P ↔ rn (lt_G o L) mm_Model_village 53 lv st (sx pl kp I (u2 A a c x)) P := rx_ist dq_Model_village_52 ho hk hu hc hn
theorem dq_Model_village_53 : decode (km_c mm_Model_village) 53 = .ok (.aload_n 0, 1) := by decide +kernel
theorem sq_Model_village_53 : rn G mm_Model_village 53 [some (.ref z), a1, a2] st S P ↔ rn G mm_Model_village 54 [some (.ref z), a1, a2] (.ref z :: st) S P := rn_s dq_Model_village_53 rfl rfl rfl
theorem dq_Model_village_54 : decode (km_c mm_Model_village) 54 = .ok (.dup, 1) := by decide +kernel
theorem sq_Model_village_54i : rn G mm_Model_village 54 lv (.int x :: st) S P ↔ rn G mm_Model_village 55 lv (.int x :: .int x :: st) S P := rn_s dq_Model_village_54 rfl rfl rfl
theorem sq_Model_village_54r : rn G mm_Model_village 54 lv (.ref z :: st) S P ↔ rn G mm_Model_village 55 lv (.ref z :: .ref z :: st) S P := rn_s dq_Model_village_54 rfl rfl rfl
theorem dq_Model_village_55 : decode (km_c mm_Model_village) 55 = .ok (.getfield 131, 3) := by decide +kernel
theorem sq_Model_village_55_45 (ho : sx_o o pl kp) : rn (lt_G o L) mm_Model_village 55 lv (.ref 45 :: st) (sx pl kp I A) P ↔ rn (lt_G o L) mm_Model_village 58 lv (.int (I 45 4) :: st) (sx pl kp I A) P := rx_get (h := "") (ci := 10) (k := 4) dq_Model_village_55 (by decide +kernel) ho (up_b (by decide)) rfl rfl (fl_i (by decide))
theorem dq_Model_village_58 : decode (km_c mm_Model_village) 58 = .ok (.iconst 1, 1) := by decide +kernel
theorem sq_Model_village_58 : rn G mm_Model_village 58 lv st S P ↔ rn G mm_Model_village 59 lv (.int (nI 1) :: st) S P := rn_s dq_Model_village_58 rfl rfl rfl
theorem dq_Model_village_59 : decode (km_c mm_Model_village) 59 = .ok (.iadd, 1) := by decide +kernel
theorem sq_Model_village_59 : rn G mm_Model_village 59 lv (.int x2 :: .int x :: st) S P ↔ rn G mm_Model_village 60 lv (.int (x + x2) :: st) S P := rn_s dq_Model_village_59 rfl rfl rfl
theorem dq_Model_village_60 : decode (km_c mm_Model_village) 60 = .ok (.putfield 131, 3) := by decide +kernel
theorem sq_Model_village_60_45 (ho : sx_o o pl kp) : rn (lt_G o L) mm_Model_village 60 lv (.int x :: .ref 45 :: st) (sx pl kp I A) P ↔ rn (lt_G o L) mm_Model_village 63 lv st (sx pl kp (u2 I 45 4 x) A) P := rx_put (h := "") (ci := 10) (k := 4) dq_Model_village_60 (by decide +kernel) ho (up_b (by decide)) rfl rfl (by decide) (by decide)
theorem dq_Model_village_63 : decode (km_c mm_Model_village) 63 = .ok (.aload_n 0, 1) := by decide +kernel
theorem sq_Model_village_63 : rn G mm_Model_village 63 [some (.ref z), a1, a2] st S P ↔ rn G mm_Model_village 64 [some (.ref z), a1, a2] (.ref z :: st) S P := rn_s dq_Model_village_63 rfl rfl rfl
theorem dq_Model_village_64 : decode (km_c mm_Model_village) 64 = .ok (.getfield 131, 3) := by decide +kernel
theorem sq_Model_village_64_45 (ho : sx_o o pl kp) : rn (lt_G o L) mm_Model_village 64 lv (.ref 45 :: st) (sx pl kp I A) P ↔ rn (lt_G o L) mm_Model_village 67 lv (.int (I 45 4) :: st) (sx pl kp I A) P := rx_get (h := "") (ci := 10) (k := 4) dq_Model_village_64 (by decide +kernel) ho (up_b (by decide)) rfl rfl (fl_i (by decide))
theorem dq_Model_village_67 : decode (km_c mm_Model_village) 67 = .ok (.iconst 1, 1) := by decide +kernel
theorem sq_Model_village_67 : rn G mm_Model_village 67 lv st S P ↔ rn G mm_Model_village 68 lv (.int (nI 1) :: st) S P := rn_s dq_Model_village_67 rfl rfl rfl
theorem dq_Model_village_68 : decode (km_c mm_Model_village) 68 = .ok (.isub, 1) := by decide +kernel
theorem sq_Model_village_68 : rn G mm_Model_village 68 lv (.int x2 :: .int x :: st) S P ↔ rn G mm_Model_village 69 lv (.int (x - x2) :: st) S P := rn_s dq_Model_village_68 rfl rfl rfl
theorem dq_Model_village_69 : decode (km_c mm_Model_village) 69 = .ok (.ireturn, 1) := by decide +kernel
theorem sq_Model_village_69 : rn G mm_Model_village 69 lv [.int x] S P ↔ P (some (.int x)) S := rn_ir dq_Model_village_69 rfl
theorem dq_Model_of_0 : decode (km_c mm_Model_of) 0 = .ok (.iload_n 1, 1) := by decide +kernel
theorem sq_Model_of_0 : rn G mm_Model_of 0 [a0, some (.int x), a2] st S P ↔ rn G mm_Model_of 1 [a0, some (.int x), a2] (.int x :: st) S P := rn_s dq_Model_of_0 rfl rfl rfl
theorem dq_Model_of_1 : decode (km_c mm_Model_of) 1 = .ok (.i2l, 1) := by decide +kernel
theorem sq_Model_of_1 : rn G mm_Model_of 1 lv (.int x :: st) S P ↔ rn G mm_Model_of 2 lv (.long x.toInt64 :: st) S P := rn_s dq_Model_of_1 rfl rfl rfl
theorem dq_Model_of_2 : decode (km_c mm_Model_of) 2 = .ok (.lconst 0, 1) := by decide +kernel
theorem sq_Model_of_2 : rn G mm_Model_of 2 lv st S P ↔ rn G mm_Model_of 3 lv (.long (0) :: st) S P := rn_s dq_Model_of_2 rfl rfl rfl
theorem dq_Model_of_3 : decode (km_c mm_Model_of) 3 = .ok (.aload_n 0, 1) := by decide +kernel
theorem sq_Model_of_3 : rn G mm_Model_of 3 [some (.ref z), a1, a2] st S P ↔ rn G mm_Model_of 4 [some (.ref z), a1, a2] (.ref z :: st) S P := rn_s dq_Model_of_3 rfl rfl rfl
theorem dq_Model_of_4 : decode (km_c mm_Model_of) 4 = .ok (.getfield 131, 3) := by decide +kernel
theorem sq_Model_of_4_45 (ho : sx_o o pl kp) : rn (lt_G o L) mm_Model_of 4 lv (.ref 45 :: st) (sx pl kp I A) P ↔ rn (lt_G o L) mm_Model_of 7 lv (.int (I 45 4) :: st) (sx pl kp I A) P := rx_get (h := "") (ci := 10) (k := 4) dq_Model_of_4 (by decide +kernel) ho (up_b (by decide)) rfl rfl (fl_i (by decide))
theorem dq_Model_of_7 : decode (km_c mm_Model_of) 7 = .ok (.iconst 1, 1) := by decide +kernel
theorem sq_Model_of_7 : rn G mm_Model_of 7 lv st S P ↔ rn G mm_Model_of 8 lv (.int (nI 1) :: st) S P := rn_s dq_Model_of_7 rfl rfl rfl
theorem dq_Model_of_8 : decode (km_c mm_Model_of) 8 = .ok (.isub, 1) := by decide +kernel
theorem sq_Model_of_8 : rn G mm_Model_of 8 lv (.int x2 :: .int x :: st) S P ↔ rn G mm_Model_of 9 lv (.int (x - x2) :: st) S P := rn_s dq_Model_of_8 rfl rfl rfl
theorem dq_Model_of_9 : decode (km_c mm_Model_of) 9 = .ok (.i2l, 1) := by decide +kernel
theorem sq_Model_of_9 : rn G mm_Model_of 9 lv (.int x :: st) S P ↔ rn G mm_Model_of 10 lv (.long x.toInt64 :: st) S P := rn_s dq_Model_of_9 rfl rfl rfl
theorem dq_Model_of_10 : decode (km_c mm_Model_of) 10 = .ok (.invokestatic 76, 3) := by decide +kernel
theorem sq_Model_of_10 {y1 : Int64} {y2 : Int64} {y3 : Int64} {v : Option Value} {S2 : ks_S} (hc : ev G mm_Model_in [.long y1, .long y2, .long y3] S v S2) (hst : kx_cat st ≤ 8) : rn G mm_Model_of 10 lv (.long y3 :: .long y2 :: .long y1 :: st) S P ↔ rn G mm_Model_of 13 lv (v.toList ++ st) S2 P := rn_cs (k := 1) (host := "") (E' := mm_Model_in) dq_Model_of_10 (by decide) (by decide) rfl (ok_v rfl (by decide) (by decide) (Nat.le_add_left _ _) hst (Nat.le_of_ble_eq_true rfl) (Or.inl rfl)) rfl rfl hc
theorem dq_Model_of_13 : decode (km_c mm_Model_of) 13 = .ok (.ifCond .eq 13, 3) := by decide +kernel
theorem sq_Model_of_13 : rn G mm_Model_of 13 lv (.int x :: st) S P ↔ ((x = 0 → rn G mm_Model_of 26 lv st S P) ∧ (¬ (x = 0) → rn G mm_Model_of 16 lv st S P)) := rn_b (off := 13) dq_Model_of_13 rfl rfl rfl rfl
theorem dq_Model_of_16 : decode (km_c mm_Model_of) 16 = .ok (.iload_n 2, 1) := by decide +kernel
theorem sq_Model_of_16 : rn G mm_Model_of 16 [a0, a1, some (.int x)] st S P ↔ rn G mm_Model_of 17 [a0, a1, some (.int x)] (.int x :: st) S P := rn_s dq_Model_of_16 rfl rfl rfl
theorem dq_Model_of_17 : decode (km_c mm_Model_of) 17 = .ok (.i2l, 1) := by decide +kernel
theorem sq_Model_of_17 : rn G mm_Model_of 17 lv (.int x :: st) S P ↔ rn G mm_Model_of 18 lv (.long x.toInt64 :: st) S P := rn_s dq_Model_of_17 rfl rfl rfl
theorem dq_Model_of_18 : decode (km_c mm_Model_of) 18 = .ok (.lconst 0, 1) := by decide +kernel
theorem sq_Model_of_18 : rn G mm_Model_of 18 lv st S P ↔ rn G mm_Model_of 19 lv (.long (0) :: st) S P := rn_s dq_Model_of_18 rfl rfl rfl
theorem dq_Model_of_19 : decode (km_c mm_Model_of) 19 = .ok (.lconst 1, 1) := by decide +kernel
theorem sq_Model_of_19 : rn G mm_Model_of 19 lv st S P ↔ rn G mm_Model_of 20 lv (.long (1) :: st) S P := rn_s dq_Model_of_19 rfl rfl rfl
theorem dq_Model_of_20 : decode (km_c mm_Model_of) 20 = .ok (.invokestatic 76, 3) := by decide +kernel
theorem sq_Model_of_20 {y1 : Int64} {y2 : Int64} {y3 : Int64} {v : Option Value} {S2 : ks_S} (hc : ev G mm_Model_in [.long y1, .long y2, .long y3] S v S2) (hst : kx_cat st ≤ 8) : rn G mm_Model_of 20 lv (.long y3 :: .long y2 :: .long y1 :: st) S P ↔ rn G mm_Model_of 23 lv (v.toList ++ st) S2 P := rn_cs (k := 1) (host := "") (E' := mm_Model_in) dq_Model_of_20 (by decide) (by decide) rfl (ok_v rfl (by decide) (by decide) (Nat.le_add_left _ _) hst (Nat.le_of_ble_eq_true rfl) (Or.inl rfl)) rfl rfl hc
theorem dq_Model_of_23 : decode (km_c mm_Model_of) 23 = .ok (.ifCond .ne 7, 3) := by decide +kernel
theorem sq_Model_of_23 : rn G mm_Model_of 23 lv (.int x :: st) S P ↔ ((¬ x = 0 → rn G mm_Model_of 30 lv st S P) ∧ (¬ (¬ x = 0) → rn G mm_Model_of 26 lv st S P)) := rn_b (off := 7) dq_Model_of_23 rfl rfl rfl rfl
theorem dq_Model_of_26 : decode (km_c mm_Model_of) 26 = .ok (.iconst (-1), 1) := by decide +kernel
theorem sq_Model_of_26 : rn G mm_Model_of 26 lv st S P ↔ rn G mm_Model_of 27 lv (.int ((-1)) :: st) S P := rn_s dq_Model_of_26 rfl rfl rfl
theorem dq_Model_of_27 : decode (km_c mm_Model_of) 27 = .ok (.goto 22, 3) := by decide +kernel
theorem sq_Model_of_27 : rn G mm_Model_of 27 lv st S P ↔ rn G mm_Model_of 49 lv st S P := rn_s dq_Model_of_27 rfl rfl rfl
theorem dq_Model_of_30 : decode (km_c mm_Model_of) 30 = .ok (.iload_n 2, 1) := by decide +kernel
theorem sq_Model_of_30 : rn G mm_Model_of 30 [a0, a1, some (.int x)] st S P ↔ rn G mm_Model_of 31 [a0, a1, some (.int x)] (.int x :: st) S P := rn_s dq_Model_of_30 rfl rfl rfl
theorem dq_Model_of_31 : decode (km_c mm_Model_of) 31 = .ok (.ifCond .ne 12, 3) := by decide +kernel
theorem sq_Model_of_31 : rn G mm_Model_of 31 lv (.int x :: st) S P ↔ ((¬ x = 0 → rn G mm_Model_of 43 lv st S P) ∧ (¬ (¬ x = 0) → rn G mm_Model_of 34 lv st S P)) := rn_b (off := 12) dq_Model_of_31 rfl rfl rfl rfl
theorem dq_Model_of_34 : decode (km_c mm_Model_of) 34 = .ok (.aload_n 0, 1) := by decide +kernel
theorem sq_Model_of_34 : rn G mm_Model_of 34 [some (.ref z), a1, a2] st S P ↔ rn G mm_Model_of 35 [some (.ref z), a1, a2] (.ref z :: st) S P := rn_s dq_Model_of_34 rfl rfl rfl
theorem dq_Model_of_35 : decode (km_c mm_Model_of) 35 = .ok (.getfield 13, 3) := by decide +kernel
theorem sq_Model_of_35_45 (ho : sx_o o pl kp) : rn (lt_G o L) mm_Model_of 35 lv (.ref 45 :: st) (sx pl kp I A) P ↔ rn (lt_G o L) mm_Model_of 38 lv (.ref 47 :: st) (sx pl kp I A) P := rx_get (h := "") (ci := 10) (k := 2) dq_Model_of_35 (by decide +kernel) ho (up_b (by decide)) rfl rfl (fl_r (by decide) (by decide) (by decide) (by decide))
theorem dq_Model_of_38 : decode (km_c mm_Model_of) 38 = .ok (.iload_n 1, 1) := by decide +kernel
theorem sq_Model_of_38 : rn G mm_Model_of 38 [a0, some (.int x), a2] st S P ↔ rn G mm_Model_of 39 [a0, some (.int x), a2] (.int x :: st) S P := rn_s dq_Model_of_38 rfl rfl rfl
theorem dq_Model_of_39 : decode (km_c mm_Model_of) 39 = .ok (.iaload, 1) := by decide +kernel
theorem sq_Model_of_39 (ho : sx_o o pl kp) (hk : ak L a = 0) (hu : sx_up pl kp a = true ∨ 1000 ≤ a) (hc : c < ln L a) (hn : ln L a < 2 ^ 31) : rn (lt_G o L) mm_Model_of 39 lv (.int (nI c) :: .ref a :: st) (sx pl kp I A) P ↔ rn (lt_G o L) mm_Model_of 40 lv (.int (A a c) :: st) (sx pl kp I A) P := rx_ild dq_Model_of_39 ho hk hu hc hn
theorem dq_Model_of_40 : decode (km_c mm_Model_of) 40 = .ok (.goto 9, 3) := by decide +kernel
theorem sq_Model_of_40 : rn G mm_Model_of 40 lv st S P ↔ rn G mm_Model_of 49 lv st S P := rn_s dq_Model_of_40 rfl rfl rfl
theorem dq_Model_of_43 : decode (km_c mm_Model_of) 43 = .ok (.aload_n 0, 1) := by decide +kernel
theorem sq_Model_of_43 : rn G mm_Model_of 43 [some (.ref z), a1, a2] st S P ↔ rn G mm_Model_of 44 [some (.ref z), a1, a2] (.ref z :: st) S P := rn_s dq_Model_of_43 rfl rfl rfl
theorem dq_Model_of_44 : decode (km_c mm_Model_of) 44 = .ok (.getfield 16, 3) := by decide +kernel
theorem sq_Model_of_44_45 (ho : sx_o o pl kp) : rn (lt_G o L) mm_Model_of 44 lv (.ref 45 :: st) (sx pl kp I A) P ↔ rn (lt_G o L) mm_Model_of 47 lv (.ref 48 :: st) (sx pl kp I A) P := rx_get (h := "") (ci := 10) (k := 3) dq_Model_of_44 (by decide +kernel) ho (up_b (by decide)) rfl rfl (fl_r (by decide) (by decide) (by decide) (by decide))
theorem dq_Model_of_47 : decode (km_c mm_Model_of) 47 = .ok (.iload_n 1, 1) := by decide +kernel
theorem sq_Model_of_47 : rn G mm_Model_of 47 [a0, some (.int x), a2] st S P ↔ rn G mm_Model_of 48 [a0, some (.int x), a2] (.int x :: st) S P := rn_s dq_Model_of_47 rfl rfl rfl
theorem dq_Model_of_48 : decode (km_c mm_Model_of) 48 = .ok (.iaload, 1) := by decide +kernel
theorem sq_Model_of_48 (ho : sx_o o pl kp) (hk : ak L a = 0) (hu : sx_up pl kp a = true ∨ 1000 ≤ a) (hc : c < ln L a) (hn : ln L a < 2 ^ 31) : rn (lt_G o L) mm_Model_of 48 lv (.int (nI c) :: .ref a :: st) (sx pl kp I A) P ↔ rn (lt_G o L) mm_Model_of 49 lv (.int (A a c) :: st) (sx pl kp I A) P := rx_ild dq_Model_of_48 ho hk hu hc hn
theorem dq_Model_of_49 : decode (km_c mm_Model_of) 49 = .ok (.ireturn, 1) := by decide +kernel
theorem sq_Model_of_49 : rn G mm_Model_of 49 lv [.int x] S P ↔ P (some (.int x)) S := rn_ir dq_Model_of_49 rfl
theorem dq_Model_ends_0 : decode (km_c mm_Model_ends) 0 = .ok (.iload_n 1, 1) := by decide +kernel
theorem sq_Model_ends_0 : rn G mm_Model_ends 0 [a0, some (.int x), a2, a3] st S P ↔ rn G mm_Model_ends 1 [a0, some (.int x), a2, a3] (.int x :: st) S P := rn_s dq_Model_ends_0 rfl rfl rfl
theorem dq_Model_ends_1 : decode (km_c mm_Model_ends) 1 = .ok (.invokestatic 104, 3) := by decide +kernel
theorem sq_Model_ends_1 {x1 : Int32} {v : Option Value} {S2 : ks_S} (hc : ev G mm_Model_isCell [.int x1] S v S2) (hst : kx_cat st ≤ 8) : rn G mm_Model_ends 1 lv (.int x1 :: st) S P ↔ rn G mm_Model_ends 4 lv (v.toList ++ st) S2 P := rn_cs (k := 1) (host := "") (E' := mm_Model_isCell) dq_Model_ends_1 (by decide) (by decide) rfl (ok_v rfl (by decide) (by decide) (Nat.le_add_left _ _) hst (Nat.le_of_ble_eq_true rfl) (Or.inl rfl)) rfl rfl hc
theorem dq_Model_ends_4 : decode (km_c mm_Model_ends) 4 = .ok (.ifCond .eq 10, 3) := by decide +kernel
theorem sq_Model_ends_4 : rn G mm_Model_ends 4 lv (.int x :: st) S P ↔ ((x = 0 → rn G mm_Model_ends 14 lv st S P) ∧ (¬ (x = 0) → rn G mm_Model_ends 7 lv st S P)) := rn_b (off := 10) dq_Model_ends_4 rfl rfl rfl rfl
theorem dq_Model_ends_7 : decode (km_c mm_Model_ends) 7 = .ok (.iload_n 2, 1) := by decide +kernel
theorem sq_Model_ends_7 : rn G mm_Model_ends 7 [a0, a1, some (.int x), a3] st S P ↔ rn G mm_Model_ends 8 [a0, a1, some (.int x), a3] (.int x :: st) S P := rn_s dq_Model_ends_7 rfl rfl rfl
theorem dq_Model_ends_8 : decode (km_c mm_Model_ends) 8 = .ok (.invokestatic 104, 3) := by decide +kernel
theorem sq_Model_ends_8 {x1 : Int32} {v : Option Value} {S2 : ks_S} (hc : ev G mm_Model_isCell [.int x1] S v S2) (hst : kx_cat st ≤ 8) : rn G mm_Model_ends 8 lv (.int x1 :: st) S P ↔ rn G mm_Model_ends 11 lv (v.toList ++ st) S2 P := rn_cs (k := 1) (host := "") (E' := mm_Model_isCell) dq_Model_ends_8 (by decide) (by decide) rfl (ok_v rfl (by decide) (by decide) (Nat.le_add_left _ _) hst (Nat.le_of_ble_eq_true rfl) (Or.inl rfl)) rfl rfl hc
theorem dq_Model_ends_11 : decode (km_c mm_Model_ends) 11 = .ok (.ifCond .ne 5, 3) := by decide +kernel
theorem sq_Model_ends_11 : rn G mm_Model_ends 11 lv (.int x :: st) S P ↔ ((¬ x = 0 → rn G mm_Model_ends 16 lv st S P) ∧ (¬ (¬ x = 0) → rn G mm_Model_ends 14 lv st S P)) := rn_b (off := 5) dq_Model_ends_11 rfl rfl rfl rfl
theorem dq_Model_ends_14 : decode (km_c mm_Model_ends) 14 = .ok (.iconst (-1), 1) := by decide +kernel
theorem sq_Model_ends_14 : rn G mm_Model_ends 14 lv st S P ↔ rn G mm_Model_ends 15 lv (.int ((-1)) :: st) S P := rn_s dq_Model_ends_14 rfl rfl rfl
theorem dq_Model_ends_15 : decode (km_c mm_Model_ends) 15 = .ok (.ireturn, 1) := by decide +kernel
theorem sq_Model_ends_15 : rn G mm_Model_ends 15 lv [.int x] S P ↔ P (some (.int x)) S := rn_ir dq_Model_ends_15 rfl
theorem dq_Model_ends_16 : decode (km_c mm_Model_ends) 16 = .ok (.bipush 100, 2) := by decide +kernel
theorem sq_Model_ends_16 : rn G mm_Model_ends 16 lv st S P ↔ rn G mm_Model_ends 18 lv (.int (nI 100) :: st) S P := rn_s dq_Model_ends_16 rfl rfl rfl
theorem dq_Model_ends_18 : decode (km_c mm_Model_ends) 18 = .ok (.aload_n 0, 1) := by decide +kernel
theorem sq_Model_ends_18 : rn G mm_Model_ends 18 [some (.ref z), a1, a2, a3] st S P ↔ rn G mm_Model_ends 19 [some (.ref z), a1, a2, a3] (.ref z :: st) S P := rn_s dq_Model_ends_18 rfl rfl rfl
theorem dq_Model_ends_19 : decode (km_c mm_Model_ends) 19 = .ok (.getfield 186, 3) := by decide +kernel
theorem sq_Model_ends_19_45 (ho : sx_o o pl kp) : rn (lt_G o L) mm_Model_ends 19 lv (.ref 45 :: st) (sx pl kp I A) P ↔ rn (lt_G o L) mm_Model_ends 22 lv (.int (I 45 5) :: st) (sx pl kp I A) P := rx_get (h := "") (ci := 10) (k := 5) dq_Model_ends_19 (by decide +kernel) ho (up_b (by decide)) rfl rfl (fl_i (by decide))
theorem dq_Model_ends_22 : decode (km_c mm_Model_ends) 22 = .ok (.imul, 1) := by decide +kernel
theorem sq_Model_ends_22 : rn G mm_Model_ends 22 lv (.int x2 :: .int x :: st) S P ↔ rn G mm_Model_ends 23 lv (.int (x * x2) :: st) S P := rn_s dq_Model_ends_22 rfl rfl rfl
theorem dq_Model_ends_23 : decode (km_c mm_Model_ends) 23 = .ok (.aload_n 0, 1) := by decide +kernel
theorem sq_Model_ends_23 : rn G mm_Model_ends 23 [some (.ref z), a1, a2, a3] st S P ↔ rn G mm_Model_ends 24 [some (.ref z), a1, a2, a3] (.ref z :: st) S P := rn_s dq_Model_ends_23 rfl rfl rfl
theorem dq_Model_ends_24 : decode (km_c mm_Model_ends) 24 = .ok (.getfield 19, 3) := by decide +kernel
theorem sq_Model_ends_24_45 (ho : sx_o o pl kp) : rn (lt_G o L) mm_Model_ends 24 lv (.ref 45 :: st) (sx pl kp I A) P ↔ rn (lt_G o L) mm_Model_ends 27 lv (.int (I 45 6) :: st) (sx pl kp I A) P := rx_get (h := "") (ci := 10) (k := 6) dq_Model_ends_24 (by decide +kernel) ho (up_b (by decide)) rfl rfl (fl_i (by decide))
theorem dq_Model_ends_27 : decode (km_c mm_Model_ends) 27 = .ok (.iadd, 1) := by decide +kernel
theorem sq_Model_ends_27 : rn G mm_Model_ends 27 lv (.int x2 :: .int x :: st) S P ↔ rn G mm_Model_ends 28 lv (.int (x + x2) :: st) S P := rn_s dq_Model_ends_27 rfl rfl rfl
theorem dq_Model_ends_28 : decode (km_c mm_Model_ends) 28 = .ok (.istore_n 3, 1) := by decide +kernel
theorem sq_Model_ends_28n : rn G mm_Model_ends 28 [a0, a1, none, a3] (.int x :: st) S P ↔ rn G mm_Model_ends 29 [a0, a1, none, some (.int x)] st S P := rn_s dq_Model_ends_28 rfl rfl rfl
theorem sq_Model_ends_28i : rn G mm_Model_ends 28 [a0, a1, some (.int x2), a3] (.int x :: st) S P ↔ rn G mm_Model_ends 29 [a0, a1, some (.int x2), some (.int x)] st S P := rn_s dq_Model_ends_28 rfl rfl rfl
theorem sq_Model_ends_28r : rn G mm_Model_ends 28 [a0, a1, some (.ref z2), a3] (.int x :: st) S P ↔ rn G mm_Model_ends 29 [a0, a1, some (.ref z2), some (.int x)] st S P := rn_s dq_Model_ends_28 rfl rfl rfl
theorem dq_Model_ends_29 : decode (km_c mm_Model_ends) 29 = .ok (.aload_n 0, 1) := by decide +kernel
theorem sq_Model_ends_29 : rn G mm_Model_ends 29 [some (.ref z), a1, a2, a3] st S P ↔ rn G mm_Model_ends 30 [some (.ref z), a1, a2, a3] (.ref z :: st) S P := rn_s dq_Model_ends_29 rfl rfl rfl
theorem dq_Model_ends_30 : decode (km_c mm_Model_ends) 30 = .ok (.iload_n 1, 1) := by decide +kernel
theorem sq_Model_ends_30 : rn G mm_Model_ends 30 [a0, some (.int x), a2, a3] st S P ↔ rn G mm_Model_ends 31 [a0, some (.int x), a2, a3] (.int x :: st) S P := rn_s dq_Model_ends_30 rfl rfl rfl
theorem dq_Model_ends_31 : decode (km_c mm_Model_ends) 31 = .ok (.putfield 186, 3) := by decide +kernel
theorem sq_Model_ends_31_45 (ho : sx_o o pl kp) : rn (lt_G o L) mm_Model_ends 31 lv (.int x :: .ref 45 :: st) (sx pl kp I A) P ↔ rn (lt_G o L) mm_Model_ends 34 lv st (sx pl kp (u2 I 45 5 x) A) P := rx_put (h := "") (ci := 10) (k := 5) dq_Model_ends_31 (by decide +kernel) ho (up_b (by decide)) rfl rfl (by decide) (by decide)
theorem dq_Model_ends_34 : decode (km_c mm_Model_ends) 34 = .ok (.aload_n 0, 1) := by decide +kernel
theorem sq_Model_ends_34 : rn G mm_Model_ends 34 [some (.ref z), a1, a2, a3] st S P ↔ rn G mm_Model_ends 35 [some (.ref z), a1, a2, a3] (.ref z :: st) S P := rn_s dq_Model_ends_34 rfl rfl rfl
theorem dq_Model_ends_35 : decode (km_c mm_Model_ends) 35 = .ok (.iload_n 2, 1) := by decide +kernel
theorem sq_Model_ends_35 : rn G mm_Model_ends 35 [a0, a1, some (.int x), a3] st S P ↔ rn G mm_Model_ends 36 [a0, a1, some (.int x), a3] (.int x :: st) S P := rn_s dq_Model_ends_35 rfl rfl rfl
theorem dq_Model_ends_36 : decode (km_c mm_Model_ends) 36 = .ok (.putfield 19, 3) := by decide +kernel
theorem sq_Model_ends_36_45 (ho : sx_o o pl kp) : rn (lt_G o L) mm_Model_ends 36 lv (.int x :: .ref 45 :: st) (sx pl kp I A) P ↔ rn (lt_G o L) mm_Model_ends 39 lv st (sx pl kp (u2 I 45 6 x) A) P := rx_put (h := "") (ci := 10) (k := 6) dq_Model_ends_36 (by decide +kernel) ho (up_b (by decide)) rfl rfl (by decide) (by decide)
theorem dq_Model_ends_39 : decode (km_c mm_Model_ends) 39 = .ok (.iload_n 3, 1) := by decide +kernel
theorem sq_Model_ends_39 : rn G mm_Model_ends 39 [a0, a1, a2, some (.int x)] st S P ↔ rn G mm_Model_ends 40 [a0, a1, a2, some (.int x)] (.int x :: st) S P := rn_s dq_Model_ends_39 rfl rfl rfl
theorem dq_Model_ends_40 : decode (km_c mm_Model_ends) 40 = .ok (.ireturn, 1) := by decide +kernel
theorem sq_Model_ends_40 : rn G mm_Model_ends 40 lv [.int x] S P ↔ P (some (.int x)) S := rn_ir dq_Model_ends_40 rfl
theorem dq_Model_cheapest_0 : decode (km_c mm_Model_cheapest) 0 = .ok (.aload_n 0, 1) := by decide +kernel
theorem sq_Model_cheapest_0 : rn G mm_Model_cheapest 0 [some (.ref z), a1] st S P ↔ rn G mm_Model_cheapest 1 [some (.ref z), a1] (.ref z :: st) S P := rn_s dq_Model_cheapest_0 rfl rfl rfl
theorem dq_Model_cheapest_1 : decode (km_c mm_Model_cheapest) 1 = .ok (.iload_n 1, 1) := by decide +kernel
theorem sq_Model_cheapest_1 : rn G mm_Model_cheapest 1 [a0, some (.int x)] st S P ↔ rn G mm_Model_cheapest 2 [a0, some (.int x)] (.int x :: st) S P := rn_s dq_Model_cheapest_1 rfl rfl rfl
theorem dq_Model_cheapest_2 : decode (km_c mm_Model_cheapest) 2 = .ok (.invokevirtual 202, 3) := by decide +kernel
theorem sq_Model_cheapest_2_45 {x1 : Int32} {v : Option Value} {S2 : ks_S} (hc : ev (lt_G o L) mm_Model_isSet [.ref 45, .int x1] (sx pl kp I A) v S2) (ho : sx_o o pl kp) (hst : kx_cat st ≤ 8) : rn (lt_G o L) mm_Model_cheapest 2 lv (.int x1 :: .ref 45 :: st) (sx pl kp I A) P ↔ rn (lt_G o L) mm_Model_cheapest 5 lv (v.toList ++ st) S2 P := rn_cv (k := 0) (host := "") (E' := mm_Model_isSet) dq_Model_cheapest_2 rfl (ok_v rfl (by decide) (by decide) (Nat.le_add_left _ _) hst (Nat.le_of_ble_eq_true rfl) (Or.inr (rc_v ho (up_b (by decide)) rfl))) rfl rfl hc
theorem dq_Model_cheapest_5 : decode (km_c mm_Model_cheapest) 5 = .ok (.ifCond .ne 5, 3) := by decide +kernel
theorem sq_Model_cheapest_5 : rn G mm_Model_cheapest 5 lv (.int x :: st) S P ↔ ((¬ x = 0 → rn G mm_Model_cheapest 10 lv st S P) ∧ (¬ (¬ x = 0) → rn G mm_Model_cheapest 8 lv st S P)) := rn_b (off := 5) dq_Model_cheapest_5 rfl rfl rfl rfl
theorem dq_Model_cheapest_8 : decode (km_c mm_Model_cheapest) 8 = .ok (.iconst (-1), 1) := by decide +kernel
theorem sq_Model_cheapest_8 : rn G mm_Model_cheapest 8 lv st S P ↔ rn G mm_Model_cheapest 9 lv (.int ((-1)) :: st) S P := rn_s dq_Model_cheapest_8 rfl rfl rfl
theorem dq_Model_cheapest_9 : decode (km_c mm_Model_cheapest) 9 = .ok (.ireturn, 1) := by decide +kernel
theorem sq_Model_cheapest_9 : rn G mm_Model_cheapest 9 lv [.int x] S P ↔ P (some (.int x)) S := rn_ir dq_Model_cheapest_9 rfl
theorem dq_Model_cheapest_10 : decode (km_c mm_Model_cheapest) 10 = .ok (.aload_n 0, 1) := by decide +kernel
theorem sq_Model_cheapest_10 : rn G mm_Model_cheapest 10 [some (.ref z), a1] st S P ↔ rn G mm_Model_cheapest 11 [some (.ref z), a1] (.ref z :: st) S P := rn_s dq_Model_cheapest_10 rfl rfl rfl
theorem dq_Model_cheapest_11 : decode (km_c mm_Model_cheapest) 11 = .ok (.invokevirtual 205, 3) := by decide +kernel
theorem sq_Model_cheapest_11_45  {v : Option Value} {S2 : ks_S} (hc : ev (lt_G o L) mm_Model_findAll [.ref 45] (sx pl kp I A) v S2) (ho : sx_o o pl kp) (hst : kx_cat st ≤ 8) : rn (lt_G o L) mm_Model_cheapest 11 lv (.ref 45 :: st) (sx pl kp I A) P ↔ rn (lt_G o L) mm_Model_cheapest 14 lv (v.toList ++ st) S2 P := rn_cv (k := 0) (host := "") (E' := mm_Model_findAll) dq_Model_cheapest_11 rfl (ok_v rfl (by decide) (by decide) (Nat.le_add_left _ _) hst (Nat.le_of_ble_eq_true rfl) (Or.inr (rc_v ho (up_b (by decide)) rfl))) rfl rfl hc
theorem dq_Model_cheapest_14 : decode (km_c mm_Model_cheapest) 14 = .ok (.aload_n 0, 1) := by decide +kernel
theorem sq_Model_cheapest_14 : rn G mm_Model_cheapest 14 [some (.ref z), a1] st S P ↔ rn G mm_Model_cheapest 15 [some (.ref z), a1] (.ref z :: st) S P := rn_s dq_Model_cheapest_14 rfl rfl rfl
theorem dq_Model_cheapest_15 : decode (km_c mm_Model_cheapest) 15 = .ok (.getfield 56, 3) := by decide +kernel
theorem sq_Model_cheapest_15_45 (ho : sx_o o pl kp) : rn (lt_G o L) mm_Model_cheapest 15 lv (.ref 45 :: st) (sx pl kp I A) P ↔ rn (lt_G o L) mm_Model_cheapest 18 lv (.ref 59 :: st) (sx pl kp I A) P := rx_get (h := "") (ci := 10) (k := 23) dq_Model_cheapest_15 (by decide +kernel) ho (up_b (by decide)) rfl rfl (fl_r (by decide) (by decide) (by decide) (by decide))
theorem dq_Model_cheapest_18 : decode (km_c mm_Model_cheapest) 18 = .ok (.iload_n 1, 1) := by decide +kernel
theorem sq_Model_cheapest_18 : rn G mm_Model_cheapest 18 [a0, some (.int x)] st S P ↔ rn G mm_Model_cheapest 19 [a0, some (.int x)] (.int x :: st) S P := rn_s dq_Model_cheapest_18 rfl rfl rfl
theorem dq_Model_cheapest_19 : decode (km_c mm_Model_cheapest) 19 = .ok (.iaload, 1) := by decide +kernel
theorem sq_Model_cheapest_19 (ho : sx_o o pl kp) (hk : ak L a = 0) (hu : sx_up pl kp a = true ∨ 1000 ≤ a) (hc : c < ln L a) (hn : ln L a < 2 ^ 31) : rn (lt_G o L) mm_Model_cheapest 19 lv (.int (nI c) :: .ref a :: st) (sx pl kp I A) P ↔ rn (lt_G o L) mm_Model_cheapest 20 lv (.int (A a c) :: st) (sx pl kp I A) P := rx_ild dq_Model_cheapest_19 ho hk hu hc hn
theorem dq_Model_cheapest_20 : decode (km_c mm_Model_cheapest) 20 = .ok (.ireturn, 1) := by decide +kernel
theorem sq_Model_cheapest_20 : rn G mm_Model_cheapest 20 lv [.int x] S P ↔ P (some (.int x)) S := rn_ir dq_Model_cheapest_20 rfl
theorem dq_Model_isSet_0 : decode (km_c mm_Model_isSet) 0 = .ok (.iload_n 1, 1) := by decide +kernel
theorem sq_Model_isSet_0 : rn G mm_Model_isSet 0 [a0, some (.int x)] st S P ↔ rn G mm_Model_isSet 1 [a0, some (.int x)] (.int x :: st) S P := rn_s dq_Model_isSet_0 rfl rfl rfl
theorem dq_Model_isSet_1 : decode (km_c mm_Model_isSet) 1 = .ok (.i2l, 1) := by decide +kernel
theorem sq_Model_isSet_1 : rn G mm_Model_isSet 1 lv (.int x :: st) S P ↔ rn G mm_Model_isSet 2 lv (.long x.toInt64 :: st) S P := rn_s dq_Model_isSet_1 rfl rfl rfl
theorem dq_Model_isSet_2 : decode (km_c mm_Model_isSet) 2 = .ok (.lconst 0, 1) := by decide +kernel
theorem sq_Model_isSet_2 : rn G mm_Model_isSet 2 lv st S P ↔ rn G mm_Model_isSet 3 lv (.long (0) :: st) S P := rn_s dq_Model_isSet_2 rfl rfl rfl
theorem dq_Model_isSet_3 : decode (km_c mm_Model_isSet) 3 = .ok (.iconst 1, 1) := by decide +kernel
theorem sq_Model_isSet_3 : rn G mm_Model_isSet 3 lv st S P ↔ rn G mm_Model_isSet 4 lv (.int (nI 1) :: st) S P := rn_s dq_Model_isSet_3 rfl rfl rfl
theorem dq_Model_isSet_4 : decode (km_c mm_Model_isSet) 4 = .ok (.aload_n 0, 1) := by decide +kernel
theorem sq_Model_isSet_4 : rn G mm_Model_isSet 4 [some (.ref z), a1] st S P ↔ rn G mm_Model_isSet 5 [some (.ref z), a1] (.ref z :: st) S P := rn_s dq_Model_isSet_4 rfl rfl rfl
theorem dq_Model_isSet_5 : decode (km_c mm_Model_isSet) 5 = .ok (.getfield 131, 3) := by decide +kernel
theorem sq_Model_isSet_5_45 (ho : sx_o o pl kp) : rn (lt_G o L) mm_Model_isSet 5 lv (.ref 45 :: st) (sx pl kp I A) P ↔ rn (lt_G o L) mm_Model_isSet 8 lv (.int (I 45 4) :: st) (sx pl kp I A) P := rx_get (h := "") (ci := 10) (k := 4) dq_Model_isSet_5 (by decide +kernel) ho (up_b (by decide)) rfl rfl (fl_i (by decide))
theorem dq_Model_isSet_8 : decode (km_c mm_Model_isSet) 8 = .ok (.ishl, 1) := by decide +kernel
theorem sq_Model_isSet_8 : rn G mm_Model_isSet 8 lv (.int x2 :: .int x :: st) S P ↔ rn G mm_Model_isSet 9 lv (.int (x <<< (x2 &&& 31)) :: st) S P := rn_s dq_Model_isSet_8 rfl rfl rfl
theorem dq_Model_isSet_9 : decode (km_c mm_Model_isSet) 9 = .ok (.iconst 1, 1) := by decide +kernel
theorem sq_Model_isSet_9 : rn G mm_Model_isSet 9 lv st S P ↔ rn G mm_Model_isSet 10 lv (.int (nI 1) :: st) S P := rn_s dq_Model_isSet_9 rfl rfl rfl
theorem dq_Model_isSet_10 : decode (km_c mm_Model_isSet) 10 = .ok (.isub, 1) := by decide +kernel
theorem sq_Model_isSet_10 : rn G mm_Model_isSet 10 lv (.int x2 :: .int x :: st) S P ↔ rn G mm_Model_isSet 11 lv (.int (x - x2) :: st) S P := rn_s dq_Model_isSet_10 rfl rfl rfl
theorem dq_Model_isSet_11 : decode (km_c mm_Model_isSet) 11 = .ok (.i2l, 1) := by decide +kernel
theorem sq_Model_isSet_11 : rn G mm_Model_isSet 11 lv (.int x :: st) S P ↔ rn G mm_Model_isSet 12 lv (.long x.toInt64 :: st) S P := rn_s dq_Model_isSet_11 rfl rfl rfl
theorem dq_Model_isSet_12 : decode (km_c mm_Model_isSet) 12 = .ok (.invokestatic 76, 3) := by decide +kernel
theorem sq_Model_isSet_12 {y1 : Int64} {y2 : Int64} {y3 : Int64} {v : Option Value} {S2 : ks_S} (hc : ev G mm_Model_in [.long y1, .long y2, .long y3] S v S2) (hst : kx_cat st ≤ 8) : rn G mm_Model_isSet 12 lv (.long y3 :: .long y2 :: .long y1 :: st) S P ↔ rn G mm_Model_isSet 15 lv (v.toList ++ st) S2 P := rn_cs (k := 1) (host := "") (E' := mm_Model_in) dq_Model_isSet_12 (by decide) (by decide) rfl (ok_v rfl (by decide) (by decide) (Nat.le_add_left _ _) hst (Nat.le_of_ble_eq_true rfl) (Or.inl rfl)) rfl rfl hc
theorem dq_Model_isSet_15 : decode (km_c mm_Model_isSet) 15 = .ok (.ireturn, 1) := by decide +kernel
theorem sq_Model_isSet_15_0 : rn G mm_Model_isSet 15 lv [.int (nI 0)] S P ↔ P (some (.int (nI 0))) S := rn_ir dq_Model_isSet_15 (by decide)
theorem sq_Model_isSet_15_1 : rn G mm_Model_isSet 15 lv [.int (nI 1)] S P ↔ P (some (.int (nI 1))) S := rn_ir dq_Model_isSet_15 (by decide)
theorem dq_Model_findAll_0 : decode (km_c mm_Model_findAll) 0 = .ok (.aload_n 0, 1) := by decide +kernel
theorem sq_Model_findAll_0 : rn G mm_Model_findAll 0 [some (.ref z), a1, a2, a3] st S P ↔ rn G mm_Model_findAll 1 [some (.ref z), a1, a2, a3] (.ref z :: st) S P := rn_s dq_Model_findAll_0 rfl rfl rfl
theorem dq_Model_findAll_1 : decode (km_c mm_Model_findAll) 1 = .ok (.invokevirtual 196, 3) := by decide +kernel
theorem sq_Model_findAll_1_45  {v : Option Value} {S2 : ks_S} (hc : ev (lt_G o L) mm_Model_findCosts [.ref 45] (sx pl kp I A) v S2) (ho : sx_o o pl kp) (hst : kx_cat st ≤ 8) : rn (lt_G o L) mm_Model_findAll 1 lv (.ref 45 :: st) (sx pl kp I A) P ↔ rn (lt_G o L) mm_Model_findAll 4 lv (v.toList ++ st) S2 P := rn_cv (k := 0) (host := "") (E' := mm_Model_findCosts) dq_Model_findAll_1 rfl (ok_v rfl (by decide) (by decide) (Nat.le_add_left _ _) hst (Nat.le_of_ble_eq_true rfl) (Or.inr (rc_v ho (up_b (by decide)) rfl))) rfl rfl hc
theorem dq_Model_findAll_4 : decode (km_c mm_Model_findAll) 4 = .ok (.aload_n 0, 1) := by decide +kernel
theorem sq_Model_findAll_4 : rn G mm_Model_findAll 4 [some (.ref z), a1, a2, a3] st S P ↔ rn G mm_Model_findAll 5 [some (.ref z), a1, a2, a3] (.ref z :: st) S P := rn_s dq_Model_findAll_4 rfl rfl rfl
theorem dq_Model_findAll_5 : decode (km_c mm_Model_findAll) 5 = .ok (.invokevirtual 199, 3) := by decide +kernel
theorem sq_Model_findAll_5_45  {v : Option Value} {S2 : ks_S} (hc : ev (lt_G o L) mm_Model_findCome [.ref 45] (sx pl kp I A) v S2) (ho : sx_o o pl kp) (hst : kx_cat st ≤ 8) : rn (lt_G o L) mm_Model_findAll 5 lv (.ref 45 :: st) (sx pl kp I A) P ↔ rn (lt_G o L) mm_Model_findAll 8 lv (v.toList ++ st) S2 P := rn_cv (k := 0) (host := "") (E' := mm_Model_findCome) dq_Model_findAll_5 rfl (ok_v rfl (by decide) (by decide) (Nat.le_add_left _ _) hst (Nat.le_of_ble_eq_true rfl) (Or.inr (rc_v ho (up_b (by decide)) rfl))) rfl rfl hc
theorem dq_Model_findAll_8 : decode (km_c mm_Model_findAll) 8 = .ok (.iconst 0, 1) := by decide +kernel
theorem sq_Model_findAll_8 : rn G mm_Model_findAll 8 lv st S P ↔ rn G mm_Model_findAll 9 lv (.int (nI 0) :: st) S P := rn_s dq_Model_findAll_8 rfl rfl rfl
theorem dq_Model_findAll_9 : decode (km_c mm_Model_findAll) 9 = .ok (.istore_n 1, 1) := by decide +kernel
theorem sq_Model_findAll_9n : rn G mm_Model_findAll 9 [none, a1, a2, a3] (.int x :: st) S P ↔ rn G mm_Model_findAll 10 [none, some (.int x), a2, a3] st S P := rn_s dq_Model_findAll_9 rfl rfl rfl
theorem sq_Model_findAll_9i : rn G mm_Model_findAll 9 [some (.int x2), a1, a2, a3] (.int x :: st) S P ↔ rn G mm_Model_findAll 10 [some (.int x2), some (.int x), a2, a3] st S P := rn_s dq_Model_findAll_9 rfl rfl rfl
theorem sq_Model_findAll_9r : rn G mm_Model_findAll 9 [some (.ref z2), a1, a2, a3] (.int x :: st) S P ↔ rn G mm_Model_findAll 10 [some (.ref z2), some (.int x), a2, a3] st S P := rn_s dq_Model_findAll_9 rfl rfl rfl
theorem dq_Model_findAll_10 : decode (km_c mm_Model_findAll) 10 = .ok (.iload_n 1, 1) := by decide +kernel
theorem sq_Model_findAll_10 : rn G mm_Model_findAll 10 [a0, some (.int x), a2, a3] st S P ↔ rn G mm_Model_findAll 11 [a0, some (.int x), a2, a3] (.int x :: st) S P := rn_s dq_Model_findAll_10 rfl rfl rfl
theorem dq_Model_findAll_11 : decode (km_c mm_Model_findAll) 11 = .ok (.iconst 1, 1) := by decide +kernel
theorem sq_Model_findAll_11 : rn G mm_Model_findAll 11 lv st S P ↔ rn G mm_Model_findAll 12 lv (.int (nI 1) :: st) S P := rn_s dq_Model_findAll_11 rfl rfl rfl
theorem dq_Model_findAll_12 : decode (km_c mm_Model_findAll) 12 = .ok (.aload_n 0, 1) := by decide +kernel
theorem sq_Model_findAll_12 : rn G mm_Model_findAll 12 [some (.ref z), a1, a2, a3] st S P ↔ rn G mm_Model_findAll 13 [some (.ref z), a1, a2, a3] (.ref z :: st) S P := rn_s dq_Model_findAll_12 rfl rfl rfl
theorem dq_Model_findAll_13 : decode (km_c mm_Model_findAll) 13 = .ok (.getfield 131, 3) := by decide +kernel
theorem sq_Model_findAll_13_45 (ho : sx_o o pl kp) : rn (lt_G o L) mm_Model_findAll 13 lv (.ref 45 :: st) (sx pl kp I A) P ↔ rn (lt_G o L) mm_Model_findAll 16 lv (.int (I 45 4) :: st) (sx pl kp I A) P := rx_get (h := "") (ci := 10) (k := 4) dq_Model_findAll_13 (by decide +kernel) ho (up_b (by decide)) rfl rfl (fl_i (by decide))
theorem dq_Model_findAll_16 : decode (km_c mm_Model_findAll) 16 = .ok (.ishl, 1) := by decide +kernel
theorem sq_Model_findAll_16 : rn G mm_Model_findAll 16 lv (.int x2 :: .int x :: st) S P ↔ rn G mm_Model_findAll 17 lv (.int (x <<< (x2 &&& 31)) :: st) S P := rn_s dq_Model_findAll_16 rfl rfl rfl
theorem dq_Model_findAll_17 : decode (km_c mm_Model_findAll) 17 = .ok (.if_icmp .ge 88, 3) := by decide +kernel
theorem sq_Model_findAll_17 : rn G mm_Model_findAll 17 lv (.int x2 :: .int x :: st) S P ↔ ((x2 ≤ x → rn G mm_Model_findAll 105 lv st S P) ∧ (¬ (x2 ≤ x) → rn G mm_Model_findAll 20 lv st S P)) := rn_b (off := 88) dq_Model_findAll_17 rfl rfl rfl rfl
theorem dq_Model_findAll_20 : decode (km_c mm_Model_findAll) 20 = .ok (.aload_n 0, 1) := by decide +kernel
theorem sq_Model_findAll_20 : rn G mm_Model_findAll 20 [some (.ref z), a1, a2, a3] st S P ↔ rn G mm_Model_findAll 21 [some (.ref z), a1, a2, a3] (.ref z :: st) S P := rn_s dq_Model_findAll_20 rfl rfl rfl
theorem dq_Model_findAll_21 : decode (km_c mm_Model_findAll) 21 = .ok (.getfield 56, 3) := by decide +kernel
theorem sq_Model_findAll_21_45 (ho : sx_o o pl kp) : rn (lt_G o L) mm_Model_findAll 21 lv (.ref 45 :: st) (sx pl kp I A) P ↔ rn (lt_G o L) mm_Model_findAll 24 lv (.ref 59 :: st) (sx pl kp I A) P := rx_get (h := "") (ci := 10) (k := 23) dq_Model_findAll_21 (by decide +kernel) ho (up_b (by decide)) rfl rfl (fl_r (by decide) (by decide) (by decide) (by decide))
theorem dq_Model_findAll_24 : decode (km_c mm_Model_findAll) 24 = .ok (.iload_n 1, 1) := by decide +kernel
theorem sq_Model_findAll_24 : rn G mm_Model_findAll 24 [a0, some (.int x), a2, a3] st S P ↔ rn G mm_Model_findAll 25 [a0, some (.int x), a2, a3] (.int x :: st) S P := rn_s dq_Model_findAll_24 rfl rfl rfl
theorem dq_Model_findAll_25 : decode (km_c mm_Model_findAll) 25 = .ok (.ldc 195, 2) := by decide +kernel
theorem sq_Model_findAll_25 : rn G mm_Model_findAll 25 lv st S P ↔ rn G mm_Model_findAll 27 lv (.int (nI 1000000000) :: st) S P := rn_s dq_Model_findAll_25 rfl rfl rfl
theorem dq_Model_findAll_27 : decode (km_c mm_Model_findAll) 27 = .ok (.iastore, 1) := by decide +kernel
theorem sq_Model_findAll_27 (ho : sx_o o pl kp) (hk : ak L a = 0) (hu : sx_up pl kp a = true) (hc : c < ln L a) (hn : ln L a < 2 ^ 31) : rn (lt_G o L) mm_Model_findAll 27 lv (.int x :: .int (nI c) :: .ref a :: st) (sx pl kp I A) P ↔ rn (lt_G o L) mm_Model_findAll 28 lv st (sx pl kp I (u2 A a c x)) P := rx_ist dq_Model_findAll_27 ho hk hu hc hn
theorem dq_Model_findAll_28 : decode (km_c mm_Model_findAll) 28 = .ok (.iload_n 1, 1) := by decide +kernel
theorem sq_Model_findAll_28 : rn G mm_Model_findAll 28 [a0, some (.int x), a2, a3] st S P ↔ rn G mm_Model_findAll 29 [a0, some (.int x), a2, a3] (.int x :: st) S P := rn_s dq_Model_findAll_28 rfl rfl rfl
theorem dq_Model_findAll_29 : decode (km_c mm_Model_findAll) 29 = .ok (.istore_n 2, 1) := by decide +kernel
theorem sq_Model_findAll_29n : rn G mm_Model_findAll 29 [a0, none, a2, a3] (.int x :: st) S P ↔ rn G mm_Model_findAll 30 [a0, none, some (.int x), a3] st S P := rn_s dq_Model_findAll_29 rfl rfl rfl
theorem sq_Model_findAll_29i : rn G mm_Model_findAll 29 [a0, some (.int x2), a2, a3] (.int x :: st) S P ↔ rn G mm_Model_findAll 30 [a0, some (.int x2), some (.int x), a3] st S P := rn_s dq_Model_findAll_29 rfl rfl rfl
theorem sq_Model_findAll_29r : rn G mm_Model_findAll 29 [a0, some (.ref z2), a2, a3] (.int x :: st) S P ↔ rn G mm_Model_findAll 30 [a0, some (.ref z2), some (.int x), a3] st S P := rn_s dq_Model_findAll_29 rfl rfl rfl
theorem dq_Model_findAll_30 : decode (km_c mm_Model_findAll) 30 = .ok (.iload_n 2, 1) := by decide +kernel
theorem sq_Model_findAll_30 : rn G mm_Model_findAll 30 [a0, a1, some (.int x), a3] st S P ↔ rn G mm_Model_findAll 31 [a0, a1, some (.int x), a3] (.int x :: st) S P := rn_s dq_Model_findAll_30 rfl rfl rfl
theorem dq_Model_findAll_31 : decode (km_c mm_Model_findAll) 31 = .ok (.iconst 1, 1) := by decide +kernel
theorem sq_Model_findAll_31 : rn G mm_Model_findAll 31 lv st S P ↔ rn G mm_Model_findAll 32 lv (.int (nI 1) :: st) S P := rn_s dq_Model_findAll_31 rfl rfl rfl
theorem dq_Model_findAll_32 : decode (km_c mm_Model_findAll) 32 = .ok (.aload_n 0, 1) := by decide +kernel
theorem sq_Model_findAll_32 : rn G mm_Model_findAll 32 [some (.ref z), a1, a2, a3] st S P ↔ rn G mm_Model_findAll 33 [some (.ref z), a1, a2, a3] (.ref z :: st) S P := rn_s dq_Model_findAll_32 rfl rfl rfl
theorem dq_Model_findAll_33 : decode (km_c mm_Model_findAll) 33 = .ok (.getfield 131, 3) := by decide +kernel
theorem sq_Model_findAll_33_45 (ho : sx_o o pl kp) : rn (lt_G o L) mm_Model_findAll 33 lv (.ref 45 :: st) (sx pl kp I A) P ↔ rn (lt_G o L) mm_Model_findAll 36 lv (.int (I 45 4) :: st) (sx pl kp I A) P := rx_get (h := "") (ci := 10) (k := 4) dq_Model_findAll_33 (by decide +kernel) ho (up_b (by decide)) rfl rfl (fl_i (by decide))
theorem dq_Model_findAll_36 : decode (km_c mm_Model_findAll) 36 = .ok (.ishl, 1) := by decide +kernel
theorem sq_Model_findAll_36 : rn G mm_Model_findAll 36 lv (.int x2 :: .int x :: st) S P ↔ rn G mm_Model_findAll 37 lv (.int (x <<< (x2 &&& 31)) :: st) S P := rn_s dq_Model_findAll_36 rfl rfl rfl
theorem dq_Model_findAll_37 : decode (km_c mm_Model_findAll) 37 = .ok (.if_icmp .ge 62, 3) := by decide +kernel
theorem sq_Model_findAll_37 : rn G mm_Model_findAll 37 lv (.int x2 :: .int x :: st) S P ↔ ((x2 ≤ x → rn G mm_Model_findAll 99 lv st S P) ∧ (¬ (x2 ≤ x) → rn G mm_Model_findAll 40 lv st S P)) := rn_b (off := 62) dq_Model_findAll_37 rfl rfl rfl rfl
theorem dq_Model_findAll_40 : decode (km_c mm_Model_findAll) 40 = .ok (.iload_n 2, 1) := by decide +kernel
theorem sq_Model_findAll_40 : rn G mm_Model_findAll 40 [a0, a1, some (.int x), a3] st S P ↔ rn G mm_Model_findAll 41 [a0, a1, some (.int x), a3] (.int x :: st) S P := rn_s dq_Model_findAll_40 rfl rfl rfl
theorem dq_Model_findAll_41 : decode (km_c mm_Model_findAll) 41 = .ok (.iload_n 1, 1) := by decide +kernel
theorem sq_Model_findAll_41 : rn G mm_Model_findAll 41 [a0, some (.int x), a2, a3] st S P ↔ rn G mm_Model_findAll 42 [a0, some (.int x), a2, a3] (.int x :: st) S P := rn_s dq_Model_findAll_41 rfl rfl rfl
theorem dq_Model_findAll_42 : decode (km_c mm_Model_findAll) 42 = .ok (.iand, 1) := by decide +kernel
theorem sq_Model_findAll_42 : rn G mm_Model_findAll 42 lv (.int x2 :: .int x :: st) S P ↔ rn G mm_Model_findAll 43 lv (.int (x &&& x2) :: st) S P := rn_s dq_Model_findAll_42 rfl rfl rfl
theorem dq_Model_findAll_43 : decode (km_c mm_Model_findAll) 43 = .ok (.iload_n 1, 1) := by decide +kernel
theorem sq_Model_findAll_43 : rn G mm_Model_findAll 43 [a0, some (.int x), a2, a3] st S P ↔ rn G mm_Model_findAll 44 [a0, some (.int x), a2, a3] (.int x :: st) S P := rn_s dq_Model_findAll_43 rfl rfl rfl
theorem dq_Model_findAll_44 : decode (km_c mm_Model_findAll) 44 = .ok (.if_icmp .ne 20, 3) := by decide +kernel
theorem sq_Model_findAll_44 : rn G mm_Model_findAll 44 lv (.int x2 :: .int x :: st) S P ↔ ((¬ x = x2 → rn G mm_Model_findAll 64 lv st S P) ∧ (¬ (¬ x = x2) → rn G mm_Model_findAll 47 lv st S P)) := rn_b (off := 20) dq_Model_findAll_44 rfl rfl rfl rfl
theorem dq_Model_findAll_47 : decode (km_c mm_Model_findAll) 47 = .ok (.aload_n 0, 1) := by decide +kernel
theorem sq_Model_findAll_47 : rn G mm_Model_findAll 47 [some (.ref z), a1, a2, a3] st S P ↔ rn G mm_Model_findAll 48 [some (.ref z), a1, a2, a3] (.ref z :: st) S P := rn_s dq_Model_findAll_47 rfl rfl rfl
theorem dq_Model_findAll_48 : decode (km_c mm_Model_findAll) 48 = .ok (.getfield 53, 3) := by decide +kernel
theorem sq_Model_findAll_48_45 (ho : sx_o o pl kp) : rn (lt_G o L) mm_Model_findAll 48 lv (.ref 45 :: st) (sx pl kp I A) P ↔ rn (lt_G o L) mm_Model_findAll 51 lv (.ref 58 :: st) (sx pl kp I A) P := rx_get (h := "") (ci := 10) (k := 22) dq_Model_findAll_48 (by decide +kernel) ho (up_b (by decide)) rfl rfl (fl_r (by decide) (by decide) (by decide) (by decide))
theorem dq_Model_findAll_51 : decode (km_c mm_Model_findAll) 51 = .ok (.bipush 64, 2) := by decide +kernel
theorem sq_Model_findAll_51 : rn G mm_Model_findAll 51 lv st S P ↔ rn G mm_Model_findAll 53 lv (.int (nI 64) :: st) S P := rn_s dq_Model_findAll_51 rfl rfl rfl
theorem dq_Model_findAll_53 : decode (km_c mm_Model_findAll) 53 = .ok (.aload_n 0, 1) := by decide +kernel
theorem sq_Model_findAll_53 : rn G mm_Model_findAll 53 [some (.ref z), a1, a2, a3] st S P ↔ rn G mm_Model_findAll 54 [some (.ref z), a1, a2, a3] (.ref z :: st) S P := rn_s dq_Model_findAll_53 rfl rfl rfl
theorem dq_Model_findAll_54 : decode (km_c mm_Model_findAll) 54 = .ok (.getfield 19, 3) := by decide +kernel
theorem sq_Model_findAll_54_45 (ho : sx_o o pl kp) : rn (lt_G o L) mm_Model_findAll 54 lv (.ref 45 :: st) (sx pl kp I A) P ↔ rn (lt_G o L) mm_Model_findAll 57 lv (.int (I 45 6) :: st) (sx pl kp I A) P := rx_get (h := "") (ci := 10) (k := 6) dq_Model_findAll_54 (by decide +kernel) ho (up_b (by decide)) rfl rfl (fl_i (by decide))
theorem dq_Model_findAll_57 : decode (km_c mm_Model_findAll) 57 = .ok (.imul, 1) := by decide +kernel
theorem sq_Model_findAll_57 : rn G mm_Model_findAll 57 lv (.int x2 :: .int x :: st) S P ↔ rn G mm_Model_findAll 58 lv (.int (x * x2) :: st) S P := rn_s dq_Model_findAll_57 rfl rfl rfl
theorem dq_Model_findAll_58 : decode (km_c mm_Model_findAll) 58 = .ok (.iload_n 2, 1) := by decide +kernel
theorem sq_Model_findAll_58 : rn G mm_Model_findAll 58 [a0, a1, some (.int x), a3] st S P ↔ rn G mm_Model_findAll 59 [a0, a1, some (.int x), a3] (.int x :: st) S P := rn_s dq_Model_findAll_58 rfl rfl rfl
theorem dq_Model_findAll_59 : decode (km_c mm_Model_findAll) 59 = .ok (.iadd, 1) := by decide +kernel
theorem sq_Model_findAll_59 : rn G mm_Model_findAll 59 lv (.int x2 :: .int x :: st) S P ↔ rn G mm_Model_findAll 60 lv (.int (x + x2) :: st) S P := rn_s dq_Model_findAll_59 rfl rfl rfl
theorem dq_Model_findAll_60 : decode (km_c mm_Model_findAll) 60 = .ok (.iaload, 1) := by decide +kernel
theorem sq_Model_findAll_60 (ho : sx_o o pl kp) (hk : ak L a = 0) (hu : sx_up pl kp a = true ∨ 1000 ≤ a) (hc : c < ln L a) (hn : ln L a < 2 ^ 31) : rn (lt_G o L) mm_Model_findAll 60 lv (.int (nI c) :: .ref a :: st) (sx pl kp I A) P ↔ rn (lt_G o L) mm_Model_findAll 61 lv (.int (A a c) :: st) (sx pl kp I A) P := rx_ild dq_Model_findAll_60 ho hk hu hc hn
theorem dq_Model_findAll_61 : decode (km_c mm_Model_findAll) 61 = .ok (.goto 5, 3) := by decide +kernel
theorem sq_Model_findAll_61 : rn G mm_Model_findAll 61 lv st S P ↔ rn G mm_Model_findAll 66 lv st S P := rn_s dq_Model_findAll_61 rfl rfl rfl
theorem dq_Model_findAll_64 : decode (km_c mm_Model_findAll) 64 = .ok (.ldc 195, 2) := by decide +kernel
theorem sq_Model_findAll_64 : rn G mm_Model_findAll 64 lv st S P ↔ rn G mm_Model_findAll 66 lv (.int (nI 1000000000) :: st) S P := rn_s dq_Model_findAll_64 rfl rfl rfl
theorem dq_Model_findAll_66 : decode (km_c mm_Model_findAll) 66 = .ok (.istore_n 3, 1) := by decide +kernel
theorem sq_Model_findAll_66n : rn G mm_Model_findAll 66 [a0, a1, none, a3] (.int x :: st) S P ↔ rn G mm_Model_findAll 67 [a0, a1, none, some (.int x)] st S P := rn_s dq_Model_findAll_66 rfl rfl rfl
theorem sq_Model_findAll_66i : rn G mm_Model_findAll 66 [a0, a1, some (.int x2), a3] (.int x :: st) S P ↔ rn G mm_Model_findAll 67 [a0, a1, some (.int x2), some (.int x)] st S P := rn_s dq_Model_findAll_66 rfl rfl rfl
theorem sq_Model_findAll_66r : rn G mm_Model_findAll 66 [a0, a1, some (.ref z2), a3] (.int x :: st) S P ↔ rn G mm_Model_findAll 67 [a0, a1, some (.ref z2), some (.int x)] st S P := rn_s dq_Model_findAll_66 rfl rfl rfl
theorem dq_Model_findAll_67 : decode (km_c mm_Model_findAll) 67 = .ok (.aload_n 0, 1) := by decide +kernel
theorem sq_Model_findAll_67 : rn G mm_Model_findAll 67 [some (.ref z), a1, a2, a3] st S P ↔ rn G mm_Model_findAll 68 [some (.ref z), a1, a2, a3] (.ref z :: st) S P := rn_s dq_Model_findAll_67 rfl rfl rfl
theorem dq_Model_findAll_68 : decode (km_c mm_Model_findAll) 68 = .ok (.getfield 56, 3) := by decide +kernel
theorem sq_Model_findAll_68_45 (ho : sx_o o pl kp) : rn (lt_G o L) mm_Model_findAll 68 lv (.ref 45 :: st) (sx pl kp I A) P ↔ rn (lt_G o L) mm_Model_findAll 71 lv (.ref 59 :: st) (sx pl kp I A) P := rx_get (h := "") (ci := 10) (k := 23) dq_Model_findAll_68 (by decide +kernel) ho (up_b (by decide)) rfl rfl (fl_r (by decide) (by decide) (by decide) (by decide))
theorem dq_Model_findAll_71 : decode (km_c mm_Model_findAll) 71 = .ok (.iload_n 1, 1) := by decide +kernel
theorem sq_Model_findAll_71 : rn G mm_Model_findAll 71 [a0, some (.int x), a2, a3] st S P ↔ rn G mm_Model_findAll 72 [a0, some (.int x), a2, a3] (.int x :: st) S P := rn_s dq_Model_findAll_71 rfl rfl rfl
theorem dq_Model_findAll_72 : decode (km_c mm_Model_findAll) 72 = .ok (.iload_n 3, 1) := by decide +kernel
theorem sq_Model_findAll_72 : rn G mm_Model_findAll 72 [a0, a1, a2, some (.int x)] st S P ↔ rn G mm_Model_findAll 73 [a0, a1, a2, some (.int x)] (.int x :: st) S P := rn_s dq_Model_findAll_72 rfl rfl rfl
theorem dq_Model_findAll_73 : decode (km_c mm_Model_findAll) 73 = .ok (.aload_n 0, 1) := by decide +kernel
theorem sq_Model_findAll_73 : rn G mm_Model_findAll 73 [some (.ref z), a1, a2, a3] st S P ↔ rn G mm_Model_findAll 74 [some (.ref z), a1, a2, a3] (.ref z :: st) S P := rn_s dq_Model_findAll_73 rfl rfl rfl
theorem dq_Model_findAll_74 : decode (km_c mm_Model_findAll) 74 = .ok (.getfield 56, 3) := by decide +kernel
theorem sq_Model_findAll_74_45 (ho : sx_o o pl kp) : rn (lt_G o L) mm_Model_findAll 74 lv (.ref 45 :: st) (sx pl kp I A) P ↔ rn (lt_G o L) mm_Model_findAll 77 lv (.ref 59 :: st) (sx pl kp I A) P := rx_get (h := "") (ci := 10) (k := 23) dq_Model_findAll_74 (by decide +kernel) ho (up_b (by decide)) rfl rfl (fl_r (by decide) (by decide) (by decide) (by decide))
theorem dq_Model_findAll_77 : decode (km_c mm_Model_findAll) 77 = .ok (.iload_n 1, 1) := by decide +kernel
theorem sq_Model_findAll_77 : rn G mm_Model_findAll 77 [a0, some (.int x), a2, a3] st S P ↔ rn G mm_Model_findAll 78 [a0, some (.int x), a2, a3] (.int x :: st) S P := rn_s dq_Model_findAll_77 rfl rfl rfl
theorem dq_Model_findAll_78 : decode (km_c mm_Model_findAll) 78 = .ok (.iaload, 1) := by decide +kernel
theorem sq_Model_findAll_78 (ho : sx_o o pl kp) (hk : ak L a = 0) (hu : sx_up pl kp a = true ∨ 1000 ≤ a) (hc : c < ln L a) (hn : ln L a < 2 ^ 31) : rn (lt_G o L) mm_Model_findAll 78 lv (.int (nI c) :: .ref a :: st) (sx pl kp I A) P ↔ rn (lt_G o L) mm_Model_findAll 79 lv (.int (A a c) :: st) (sx pl kp I A) P := rx_ild dq_Model_findAll_78 ho hk hu hc hn
theorem dq_Model_findAll_79 : decode (km_c mm_Model_findAll) 79 = .ok (.if_icmp .ge 7, 3) := by decide +kernel
theorem sq_Model_findAll_79 : rn G mm_Model_findAll 79 lv (.int x2 :: .int x :: st) S P ↔ ((x2 ≤ x → rn G mm_Model_findAll 86 lv st S P) ∧ (¬ (x2 ≤ x) → rn G mm_Model_findAll 82 lv st S P)) := rn_b (off := 7) dq_Model_findAll_79 rfl rfl rfl rfl
theorem dq_Model_findAll_82 : decode (km_c mm_Model_findAll) 82 = .ok (.iload_n 3, 1) := by decide +kernel
theorem sq_Model_findAll_82 : rn G mm_Model_findAll 82 [a0, a1, a2, some (.int x)] st S P ↔ rn G mm_Model_findAll 83 [a0, a1, a2, some (.int x)] (.int x :: st) S P := rn_s dq_Model_findAll_82 rfl rfl rfl
theorem dq_Model_findAll_83 : decode (km_c mm_Model_findAll) 83 = .ok (.goto 9, 3) := by decide +kernel
theorem sq_Model_findAll_83 : rn G mm_Model_findAll 83 lv st S P ↔ rn G mm_Model_findAll 92 lv st S P := rn_s dq_Model_findAll_83 rfl rfl rfl
theorem dq_Model_findAll_86 : decode (km_c mm_Model_findAll) 86 = .ok (.aload_n 0, 1) := by decide +kernel
theorem sq_Model_findAll_86 : rn G mm_Model_findAll 86 [some (.ref z), a1, a2, a3] st S P ↔ rn G mm_Model_findAll 87 [some (.ref z), a1, a2, a3] (.ref z :: st) S P := rn_s dq_Model_findAll_86 rfl rfl rfl
theorem dq_Model_findAll_87 : decode (km_c mm_Model_findAll) 87 = .ok (.getfield 56, 3) := by decide +kernel
theorem sq_Model_findAll_87_45 (ho : sx_o o pl kp) : rn (lt_G o L) mm_Model_findAll 87 lv (.ref 45 :: st) (sx pl kp I A) P ↔ rn (lt_G o L) mm_Model_findAll 90 lv (.ref 59 :: st) (sx pl kp I A) P := rx_get (h := "") (ci := 10) (k := 23) dq_Model_findAll_87 (by decide +kernel) ho (up_b (by decide)) rfl rfl (fl_r (by decide) (by decide) (by decide) (by decide))
theorem dq_Model_findAll_90 : decode (km_c mm_Model_findAll) 90 = .ok (.iload_n 1, 1) := by decide +kernel
theorem sq_Model_findAll_90 : rn G mm_Model_findAll 90 [a0, some (.int x), a2, a3] st S P ↔ rn G mm_Model_findAll 91 [a0, some (.int x), a2, a3] (.int x :: st) S P := rn_s dq_Model_findAll_90 rfl rfl rfl
theorem dq_Model_findAll_91 : decode (km_c mm_Model_findAll) 91 = .ok (.iaload, 1) := by decide +kernel
theorem sq_Model_findAll_91 (ho : sx_o o pl kp) (hk : ak L a = 0) (hu : sx_up pl kp a = true ∨ 1000 ≤ a) (hc : c < ln L a) (hn : ln L a < 2 ^ 31) : rn (lt_G o L) mm_Model_findAll 91 lv (.int (nI c) :: .ref a :: st) (sx pl kp I A) P ↔ rn (lt_G o L) mm_Model_findAll 92 lv (.int (A a c) :: st) (sx pl kp I A) P := rx_ild dq_Model_findAll_91 ho hk hu hc hn
theorem dq_Model_findAll_92 : decode (km_c mm_Model_findAll) 92 = .ok (.iastore, 1) := by decide +kernel
theorem sq_Model_findAll_92 (ho : sx_o o pl kp) (hk : ak L a = 0) (hu : sx_up pl kp a = true) (hc : c < ln L a) (hn : ln L a < 2 ^ 31) : rn (lt_G o L) mm_Model_findAll 92 lv (.int x :: .int (nI c) :: .ref a :: st) (sx pl kp I A) P ↔ rn (lt_G o L) mm_Model_findAll 93 lv st (sx pl kp I (u2 A a c x)) P := rx_ist dq_Model_findAll_92 ho hk hu hc hn
theorem dq_Model_findAll_93 : decode (km_c mm_Model_findAll) 93 = .ok (.iinc 2 1, 3) := by decide +kernel
theorem sq_Model_findAll_93n : rn G mm_Model_findAll 93 [a0, none, some (.int x), a3] st S P ↔ rn G mm_Model_findAll 96 [a0, none, some (.int (x + nI 1)), a3] st S P := rn_s dq_Model_findAll_93 rfl rfl rfl
theorem sq_Model_findAll_93i : rn G mm_Model_findAll 93 [a0, some (.int x2), some (.int x), a3] st S P ↔ rn G mm_Model_findAll 96 [a0, some (.int x2), some (.int (x + nI 1)), a3] st S P := rn_s dq_Model_findAll_93 rfl rfl rfl
theorem sq_Model_findAll_93r : rn G mm_Model_findAll 93 [a0, some (.ref z2), some (.int x), a3] st S P ↔ rn G mm_Model_findAll 96 [a0, some (.ref z2), some (.int (x + nI 1)), a3] st S P := rn_s dq_Model_findAll_93 rfl rfl rfl
theorem dq_Model_findAll_96 : decode (km_c mm_Model_findAll) 96 = .ok (.goto (-66), 3) := by decide +kernel
theorem sq_Model_findAll_96 : rn G mm_Model_findAll 96 lv st S P ↔ rn G mm_Model_findAll 30 lv st S P := rn_s dq_Model_findAll_96 rfl rfl rfl
theorem dq_Model_findAll_99 : decode (km_c mm_Model_findAll) 99 = .ok (.iinc 1 1, 3) := by decide +kernel
theorem sq_Model_findAll_99n : rn G mm_Model_findAll 99 [none, some (.int x), a2, a3] st S P ↔ rn G mm_Model_findAll 102 [none, some (.int (x + nI 1)), a2, a3] st S P := rn_s dq_Model_findAll_99 rfl rfl rfl
theorem sq_Model_findAll_99i : rn G mm_Model_findAll 99 [some (.int x2), some (.int x), a2, a3] st S P ↔ rn G mm_Model_findAll 102 [some (.int x2), some (.int (x + nI 1)), a2, a3] st S P := rn_s dq_Model_findAll_99 rfl rfl rfl
theorem sq_Model_findAll_99r : rn G mm_Model_findAll 99 [some (.ref z2), some (.int x), a2, a3] st S P ↔ rn G mm_Model_findAll 102 [some (.ref z2), some (.int (x + nI 1)), a2, a3] st S P := rn_s dq_Model_findAll_99 rfl rfl rfl
theorem dq_Model_findAll_102 : decode (km_c mm_Model_findAll) 102 = .ok (.goto (-92), 3) := by decide +kernel
theorem sq_Model_findAll_102 : rn G mm_Model_findAll 102 lv st S P ↔ rn G mm_Model_findAll 10 lv st S P := rn_s dq_Model_findAll_102 rfl rfl rfl
theorem dq_Model_findAll_105 : decode (km_c mm_Model_findAll) 105 = .ok (.return_, 1) := by decide +kernel
theorem sq_Model_findAll_105 : rn G mm_Model_findAll 105 lv [] S P ↔ P none S := rn_vr dq_Model_findAll_105 rfl
theorem dq_Model_findCosts_0 : decode (km_c mm_Model_findCosts) 0 = .ok (.aload_n 0, 1) := by decide +kernel
theorem sq_Model_findCosts_0 : rn G mm_Model_findCosts 0 [some (.ref z), a1] st S P ↔ rn G mm_Model_findCosts 1 [some (.ref z), a1] (.ref z :: st) S P := rn_s dq_Model_findCosts_0 rfl rfl rfl
theorem dq_Model_findCosts_1 : decode (km_c mm_Model_findCosts) 1 = .ok (.aload_n 0, 1) := by decide +kernel
theorem sq_Model_findCosts_1 : rn G mm_Model_findCosts 1 [some (.ref z), a1] st S P ↔ rn G mm_Model_findCosts 2 [some (.ref z), a1] (.ref z :: st) S P := rn_s dq_Model_findCosts_1 rfl rfl rfl
theorem dq_Model_findCosts_2 : decode (km_c mm_Model_findCosts) 2 = .ok (.getfield 98, 3) := by decide +kernel
theorem sq_Model_findCosts_2_45 (ho : sx_o o pl kp) : rn (lt_G o L) mm_Model_findCosts 2 lv (.ref 45 :: st) (sx pl kp I A) P ↔ rn (lt_G o L) mm_Model_findCosts 5 lv (.int (I 45 1) :: st) (sx pl kp I A) P := rx_get (h := "") (ci := 10) (k := 1) dq_Model_findCosts_2 (by decide +kernel) ho (up_b (by decide)) rfl rfl (fl_i (by decide))
theorem dq_Model_findCosts_5 : decode (km_c mm_Model_findCosts) 5 = .ok (.invokevirtual 115, 3) := by decide +kernel
theorem sq_Model_findCosts_5_45 {x1 : Int32} {v : Option Value} {S2 : ks_S} (hc : ev (lt_G o L) mm_Model_findWet [.ref 45, .int x1] (sx pl kp I A) v S2) (ho : sx_o o pl kp) (hst : kx_cat st ≤ 8) : rn (lt_G o L) mm_Model_findCosts 5 lv (.int x1 :: .ref 45 :: st) (sx pl kp I A) P ↔ rn (lt_G o L) mm_Model_findCosts 8 lv (v.toList ++ st) S2 P := rn_cv (k := 0) (host := "") (E' := mm_Model_findWet) dq_Model_findCosts_5 rfl (ok_v rfl (by decide) (by decide) (Nat.le_add_left _ _) hst (Nat.le_of_ble_eq_true rfl) (Or.inr (rc_v ho (up_b (by decide)) rfl))) rfl rfl hc
theorem dq_Model_findCosts_8 : decode (km_c mm_Model_findCosts) 8 = .ok (.iconst 0, 1) := by decide +kernel
theorem sq_Model_findCosts_8 : rn G mm_Model_findCosts 8 lv st S P ↔ rn G mm_Model_findCosts 9 lv (.int (nI 0) :: st) S P := rn_s dq_Model_findCosts_8 rfl rfl rfl
theorem dq_Model_findCosts_9 : decode (km_c mm_Model_findCosts) 9 = .ok (.istore_n 1, 1) := by decide +kernel
theorem sq_Model_findCosts_9n : rn G mm_Model_findCosts 9 [none, a1] (.int x :: st) S P ↔ rn G mm_Model_findCosts 10 [none, some (.int x)] st S P := rn_s dq_Model_findCosts_9 rfl rfl rfl
theorem sq_Model_findCosts_9i : rn G mm_Model_findCosts 9 [some (.int x2), a1] (.int x :: st) S P ↔ rn G mm_Model_findCosts 10 [some (.int x2), some (.int x)] st S P := rn_s dq_Model_findCosts_9 rfl rfl rfl
theorem sq_Model_findCosts_9r : rn G mm_Model_findCosts 9 [some (.ref z2), a1] (.int x :: st) S P ↔ rn G mm_Model_findCosts 10 [some (.ref z2), some (.int x)] st S P := rn_s dq_Model_findCosts_9 rfl rfl rfl
theorem dq_Model_findCosts_10 : decode (km_c mm_Model_findCosts) 10 = .ok (.iload_n 1, 1) := by decide +kernel
theorem sq_Model_findCosts_10 : rn G mm_Model_findCosts 10 [a0, some (.int x)] st S P ↔ rn G mm_Model_findCosts 11 [a0, some (.int x)] (.int x :: st) S P := rn_s dq_Model_findCosts_10 rfl rfl rfl
theorem dq_Model_findCosts_11 : decode (km_c mm_Model_findCosts) 11 = .ok (.bipush 49, 2) := by decide +kernel
theorem sq_Model_findCosts_11 : rn G mm_Model_findCosts 11 lv st S P ↔ rn G mm_Model_findCosts 13 lv (.int (nI 49) :: st) S P := rn_s dq_Model_findCosts_11 rfl rfl rfl
theorem dq_Model_findCosts_13 : decode (km_c mm_Model_findCosts) 13 = .ok (.if_icmp .ge 31, 3) := by decide +kernel
theorem sq_Model_findCosts_13 : rn G mm_Model_findCosts 13 lv (.int x2 :: .int x :: st) S P ↔ ((x2 ≤ x → rn G mm_Model_findCosts 44 lv st S P) ∧ (¬ (x2 ≤ x) → rn G mm_Model_findCosts 16 lv st S P)) := rn_b (off := 31) dq_Model_findCosts_13 rfl rfl rfl rfl
theorem dq_Model_findCosts_16 : decode (km_c mm_Model_findCosts) 16 = .ok (.aload_n 0, 1) := by decide +kernel
theorem sq_Model_findCosts_16 : rn G mm_Model_findCosts 16 [some (.ref z), a1] st S P ↔ rn G mm_Model_findCosts 17 [some (.ref z), a1] (.ref z :: st) S P := rn_s dq_Model_findCosts_16 rfl rfl rfl
theorem dq_Model_findCosts_17 : decode (km_c mm_Model_findCosts) 17 = .ok (.getfield 47, 3) := by decide +kernel
theorem sq_Model_findCosts_17_45 (ho : sx_o o pl kp) : rn (lt_G o L) mm_Model_findCosts 17 lv (.ref 45 :: st) (sx pl kp I A) P ↔ rn (lt_G o L) mm_Model_findCosts 20 lv (.ref 56 :: st) (sx pl kp I A) P := rx_get (h := "") (ci := 10) (k := 20) dq_Model_findCosts_17 (by decide +kernel) ho (up_b (by decide)) rfl rfl (fl_r (by decide) (by decide) (by decide) (by decide))
theorem dq_Model_findCosts_20 : decode (km_c mm_Model_findCosts) 20 = .ok (.iload_n 1, 1) := by decide +kernel
theorem sq_Model_findCosts_20 : rn G mm_Model_findCosts 20 [a0, some (.int x)] st S P ↔ rn G mm_Model_findCosts 21 [a0, some (.int x)] (.int x :: st) S P := rn_s dq_Model_findCosts_20 rfl rfl rfl
theorem dq_Model_findCosts_21 : decode (km_c mm_Model_findCosts) 21 = .ok (.aload_n 0, 1) := by decide +kernel
theorem sq_Model_findCosts_21 : rn G mm_Model_findCosts 21 [some (.ref z), a1] st S P ↔ rn G mm_Model_findCosts 22 [some (.ref z), a1] (.ref z :: st) S P := rn_s dq_Model_findCosts_21 rfl rfl rfl
theorem dq_Model_findCosts_22 : decode (km_c mm_Model_findCosts) 22 = .ok (.iload_n 1, 1) := by decide +kernel
theorem sq_Model_findCosts_22 : rn G mm_Model_findCosts 22 [a0, some (.int x)] st S P ↔ rn G mm_Model_findCosts 23 [a0, some (.int x)] (.int x :: st) S P := rn_s dq_Model_findCosts_22 rfl rfl rfl
theorem dq_Model_findCosts_23 : decode (km_c mm_Model_findCosts) 23 = .ok (.invokevirtual 119, 3) := by decide +kernel
theorem sq_Model_findCosts_23_45 {x1 : Int32} {v : Option Value} {S2 : ks_S} (hc : ev (lt_G o L) mm_Model_costOf [.ref 45, .int x1] (sx pl kp I A) v S2) (ho : sx_o o pl kp) (hst : kx_cat st ≤ 8) : rn (lt_G o L) mm_Model_findCosts 23 lv (.int x1 :: .ref 45 :: st) (sx pl kp I A) P ↔ rn (lt_G o L) mm_Model_findCosts 26 lv (v.toList ++ st) S2 P := rn_cv (k := 0) (host := "") (E' := mm_Model_costOf) dq_Model_findCosts_23 rfl (ok_v rfl (by decide) (by decide) (Nat.le_add_left _ _) hst (Nat.le_of_ble_eq_true rfl) (Or.inr (rc_v ho (up_b (by decide)) rfl))) rfl rfl hc
theorem dq_Model_findCosts_26 : decode (km_c mm_Model_findCosts) 26 = .ok (.iastore, 1) := by decide +kernel
theorem sq_Model_findCosts_26 (ho : sx_o o pl kp) (hk : ak L a = 0) (hu : sx_up pl kp a = true) (hc : c < ln L a) (hn : ln L a < 2 ^ 31) : rn (lt_G o L) mm_Model_findCosts 26 lv (.int x :: .int (nI c) :: .ref a :: st) (sx pl kp I A) P ↔ rn (lt_G o L) mm_Model_findCosts 27 lv st (sx pl kp I (u2 A a c x)) P := rx_ist dq_Model_findCosts_26 ho hk hu hc hn
theorem dq_Model_findCosts_27 : decode (km_c mm_Model_findCosts) 27 = .ok (.aload_n 0, 1) := by decide +kernel
theorem sq_Model_findCosts_27 : rn G mm_Model_findCosts 27 [some (.ref z), a1] st S P ↔ rn G mm_Model_findCosts 28 [some (.ref z), a1] (.ref z :: st) S P := rn_s dq_Model_findCosts_27 rfl rfl rfl
theorem dq_Model_findCosts_28 : decode (km_c mm_Model_findCosts) 28 = .ok (.getfield 50, 3) := by decide +kernel
theorem sq_Model_findCosts_28_45 (ho : sx_o o pl kp) : rn (lt_G o L) mm_Model_findCosts 28 lv (.ref 45 :: st) (sx pl kp I A) P ↔ rn (lt_G o L) mm_Model_findCosts 31 lv (.ref 57 :: st) (sx pl kp I A) P := rx_get (h := "") (ci := 10) (k := 21) dq_Model_findCosts_28 (by decide +kernel) ho (up_b (by decide)) rfl rfl (fl_r (by decide) (by decide) (by decide) (by decide))
theorem dq_Model_findCosts_31 : decode (km_c mm_Model_findCosts) 31 = .ok (.iload_n 1, 1) := by decide +kernel
theorem sq_Model_findCosts_31 : rn G mm_Model_findCosts 31 [a0, some (.int x)] st S P ↔ rn G mm_Model_findCosts 32 [a0, some (.int x)] (.int x :: st) S P := rn_s dq_Model_findCosts_31 rfl rfl rfl
theorem dq_Model_findCosts_32 : decode (km_c mm_Model_findCosts) 32 = .ok (.aload_n 0, 1) := by decide +kernel
theorem sq_Model_findCosts_32 : rn G mm_Model_findCosts 32 [some (.ref z), a1] st S P ↔ rn G mm_Model_findCosts 33 [some (.ref z), a1] (.ref z :: st) S P := rn_s dq_Model_findCosts_32 rfl rfl rfl
theorem dq_Model_findCosts_33 : decode (km_c mm_Model_findCosts) 33 = .ok (.iload_n 1, 1) := by decide +kernel
theorem sq_Model_findCosts_33 : rn G mm_Model_findCosts 33 [a0, some (.int x)] st S P ↔ rn G mm_Model_findCosts 34 [a0, some (.int x)] (.int x :: st) S P := rn_s dq_Model_findCosts_33 rfl rfl rfl
theorem dq_Model_findCosts_34 : decode (km_c mm_Model_findCosts) 34 = .ok (.invokevirtual 192, 3) := by decide +kernel
theorem sq_Model_findCosts_34_45 {x1 : Int32} {v : Option Value} {S2 : ks_S} (hc : ev (lt_G o L) mm_Model_serves [.ref 45, .int x1] (sx pl kp I A) v S2) (ho : sx_o o pl kp) (hst : kx_cat st ≤ 8) : rn (lt_G o L) mm_Model_findCosts 34 lv (.int x1 :: .ref 45 :: st) (sx pl kp I A) P ↔ rn (lt_G o L) mm_Model_findCosts 37 lv (v.toList ++ st) S2 P := rn_cv (k := 0) (host := "") (E' := mm_Model_serves) dq_Model_findCosts_34 rfl (ok_v rfl (by decide) (by decide) (Nat.le_add_left _ _) hst (Nat.le_of_ble_eq_true rfl) (Or.inr (rc_v ho (up_b (by decide)) rfl))) rfl rfl hc
theorem dq_Model_findCosts_37 : decode (km_c mm_Model_findCosts) 37 = .ok (.iastore, 1) := by decide +kernel
theorem sq_Model_findCosts_37 (ho : sx_o o pl kp) (hk : ak L a = 0) (hu : sx_up pl kp a = true) (hc : c < ln L a) (hn : ln L a < 2 ^ 31) : rn (lt_G o L) mm_Model_findCosts 37 lv (.int x :: .int (nI c) :: .ref a :: st) (sx pl kp I A) P ↔ rn (lt_G o L) mm_Model_findCosts 38 lv st (sx pl kp I (u2 A a c x)) P := rx_ist dq_Model_findCosts_37 ho hk hu hc hn
theorem dq_Model_findCosts_38 : decode (km_c mm_Model_findCosts) 38 = .ok (.iinc 1 1, 3) := by decide +kernel
theorem sq_Model_findCosts_38n : rn G mm_Model_findCosts 38 [none, some (.int x)] st S P ↔ rn G mm_Model_findCosts 41 [none, some (.int (x + nI 1))] st S P := rn_s dq_Model_findCosts_38 rfl rfl rfl
theorem sq_Model_findCosts_38i : rn G mm_Model_findCosts 38 [some (.int x2), some (.int x)] st S P ↔ rn G mm_Model_findCosts 41 [some (.int x2), some (.int (x + nI 1))] st S P := rn_s dq_Model_findCosts_38 rfl rfl rfl
theorem sq_Model_findCosts_38r : rn G mm_Model_findCosts 38 [some (.ref z2), some (.int x)] st S P ↔ rn G mm_Model_findCosts 41 [some (.ref z2), some (.int (x + nI 1))] st S P := rn_s dq_Model_findCosts_38 rfl rfl rfl
theorem dq_Model_findCosts_41 : decode (km_c mm_Model_findCosts) 41 = .ok (.goto (-31), 3) := by decide +kernel
theorem sq_Model_findCosts_41 : rn G mm_Model_findCosts 41 lv st S P ↔ rn G mm_Model_findCosts 10 lv st S P := rn_s dq_Model_findCosts_41 rfl rfl rfl
theorem dq_Model_findCosts_44 : decode (km_c mm_Model_findCosts) 44 = .ok (.return_, 1) := by decide +kernel
theorem sq_Model_findCosts_44 : rn G mm_Model_findCosts 44 lv [] S P ↔ P none S := rn_vr dq_Model_findCosts_44 rfl
end SQ
