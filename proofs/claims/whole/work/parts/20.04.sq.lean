section SQ
variable {o pl kp : Bool} {L : Nat} {I A : Nat → Nat → Int32} {G : kg_G} {S : ks_S} {lv : List (Option Value)} {st : List Value} {P : Option Value → ks_S → Prop} {x x2 : Int32} {y y2 : Int64} {z z2 c a : Nat} {a0 a1 a2 a3 a4 a5 a6 a7 a8 a9 a10 a11 a12 a13 a14 a15 a16 a17 a18 a19 a20 a21 a22 a23 : Option Value}
theorem dq_Weather_nextLevel_0 : decode (km_c mm_Weather_nextLevel) 0 = .ok (.aload_n 0, 1) := by decide +kernel
theorem sq_Weather_nextLevel_0 : rn G mm_Weather_nextLevel 0 [some (.ref z), a1, a2, a3] st S P ↔ rn G mm_Weather_nextLevel 1 [some (.ref z), a1, a2, a3] (.ref z :: st) S P := rn_s dq_Weather_nextLevel_0 rfl rfl rfl
theorem dq_Weather_nextLevel_1 : decode (km_c mm_Weather_nextLevel) 1 = .ok (.aload_n 0, 1) := by decide +kernel
theorem sq_Weather_nextLevel_1 : rn G mm_Weather_nextLevel 1 [some (.ref z), a1, a2, a3] st S P ↔ rn G mm_Weather_nextLevel 2 [some (.ref z), a1, a2, a3] (.ref z :: st) S P := rn_s dq_Weather_nextLevel_1 rfl rfl rfl
theorem dq_Weather_nextLevel_2 : decode (km_c mm_Weather_nextLevel) 2 = .ok (.getfield 15, 3) := by decide +kernel
theorem sq_Weather_nextLevel_2_14 (ho : sx_o o pl kp) : rn (lt_G o L) mm_Weather_nextLevel 2 lv (.ref 14 :: st) (sx pl kp I A) P ↔ rn (lt_G o L) mm_Weather_nextLevel 5 lv (.int (I 14 1) :: st) (sx pl kp I A) P := rx_get (h := "") (ci := 7) (k := 1) dq_Weather_nextLevel_2 (by decide +kernel) ho (up_b (by decide)) rfl rfl (fl_i (by decide))
theorem sq_Weather_nextLevel_2_149 (ho : sx_o o pl true) : rn (lt_G o L) mm_Weather_nextLevel 2 lv (.ref 149 :: st) (sx pl true I A) P ↔ rn (lt_G o L) mm_Weather_nextLevel 5 lv (.int (I 149 1) :: st) (sx pl true I A) P := rx_get (h := "") (ci := 7) (k := 1) dq_Weather_nextLevel_2 (by decide +kernel) ho (up_k (by decide) (by decide)) rfl rfl (fl_i (by decide))
theorem dq_Weather_nextLevel_5 : decode (km_c mm_Weather_nextLevel) 5 = .ok (.ldc 29, 2) := by decide +kernel
theorem sq_Weather_nextLevel_5 : rn G mm_Weather_nextLevel 5 lv st S P ↔ rn G mm_Weather_nextLevel 7 lv (.int (nI 1103515245) :: st) S P := rn_s dq_Weather_nextLevel_5 rfl rfl rfl
theorem dq_Weather_nextLevel_7 : decode (km_c mm_Weather_nextLevel) 7 = .ok (.imul, 1) := by decide +kernel
theorem sq_Weather_nextLevel_7 : rn G mm_Weather_nextLevel 7 lv (.int x2 :: .int x :: st) S P ↔ rn G mm_Weather_nextLevel 8 lv (.int (x * x2) :: st) S P := rn_s dq_Weather_nextLevel_7 rfl rfl rfl
theorem dq_Weather_nextLevel_8 : decode (km_c mm_Weather_nextLevel) 8 = .ok (.sipush 12345, 3) := by decide +kernel
theorem sq_Weather_nextLevel_8 : rn G mm_Weather_nextLevel 8 lv st S P ↔ rn G mm_Weather_nextLevel 11 lv (.int (nI 12345) :: st) S P := rn_s dq_Weather_nextLevel_8 rfl rfl rfl
theorem dq_Weather_nextLevel_11 : decode (km_c mm_Weather_nextLevel) 11 = .ok (.iadd, 1) := by decide +kernel
theorem sq_Weather_nextLevel_11 : rn G mm_Weather_nextLevel 11 lv (.int x2 :: .int x :: st) S P ↔ rn G mm_Weather_nextLevel 12 lv (.int (x + x2) :: st) S P := rn_s dq_Weather_nextLevel_11 rfl rfl rfl
theorem dq_Weather_nextLevel_12 : decode (km_c mm_Weather_nextLevel) 12 = .ok (.ldc 30, 2) := by decide +kernel
theorem sq_Weather_nextLevel_12 : rn G mm_Weather_nextLevel 12 lv st S P ↔ rn G mm_Weather_nextLevel 14 lv (.int (nI 2147483647) :: st) S P := rn_s dq_Weather_nextLevel_12 rfl rfl rfl
theorem dq_Weather_nextLevel_14 : decode (km_c mm_Weather_nextLevel) 14 = .ok (.iand, 1) := by decide +kernel
theorem sq_Weather_nextLevel_14 : rn G mm_Weather_nextLevel 14 lv (.int x2 :: .int x :: st) S P ↔ rn G mm_Weather_nextLevel 15 lv (.int (x &&& x2) :: st) S P := rn_s dq_Weather_nextLevel_14 rfl rfl rfl
theorem dq_Weather_nextLevel_15 : decode (km_c mm_Weather_nextLevel) 15 = .ok (.putfield 15, 3) := by decide +kernel
theorem sq_Weather_nextLevel_15_14 (ho : sx_o o pl kp) : rn (lt_G o L) mm_Weather_nextLevel 15 lv (.int x :: .ref 14 :: st) (sx pl kp I A) P ↔ rn (lt_G o L) mm_Weather_nextLevel 18 lv st (sx pl kp (u2 I 14 1 x) A) P := rx_put (h := "") (ci := 7) (k := 1) dq_Weather_nextLevel_15 (by decide +kernel) ho (up_b (by decide)) rfl rfl (by decide) (by decide)
theorem sq_Weather_nextLevel_15_149 (ho : sx_o o pl true) : rn (lt_G o L) mm_Weather_nextLevel 15 lv (.int x :: .ref 149 :: st) (sx pl true I A) P ↔ rn (lt_G o L) mm_Weather_nextLevel 18 lv st (sx pl true (u2 I 149 1 x) A) P := rx_put (h := "") (ci := 7) (k := 1) dq_Weather_nextLevel_15 (by decide +kernel) ho (up_k (by decide) (by decide)) rfl rfl (by decide) (by decide)
theorem dq_Weather_nextLevel_18 : decode (km_c mm_Weather_nextLevel) 18 = .ok (.aload_n 0, 1) := by decide +kernel
theorem sq_Weather_nextLevel_18 : rn G mm_Weather_nextLevel 18 [some (.ref z), a1, a2, a3] st S P ↔ rn G mm_Weather_nextLevel 19 [some (.ref z), a1, a2, a3] (.ref z :: st) S P := rn_s dq_Weather_nextLevel_18 rfl rfl rfl
theorem dq_Weather_nextLevel_19 : decode (km_c mm_Weather_nextLevel) 19 = .ok (.invokevirtual 31, 3) := by decide +kernel
theorem sq_Weather_nextLevel_19_14  {v : Option Value} {S2 : ks_S} (hc : ev (lt_G o L) mm_Weather_total [.ref 14] (sx pl kp I A) v S2) (ho : sx_o o pl kp) (hst : kx_cat st ≤ 8) : rn (lt_G o L) mm_Weather_nextLevel 19 lv (.ref 14 :: st) (sx pl kp I A) P ↔ rn (lt_G o L) mm_Weather_nextLevel 22 lv (v.toList ++ st) S2 P := rn_cv (k := 0) (host := "") (E' := mm_Weather_total) dq_Weather_nextLevel_19 rfl (ok_v rfl (by decide) (by decide) (Nat.le_add_left _ _) hst (Nat.le_of_ble_eq_true rfl) (Or.inr (rc_v ho (up_b (by decide)) rfl))) rfl rfl hc
theorem sq_Weather_nextLevel_19_149  {v : Option Value} {S2 : ks_S} (hc : ev (lt_G o L) mm_Weather_total [.ref 149] (sx pl true I A) v S2) (ho : sx_o o pl true) (hst : kx_cat st ≤ 8) : rn (lt_G o L) mm_Weather_nextLevel 19 lv (.ref 149 :: st) (sx pl true I A) P ↔ rn (lt_G o L) mm_Weather_nextLevel 22 lv (v.toList ++ st) S2 P := rn_cv (k := 0) (host := "") (E' := mm_Weather_total) dq_Weather_nextLevel_19 rfl (ok_v rfl (by decide) (by decide) (Nat.le_add_left _ _) hst (Nat.le_of_ble_eq_true rfl) (Or.inr (rc_v ho (up_k (by decide) (by decide)) rfl))) rfl rfl hc
theorem dq_Weather_nextLevel_22 : decode (km_c mm_Weather_nextLevel) 22 = .ok (.istore_n 1, 1) := by decide +kernel
theorem sq_Weather_nextLevel_22n : rn G mm_Weather_nextLevel 22 [none, a1, a2, a3] (.int x :: st) S P ↔ rn G mm_Weather_nextLevel 23 [none, some (.int x), a2, a3] st S P := rn_s dq_Weather_nextLevel_22 rfl rfl rfl
theorem sq_Weather_nextLevel_22i : rn G mm_Weather_nextLevel 22 [some (.int x2), a1, a2, a3] (.int x :: st) S P ↔ rn G mm_Weather_nextLevel 23 [some (.int x2), some (.int x), a2, a3] st S P := rn_s dq_Weather_nextLevel_22 rfl rfl rfl
theorem sq_Weather_nextLevel_22r : rn G mm_Weather_nextLevel 22 [some (.ref z2), a1, a2, a3] (.int x :: st) S P ↔ rn G mm_Weather_nextLevel 23 [some (.ref z2), some (.int x), a2, a3] st S P := rn_s dq_Weather_nextLevel_22 rfl rfl rfl
theorem dq_Weather_nextLevel_23 : decode (km_c mm_Weather_nextLevel) 23 = .ok (.iload_n 1, 1) := by decide +kernel
theorem sq_Weather_nextLevel_23 : rn G mm_Weather_nextLevel 23 [a0, some (.int x), a2, a3] st S P ↔ rn G mm_Weather_nextLevel 24 [a0, some (.int x), a2, a3] (.int x :: st) S P := rn_s dq_Weather_nextLevel_23 rfl rfl rfl
theorem dq_Weather_nextLevel_24 : decode (km_c mm_Weather_nextLevel) 24 = .ok (.ifCond .le 15, 3) := by decide +kernel
theorem sq_Weather_nextLevel_24 : rn G mm_Weather_nextLevel 24 lv (.int x :: st) S P ↔ ((x ≤ 0 → rn G mm_Weather_nextLevel 39 lv st S P) ∧ (¬ (x ≤ 0) → rn G mm_Weather_nextLevel 27 lv st S P)) := rn_b (off := 15) dq_Weather_nextLevel_24 rfl rfl rfl rfl
theorem dq_Weather_nextLevel_27 : decode (km_c mm_Weather_nextLevel) 27 = .ok (.aload_n 0, 1) := by decide +kernel
theorem sq_Weather_nextLevel_27 : rn G mm_Weather_nextLevel 27 [some (.ref z), a1, a2, a3] st S P ↔ rn G mm_Weather_nextLevel 28 [some (.ref z), a1, a2, a3] (.ref z :: st) S P := rn_s dq_Weather_nextLevel_27 rfl rfl rfl
theorem dq_Weather_nextLevel_28 : decode (km_c mm_Weather_nextLevel) 28 = .ok (.getfield 15, 3) := by decide +kernel
theorem sq_Weather_nextLevel_28_14 (ho : sx_o o pl kp) : rn (lt_G o L) mm_Weather_nextLevel 28 lv (.ref 14 :: st) (sx pl kp I A) P ↔ rn (lt_G o L) mm_Weather_nextLevel 31 lv (.int (I 14 1) :: st) (sx pl kp I A) P := rx_get (h := "") (ci := 7) (k := 1) dq_Weather_nextLevel_28 (by decide +kernel) ho (up_b (by decide)) rfl rfl (fl_i (by decide))
theorem sq_Weather_nextLevel_28_149 (ho : sx_o o pl true) : rn (lt_G o L) mm_Weather_nextLevel 28 lv (.ref 149 :: st) (sx pl true I A) P ↔ rn (lt_G o L) mm_Weather_nextLevel 31 lv (.int (I 149 1) :: st) (sx pl true I A) P := rx_get (h := "") (ci := 7) (k := 1) dq_Weather_nextLevel_28 (by decide +kernel) ho (up_k (by decide) (by decide)) rfl rfl (fl_i (by decide))
theorem dq_Weather_nextLevel_31 : decode (km_c mm_Weather_nextLevel) 31 = .ok (.ldc 35, 2) := by decide +kernel
theorem sq_Weather_nextLevel_31 : rn G mm_Weather_nextLevel 31 lv st S P ↔ rn G mm_Weather_nextLevel 33 lv (.int (nI 65536) :: st) S P := rn_s dq_Weather_nextLevel_31 rfl rfl rfl
theorem dq_Weather_nextLevel_33 : decode (km_c mm_Weather_nextLevel) 33 = .ok (.idiv, 1) := by decide +kernel
theorem sq_Weather_nextLevel_33 (hz : ¬ x2 = 0) : rn G mm_Weather_nextLevel 33 lv (.int x2 :: .int x :: st) S P ↔ rn G mm_Weather_nextLevel 34 lv (.int (x / x2) :: st) S P := rn_s dq_Weather_nextLevel_33 rfl rfl (if_neg hz)
theorem dq_Weather_nextLevel_34 : decode (km_c mm_Weather_nextLevel) 34 = .ok (.iload_n 1, 1) := by decide +kernel
theorem sq_Weather_nextLevel_34 : rn G mm_Weather_nextLevel 34 [a0, some (.int x), a2, a3] st S P ↔ rn G mm_Weather_nextLevel 35 [a0, some (.int x), a2, a3] (.int x :: st) S P := rn_s dq_Weather_nextLevel_34 rfl rfl rfl
theorem dq_Weather_nextLevel_35 : decode (km_c mm_Weather_nextLevel) 35 = .ok (.irem, 1) := by decide +kernel
theorem sq_Weather_nextLevel_35 (hz : ¬ x2 = 0) : rn G mm_Weather_nextLevel 35 lv (.int x2 :: .int x :: st) S P ↔ rn G mm_Weather_nextLevel 36 lv (.int (x - x / x2 * x2) :: st) S P := rn_s dq_Weather_nextLevel_35 rfl rfl (if_neg hz)
theorem dq_Weather_nextLevel_36 : decode (km_c mm_Weather_nextLevel) 36 = .ok (.goto 4, 3) := by decide +kernel
theorem sq_Weather_nextLevel_36 : rn G mm_Weather_nextLevel 36 lv st S P ↔ rn G mm_Weather_nextLevel 40 lv st S P := rn_s dq_Weather_nextLevel_36 rfl rfl rfl
theorem dq_Weather_nextLevel_39 : decode (km_c mm_Weather_nextLevel) 39 = .ok (.iconst 0, 1) := by decide +kernel
theorem sq_Weather_nextLevel_39 : rn G mm_Weather_nextLevel 39 lv st S P ↔ rn G mm_Weather_nextLevel 40 lv (.int (nI 0) :: st) S P := rn_s dq_Weather_nextLevel_39 rfl rfl rfl
theorem dq_Weather_nextLevel_40 : decode (km_c mm_Weather_nextLevel) 40 = .ok (.istore_n 2, 1) := by decide +kernel
theorem sq_Weather_nextLevel_40n : rn G mm_Weather_nextLevel 40 [a0, none, a2, a3] (.int x :: st) S P ↔ rn G mm_Weather_nextLevel 41 [a0, none, some (.int x), a3] st S P := rn_s dq_Weather_nextLevel_40 rfl rfl rfl
theorem sq_Weather_nextLevel_40i : rn G mm_Weather_nextLevel 40 [a0, some (.int x2), a2, a3] (.int x :: st) S P ↔ rn G mm_Weather_nextLevel 41 [a0, some (.int x2), some (.int x), a3] st S P := rn_s dq_Weather_nextLevel_40 rfl rfl rfl
theorem sq_Weather_nextLevel_40r : rn G mm_Weather_nextLevel 40 [a0, some (.ref z2), a2, a3] (.int x :: st) S P ↔ rn G mm_Weather_nextLevel 41 [a0, some (.ref z2), some (.int x), a3] st S P := rn_s dq_Weather_nextLevel_40 rfl rfl rfl
theorem dq_Weather_nextLevel_41 : decode (km_c mm_Weather_nextLevel) 41 = .ok (.iconst 0, 1) := by decide +kernel
theorem sq_Weather_nextLevel_41 : rn G mm_Weather_nextLevel 41 lv st S P ↔ rn G mm_Weather_nextLevel 42 lv (.int (nI 0) :: st) S P := rn_s dq_Weather_nextLevel_41 rfl rfl rfl
theorem dq_Weather_nextLevel_42 : decode (km_c mm_Weather_nextLevel) 42 = .ok (.istore_n 3, 1) := by decide +kernel
theorem sq_Weather_nextLevel_42n : rn G mm_Weather_nextLevel 42 [a0, a1, none, a3] (.int x :: st) S P ↔ rn G mm_Weather_nextLevel 43 [a0, a1, none, some (.int x)] st S P := rn_s dq_Weather_nextLevel_42 rfl rfl rfl
theorem sq_Weather_nextLevel_42i : rn G mm_Weather_nextLevel 42 [a0, a1, some (.int x2), a3] (.int x :: st) S P ↔ rn G mm_Weather_nextLevel 43 [a0, a1, some (.int x2), some (.int x)] st S P := rn_s dq_Weather_nextLevel_42 rfl rfl rfl
theorem sq_Weather_nextLevel_42r : rn G mm_Weather_nextLevel 42 [a0, a1, some (.ref z2), a3] (.int x :: st) S P ↔ rn G mm_Weather_nextLevel 43 [a0, a1, some (.ref z2), some (.int x)] st S P := rn_s dq_Weather_nextLevel_42 rfl rfl rfl
theorem dq_Weather_nextLevel_43 : decode (km_c mm_Weather_nextLevel) 43 = .ok (.iload_n 3, 1) := by decide +kernel
theorem sq_Weather_nextLevel_43 : rn G mm_Weather_nextLevel 43 [a0, a1, a2, some (.int x)] st S P ↔ rn G mm_Weather_nextLevel 44 [a0, a1, a2, some (.int x)] (.int x :: st) S P := rn_s dq_Weather_nextLevel_43 rfl rfl rfl
theorem dq_Weather_nextLevel_44 : decode (km_c mm_Weather_nextLevel) 44 = .ok (.bipush 40, 2) := by decide +kernel
theorem sq_Weather_nextLevel_44 : rn G mm_Weather_nextLevel 44 lv st S P ↔ rn G mm_Weather_nextLevel 46 lv (.int (nI 40) :: st) S P := rn_s dq_Weather_nextLevel_44 rfl rfl rfl
theorem dq_Weather_nextLevel_46 : decode (km_c mm_Weather_nextLevel) 46 = .ok (.if_icmp .ge 24, 3) := by decide +kernel
theorem sq_Weather_nextLevel_46 : rn G mm_Weather_nextLevel 46 lv (.int x2 :: .int x :: st) S P ↔ ((x2 ≤ x → rn G mm_Weather_nextLevel 70 lv st S P) ∧ (¬ (x2 ≤ x) → rn G mm_Weather_nextLevel 49 lv st S P)) := rn_b (off := 24) dq_Weather_nextLevel_46 rfl rfl rfl rfl
theorem dq_Weather_nextLevel_49 : decode (km_c mm_Weather_nextLevel) 49 = .ok (.iload_n 2, 1) := by decide +kernel
theorem sq_Weather_nextLevel_49 : rn G mm_Weather_nextLevel 49 [a0, a1, some (.int x), a3] st S P ↔ rn G mm_Weather_nextLevel 50 [a0, a1, some (.int x), a3] (.int x :: st) S P := rn_s dq_Weather_nextLevel_49 rfl rfl rfl
theorem dq_Weather_nextLevel_50 : decode (km_c mm_Weather_nextLevel) 50 = .ok (.aload_n 0, 1) := by decide +kernel
theorem sq_Weather_nextLevel_50 : rn G mm_Weather_nextLevel 50 [some (.ref z), a1, a2, a3] st S P ↔ rn G mm_Weather_nextLevel 51 [some (.ref z), a1, a2, a3] (.ref z :: st) S P := rn_s dq_Weather_nextLevel_50 rfl rfl rfl
theorem dq_Weather_nextLevel_51 : decode (km_c mm_Weather_nextLevel) 51 = .ok (.getfield 9, 3) := by decide +kernel
theorem sq_Weather_nextLevel_51_14 (ho : sx_o o pl kp) : rn (lt_G o L) mm_Weather_nextLevel 51 lv (.ref 14 :: st) (sx pl kp I A) P ↔ rn (lt_G o L) mm_Weather_nextLevel 54 lv (.ref 15 :: st) (sx pl kp I A) P := rx_get (h := "") (ci := 7) (k := 0) dq_Weather_nextLevel_51 (by decide +kernel) ho (up_b (by decide)) rfl rfl (fl_r (by decide) (by decide) (by decide) (by decide))
theorem sq_Weather_nextLevel_51_149 (ho : sx_o o pl true) : rn (lt_G o L) mm_Weather_nextLevel 51 lv (.ref 149 :: st) (sx pl true I A) P ↔ rn (lt_G o L) mm_Weather_nextLevel 54 lv (.ref 150 :: st) (sx pl true I A) P := rx_get (h := "") (ci := 7) (k := 0) dq_Weather_nextLevel_51 (by decide +kernel) ho (up_k (by decide) (by decide)) rfl rfl (fl_k (by decide) (by decide))
theorem dq_Weather_nextLevel_54 : decode (km_c mm_Weather_nextLevel) 54 = .ok (.iload_n 3, 1) := by decide +kernel
theorem sq_Weather_nextLevel_54 : rn G mm_Weather_nextLevel 54 [a0, a1, a2, some (.int x)] st S P ↔ rn G mm_Weather_nextLevel 55 [a0, a1, a2, some (.int x)] (.int x :: st) S P := rn_s dq_Weather_nextLevel_54 rfl rfl rfl
theorem dq_Weather_nextLevel_55 : decode (km_c mm_Weather_nextLevel) 55 = .ok (.iaload, 1) := by decide +kernel
theorem sq_Weather_nextLevel_55 (ho : sx_o o pl kp) (hk : ak L a = 0) (hu : sx_up pl kp a = true ∨ 1000 ≤ a) (hc : c < ln L a) (hn : ln L a < 2 ^ 31) : rn (lt_G o L) mm_Weather_nextLevel 55 lv (.int (nI c) :: .ref a :: st) (sx pl kp I A) P ↔ rn (lt_G o L) mm_Weather_nextLevel 56 lv (.int (A a c) :: st) (sx pl kp I A) P := rx_ild dq_Weather_nextLevel_55 ho hk hu hc hn
theorem dq_Weather_nextLevel_56 : decode (km_c mm_Weather_nextLevel) 56 = .ok (.isub, 1) := by decide +kernel
theorem sq_Weather_nextLevel_56 : rn G mm_Weather_nextLevel 56 lv (.int x2 :: .int x :: st) S P ↔ rn G mm_Weather_nextLevel 57 lv (.int (x - x2) :: st) S P := rn_s dq_Weather_nextLevel_56 rfl rfl rfl
theorem dq_Weather_nextLevel_57 : decode (km_c mm_Weather_nextLevel) 57 = .ok (.istore_n 2, 1) := by decide +kernel
theorem sq_Weather_nextLevel_57n : rn G mm_Weather_nextLevel 57 [a0, none, a2, a3] (.int x :: st) S P ↔ rn G mm_Weather_nextLevel 58 [a0, none, some (.int x), a3] st S P := rn_s dq_Weather_nextLevel_57 rfl rfl rfl
theorem sq_Weather_nextLevel_57i : rn G mm_Weather_nextLevel 57 [a0, some (.int x2), a2, a3] (.int x :: st) S P ↔ rn G mm_Weather_nextLevel 58 [a0, some (.int x2), some (.int x), a3] st S P := rn_s dq_Weather_nextLevel_57 rfl rfl rfl
theorem sq_Weather_nextLevel_57r : rn G mm_Weather_nextLevel 57 [a0, some (.ref z2), a2, a3] (.int x :: st) S P ↔ rn G mm_Weather_nextLevel 58 [a0, some (.ref z2), some (.int x), a3] st S P := rn_s dq_Weather_nextLevel_57 rfl rfl rfl
theorem dq_Weather_nextLevel_58 : decode (km_c mm_Weather_nextLevel) 58 = .ok (.iload_n 2, 1) := by decide +kernel
theorem sq_Weather_nextLevel_58 : rn G mm_Weather_nextLevel 58 [a0, a1, some (.int x), a3] st S P ↔ rn G mm_Weather_nextLevel 59 [a0, a1, some (.int x), a3] (.int x :: st) S P := rn_s dq_Weather_nextLevel_58 rfl rfl rfl
theorem dq_Weather_nextLevel_59 : decode (km_c mm_Weather_nextLevel) 59 = .ok (.ifCond .ge 5, 3) := by decide +kernel
theorem sq_Weather_nextLevel_59 : rn G mm_Weather_nextLevel 59 lv (.int x :: st) S P ↔ ((0 ≤ x → rn G mm_Weather_nextLevel 64 lv st S P) ∧ (¬ (0 ≤ x) → rn G mm_Weather_nextLevel 62 lv st S P)) := rn_b (off := 5) dq_Weather_nextLevel_59 rfl rfl rfl rfl
theorem dq_Weather_nextLevel_62 : decode (km_c mm_Weather_nextLevel) 62 = .ok (.iload_n 3, 1) := by decide +kernel
theorem sq_Weather_nextLevel_62 : rn G mm_Weather_nextLevel 62 [a0, a1, a2, some (.int x)] st S P ↔ rn G mm_Weather_nextLevel 63 [a0, a1, a2, some (.int x)] (.int x :: st) S P := rn_s dq_Weather_nextLevel_62 rfl rfl rfl
theorem dq_Weather_nextLevel_63 : decode (km_c mm_Weather_nextLevel) 63 = .ok (.ireturn, 1) := by decide +kernel
theorem sq_Weather_nextLevel_63 : rn G mm_Weather_nextLevel 63 lv [.int x] S P ↔ P (some (.int x)) S := rn_ir dq_Weather_nextLevel_63 rfl
theorem dq_Weather_nextLevel_64 : decode (km_c mm_Weather_nextLevel) 64 = .ok (.iinc 3 1, 3) := by decide +kernel
theorem sq_Weather_nextLevel_64n : rn G mm_Weather_nextLevel 64 [a0, a1, none, some (.int x)] st S P ↔ rn G mm_Weather_nextLevel 67 [a0, a1, none, some (.int (x + nI 1))] st S P := rn_s dq_Weather_nextLevel_64 rfl rfl rfl
theorem sq_Weather_nextLevel_64i : rn G mm_Weather_nextLevel 64 [a0, a1, some (.int x2), some (.int x)] st S P ↔ rn G mm_Weather_nextLevel 67 [a0, a1, some (.int x2), some (.int (x + nI 1))] st S P := rn_s dq_Weather_nextLevel_64 rfl rfl rfl
theorem sq_Weather_nextLevel_64r : rn G mm_Weather_nextLevel 64 [a0, a1, some (.ref z2), some (.int x)] st S P ↔ rn G mm_Weather_nextLevel 67 [a0, a1, some (.ref z2), some (.int (x + nI 1))] st S P := rn_s dq_Weather_nextLevel_64 rfl rfl rfl
theorem dq_Weather_nextLevel_67 : decode (km_c mm_Weather_nextLevel) 67 = .ok (.goto (-24), 3) := by decide +kernel
theorem sq_Weather_nextLevel_67 : rn G mm_Weather_nextLevel 67 lv st S P ↔ rn G mm_Weather_nextLevel 43 lv st S P := rn_s dq_Weather_nextLevel_67 rfl rfl rfl
theorem dq_Weather_nextLevel_70 : decode (km_c mm_Weather_nextLevel) 70 = .ok (.bipush 40, 2) := by decide +kernel
theorem sq_Weather_nextLevel_70 : rn G mm_Weather_nextLevel 70 lv st S P ↔ rn G mm_Weather_nextLevel 72 lv (.int (nI 40) :: st) S P := rn_s dq_Weather_nextLevel_70 rfl rfl rfl
theorem dq_Weather_nextLevel_72 : decode (km_c mm_Weather_nextLevel) 72 = .ok (.ireturn, 1) := by decide +kernel
theorem sq_Weather_nextLevel_72 : rn G mm_Weather_nextLevel 72 lv [.int x] S P ↔ P (some (.int x)) S := rn_ir dq_Weather_nextLevel_72 rfl
theorem dq_Weather_copy_0 : decode (km_c mm_Weather_copy) 0 = .ok (.aload_n 1, 1) := by decide +kernel
theorem sq_Weather_copy_0 : rn G mm_Weather_copy 0 [a0, some (.ref z)] st S P ↔ rn G mm_Weather_copy 1 [a0, some (.ref z)] (.ref z :: st) S P := rn_s dq_Weather_copy_0 rfl rfl rfl
theorem dq_Weather_copy_1 : decode (km_c mm_Weather_copy) 1 = .ok (.getfield 9, 3) := by decide +kernel
theorem sq_Weather_copy_1_14 (ho : sx_o o pl kp) : rn (lt_G o L) mm_Weather_copy 1 lv (.ref 14 :: st) (sx pl kp I A) P ↔ rn (lt_G o L) mm_Weather_copy 4 lv (.ref 15 :: st) (sx pl kp I A) P := rx_get (h := "") (ci := 7) (k := 0) dq_Weather_copy_1 (by decide +kernel) ho (up_b (by decide)) rfl rfl (fl_r (by decide) (by decide) (by decide) (by decide))
theorem sq_Weather_copy_1_149 (ho : sx_o o pl true) : rn (lt_G o L) mm_Weather_copy 1 lv (.ref 149 :: st) (sx pl true I A) P ↔ rn (lt_G o L) mm_Weather_copy 4 lv (.ref 150 :: st) (sx pl true I A) P := rx_get (h := "") (ci := 7) (k := 0) dq_Weather_copy_1 (by decide +kernel) ho (up_k (by decide) (by decide)) rfl rfl (fl_k (by decide) (by decide))
theorem dq_Weather_copy_4 : decode (km_c mm_Weather_copy) 4 = .ok (.iconst 0, 1) := by decide +kernel
theorem sq_Weather_copy_4 : rn G mm_Weather_copy 4 lv st S P ↔ rn G mm_Weather_copy 5 lv (.int (nI 0) :: st) S P := rn_s dq_Weather_copy_4 rfl rfl rfl
theorem dq_Weather_copy_5 : decode (km_c mm_Weather_copy) 5 = .ok (.aload_n 0, 1) := by decide +kernel
theorem sq_Weather_copy_5 : rn G mm_Weather_copy 5 [some (.ref z), a1] st S P ↔ rn G mm_Weather_copy 6 [some (.ref z), a1] (.ref z :: st) S P := rn_s dq_Weather_copy_5 rfl rfl rfl
theorem dq_Weather_copy_6 : decode (km_c mm_Weather_copy) 6 = .ok (.getfield 9, 3) := by decide +kernel
theorem sq_Weather_copy_6_14 (ho : sx_o o pl kp) : rn (lt_G o L) mm_Weather_copy 6 lv (.ref 14 :: st) (sx pl kp I A) P ↔ rn (lt_G o L) mm_Weather_copy 9 lv (.ref 15 :: st) (sx pl kp I A) P := rx_get (h := "") (ci := 7) (k := 0) dq_Weather_copy_6 (by decide +kernel) ho (up_b (by decide)) rfl rfl (fl_r (by decide) (by decide) (by decide) (by decide))
theorem sq_Weather_copy_6_149 (ho : sx_o o pl true) : rn (lt_G o L) mm_Weather_copy 6 lv (.ref 149 :: st) (sx pl true I A) P ↔ rn (lt_G o L) mm_Weather_copy 9 lv (.ref 150 :: st) (sx pl true I A) P := rx_get (h := "") (ci := 7) (k := 0) dq_Weather_copy_6 (by decide +kernel) ho (up_k (by decide) (by decide)) rfl rfl (fl_k (by decide) (by decide))
theorem dq_Weather_copy_9 : decode (km_c mm_Weather_copy) 9 = .ok (.iconst 0, 1) := by decide +kernel
theorem sq_Weather_copy_9 : rn G mm_Weather_copy 9 lv st S P ↔ rn G mm_Weather_copy 10 lv (.int (nI 0) :: st) S P := rn_s dq_Weather_copy_9 rfl rfl rfl
theorem dq_Weather_copy_10 : decode (km_c mm_Weather_copy) 10 = .ok (.bipush 41, 2) := by decide +kernel
theorem sq_Weather_copy_10 : rn G mm_Weather_copy 10 lv st S P ↔ rn G mm_Weather_copy 12 lv (.int (nI 41) :: st) S P := rn_s dq_Weather_copy_10 rfl rfl rfl
theorem dq_Weather_copy_12 : decode (km_c mm_Weather_copy) 12 = .ok (.invokestatic 19, 3) := by decide +kernel
theorem dq_Weather_copy_15 : decode (km_c mm_Weather_copy) 15 = .ok (.aload_n 0, 1) := by decide +kernel
theorem sq_Weather_copy_15 : rn G mm_Weather_copy 15 [some (.ref z), a1] st S P ↔ rn G mm_Weather_copy 16 [some (.ref z), a1] (.ref z :: st) S P := rn_s dq_Weather_copy_15 rfl rfl rfl
theorem dq_Weather_copy_16 : decode (km_c mm_Weather_copy) 16 = .ok (.aload_n 1, 1) := by decide +kernel
theorem sq_Weather_copy_16 : rn G mm_Weather_copy 16 [a0, some (.ref z)] st S P ↔ rn G mm_Weather_copy 17 [a0, some (.ref z)] (.ref z :: st) S P := rn_s dq_Weather_copy_16 rfl rfl rfl
theorem dq_Weather_copy_17 : decode (km_c mm_Weather_copy) 17 = .ok (.getfield 15, 3) := by decide +kernel
theorem sq_Weather_copy_17_14 (ho : sx_o o pl kp) : rn (lt_G o L) mm_Weather_copy 17 lv (.ref 14 :: st) (sx pl kp I A) P ↔ rn (lt_G o L) mm_Weather_copy 20 lv (.int (I 14 1) :: st) (sx pl kp I A) P := rx_get (h := "") (ci := 7) (k := 1) dq_Weather_copy_17 (by decide +kernel) ho (up_b (by decide)) rfl rfl (fl_i (by decide))
theorem sq_Weather_copy_17_149 (ho : sx_o o pl true) : rn (lt_G o L) mm_Weather_copy 17 lv (.ref 149 :: st) (sx pl true I A) P ↔ rn (lt_G o L) mm_Weather_copy 20 lv (.int (I 149 1) :: st) (sx pl true I A) P := rx_get (h := "") (ci := 7) (k := 1) dq_Weather_copy_17 (by decide +kernel) ho (up_k (by decide) (by decide)) rfl rfl (fl_i (by decide))
theorem dq_Weather_copy_20 : decode (km_c mm_Weather_copy) 20 = .ok (.putfield 15, 3) := by decide +kernel
theorem sq_Weather_copy_20_14 (ho : sx_o o pl kp) : rn (lt_G o L) mm_Weather_copy 20 lv (.int x :: .ref 14 :: st) (sx pl kp I A) P ↔ rn (lt_G o L) mm_Weather_copy 23 lv st (sx pl kp (u2 I 14 1 x) A) P := rx_put (h := "") (ci := 7) (k := 1) dq_Weather_copy_20 (by decide +kernel) ho (up_b (by decide)) rfl rfl (by decide) (by decide)
theorem sq_Weather_copy_20_149 (ho : sx_o o pl true) : rn (lt_G o L) mm_Weather_copy 20 lv (.int x :: .ref 149 :: st) (sx pl true I A) P ↔ rn (lt_G o L) mm_Weather_copy 23 lv st (sx pl true (u2 I 149 1 x) A) P := rx_put (h := "") (ci := 7) (k := 1) dq_Weather_copy_20 (by decide +kernel) ho (up_k (by decide) (by decide)) rfl rfl (by decide) (by decide)
theorem dq_Weather_copy_23 : decode (km_c mm_Weather_copy) 23 = .ok (.return_, 1) := by decide +kernel
theorem sq_Weather_copy_23 : rn G mm_Weather_copy 23 lv [] S P ↔ P none S := rn_vr dq_Weather_copy_23 rfl
theorem dq_World_init_0 : decode (km_c mm_World_init) 0 = .ok (.aload_n 0, 1) := by decide +kernel
theorem sq_World_init_0 : rn G mm_World_init 0 [some (.ref z)] st S P ↔ rn G mm_World_init 1 [some (.ref z)] (.ref z :: st) S P := rn_s dq_World_init_0 rfl rfl rfl
theorem dq_World_init_1 : decode (km_c mm_World_init) 1 = .ok (.invokespecial 3, 3) := by decide +kernel
theorem dq_World_init_4 : decode (km_c mm_World_init) 4 = .ok (.aload_n 0, 1) := by decide +kernel
theorem sq_World_init_4 : rn G mm_World_init 4 [some (.ref z)] st S P ↔ rn G mm_World_init 5 [some (.ref z)] (.ref z :: st) S P := rn_s dq_World_init_4 rfl rfl rfl
theorem dq_World_init_5 : decode (km_c mm_World_init) 5 = .ok (.new 9, 3) := by decide +kernel
theorem dq_World_init_8 : decode (km_c mm_World_init) 8 = .ok (.dup, 1) := by decide +kernel
theorem sq_World_init_8i : rn G mm_World_init 8 lv (.int x :: st) S P ↔ rn G mm_World_init 9 lv (.int x :: .int x :: st) S P := rn_s dq_World_init_8 rfl rfl rfl
theorem sq_World_init_8r : rn G mm_World_init 8 lv (.ref z :: st) S P ↔ rn G mm_World_init 9 lv (.ref z :: .ref z :: st) S P := rn_s dq_World_init_8 rfl rfl rfl
theorem dq_World_init_9 : decode (km_c mm_World_init) 9 = .ok (.invokespecial 11, 3) := by decide +kernel
theorem sq_World_init_9_2  {v : Option Value} {S2 : ks_S} (hc : ev (lt_G o L) mm_Ground_init [.ref 2] (sx pl kp I A) v S2) (ho : sx_o o pl kp) (hst : kx_cat st ≤ 8) : rn (lt_G o L) mm_World_init 9 lv (.ref 2 :: st) (sx pl kp I A) P ↔ rn (lt_G o L) mm_World_init 12 lv (v.toList ++ st) S2 P := rn_ci (k := 2) (host := "") (E' := mm_Ground_init) dq_World_init_9 (by decide) rfl (ok_v rfl (by decide) (by decide) (Nat.le_add_left _ _) hst (Nat.le_of_ble_eq_true rfl) (Or.inr (rc_v ho (up_b (by decide)) rfl))) rfl rfl hc
theorem sq_World_init_9_35  {v : Option Value} {S2 : ks_S} (hc : ev (lt_G o L) mm_Ground_init [.ref 35] (sx pl kp I A) v S2) (ho : sx_o o pl kp) (hst : kx_cat st ≤ 8) : rn (lt_G o L) mm_World_init 9 lv (.ref 35 :: st) (sx pl kp I A) P ↔ rn (lt_G o L) mm_World_init 12 lv (v.toList ++ st) S2 P := rn_ci (k := 2) (host := "") (E' := mm_Ground_init) dq_World_init_9 (by decide) rfl (ok_v rfl (by decide) (by decide) (Nat.le_add_left _ _) hst (Nat.le_of_ble_eq_true rfl) (Or.inr (rc_v ho (up_b (by decide)) rfl))) rfl rfl hc
theorem sq_World_init_9_137  {v : Option Value} {S2 : ks_S} (hc : ev (lt_G o L) mm_Ground_init [.ref 137] (sx pl true I A) v S2) (ho : sx_o o pl true) (hst : kx_cat st ≤ 8) : rn (lt_G o L) mm_World_init 9 lv (.ref 137 :: st) (sx pl true I A) P ↔ rn (lt_G o L) mm_World_init 12 lv (v.toList ++ st) S2 P := rn_ci (k := 2) (host := "") (E' := mm_Ground_init) dq_World_init_9 (by decide) rfl (ok_v rfl (by decide) (by decide) (Nat.le_add_left _ _) hst (Nat.le_of_ble_eq_true rfl) (Or.inr (rc_v ho (up_k (by decide) (by decide)) rfl))) rfl rfl hc
theorem dq_World_init_12 : decode (km_c mm_World_init) 12 = .ok (.putfield 12, 3) := by decide +kernel
theorem dq_World_init_15 : decode (km_c mm_World_init) 15 = .ok (.aload_n 0, 1) := by decide +kernel
theorem sq_World_init_15 : rn G mm_World_init 15 [some (.ref z)] st S P ↔ rn G mm_World_init 16 [some (.ref z)] (.ref z :: st) S P := rn_s dq_World_init_15 rfl rfl rfl
theorem dq_World_init_16 : decode (km_c mm_World_init) 16 = .ok (.new 18, 3) := by decide +kernel
theorem dq_World_init_19 : decode (km_c mm_World_init) 19 = .ok (.dup, 1) := by decide +kernel
theorem sq_World_init_19i : rn G mm_World_init 19 lv (.int x :: st) S P ↔ rn G mm_World_init 20 lv (.int x :: .int x :: st) S P := rn_s dq_World_init_19 rfl rfl rfl
theorem sq_World_init_19r : rn G mm_World_init 19 lv (.ref z :: st) S P ↔ rn G mm_World_init 20 lv (.ref z :: .ref z :: st) S P := rn_s dq_World_init_19 rfl rfl rfl
theorem dq_World_init_20 : decode (km_c mm_World_init) 20 = .ok (.invokespecial 20, 3) := by decide +kernel
theorem sq_World_init_20_9  {v : Option Value} {S2 : ks_S} (hc : ev (lt_G o L) mm_Villages_init [.ref 9] (sx pl kp I A) v S2) (ho : sx_o o pl kp) (hst : kx_cat st ≤ 8) : rn (lt_G o L) mm_World_init 20 lv (.ref 9 :: st) (sx pl kp I A) P ↔ rn (lt_G o L) mm_World_init 23 lv (v.toList ++ st) S2 P := rn_ci (k := 2) (host := "DeltaRoad") (E' := mm_Villages_init) dq_World_init_20 (by decide) rfl (ok_v rfl (by decide) (by decide) (Nat.le_add_left _ _) hst (Nat.le_of_ble_eq_true rfl) (Or.inr (rc_v ho (up_b (by decide)) rfl))) rfl rfl hc
theorem sq_World_init_20_42  {v : Option Value} {S2 : ks_S} (hc : ev (lt_G o L) mm_Villages_init [.ref 42] (sx pl kp I A) v S2) (ho : sx_o o pl kp) (hst : kx_cat st ≤ 8) : rn (lt_G o L) mm_World_init 20 lv (.ref 42 :: st) (sx pl kp I A) P ↔ rn (lt_G o L) mm_World_init 23 lv (v.toList ++ st) S2 P := rn_ci (k := 2) (host := "DeltaRoad") (E' := mm_Villages_init) dq_World_init_20 (by decide) rfl (ok_v rfl (by decide) (by decide) (Nat.le_add_left _ _) hst (Nat.le_of_ble_eq_true rfl) (Or.inr (rc_v ho (up_b (by decide)) rfl))) rfl rfl hc
theorem sq_World_init_20_144  {v : Option Value} {S2 : ks_S} (hc : ev (lt_G o L) mm_Villages_init [.ref 144] (sx pl true I A) v S2) (ho : sx_o o pl true) (hst : kx_cat st ≤ 8) : rn (lt_G o L) mm_World_init 20 lv (.ref 144 :: st) (sx pl true I A) P ↔ rn (lt_G o L) mm_World_init 23 lv (v.toList ++ st) S2 P := rn_ci (k := 2) (host := "DeltaRoad") (E' := mm_Villages_init) dq_World_init_20 (by decide) rfl (ok_v rfl (by decide) (by decide) (Nat.le_add_left _ _) hst (Nat.le_of_ble_eq_true rfl) (Or.inr (rc_v ho (up_k (by decide) (by decide)) rfl))) rfl rfl hc
theorem dq_World_init_23 : decode (km_c mm_World_init) 23 = .ok (.putfield 21, 3) := by decide +kernel
theorem dq_World_init_26 : decode (km_c mm_World_init) 26 = .ok (.aload_n 0, 1) := by decide +kernel
theorem sq_World_init_26 : rn G mm_World_init 26 [some (.ref z)] st S P ↔ rn G mm_World_init 27 [some (.ref z)] (.ref z :: st) S P := rn_s dq_World_init_26 rfl rfl rfl
theorem dq_World_init_27 : decode (km_c mm_World_init) 27 = .ok (.new 25, 3) := by decide +kernel
theorem dq_World_init_30 : decode (km_c mm_World_init) 30 = .ok (.dup, 1) := by decide +kernel
theorem sq_World_init_30i : rn G mm_World_init 30 lv (.int x :: st) S P ↔ rn G mm_World_init 31 lv (.int x :: .int x :: st) S P := rn_s dq_World_init_30 rfl rfl rfl
theorem sq_World_init_30r : rn G mm_World_init 30 lv (.ref z :: st) S P ↔ rn G mm_World_init 31 lv (.ref z :: .ref z :: st) S P := rn_s dq_World_init_30 rfl rfl rfl
theorem dq_World_init_31 : decode (km_c mm_World_init) 31 = .ok (.invokespecial 27, 3) := by decide +kernel
theorem sq_World_init_31_12  {v : Option Value} {S2 : ks_S} (hc : ev (lt_G o L) mm_Laid_init [.ref 12] (sx pl kp I A) v S2) (ho : sx_o o pl kp) (hst : kx_cat st ≤ 8) : rn (lt_G o L) mm_World_init 31 lv (.ref 12 :: st) (sx pl kp I A) P ↔ rn (lt_G o L) mm_World_init 34 lv (v.toList ++ st) S2 P := rn_ci (k := 2) (host := "DeltaRoad") (E' := mm_Laid_init) dq_World_init_31 (by decide) rfl (ok_v rfl (by decide) (by decide) (Nat.le_add_left _ _) hst (Nat.le_of_ble_eq_true rfl) (Or.inr (rc_v ho (up_b (by decide)) rfl))) rfl rfl hc
theorem sq_World_init_31_147  {v : Option Value} {S2 : ks_S} (hc : ev (lt_G o L) mm_Laid_init [.ref 147] (sx pl true I A) v S2) (ho : sx_o o pl true) (hst : kx_cat st ≤ 8) : rn (lt_G o L) mm_World_init 31 lv (.ref 147 :: st) (sx pl true I A) P ↔ rn (lt_G o L) mm_World_init 34 lv (v.toList ++ st) S2 P := rn_ci (k := 2) (host := "DeltaRoad") (E' := mm_Laid_init) dq_World_init_31 (by decide) rfl (ok_v rfl (by decide) (by decide) (Nat.le_add_left _ _) hst (Nat.le_of_ble_eq_true rfl) (Or.inr (rc_v ho (up_k (by decide) (by decide)) rfl))) rfl rfl hc
theorem dq_World_init_34 : decode (km_c mm_World_init) 34 = .ok (.putfield 28, 3) := by decide +kernel
theorem dq_World_init_37 : decode (km_c mm_World_init) 37 = .ok (.aload_n 0, 1) := by decide +kernel
theorem sq_World_init_37 : rn G mm_World_init 37 [some (.ref z)] st S P ↔ rn G mm_World_init 38 [some (.ref z)] (.ref z :: st) S P := rn_s dq_World_init_37 rfl rfl rfl
theorem dq_World_init_38 : decode (km_c mm_World_init) 38 = .ok (.new 32, 3) := by decide +kernel
theorem dq_World_init_41 : decode (km_c mm_World_init) 41 = .ok (.dup, 1) := by decide +kernel
theorem sq_World_init_41i : rn G mm_World_init 41 lv (.int x :: st) S P ↔ rn G mm_World_init 42 lv (.int x :: .int x :: st) S P := rn_s dq_World_init_41 rfl rfl rfl
theorem sq_World_init_41r : rn G mm_World_init 41 lv (.ref z :: st) S P ↔ rn G mm_World_init 42 lv (.ref z :: .ref z :: st) S P := rn_s dq_World_init_41 rfl rfl rfl
theorem dq_World_init_42 : decode (km_c mm_World_init) 42 = .ok (.invokespecial 34, 3) := by decide +kernel
theorem sq_World_init_42_14  {v : Option Value} {S2 : ks_S} (hc : ev (lt_G o L) mm_Weather_init [.ref 14] (sx pl kp I A) v S2) (ho : sx_o o pl kp) (hst : kx_cat st ≤ 8) : rn (lt_G o L) mm_World_init 42 lv (.ref 14 :: st) (sx pl kp I A) P ↔ rn (lt_G o L) mm_World_init 45 lv (v.toList ++ st) S2 P := rn_ci (k := 2) (host := "DeltaRoad") (E' := mm_Weather_init) dq_World_init_42 (by decide) rfl (ok_v rfl (by decide) (by decide) (Nat.le_add_left _ _) hst (Nat.le_of_ble_eq_true rfl) (Or.inr (rc_v ho (up_b (by decide)) rfl))) rfl rfl hc
theorem sq_World_init_42_149  {v : Option Value} {S2 : ks_S} (hc : ev (lt_G o L) mm_Weather_init [.ref 149] (sx pl true I A) v S2) (ho : sx_o o pl true) (hst : kx_cat st ≤ 8) : rn (lt_G o L) mm_World_init 42 lv (.ref 149 :: st) (sx pl true I A) P ↔ rn (lt_G o L) mm_World_init 45 lv (v.toList ++ st) S2 P := rn_ci (k := 2) (host := "DeltaRoad") (E' := mm_Weather_init) dq_World_init_42 (by decide) rfl (ok_v rfl (by decide) (by decide) (Nat.le_add_left _ _) hst (Nat.le_of_ble_eq_true rfl) (Or.inr (rc_v ho (up_k (by decide) (by decide)) rfl))) rfl rfl hc
theorem dq_World_init_45 : decode (km_c mm_World_init) 45 = .ok (.putfield 35, 3) := by decide +kernel
theorem dq_World_init_48 : decode (km_c mm_World_init) 48 = .ok (.aload_n 0, 1) := by decide +kernel
theorem sq_World_init_48 : rn G mm_World_init 48 [some (.ref z)] st S P ↔ rn G mm_World_init 49 [some (.ref z)] (.ref z :: st) S P := rn_s dq_World_init_48 rfl rfl rfl
theorem dq_World_init_49 : decode (km_c mm_World_init) 49 = .ok (.iconst 0, 1) := by decide +kernel
theorem sq_World_init_49 : rn G mm_World_init 49 lv st S P ↔ rn G mm_World_init 50 lv (.int (nI 0) :: st) S P := rn_s dq_World_init_49 rfl rfl rfl
theorem dq_World_init_50 : decode (km_c mm_World_init) 50 = .ok (.putfield 39, 3) := by decide +kernel
theorem sq_World_init_50_1 (ho : sx_o o pl kp) : rn (lt_G o L) mm_World_init 50 lv (.int x :: .ref 1 :: st) (sx pl kp I A) P ↔ rn (lt_G o L) mm_World_init 53 lv st (sx pl kp (u2 I 1 4 x) A) P := rx_put (h := "") (ci := 8) (k := 4) dq_World_init_50 (by decide +kernel) ho (up_b (by decide)) rfl rfl (by decide) (by decide)
theorem sq_World_init_50_136 (ho : sx_o o pl true) : rn (lt_G o L) mm_World_init 50 lv (.int x :: .ref 136 :: st) (sx pl true I A) P ↔ rn (lt_G o L) mm_World_init 53 lv st (sx pl true (u2 I 136 4 x) A) P := rx_put (h := "") (ci := 8) (k := 4) dq_World_init_50 (by decide +kernel) ho (up_k (by decide) (by decide)) rfl rfl (by decide) (by decide)
theorem dq_World_init_53 : decode (km_c mm_World_init) 53 = .ok (.aload_n 0, 1) := by decide +kernel
theorem sq_World_init_53 : rn G mm_World_init 53 [some (.ref z)] st S P ↔ rn G mm_World_init 54 [some (.ref z)] (.ref z :: st) S P := rn_s dq_World_init_53 rfl rfl rfl
theorem dq_World_init_54 : decode (km_c mm_World_init) 54 = .ok (.bipush 48, 2) := by decide +kernel
theorem sq_World_init_54 : rn G mm_World_init 54 lv st S P ↔ rn G mm_World_init 56 lv (.int (nI 48) :: st) S P := rn_s dq_World_init_54 rfl rfl rfl
theorem dq_World_init_56 : decode (km_c mm_World_init) 56 = .ok (.putfield 43, 3) := by decide +kernel
theorem sq_World_init_56_1 (ho : sx_o o pl kp) : rn (lt_G o L) mm_World_init 56 lv (.int x :: .ref 1 :: st) (sx pl kp I A) P ↔ rn (lt_G o L) mm_World_init 59 lv st (sx pl kp (u2 I 1 5 x) A) P := rx_put (h := "") (ci := 8) (k := 5) dq_World_init_56 (by decide +kernel) ho (up_b (by decide)) rfl rfl (by decide) (by decide)
theorem sq_World_init_56_136 (ho : sx_o o pl true) : rn (lt_G o L) mm_World_init 56 lv (.int x :: .ref 136 :: st) (sx pl true I A) P ↔ rn (lt_G o L) mm_World_init 59 lv st (sx pl true (u2 I 136 5 x) A) P := rx_put (h := "") (ci := 8) (k := 5) dq_World_init_56 (by decide +kernel) ho (up_k (by decide) (by decide)) rfl rfl (by decide) (by decide)
theorem dq_World_init_59 : decode (km_c mm_World_init) 59 = .ok (.return_, 1) := by decide +kernel
theorem sq_World_init_59 : rn G mm_World_init 59 lv [] S P ↔ P none S := rn_vr dq_World_init_59 rfl
theorem dq_World_copy_0 : decode (km_c mm_World_copy) 0 = .ok (.aload_n 0, 1) := by decide +kernel
theorem sq_World_copy_0 : rn G mm_World_copy 0 [some (.ref z), a1] st S P ↔ rn G mm_World_copy 1 [some (.ref z), a1] (.ref z :: st) S P := rn_s dq_World_copy_0 rfl rfl rfl
theorem dq_World_copy_1 : decode (km_c mm_World_copy) 1 = .ok (.getfield 12, 3) := by decide +kernel
theorem sq_World_copy_1_1 (ho : sx_o o pl kp) : rn (lt_G o L) mm_World_copy 1 lv (.ref 1 :: st) (sx pl kp I A) P ↔ rn (lt_G o L) mm_World_copy 4 lv (.ref 2 :: st) (sx pl kp I A) P := rx_get (h := "") (ci := 8) (k := 0) dq_World_copy_1 (by decide +kernel) ho (up_b (by decide)) rfl rfl (fl_r (by decide) (by decide) (by decide) (by decide))
theorem sq_World_copy_1_136 (ho : sx_o o pl true) : rn (lt_G o L) mm_World_copy 1 lv (.ref 136 :: st) (sx pl true I A) P ↔ rn (lt_G o L) mm_World_copy 4 lv (.ref 137 :: st) (sx pl true I A) P := rx_get (h := "") (ci := 8) (k := 0) dq_World_copy_1 (by decide +kernel) ho (up_k (by decide) (by decide)) rfl rfl (fl_k (by decide) (by decide))
theorem dq_World_copy_4 : decode (km_c mm_World_copy) 4 = .ok (.aload_n 1, 1) := by decide +kernel
theorem sq_World_copy_4 : rn G mm_World_copy 4 [a0, some (.ref z)] st S P ↔ rn G mm_World_copy 5 [a0, some (.ref z)] (.ref z :: st) S P := rn_s dq_World_copy_4 rfl rfl rfl
theorem dq_World_copy_5 : decode (km_c mm_World_copy) 5 = .ok (.getfield 12, 3) := by decide +kernel
theorem sq_World_copy_5_1 (ho : sx_o o pl kp) : rn (lt_G o L) mm_World_copy 5 lv (.ref 1 :: st) (sx pl kp I A) P ↔ rn (lt_G o L) mm_World_copy 8 lv (.ref 2 :: st) (sx pl kp I A) P := rx_get (h := "") (ci := 8) (k := 0) dq_World_copy_5 (by decide +kernel) ho (up_b (by decide)) rfl rfl (fl_r (by decide) (by decide) (by decide) (by decide))
theorem sq_World_copy_5_136 (ho : sx_o o pl true) : rn (lt_G o L) mm_World_copy 5 lv (.ref 136 :: st) (sx pl true I A) P ↔ rn (lt_G o L) mm_World_copy 8 lv (.ref 137 :: st) (sx pl true I A) P := rx_get (h := "") (ci := 8) (k := 0) dq_World_copy_5 (by decide +kernel) ho (up_k (by decide) (by decide)) rfl rfl (fl_k (by decide) (by decide))
theorem dq_World_copy_8 : decode (km_c mm_World_copy) 8 = .ok (.invokevirtual 46, 3) := by decide +kernel
theorem sq_World_copy_8_2 {z1 : Nat} {v : Option Value} {S2 : ks_S} (hc : ev (lt_G o L) mm_Ground_copy [.ref 2, .ref z1] (sx pl kp I A) v S2) (ho : sx_o o pl kp) (hst : kx_cat st ≤ 8) : rn (lt_G o L) mm_World_copy 8 lv (.ref z1 :: .ref 2 :: st) (sx pl kp I A) P ↔ rn (lt_G o L) mm_World_copy 11 lv (v.toList ++ st) S2 P := rn_cv (k := 0) (host := "") (E' := mm_Ground_copy) dq_World_copy_8 rfl (ok_v rfl (by decide) (by decide) (Nat.le_add_left _ _) hst (Nat.le_of_ble_eq_true rfl) (Or.inr (rc_v ho (up_b (by decide)) rfl))) rfl rfl hc
theorem sq_World_copy_8_35 {z1 : Nat} {v : Option Value} {S2 : ks_S} (hc : ev (lt_G o L) mm_Ground_copy [.ref 35, .ref z1] (sx pl kp I A) v S2) (ho : sx_o o pl kp) (hst : kx_cat st ≤ 8) : rn (lt_G o L) mm_World_copy 8 lv (.ref z1 :: .ref 35 :: st) (sx pl kp I A) P ↔ rn (lt_G o L) mm_World_copy 11 lv (v.toList ++ st) S2 P := rn_cv (k := 0) (host := "") (E' := mm_Ground_copy) dq_World_copy_8 rfl (ok_v rfl (by decide) (by decide) (Nat.le_add_left _ _) hst (Nat.le_of_ble_eq_true rfl) (Or.inr (rc_v ho (up_b (by decide)) rfl))) rfl rfl hc
theorem sq_World_copy_8_137 {z1 : Nat} {v : Option Value} {S2 : ks_S} (hc : ev (lt_G o L) mm_Ground_copy [.ref 137, .ref z1] (sx pl true I A) v S2) (ho : sx_o o pl true) (hst : kx_cat st ≤ 8) : rn (lt_G o L) mm_World_copy 8 lv (.ref z1 :: .ref 137 :: st) (sx pl true I A) P ↔ rn (lt_G o L) mm_World_copy 11 lv (v.toList ++ st) S2 P := rn_cv (k := 0) (host := "") (E' := mm_Ground_copy) dq_World_copy_8 rfl (ok_v rfl (by decide) (by decide) (Nat.le_add_left _ _) hst (Nat.le_of_ble_eq_true rfl) (Or.inr (rc_v ho (up_k (by decide) (by decide)) rfl))) rfl rfl hc
theorem dq_World_copy_11 : decode (km_c mm_World_copy) 11 = .ok (.aload_n 0, 1) := by decide +kernel
theorem sq_World_copy_11 : rn G mm_World_copy 11 [some (.ref z), a1] st S P ↔ rn G mm_World_copy 12 [some (.ref z), a1] (.ref z :: st) S P := rn_s dq_World_copy_11 rfl rfl rfl
theorem dq_World_copy_12 : decode (km_c mm_World_copy) 12 = .ok (.getfield 21, 3) := by decide +kernel
theorem sq_World_copy_12_1 (ho : sx_o o pl kp) : rn (lt_G o L) mm_World_copy 12 lv (.ref 1 :: st) (sx pl kp I A) P ↔ rn (lt_G o L) mm_World_copy 15 lv (.ref 9 :: st) (sx pl kp I A) P := rx_get (h := "") (ci := 8) (k := 1) dq_World_copy_12 (by decide +kernel) ho (up_b (by decide)) rfl rfl (fl_r (by decide) (by decide) (by decide) (by decide))
theorem sq_World_copy_12_136 (ho : sx_o o pl true) : rn (lt_G o L) mm_World_copy 12 lv (.ref 136 :: st) (sx pl true I A) P ↔ rn (lt_G o L) mm_World_copy 15 lv (.ref 144 :: st) (sx pl true I A) P := rx_get (h := "") (ci := 8) (k := 1) dq_World_copy_12 (by decide +kernel) ho (up_k (by decide) (by decide)) rfl rfl (fl_k (by decide) (by decide))
theorem dq_World_copy_15 : decode (km_c mm_World_copy) 15 = .ok (.aload_n 1, 1) := by decide +kernel
theorem sq_World_copy_15 : rn G mm_World_copy 15 [a0, some (.ref z)] st S P ↔ rn G mm_World_copy 16 [a0, some (.ref z)] (.ref z :: st) S P := rn_s dq_World_copy_15 rfl rfl rfl
theorem dq_World_copy_16 : decode (km_c mm_World_copy) 16 = .ok (.getfield 21, 3) := by decide +kernel
theorem sq_World_copy_16_1 (ho : sx_o o pl kp) : rn (lt_G o L) mm_World_copy 16 lv (.ref 1 :: st) (sx pl kp I A) P ↔ rn (lt_G o L) mm_World_copy 19 lv (.ref 9 :: st) (sx pl kp I A) P := rx_get (h := "") (ci := 8) (k := 1) dq_World_copy_16 (by decide +kernel) ho (up_b (by decide)) rfl rfl (fl_r (by decide) (by decide) (by decide) (by decide))
theorem sq_World_copy_16_136 (ho : sx_o o pl true) : rn (lt_G o L) mm_World_copy 16 lv (.ref 136 :: st) (sx pl true I A) P ↔ rn (lt_G o L) mm_World_copy 19 lv (.ref 144 :: st) (sx pl true I A) P := rx_get (h := "") (ci := 8) (k := 1) dq_World_copy_16 (by decide +kernel) ho (up_k (by decide) (by decide)) rfl rfl (fl_k (by decide) (by decide))
theorem dq_World_copy_19 : decode (km_c mm_World_copy) 19 = .ok (.invokevirtual 50, 3) := by decide +kernel
theorem sq_World_copy_19_9 {z1 : Nat} {v : Option Value} {S2 : ks_S} (hc : ev (lt_G o L) mm_Villages_copy [.ref 9, .ref z1] (sx pl kp I A) v S2) (ho : sx_o o pl kp) (hst : kx_cat st ≤ 8) : rn (lt_G o L) mm_World_copy 19 lv (.ref z1 :: .ref 9 :: st) (sx pl kp I A) P ↔ rn (lt_G o L) mm_World_copy 22 lv (v.toList ++ st) S2 P := rn_cv (k := 0) (host := "") (E' := mm_Villages_copy) dq_World_copy_19 rfl (ok_v rfl (by decide) (by decide) (Nat.le_add_left _ _) hst (Nat.le_of_ble_eq_true rfl) (Or.inr (rc_v ho (up_b (by decide)) rfl))) rfl rfl hc
theorem sq_World_copy_19_42 {z1 : Nat} {v : Option Value} {S2 : ks_S} (hc : ev (lt_G o L) mm_Villages_copy [.ref 42, .ref z1] (sx pl kp I A) v S2) (ho : sx_o o pl kp) (hst : kx_cat st ≤ 8) : rn (lt_G o L) mm_World_copy 19 lv (.ref z1 :: .ref 42 :: st) (sx pl kp I A) P ↔ rn (lt_G o L) mm_World_copy 22 lv (v.toList ++ st) S2 P := rn_cv (k := 0) (host := "") (E' := mm_Villages_copy) dq_World_copy_19 rfl (ok_v rfl (by decide) (by decide) (Nat.le_add_left _ _) hst (Nat.le_of_ble_eq_true rfl) (Or.inr (rc_v ho (up_b (by decide)) rfl))) rfl rfl hc
theorem sq_World_copy_19_144 {z1 : Nat} {v : Option Value} {S2 : ks_S} (hc : ev (lt_G o L) mm_Villages_copy [.ref 144, .ref z1] (sx pl true I A) v S2) (ho : sx_o o pl true) (hst : kx_cat st ≤ 8) : rn (lt_G o L) mm_World_copy 19 lv (.ref z1 :: .ref 144 :: st) (sx pl true I A) P ↔ rn (lt_G o L) mm_World_copy 22 lv (v.toList ++ st) S2 P := rn_cv (k := 0) (host := "") (E' := mm_Villages_copy) dq_World_copy_19 rfl (ok_v rfl (by decide) (by decide) (Nat.le_add_left _ _) hst (Nat.le_of_ble_eq_true rfl) (Or.inr (rc_v ho (up_k (by decide) (by decide)) rfl))) rfl rfl hc
theorem dq_World_copy_22 : decode (km_c mm_World_copy) 22 = .ok (.aload_n 0, 1) := by decide +kernel
theorem sq_World_copy_22 : rn G mm_World_copy 22 [some (.ref z), a1] st S P ↔ rn G mm_World_copy 23 [some (.ref z), a1] (.ref z :: st) S P := rn_s dq_World_copy_22 rfl rfl rfl
theorem dq_World_copy_23 : decode (km_c mm_World_copy) 23 = .ok (.getfield 28, 3) := by decide +kernel
theorem sq_World_copy_23_1 (ho : sx_o o pl kp) : rn (lt_G o L) mm_World_copy 23 lv (.ref 1 :: st) (sx pl kp I A) P ↔ rn (lt_G o L) mm_World_copy 26 lv (.ref 12 :: st) (sx pl kp I A) P := rx_get (h := "") (ci := 8) (k := 2) dq_World_copy_23 (by decide +kernel) ho (up_b (by decide)) rfl rfl (fl_r (by decide) (by decide) (by decide) (by decide))
theorem sq_World_copy_23_136 (ho : sx_o o pl true) : rn (lt_G o L) mm_World_copy 23 lv (.ref 136 :: st) (sx pl true I A) P ↔ rn (lt_G o L) mm_World_copy 26 lv (.ref 147 :: st) (sx pl true I A) P := rx_get (h := "") (ci := 8) (k := 2) dq_World_copy_23 (by decide +kernel) ho (up_k (by decide) (by decide)) rfl rfl (fl_k (by decide) (by decide))
theorem dq_World_copy_26 : decode (km_c mm_World_copy) 26 = .ok (.aload_n 1, 1) := by decide +kernel
theorem sq_World_copy_26 : rn G mm_World_copy 26 [a0, some (.ref z)] st S P ↔ rn G mm_World_copy 27 [a0, some (.ref z)] (.ref z :: st) S P := rn_s dq_World_copy_26 rfl rfl rfl
theorem dq_World_copy_27 : decode (km_c mm_World_copy) 27 = .ok (.getfield 28, 3) := by decide +kernel
theorem sq_World_copy_27_1 (ho : sx_o o pl kp) : rn (lt_G o L) mm_World_copy 27 lv (.ref 1 :: st) (sx pl kp I A) P ↔ rn (lt_G o L) mm_World_copy 30 lv (.ref 12 :: st) (sx pl kp I A) P := rx_get (h := "") (ci := 8) (k := 2) dq_World_copy_27 (by decide +kernel) ho (up_b (by decide)) rfl rfl (fl_r (by decide) (by decide) (by decide) (by decide))
theorem sq_World_copy_27_136 (ho : sx_o o pl true) : rn (lt_G o L) mm_World_copy 27 lv (.ref 136 :: st) (sx pl true I A) P ↔ rn (lt_G o L) mm_World_copy 30 lv (.ref 147 :: st) (sx pl true I A) P := rx_get (h := "") (ci := 8) (k := 2) dq_World_copy_27 (by decide +kernel) ho (up_k (by decide) (by decide)) rfl rfl (fl_k (by decide) (by decide))
theorem dq_World_copy_30 : decode (km_c mm_World_copy) 30 = .ok (.invokevirtual 53, 3) := by decide +kernel
theorem sq_World_copy_30_12 {z1 : Nat} {v : Option Value} {S2 : ks_S} (hc : ev (lt_G o L) mm_Laid_copy [.ref 12, .ref z1] (sx pl kp I A) v S2) (ho : sx_o o pl kp) (hst : kx_cat st ≤ 8) : rn (lt_G o L) mm_World_copy 30 lv (.ref z1 :: .ref 12 :: st) (sx pl kp I A) P ↔ rn (lt_G o L) mm_World_copy 33 lv (v.toList ++ st) S2 P := rn_cv (k := 0) (host := "") (E' := mm_Laid_copy) dq_World_copy_30 rfl (ok_v rfl (by decide) (by decide) (Nat.le_add_left _ _) hst (Nat.le_of_ble_eq_true rfl) (Or.inr (rc_v ho (up_b (by decide)) rfl))) rfl rfl hc
theorem sq_World_copy_30_147 {z1 : Nat} {v : Option Value} {S2 : ks_S} (hc : ev (lt_G o L) mm_Laid_copy [.ref 147, .ref z1] (sx pl true I A) v S2) (ho : sx_o o pl true) (hst : kx_cat st ≤ 8) : rn (lt_G o L) mm_World_copy 30 lv (.ref z1 :: .ref 147 :: st) (sx pl true I A) P ↔ rn (lt_G o L) mm_World_copy 33 lv (v.toList ++ st) S2 P := rn_cv (k := 0) (host := "") (E' := mm_Laid_copy) dq_World_copy_30 rfl (ok_v rfl (by decide) (by decide) (Nat.le_add_left _ _) hst (Nat.le_of_ble_eq_true rfl) (Or.inr (rc_v ho (up_k (by decide) (by decide)) rfl))) rfl rfl hc
theorem dq_World_copy_33 : decode (km_c mm_World_copy) 33 = .ok (.aload_n 0, 1) := by decide +kernel
theorem sq_World_copy_33 : rn G mm_World_copy 33 [some (.ref z), a1] st S P ↔ rn G mm_World_copy 34 [some (.ref z), a1] (.ref z :: st) S P := rn_s dq_World_copy_33 rfl rfl rfl
theorem dq_World_copy_34 : decode (km_c mm_World_copy) 34 = .ok (.getfield 35, 3) := by decide +kernel
theorem sq_World_copy_34_1 (ho : sx_o o pl kp) : rn (lt_G o L) mm_World_copy 34 lv (.ref 1 :: st) (sx pl kp I A) P ↔ rn (lt_G o L) mm_World_copy 37 lv (.ref 14 :: st) (sx pl kp I A) P := rx_get (h := "") (ci := 8) (k := 3) dq_World_copy_34 (by decide +kernel) ho (up_b (by decide)) rfl rfl (fl_r (by decide) (by decide) (by decide) (by decide))
theorem sq_World_copy_34_136 (ho : sx_o o pl true) : rn (lt_G o L) mm_World_copy 34 lv (.ref 136 :: st) (sx pl true I A) P ↔ rn (lt_G o L) mm_World_copy 37 lv (.ref 149 :: st) (sx pl true I A) P := rx_get (h := "") (ci := 8) (k := 3) dq_World_copy_34 (by decide +kernel) ho (up_k (by decide) (by decide)) rfl rfl (fl_k (by decide) (by decide))
theorem dq_World_copy_37 : decode (km_c mm_World_copy) 37 = .ok (.aload_n 1, 1) := by decide +kernel
theorem sq_World_copy_37 : rn G mm_World_copy 37 [a0, some (.ref z)] st S P ↔ rn G mm_World_copy 38 [a0, some (.ref z)] (.ref z :: st) S P := rn_s dq_World_copy_37 rfl rfl rfl
theorem dq_World_copy_38 : decode (km_c mm_World_copy) 38 = .ok (.getfield 35, 3) := by decide +kernel
theorem sq_World_copy_38_1 (ho : sx_o o pl kp) : rn (lt_G o L) mm_World_copy 38 lv (.ref 1 :: st) (sx pl kp I A) P ↔ rn (lt_G o L) mm_World_copy 41 lv (.ref 14 :: st) (sx pl kp I A) P := rx_get (h := "") (ci := 8) (k := 3) dq_World_copy_38 (by decide +kernel) ho (up_b (by decide)) rfl rfl (fl_r (by decide) (by decide) (by decide) (by decide))
theorem sq_World_copy_38_136 (ho : sx_o o pl true) : rn (lt_G o L) mm_World_copy 38 lv (.ref 136 :: st) (sx pl true I A) P ↔ rn (lt_G o L) mm_World_copy 41 lv (.ref 149 :: st) (sx pl true I A) P := rx_get (h := "") (ci := 8) (k := 3) dq_World_copy_38 (by decide +kernel) ho (up_k (by decide) (by decide)) rfl rfl (fl_k (by decide) (by decide))
theorem dq_World_copy_41 : decode (km_c mm_World_copy) 41 = .ok (.invokevirtual 56, 3) := by decide +kernel
theorem sq_World_copy_41_14 {z1 : Nat} {v : Option Value} {S2 : ks_S} (hc : ev (lt_G o L) mm_Weather_copy [.ref 14, .ref z1] (sx pl kp I A) v S2) (ho : sx_o o pl kp) (hst : kx_cat st ≤ 8) : rn (lt_G o L) mm_World_copy 41 lv (.ref z1 :: .ref 14 :: st) (sx pl kp I A) P ↔ rn (lt_G o L) mm_World_copy 44 lv (v.toList ++ st) S2 P := rn_cv (k := 0) (host := "") (E' := mm_Weather_copy) dq_World_copy_41 rfl (ok_v rfl (by decide) (by decide) (Nat.le_add_left _ _) hst (Nat.le_of_ble_eq_true rfl) (Or.inr (rc_v ho (up_b (by decide)) rfl))) rfl rfl hc
theorem sq_World_copy_41_149 {z1 : Nat} {v : Option Value} {S2 : ks_S} (hc : ev (lt_G o L) mm_Weather_copy [.ref 149, .ref z1] (sx pl true I A) v S2) (ho : sx_o o pl true) (hst : kx_cat st ≤ 8) : rn (lt_G o L) mm_World_copy 41 lv (.ref z1 :: .ref 149 :: st) (sx pl true I A) P ↔ rn (lt_G o L) mm_World_copy 44 lv (v.toList ++ st) S2 P := rn_cv (k := 0) (host := "") (E' := mm_Weather_copy) dq_World_copy_41 rfl (ok_v rfl (by decide) (by decide) (Nat.le_add_left _ _) hst (Nat.le_of_ble_eq_true rfl) (Or.inr (rc_v ho (up_k (by decide) (by decide)) rfl))) rfl rfl hc
theorem dq_World_copy_44 : decode (km_c mm_World_copy) 44 = .ok (.aload_n 0, 1) := by decide +kernel
theorem sq_World_copy_44 : rn G mm_World_copy 44 [some (.ref z), a1] st S P ↔ rn G mm_World_copy 45 [some (.ref z), a1] (.ref z :: st) S P := rn_s dq_World_copy_44 rfl rfl rfl
theorem dq_World_copy_45 : decode (km_c mm_World_copy) 45 = .ok (.aload_n 1, 1) := by decide +kernel
theorem sq_World_copy_45 : rn G mm_World_copy 45 [a0, some (.ref z)] st S P ↔ rn G mm_World_copy 46 [a0, some (.ref z)] (.ref z :: st) S P := rn_s dq_World_copy_45 rfl rfl rfl
theorem dq_World_copy_46 : decode (km_c mm_World_copy) 46 = .ok (.getfield 39, 3) := by decide +kernel
theorem sq_World_copy_46_1 (ho : sx_o o pl kp) : rn (lt_G o L) mm_World_copy 46 lv (.ref 1 :: st) (sx pl kp I A) P ↔ rn (lt_G o L) mm_World_copy 49 lv (.int (I 1 4) :: st) (sx pl kp I A) P := rx_get (h := "") (ci := 8) (k := 4) dq_World_copy_46 (by decide +kernel) ho (up_b (by decide)) rfl rfl (fl_i (by decide))
theorem sq_World_copy_46_136 (ho : sx_o o pl true) : rn (lt_G o L) mm_World_copy 46 lv (.ref 136 :: st) (sx pl true I A) P ↔ rn (lt_G o L) mm_World_copy 49 lv (.int (I 136 4) :: st) (sx pl true I A) P := rx_get (h := "") (ci := 8) (k := 4) dq_World_copy_46 (by decide +kernel) ho (up_k (by decide) (by decide)) rfl rfl (fl_i (by decide))
theorem dq_World_copy_49 : decode (km_c mm_World_copy) 49 = .ok (.putfield 39, 3) := by decide +kernel
theorem sq_World_copy_49_1 (ho : sx_o o pl kp) : rn (lt_G o L) mm_World_copy 49 lv (.int x :: .ref 1 :: st) (sx pl kp I A) P ↔ rn (lt_G o L) mm_World_copy 52 lv st (sx pl kp (u2 I 1 4 x) A) P := rx_put (h := "") (ci := 8) (k := 4) dq_World_copy_49 (by decide +kernel) ho (up_b (by decide)) rfl rfl (by decide) (by decide)
theorem sq_World_copy_49_136 (ho : sx_o o pl true) : rn (lt_G o L) mm_World_copy 49 lv (.int x :: .ref 136 :: st) (sx pl true I A) P ↔ rn (lt_G o L) mm_World_copy 52 lv st (sx pl true (u2 I 136 4 x) A) P := rx_put (h := "") (ci := 8) (k := 4) dq_World_copy_49 (by decide +kernel) ho (up_k (by decide) (by decide)) rfl rfl (by decide) (by decide)
theorem dq_World_copy_52 : decode (km_c mm_World_copy) 52 = .ok (.aload_n 0, 1) := by decide +kernel
theorem sq_World_copy_52 : rn G mm_World_copy 52 [some (.ref z), a1] st S P ↔ rn G mm_World_copy 53 [some (.ref z), a1] (.ref z :: st) S P := rn_s dq_World_copy_52 rfl rfl rfl
theorem dq_World_copy_53 : decode (km_c mm_World_copy) 53 = .ok (.aload_n 1, 1) := by decide +kernel
theorem sq_World_copy_53 : rn G mm_World_copy 53 [a0, some (.ref z)] st S P ↔ rn G mm_World_copy 54 [a0, some (.ref z)] (.ref z :: st) S P := rn_s dq_World_copy_53 rfl rfl rfl
theorem dq_World_copy_54 : decode (km_c mm_World_copy) 54 = .ok (.getfield 43, 3) := by decide +kernel
theorem sq_World_copy_54_1 (ho : sx_o o pl kp) : rn (lt_G o L) mm_World_copy 54 lv (.ref 1 :: st) (sx pl kp I A) P ↔ rn (lt_G o L) mm_World_copy 57 lv (.int (I 1 5) :: st) (sx pl kp I A) P := rx_get (h := "") (ci := 8) (k := 5) dq_World_copy_54 (by decide +kernel) ho (up_b (by decide)) rfl rfl (fl_i (by decide))
theorem sq_World_copy_54_136 (ho : sx_o o pl true) : rn (lt_G o L) mm_World_copy 54 lv (.ref 136 :: st) (sx pl true I A) P ↔ rn (lt_G o L) mm_World_copy 57 lv (.int (I 136 5) :: st) (sx pl true I A) P := rx_get (h := "") (ci := 8) (k := 5) dq_World_copy_54 (by decide +kernel) ho (up_k (by decide) (by decide)) rfl rfl (fl_i (by decide))
theorem dq_World_copy_57 : decode (km_c mm_World_copy) 57 = .ok (.putfield 43, 3) := by decide +kernel
theorem sq_World_copy_57_1 (ho : sx_o o pl kp) : rn (lt_G o L) mm_World_copy 57 lv (.int x :: .ref 1 :: st) (sx pl kp I A) P ↔ rn (lt_G o L) mm_World_copy 60 lv st (sx pl kp (u2 I 1 5 x) A) P := rx_put (h := "") (ci := 8) (k := 5) dq_World_copy_57 (by decide +kernel) ho (up_b (by decide)) rfl rfl (by decide) (by decide)
theorem sq_World_copy_57_136 (ho : sx_o o pl true) : rn (lt_G o L) mm_World_copy 57 lv (.int x :: .ref 136 :: st) (sx pl true I A) P ↔ rn (lt_G o L) mm_World_copy 60 lv st (sx pl true (u2 I 136 5 x) A) P := rx_put (h := "") (ci := 8) (k := 5) dq_World_copy_57 (by decide +kernel) ho (up_k (by decide) (by decide)) rfl rfl (by decide) (by decide)
theorem dq_World_copy_60 : decode (km_c mm_World_copy) 60 = .ok (.return_, 1) := by decide +kernel
theorem sq_World_copy_60 : rn G mm_World_copy 60 lv [] S P ↔ P none S := rn_vr dq_World_copy_60 rfl
theorem dq_Road_init_0 : decode (km_c mm_Road_init) 0 = .ok (.aload_n 0, 1) := by decide +kernel
theorem sq_Road_init_0 : rn G mm_Road_init 0 [some (.ref z)] st S P ↔ rn G mm_Road_init 1 [some (.ref z)] (.ref z :: st) S P := rn_s dq_Road_init_0 rfl rfl rfl
theorem dq_Road_init_1 : decode (km_c mm_Road_init) 1 = .ok (.invokespecial 1, 3) := by decide +kernel
theorem dq_Road_init_4 : decode (km_c mm_Road_init) 4 = .ok (.aload_n 0, 1) := by decide +kernel
theorem sq_Road_init_4 : rn G mm_Road_init 4 [some (.ref z)] st S P ↔ rn G mm_Road_init 5 [some (.ref z)] (.ref z :: st) S P := rn_s dq_Road_init_4 rfl rfl rfl
theorem dq_Road_init_5 : decode (km_c mm_Road_init) 5 = .ok (.new 7, 3) := by decide +kernel
theorem dq_Road_init_8 : decode (km_c mm_Road_init) 8 = .ok (.dup, 1) := by decide +kernel
theorem sq_Road_init_8i : rn G mm_Road_init 8 lv (.int x :: st) S P ↔ rn G mm_Road_init 9 lv (.int x :: .int x :: st) S P := rn_s dq_Road_init_8 rfl rfl rfl
theorem sq_Road_init_8r : rn G mm_Road_init 8 lv (.ref z :: st) S P ↔ rn G mm_Road_init 9 lv (.ref z :: .ref z :: st) S P := rn_s dq_Road_init_8 rfl rfl rfl
theorem dq_Road_init_9 : decode (km_c mm_Road_init) 9 = .ok (.invokespecial 9, 3) := by decide +kernel
theorem sq_Road_init_9_1  {v : Option Value} {S2 : ks_S} (hc : ev (lt_G o L) mm_World_init [.ref 1] (sx pl kp I A) v S2) (ho : sx_o o pl kp) (hst : kx_cat st ≤ 8) : rn (lt_G o L) mm_Road_init 9 lv (.ref 1 :: st) (sx pl kp I A) P ↔ rn (lt_G o L) mm_Road_init 12 lv (v.toList ++ st) S2 P := rn_ci (k := 2) (host := "DeltaRoad") (E' := mm_World_init) dq_Road_init_9 (by decide) rfl (ok_v rfl (by decide) (by decide) (Nat.le_add_left _ _) hst (Nat.le_of_ble_eq_true rfl) (Or.inr (rc_v ho (up_b (by decide)) rfl))) rfl rfl hc
theorem sq_Road_init_9_136  {v : Option Value} {S2 : ks_S} (hc : ev (lt_G o L) mm_World_init [.ref 136] (sx pl true I A) v S2) (ho : sx_o o pl true) (hst : kx_cat st ≤ 8) : rn (lt_G o L) mm_Road_init 9 lv (.ref 136 :: st) (sx pl true I A) P ↔ rn (lt_G o L) mm_Road_init 12 lv (v.toList ++ st) S2 P := rn_ci (k := 2) (host := "DeltaRoad") (E' := mm_World_init) dq_Road_init_9 (by decide) rfl (ok_v rfl (by decide) (by decide) (Nat.le_add_left _ _) hst (Nat.le_of_ble_eq_true rfl) (Or.inr (rc_v ho (up_k (by decide) (by decide)) rfl))) rfl rfl hc
theorem dq_Road_init_12 : decode (km_c mm_Road_init) 12 = .ok (.putfield 10, 3) := by decide +kernel
theorem dq_Road_init_15 : decode (km_c mm_Road_init) 15 = .ok (.aload_n 0, 1) := by decide +kernel
theorem sq_Road_init_15 : rn G mm_Road_init 15 [some (.ref z)] st S P ↔ rn G mm_Road_init 16 [some (.ref z)] (.ref z :: st) S P := rn_s dq_Road_init_15 rfl rfl rfl
theorem dq_Road_init_16 : decode (km_c mm_Road_init) 16 = .ok (.new 16, 3) := by decide +kernel
theorem dq_Road_init_19 : decode (km_c mm_Road_init) 19 = .ok (.dup, 1) := by decide +kernel
theorem sq_Road_init_19i : rn G mm_Road_init 19 lv (.int x :: st) S P ↔ rn G mm_Road_init 20 lv (.int x :: .int x :: st) S P := rn_s dq_Road_init_19 rfl rfl rfl
theorem sq_Road_init_19r : rn G mm_Road_init 19 lv (.ref z :: st) S P ↔ rn G mm_Road_init 20 lv (.ref z :: .ref z :: st) S P := rn_s dq_Road_init_19 rfl rfl rfl
theorem dq_Road_init_20 : decode (km_c mm_Road_init) 20 = .ok (.invokespecial 18, 3) := by decide +kernel
theorem sq_Road_init_20_16  {v : Option Value} {S2 : ks_S} (hc : ev (lt_G o L) mm_Water_init [.ref 16] (sx pl kp I A) v S2) (ho : sx_o o pl kp) (hst : kx_cat st ≤ 8) : rn (lt_G o L) mm_Road_init 20 lv (.ref 16 :: st) (sx pl kp I A) P ↔ rn (lt_G o L) mm_Road_init 23 lv (v.toList ++ st) S2 P := rn_ci (k := 2) (host := "DeltaRoad") (E' := mm_Water_init) dq_Road_init_20 (by decide) rfl (ok_v rfl (by decide) (by decide) (Nat.le_add_left _ _) hst (Nat.le_of_ble_eq_true rfl) (Or.inr (rc_v ho (up_b (by decide)) rfl))) rfl rfl hc
theorem sq_Road_init_20_20  {v : Option Value} {S2 : ks_S} (hc : ev (lt_G o L) mm_Water_init [.ref 20] (sx pl kp I A) v S2) (ho : sx_o o pl kp) (hst : kx_cat st ≤ 8) : rn (lt_G o L) mm_Road_init 20 lv (.ref 20 :: st) (sx pl kp I A) P ↔ rn (lt_G o L) mm_Road_init 23 lv (v.toList ++ st) S2 P := rn_ci (k := 2) (host := "DeltaRoad") (E' := mm_Water_init) dq_Road_init_20 (by decide) rfl (ok_v rfl (by decide) (by decide) (Nat.le_add_left _ _) hst (Nat.le_of_ble_eq_true rfl) (Or.inr (rc_v ho (up_b (by decide)) rfl))) rfl rfl hc
theorem dq_Road_init_23 : decode (km_c mm_Road_init) 23 = .ok (.putfield 19, 3) := by decide +kernel
theorem dq_Road_init_26 : decode (km_c mm_Road_init) 26 = .ok (.aload_n 0, 1) := by decide +kernel
theorem sq_Road_init_26 : rn G mm_Road_init 26 [some (.ref z)] st S P ↔ rn G mm_Road_init 27 [some (.ref z)] (.ref z :: st) S P := rn_s dq_Road_init_26 rfl rfl rfl
theorem dq_Road_init_27 : decode (km_c mm_Road_init) 27 = .ok (.new 16, 3) := by decide +kernel
theorem dq_Road_init_30 : decode (km_c mm_Road_init) 30 = .ok (.dup, 1) := by decide +kernel
theorem sq_Road_init_30i : rn G mm_Road_init 30 lv (.int x :: st) S P ↔ rn G mm_Road_init 31 lv (.int x :: .int x :: st) S P := rn_s dq_Road_init_30 rfl rfl rfl
theorem sq_Road_init_30r : rn G mm_Road_init 30 lv (.ref z :: st) S P ↔ rn G mm_Road_init 31 lv (.ref z :: .ref z :: st) S P := rn_s dq_Road_init_30 rfl rfl rfl
theorem dq_Road_init_31 : decode (km_c mm_Road_init) 31 = .ok (.invokespecial 18, 3) := by decide +kernel
theorem sq_Road_init_31_16  {v : Option Value} {S2 : ks_S} (hc : ev (lt_G o L) mm_Water_init [.ref 16] (sx pl kp I A) v S2) (ho : sx_o o pl kp) (hst : kx_cat st ≤ 8) : rn (lt_G o L) mm_Road_init 31 lv (.ref 16 :: st) (sx pl kp I A) P ↔ rn (lt_G o L) mm_Road_init 34 lv (v.toList ++ st) S2 P := rn_ci (k := 2) (host := "DeltaRoad") (E' := mm_Water_init) dq_Road_init_31 (by decide) rfl (ok_v rfl (by decide) (by decide) (Nat.le_add_left _ _) hst (Nat.le_of_ble_eq_true rfl) (Or.inr (rc_v ho (up_b (by decide)) rfl))) rfl rfl hc
theorem sq_Road_init_31_20  {v : Option Value} {S2 : ks_S} (hc : ev (lt_G o L) mm_Water_init [.ref 20] (sx pl kp I A) v S2) (ho : sx_o o pl kp) (hst : kx_cat st ≤ 8) : rn (lt_G o L) mm_Road_init 31 lv (.ref 20 :: st) (sx pl kp I A) P ↔ rn (lt_G o L) mm_Road_init 34 lv (v.toList ++ st) S2 P := rn_ci (k := 2) (host := "DeltaRoad") (E' := mm_Water_init) dq_Road_init_31 (by decide) rfl (ok_v rfl (by decide) (by decide) (Nat.le_add_left _ _) hst (Nat.le_of_ble_eq_true rfl) (Or.inr (rc_v ho (up_b (by decide)) rfl))) rfl rfl hc
theorem dq_Road_init_34 : decode (km_c mm_Road_init) 34 = .ok (.putfield 23, 3) := by decide +kernel
theorem dq_Road_init_37 : decode (km_c mm_Road_init) 37 = .ok (.aload_n 0, 1) := by decide +kernel
theorem sq_Road_init_37 : rn G mm_Road_init 37 [some (.ref z)] st S P ↔ rn G mm_Road_init 38 [some (.ref z)] (.ref z :: st) S P := rn_s dq_Road_init_37 rfl rfl rfl
theorem dq_Road_init_38 : decode (km_c mm_Road_init) 38 = .ok (.new 26, 3) := by decide +kernel
theorem dq_Road_init_41 : decode (km_c mm_Road_init) 41 = .ok (.dup, 1) := by decide +kernel
theorem sq_Road_init_41i : rn G mm_Road_init 41 lv (.int x :: st) S P ↔ rn G mm_Road_init 42 lv (.int x :: .int x :: st) S P := rn_s dq_Road_init_41 rfl rfl rfl
theorem sq_Road_init_41r : rn G mm_Road_init 41 lv (.ref z :: st) S P ↔ rn G mm_Road_init 42 lv (.ref z :: .ref z :: st) S P := rn_s dq_Road_init_41 rfl rfl rfl
theorem dq_Road_init_42 : decode (km_c mm_Road_init) 42 = .ok (.invokespecial 28, 3) := by decide +kernel
theorem sq_Road_init_42_24  {v : Option Value} {S2 : ks_S} (hc : ev (lt_G o L) mm_Tape_init [.ref 24] (sx pl kp I A) v S2) (ho : sx_o o pl kp) (hst : kx_cat st ≤ 8) : rn (lt_G o L) mm_Road_init 42 lv (.ref 24 :: st) (sx pl kp I A) P ↔ rn (lt_G o L) mm_Road_init 45 lv (v.toList ++ st) S2 P := rn_ci (k := 2) (host := "DeltaRoad") (E' := mm_Tape_init) dq_Road_init_42 (by decide) rfl (ok_v rfl (by decide) (by decide) (Nat.le_add_left _ _) hst (Nat.le_of_ble_eq_true rfl) (Or.inr (rc_v ho (up_b (by decide)) rfl))) rfl rfl hc
theorem dq_Road_init_45 : decode (km_c mm_Road_init) 45 = .ok (.putfield 29, 3) := by decide +kernel
theorem dq_Road_init_48 : decode (km_c mm_Road_init) 48 = .ok (.aload_n 0, 1) := by decide +kernel
theorem sq_Road_init_48 : rn G mm_Road_init 48 [some (.ref z)] st S P ↔ rn G mm_Road_init 49 [some (.ref z)] (.ref z :: st) S P := rn_s dq_Road_init_48 rfl rfl rfl
theorem dq_Road_init_49 : decode (km_c mm_Road_init) 49 = .ok (.new 33, 3) := by decide +kernel
theorem dq_Road_init_52 : decode (km_c mm_Road_init) 52 = .ok (.dup, 1) := by decide +kernel
theorem sq_Road_init_52i : rn G mm_Road_init 52 lv (.int x :: st) S P ↔ rn G mm_Road_init 53 lv (.int x :: .int x :: st) S P := rn_s dq_Road_init_52 rfl rfl rfl
theorem sq_Road_init_52r : rn G mm_Road_init 52 lv (.ref z :: st) S P ↔ rn G mm_Road_init 53 lv (.ref z :: .ref z :: st) S P := rn_s dq_Road_init_52 rfl rfl rfl
theorem dq_Road_init_53 : decode (km_c mm_Road_init) 53 = .ok (.invokespecial 35, 3) := by decide +kernel
theorem sq_Road_init_53_26  {v : Option Value} {S2 : ks_S} (hc : ev (lt_G o L) mm_Sheets_init [.ref 26] (sx pl kp I A) v S2) (ho : sx_o o pl kp) (hst : kx_cat st ≤ 8) : rn (lt_G o L) mm_Road_init 53 lv (.ref 26 :: st) (sx pl kp I A) P ↔ rn (lt_G o L) mm_Road_init 56 lv (v.toList ++ st) S2 P := rn_ci (k := 2) (host := "DeltaRoad") (E' := mm_Sheets_init) dq_Road_init_53 (by decide) rfl (ok_v rfl (by decide) (by decide) (Nat.le_add_left _ _) hst (Nat.le_of_ble_eq_true rfl) (Or.inr (rc_v ho (up_b (by decide)) rfl))) rfl rfl hc
theorem dq_Road_init_56 : decode (km_c mm_Road_init) 56 = .ok (.putfield 36, 3) := by decide +kernel
theorem dq_Road_init_59 : decode (km_c mm_Road_init) 59 = .ok (.aload_n 0, 1) := by decide +kernel
theorem sq_Road_init_59 : rn G mm_Road_init 59 [some (.ref z)] st S P ↔ rn G mm_Road_init 60 [some (.ref z)] (.ref z :: st) S P := rn_s dq_Road_init_59 rfl rfl rfl
theorem dq_Road_init_60 : decode (km_c mm_Road_init) 60 = .ok (.new 40, 3) := by decide +kernel
theorem dq_Road_init_63 : decode (km_c mm_Road_init) 63 = .ok (.dup, 1) := by decide +kernel
theorem sq_Road_init_63i : rn G mm_Road_init 63 lv (.int x :: st) S P ↔ rn G mm_Road_init 64 lv (.int x :: .int x :: st) S P := rn_s dq_Road_init_63 rfl rfl rfl
theorem sq_Road_init_63r : rn G mm_Road_init 63 lv (.ref z :: st) S P ↔ rn G mm_Road_init 64 lv (.ref z :: .ref z :: st) S P := rn_s dq_Road_init_63 rfl rfl rfl
theorem dq_Road_init_64 : decode (km_c mm_Road_init) 64 = .ok (.invokespecial 42, 3) := by decide +kernel
theorem sq_Road_init_64_2  {v : Option Value} {S2 : ks_S} (hc : ev (lt_G o L) mm_Ground_init [.ref 2] (sx pl kp I A) v S2) (ho : sx_o o pl kp) (hst : kx_cat st ≤ 8) : rn (lt_G o L) mm_Road_init 64 lv (.ref 2 :: st) (sx pl kp I A) P ↔ rn (lt_G o L) mm_Road_init 67 lv (v.toList ++ st) S2 P := rn_ci (k := 2) (host := "") (E' := mm_Ground_init) dq_Road_init_64 (by decide) rfl (ok_v rfl (by decide) (by decide) (Nat.le_add_left _ _) hst (Nat.le_of_ble_eq_true rfl) (Or.inr (rc_v ho (up_b (by decide)) rfl))) rfl rfl hc
theorem sq_Road_init_64_35  {v : Option Value} {S2 : ks_S} (hc : ev (lt_G o L) mm_Ground_init [.ref 35] (sx pl kp I A) v S2) (ho : sx_o o pl kp) (hst : kx_cat st ≤ 8) : rn (lt_G o L) mm_Road_init 64 lv (.ref 35 :: st) (sx pl kp I A) P ↔ rn (lt_G o L) mm_Road_init 67 lv (v.toList ++ st) S2 P := rn_ci (k := 2) (host := "") (E' := mm_Ground_init) dq_Road_init_64 (by decide) rfl (ok_v rfl (by decide) (by decide) (Nat.le_add_left _ _) hst (Nat.le_of_ble_eq_true rfl) (Or.inr (rc_v ho (up_b (by decide)) rfl))) rfl rfl hc
theorem sq_Road_init_64_137  {v : Option Value} {S2 : ks_S} (hc : ev (lt_G o L) mm_Ground_init [.ref 137] (sx pl true I A) v S2) (ho : sx_o o pl true) (hst : kx_cat st ≤ 8) : rn (lt_G o L) mm_Road_init 64 lv (.ref 137 :: st) (sx pl true I A) P ↔ rn (lt_G o L) mm_Road_init 67 lv (v.toList ++ st) S2 P := rn_ci (k := 2) (host := "") (E' := mm_Ground_init) dq_Road_init_64 (by decide) rfl (ok_v rfl (by decide) (by decide) (Nat.le_add_left _ _) hst (Nat.le_of_ble_eq_true rfl) (Or.inr (rc_v ho (up_k (by decide) (by decide)) rfl))) rfl rfl hc
theorem dq_Road_init_67 : decode (km_c mm_Road_init) 67 = .ok (.putfield 43, 3) := by decide +kernel
theorem dq_Road_init_70 : decode (km_c mm_Road_init) 70 = .ok (.aload_n 0, 1) := by decide +kernel
theorem sq_Road_init_70 : rn G mm_Road_init 70 [some (.ref z)] st S P ↔ rn G mm_Road_init 71 [some (.ref z)] (.ref z :: st) S P := rn_s dq_Road_init_70 rfl rfl rfl
theorem dq_Road_init_71 : decode (km_c mm_Road_init) 71 = .ok (.new 47, 3) := by decide +kernel
theorem dq_Road_init_74 : decode (km_c mm_Road_init) 74 = .ok (.dup, 1) := by decide +kernel
theorem sq_Road_init_74i : rn G mm_Road_init 74 lv (.int x :: st) S P ↔ rn G mm_Road_init 75 lv (.int x :: .int x :: st) S P := rn_s dq_Road_init_74 rfl rfl rfl
theorem sq_Road_init_74r : rn G mm_Road_init 74 lv (.ref z :: st) S P ↔ rn G mm_Road_init 75 lv (.ref z :: .ref z :: st) S P := rn_s dq_Road_init_74 rfl rfl rfl
theorem dq_Road_init_75 : decode (km_c mm_Road_init) 75 = .ok (.invokespecial 49, 3) := by decide +kernel
theorem sq_Road_init_75_9  {v : Option Value} {S2 : ks_S} (hc : ev (lt_G o L) mm_Villages_init [.ref 9] (sx pl kp I A) v S2) (ho : sx_o o pl kp) (hst : kx_cat st ≤ 8) : rn (lt_G o L) mm_Road_init 75 lv (.ref 9 :: st) (sx pl kp I A) P ↔ rn (lt_G o L) mm_Road_init 78 lv (v.toList ++ st) S2 P := rn_ci (k := 2) (host := "DeltaRoad") (E' := mm_Villages_init) dq_Road_init_75 (by decide) rfl (ok_v rfl (by decide) (by decide) (Nat.le_add_left _ _) hst (Nat.le_of_ble_eq_true rfl) (Or.inr (rc_v ho (up_b (by decide)) rfl))) rfl rfl hc
theorem sq_Road_init_75_42  {v : Option Value} {S2 : ks_S} (hc : ev (lt_G o L) mm_Villages_init [.ref 42] (sx pl kp I A) v S2) (ho : sx_o o pl kp) (hst : kx_cat st ≤ 8) : rn (lt_G o L) mm_Road_init 75 lv (.ref 42 :: st) (sx pl kp I A) P ↔ rn (lt_G o L) mm_Road_init 78 lv (v.toList ++ st) S2 P := rn_ci (k := 2) (host := "DeltaRoad") (E' := mm_Villages_init) dq_Road_init_75 (by decide) rfl (ok_v rfl (by decide) (by decide) (Nat.le_add_left _ _) hst (Nat.le_of_ble_eq_true rfl) (Or.inr (rc_v ho (up_b (by decide)) rfl))) rfl rfl hc
theorem sq_Road_init_75_144  {v : Option Value} {S2 : ks_S} (hc : ev (lt_G o L) mm_Villages_init [.ref 144] (sx pl true I A) v S2) (ho : sx_o o pl true) (hst : kx_cat st ≤ 8) : rn (lt_G o L) mm_Road_init 75 lv (.ref 144 :: st) (sx pl true I A) P ↔ rn (lt_G o L) mm_Road_init 78 lv (v.toList ++ st) S2 P := rn_ci (k := 2) (host := "DeltaRoad") (E' := mm_Villages_init) dq_Road_init_75 (by decide) rfl (ok_v rfl (by decide) (by decide) (Nat.le_add_left _ _) hst (Nat.le_of_ble_eq_true rfl) (Or.inr (rc_v ho (up_k (by decide) (by decide)) rfl))) rfl rfl hc
theorem dq_Road_init_78 : decode (km_c mm_Road_init) 78 = .ok (.putfield 50, 3) := by decide +kernel
theorem dq_Road_init_81 : decode (km_c mm_Road_init) 81 = .ok (.aload_n 0, 1) := by decide +kernel
theorem sq_Road_init_81 : rn G mm_Road_init 81 [some (.ref z)] st S P ↔ rn G mm_Road_init 82 [some (.ref z)] (.ref z :: st) S P := rn_s dq_Road_init_81 rfl rfl rfl
theorem dq_Road_init_82 : decode (km_c mm_Road_init) 82 = .ok (.aconst_null, 1) := by decide +kernel
theorem sq_Road_init_82 : rn G mm_Road_init 82 lv st S P ↔ rn G mm_Road_init 83 lv (.null :: st) S P := rn_s dq_Road_init_82 rfl rfl rfl
theorem dq_Road_init_83 : decode (km_c mm_Road_init) 83 = .ok (.putfield 54, 3) := by decide +kernel
theorem dq_Road_init_86 : decode (km_c mm_Road_init) 86 = .ok (.aload_n 0, 1) := by decide +kernel
theorem sq_Road_init_86 : rn G mm_Road_init 86 [some (.ref z)] st S P ↔ rn G mm_Road_init 87 [some (.ref z)] (.ref z :: st) S P := rn_s dq_Road_init_86 rfl rfl rfl
theorem dq_Road_init_87 : decode (km_c mm_Road_init) 87 = .ok (.aconst_null, 1) := by decide +kernel
theorem sq_Road_init_87 : rn G mm_Road_init 87 lv st S P ↔ rn G mm_Road_init 88 lv (.null :: st) S P := rn_s dq_Road_init_87 rfl rfl rfl
theorem dq_Road_init_88 : decode (km_c mm_Road_init) 88 = .ok (.putfield 57, 3) := by decide +kernel
theorem dq_Road_init_91 : decode (km_c mm_Road_init) 91 = .ok (.aload_n 0, 1) := by decide +kernel
theorem sq_Road_init_91 : rn G mm_Road_init 91 [some (.ref z)] st S P ↔ rn G mm_Road_init 92 [some (.ref z)] (.ref z :: st) S P := rn_s dq_Road_init_91 rfl rfl rfl
theorem dq_Road_init_92 : decode (km_c mm_Road_init) 92 = .ok (.iconst 0, 1) := by decide +kernel
theorem sq_Road_init_92 : rn G mm_Road_init 92 lv st S P ↔ rn G mm_Road_init 93 lv (.int (nI 0) :: st) S P := rn_s dq_Road_init_92 rfl rfl rfl
theorem dq_Road_init_93 : decode (km_c mm_Road_init) 93 = .ok (.putfield 61, 3) := by decide +kernel
theorem sq_Road_init_93_0 (ho : sx_o o pl kp) (hx : x = 0 ∨ x = 1) : rn (lt_G o L) mm_Road_init 93 lv (.int x :: .ref 0 :: st) (sx pl kp I A) P ↔ rn (lt_G o L) mm_Road_init 96 lv st (sx pl kp (u2 I 0 9 x) A) P := rx_putZ (h := "") (ci := 9) (k := 9) dq_Road_init_93 (by decide +kernel) ho (up_b (by decide)) rfl rfl (by decide) (by decide) hx
theorem dq_Road_init_96 : decode (km_c mm_Road_init) 96 = .ok (.aload_n 0, 1) := by decide +kernel
theorem sq_Road_init_96 : rn G mm_Road_init 96 [some (.ref z)] st S P ↔ rn G mm_Road_init 97 [some (.ref z)] (.ref z :: st) S P := rn_s dq_Road_init_96 rfl rfl rfl
theorem dq_Road_init_97 : decode (km_c mm_Road_init) 97 = .ok (.iconst 0, 1) := by decide +kernel
theorem sq_Road_init_97 : rn G mm_Road_init 97 lv st S P ↔ rn G mm_Road_init 98 lv (.int (nI 0) :: st) S P := rn_s dq_Road_init_97 rfl rfl rfl
theorem dq_Road_init_98 : decode (km_c mm_Road_init) 98 = .ok (.putfield 65, 3) := by decide +kernel
theorem sq_Road_init_98_0 (ho : sx_o o pl kp) (hx : x = 0 ∨ x = 1) : rn (lt_G o L) mm_Road_init 98 lv (.int x :: .ref 0 :: st) (sx pl kp I A) P ↔ rn (lt_G o L) mm_Road_init 101 lv st (sx pl kp (u2 I 0 10 x) A) P := rx_putZ (h := "") (ci := 9) (k := 10) dq_Road_init_98 (by decide +kernel) ho (up_b (by decide)) rfl rfl (by decide) (by decide) hx
theorem dq_Road_init_101 : decode (km_c mm_Road_init) 101 = .ok (.return_, 1) := by decide +kernel
theorem sq_Road_init_101 : rn G mm_Road_init 101 lv [] S P ↔ P none S := rn_vr dq_Road_init_101 rfl
theorem dq_Road_make_0 : decode (km_c mm_Road_make) 0 = .ok (.iload_n 1, 1) := by decide +kernel
theorem sq_Road_make_0 : rn G mm_Road_make 0 [a0, some (.int x), a2, a3, a4] st S P ↔ rn G mm_Road_make 1 [a0, some (.int x), a2, a3, a4] (.int x :: st) S P := rn_s dq_Road_make_0 rfl rfl rfl
theorem dq_Road_make_1 : decode (km_c mm_Road_make) 1 = .ok (.invokestatic 68, 3) := by decide +kernel
theorem sq_Road_make_1 {x1 : Int32} {v : Option Value} {S2 : ks_S} (hc : ev G mm_Road_noCell [.int x1] S v S2) (hst : kx_cat st ≤ 8) : rn G mm_Road_make 1 lv (.int x1 :: st) S P ↔ rn G mm_Road_make 4 lv (v.toList ++ st) S2 P := rn_cs (k := 1) (host := "") (E' := mm_Road_noCell) dq_Road_make_1 (by decide) (by decide) rfl (ok_v rfl (by decide) (by decide) (Nat.le_add_left _ _) hst (Nat.le_of_ble_eq_true rfl) (Or.inl rfl)) rfl rfl hc
theorem dq_Road_make_4 : decode (km_c mm_Road_make) 4 = .ok (.ifCond .ne 25, 3) := by decide +kernel
theorem sq_Road_make_4 : rn G mm_Road_make 4 lv (.int x :: st) S P ↔ ((¬ x = 0 → rn G mm_Road_make 29 lv st S P) ∧ (¬ (¬ x = 0) → rn G mm_Road_make 7 lv st S P)) := rn_b (off := 25) dq_Road_make_4 rfl rfl rfl rfl
theorem dq_Road_make_7 : decode (km_c mm_Road_make) 7 = .ok (.iload_n 2, 1) := by decide +kernel
theorem sq_Road_make_7 : rn G mm_Road_make 7 [a0, a1, some (.int x), a3, a4] st S P ↔ rn G mm_Road_make 8 [a0, a1, some (.int x), a3, a4] (.int x :: st) S P := rn_s dq_Road_make_7 rfl rfl rfl
theorem dq_Road_make_8 : decode (km_c mm_Road_make) 8 = .ok (.iconst 0, 1) := by decide +kernel
theorem sq_Road_make_8 : rn G mm_Road_make 8 lv st S P ↔ rn G mm_Road_make 9 lv (.int (nI 0) :: st) S P := rn_s dq_Road_make_8 rfl rfl rfl
theorem dq_Road_make_9 : decode (km_c mm_Road_make) 9 = .ok (.iconst 4, 1) := by decide +kernel
theorem sq_Road_make_9 : rn G mm_Road_make 9 lv st S P ↔ rn G mm_Road_make 10 lv (.int (nI 4) :: st) S P := rn_s dq_Road_make_9 rfl rfl rfl
theorem dq_Road_make_10 : decode (km_c mm_Road_make) 10 = .ok (.invokestatic 72, 3) := by decide +kernel
theorem sq_Road_make_10 {x1 : Int32} {x2 : Int32} {x3 : Int32} {v : Option Value} {S2 : ks_S} (hc : ev G mm_Road_outside [.int x1, .int x2, .int x3] S v S2) (hst : kx_cat st ≤ 8) : rn G mm_Road_make 10 lv (.int x3 :: .int x2 :: .int x1 :: st) S P ↔ rn G mm_Road_make 13 lv (v.toList ++ st) S2 P := rn_cs (k := 1) (host := "") (E' := mm_Road_outside) dq_Road_make_10 (by decide) (by decide) rfl (ok_v rfl (by decide) (by decide) (Nat.le_add_left _ _) hst (Nat.le_of_ble_eq_true rfl) (Or.inl rfl)) rfl rfl hc
theorem dq_Road_make_13 : decode (km_c mm_Road_make) 13 = .ok (.ifCond .ne 16, 3) := by decide +kernel
theorem sq_Road_make_13 : rn G mm_Road_make 13 lv (.int x :: st) S P ↔ ((¬ x = 0 → rn G mm_Road_make 29 lv st S P) ∧ (¬ (¬ x = 0) → rn G mm_Road_make 16 lv st S P)) := rn_b (off := 16) dq_Road_make_13 rfl rfl rfl rfl
theorem dq_Road_make_16 : decode (km_c mm_Road_make) 16 = .ok (.iload_n 3, 1) := by decide +kernel
theorem sq_Road_make_16 : rn G mm_Road_make 16 [a0, a1, a2, some (.int x), a4] st S P ↔ rn G mm_Road_make 17 [a0, a1, a2, some (.int x), a4] (.int x :: st) S P := rn_s dq_Road_make_16 rfl rfl rfl
theorem dq_Road_make_17 : decode (km_c mm_Road_make) 17 = .ok (.iconst 0, 1) := by decide +kernel
theorem sq_Road_make_17 : rn G mm_Road_make 17 lv st S P ↔ rn G mm_Road_make 18 lv (.int (nI 0) :: st) S P := rn_s dq_Road_make_17 rfl rfl rfl
theorem dq_Road_make_18 : decode (km_c mm_Road_make) 18 = .ok (.getstatic 76, 3) := by decide +kernel
theorem sq_Road_make_18 : rn (lt_G o L) mm_Road_make 18 lv st (sx pl kp I A) P ↔ rn (lt_G o L) mm_Road_make 21 lv (.ref 1000 :: st) (sx pl kp I A) P := rx_st (h := "") (k := 0) dq_Road_make_18 (by decide +kernel)
theorem dq_Road_make_21 : decode (km_c mm_Road_make) 21 = .ok (.iload_n 2, 1) := by decide +kernel
theorem sq_Road_make_21 : rn G mm_Road_make 21 [a0, a1, some (.int x), a3, a4] st S P ↔ rn G mm_Road_make 22 [a0, a1, some (.int x), a3, a4] (.int x :: st) S P := rn_s dq_Road_make_21 rfl rfl rfl
theorem dq_Road_make_22 : decode (km_c mm_Road_make) 22 = .ok (.iaload, 1) := by decide +kernel
theorem sq_Road_make_22 (ho : sx_o o pl kp) (hk : ak L a = 0) (hu : sx_up pl kp a = true ∨ 1000 ≤ a) (hc : c < ln L a) (hn : ln L a < 2 ^ 31) : rn (lt_G o L) mm_Road_make 22 lv (.int (nI c) :: .ref a :: st) (sx pl kp I A) P ↔ rn (lt_G o L) mm_Road_make 23 lv (.int (A a c) :: st) (sx pl kp I A) P := rx_ild dq_Road_make_22 ho hk hu hc hn
theorem dq_Road_make_23 : decode (km_c mm_Road_make) 23 = .ok (.invokestatic 72, 3) := by decide +kernel
theorem sq_Road_make_23 {x1 : Int32} {x2 : Int32} {x3 : Int32} {v : Option Value} {S2 : ks_S} (hc : ev G mm_Road_outside [.int x1, .int x2, .int x3] S v S2) (hst : kx_cat st ≤ 8) : rn G mm_Road_make 23 lv (.int x3 :: .int x2 :: .int x1 :: st) S P ↔ rn G mm_Road_make 26 lv (v.toList ++ st) S2 P := rn_cs (k := 1) (host := "") (E' := mm_Road_outside) dq_Road_make_23 (by decide) (by decide) rfl (ok_v rfl (by decide) (by decide) (Nat.le_add_left _ _) hst (Nat.le_of_ble_eq_true rfl) (Or.inl rfl)) rfl rfl hc
theorem dq_Road_make_26 : decode (km_c mm_Road_make) 26 = .ok (.ifCond .eq 5, 3) := by decide +kernel
theorem sq_Road_make_26 : rn G mm_Road_make 26 lv (.int x :: st) S P ↔ ((x = 0 → rn G mm_Road_make 31 lv st S P) ∧ (¬ (x = 0) → rn G mm_Road_make 29 lv st S P)) := rn_b (off := 5) dq_Road_make_26 rfl rfl rfl rfl
theorem dq_Road_make_29 : decode (km_c mm_Road_make) 29 = .ok (.iconst (-1), 1) := by decide +kernel
theorem sq_Road_make_29 : rn G mm_Road_make 29 lv st S P ↔ rn G mm_Road_make 30 lv (.int ((-1)) :: st) S P := rn_s dq_Road_make_29 rfl rfl rfl
theorem dq_Road_make_30 : decode (km_c mm_Road_make) 30 = .ok (.ireturn, 1) := by decide +kernel
theorem sq_Road_make_30 : rn G mm_Road_make 30 lv [.int x] S P ↔ P (some (.int x)) S := rn_ir dq_Road_make_30 rfl
theorem dq_Road_make_31 : decode (km_c mm_Road_make) 31 = .ok (.aload_n 0, 1) := by decide +kernel
theorem sq_Road_make_31 : rn G mm_Road_make 31 [some (.ref z), a1, a2, a3, a4] st S P ↔ rn G mm_Road_make 32 [some (.ref z), a1, a2, a3, a4] (.ref z :: st) S P := rn_s dq_Road_make_31 rfl rfl rfl
theorem dq_Road_make_32 : decode (km_c mm_Road_make) 32 = .ok (.getfield 10, 3) := by decide +kernel
theorem sq_Road_make_32_0 (ho : sx_o o pl kp) : rn (lt_G o L) mm_Road_make 32 lv (.ref 0 :: st) (sx pl kp I A) P ↔ rn (lt_G o L) mm_Road_make 35 lv (.ref 1 :: st) (sx pl kp I A) P := rx_get (h := "") (ci := 9) (k := 0) dq_Road_make_32 (by decide +kernel) ho (up_b (by decide)) rfl rfl (fl_r (by decide) (by decide) (by decide) (by decide))
theorem dq_Road_make_35 : decode (km_c mm_Road_make) 35 = .ok (.getfield 80, 3) := by decide +kernel
theorem sq_Road_make_35_1 (ho : sx_o o pl kp) : rn (lt_G o L) mm_Road_make 35 lv (.ref 1 :: st) (sx pl kp I A) P ↔ rn (lt_G o L) mm_Road_make 38 lv (.ref 2 :: st) (sx pl kp I A) P := rx_get (h := "DeltaRoad") (ci := 8) (k := 0) dq_Road_make_35 (by decide +kernel) ho (up_b (by decide)) rfl rfl (fl_r (by decide) (by decide) (by decide) (by decide))
theorem sq_Road_make_35_136 (ho : sx_o o pl true) : rn (lt_G o L) mm_Road_make 35 lv (.ref 136 :: st) (sx pl true I A) P ↔ rn (lt_G o L) mm_Road_make 38 lv (.ref 137 :: st) (sx pl true I A) P := rx_get (h := "DeltaRoad") (ci := 8) (k := 0) dq_Road_make_35 (by decide +kernel) ho (up_k (by decide) (by decide)) rfl rfl (fl_k (by decide) (by decide))
theorem dq_Road_make_38 : decode (km_c mm_Road_make) 38 = .ok (.getfield 83, 3) := by decide +kernel
theorem sq_Road_make_38_2 (ho : sx_o o pl kp) : rn (lt_G o L) mm_Road_make 38 lv (.ref 2 :: st) (sx pl kp I A) P ↔ rn (lt_G o L) mm_Road_make 41 lv (.ref 3 :: st) (sx pl kp I A) P := rx_get (h := "DeltaRoad") (ci := 0) (k := 0) dq_Road_make_38 (by decide +kernel) ho (up_b (by decide)) rfl rfl (fl_r (by decide) (by decide) (by decide) (by decide))
theorem sq_Road_make_38_35 (ho : sx_o o pl kp) : rn (lt_G o L) mm_Road_make 38 lv (.ref 35 :: st) (sx pl kp I A) P ↔ rn (lt_G o L) mm_Road_make 41 lv (.ref 36 :: st) (sx pl kp I A) P := rx_get (h := "DeltaRoad") (ci := 0) (k := 0) dq_Road_make_38 (by decide +kernel) ho (up_b (by decide)) rfl rfl (fl_r (by decide) (by decide) (by decide) (by decide))
theorem sq_Road_make_38_137 (ho : sx_o o pl true) : rn (lt_G o L) mm_Road_make 38 lv (.ref 137 :: st) (sx pl true I A) P ↔ rn (lt_G o L) mm_Road_make 41 lv (.ref 138 :: st) (sx pl true I A) P := rx_get (h := "DeltaRoad") (ci := 0) (k := 0) dq_Road_make_38 (by decide +kernel) ho (up_k (by decide) (by decide)) rfl rfl (fl_k (by decide) (by decide))
theorem dq_Road_make_41 : decode (km_c mm_Road_make) 41 = .ok (.iload_n 2, 1) := by decide +kernel
theorem sq_Road_make_41 : rn G mm_Road_make 41 [a0, a1, some (.int x), a3, a4] st S P ↔ rn G mm_Road_make 42 [a0, a1, some (.int x), a3, a4] (.int x :: st) S P := rn_s dq_Road_make_41 rfl rfl rfl
theorem dq_Road_make_42 : decode (km_c mm_Road_make) 42 = .ok (.aaload, 1) := by decide +kernel
theorem sq_Road_make_42 (ho : sx_o o pl kp) (hk : ak L a = 3) (hu : sx_up pl kp a = true) (hc : c < ln L a) (hn : ln L a < 2 ^ 31) : rn (lt_G o L) mm_Road_make 42 lv (.int (nI c) :: .ref a :: st) (sx pl kp I A) P ↔ rn (lt_G o L) mm_Road_make 43 lv (.ref (ab L a + c) :: st) (sx pl kp I A) P := rx_ald dq_Road_make_42 ho hk hu hc hn
theorem dq_Road_make_43 : decode (km_c mm_Road_make) 43 = .ok (.iload_n 1, 1) := by decide +kernel
theorem sq_Road_make_43 : rn G mm_Road_make 43 [a0, some (.int x), a2, a3, a4] st S P ↔ rn G mm_Road_make 44 [a0, some (.int x), a2, a3, a4] (.int x :: st) S P := rn_s dq_Road_make_43 rfl rfl rfl
theorem dq_Road_make_44 : decode (km_c mm_Road_make) 44 = .ok (.iaload, 1) := by decide +kernel
theorem sq_Road_make_44 (ho : sx_o o pl kp) (hk : ak L a = 0) (hu : sx_up pl kp a = true ∨ 1000 ≤ a) (hc : c < ln L a) (hn : ln L a < 2 ^ 31) : rn (lt_G o L) mm_Road_make 44 lv (.int (nI c) :: .ref a :: st) (sx pl kp I A) P ↔ rn (lt_G o L) mm_Road_make 45 lv (.int (A a c) :: st) (sx pl kp I A) P := rx_ild dq_Road_make_44 ho hk hu hc hn
theorem dq_Road_make_45 : decode (km_c mm_Road_make) 45 = .ok (.istore 4, 2) := by decide +kernel
theorem sq_Road_make_45n : rn G mm_Road_make 45 [a0, a1, a2, none, a4] (.int x :: st) S P ↔ rn G mm_Road_make 47 [a0, a1, a2, none, some (.int x)] st S P := rn_s dq_Road_make_45 rfl rfl rfl
theorem sq_Road_make_45i : rn G mm_Road_make 45 [a0, a1, a2, some (.int x2), a4] (.int x :: st) S P ↔ rn G mm_Road_make 47 [a0, a1, a2, some (.int x2), some (.int x)] st S P := rn_s dq_Road_make_45 rfl rfl rfl
theorem sq_Road_make_45r : rn G mm_Road_make 45 [a0, a1, a2, some (.ref z2), a4] (.int x :: st) S P ↔ rn G mm_Road_make 47 [a0, a1, a2, some (.ref z2), some (.int x)] st S P := rn_s dq_Road_make_45 rfl rfl rfl
theorem dq_Road_make_47 : decode (km_c mm_Road_make) 47 = .ok (.aload_n 0, 1) := by decide +kernel
theorem sq_Road_make_47 : rn G mm_Road_make 47 [some (.ref z), a1, a2, a3, a4] st S P ↔ rn G mm_Road_make 48 [some (.ref z), a1, a2, a3, a4] (.ref z :: st) S P := rn_s dq_Road_make_47 rfl rfl rfl
theorem dq_Road_make_48 : decode (km_c mm_Road_make) 48 = .ok (.getfield 10, 3) := by decide +kernel
theorem sq_Road_make_48_0 (ho : sx_o o pl kp) : rn (lt_G o L) mm_Road_make 48 lv (.ref 0 :: st) (sx pl kp I A) P ↔ rn (lt_G o L) mm_Road_make 51 lv (.ref 1 :: st) (sx pl kp I A) P := rx_get (h := "") (ci := 9) (k := 0) dq_Road_make_48 (by decide +kernel) ho (up_b (by decide)) rfl rfl (fl_r (by decide) (by decide) (by decide) (by decide))
theorem dq_Road_make_51 : decode (km_c mm_Road_make) 51 = .ok (.getfield 80, 3) := by decide +kernel
theorem sq_Road_make_51_1 (ho : sx_o o pl kp) : rn (lt_G o L) mm_Road_make 51 lv (.ref 1 :: st) (sx pl kp I A) P ↔ rn (lt_G o L) mm_Road_make 54 lv (.ref 2 :: st) (sx pl kp I A) P := rx_get (h := "DeltaRoad") (ci := 8) (k := 0) dq_Road_make_51 (by decide +kernel) ho (up_b (by decide)) rfl rfl (fl_r (by decide) (by decide) (by decide) (by decide))
theorem sq_Road_make_51_136 (ho : sx_o o pl true) : rn (lt_G o L) mm_Road_make 51 lv (.ref 136 :: st) (sx pl true I A) P ↔ rn (lt_G o L) mm_Road_make 54 lv (.ref 137 :: st) (sx pl true I A) P := rx_get (h := "DeltaRoad") (ci := 8) (k := 0) dq_Road_make_51 (by decide +kernel) ho (up_k (by decide) (by decide)) rfl rfl (fl_k (by decide) (by decide))
theorem dq_Road_make_54 : decode (km_c mm_Road_make) 54 = .ok (.getfield 83, 3) := by decide +kernel
theorem sq_Road_make_54_2 (ho : sx_o o pl kp) : rn (lt_G o L) mm_Road_make 54 lv (.ref 2 :: st) (sx pl kp I A) P ↔ rn (lt_G o L) mm_Road_make 57 lv (.ref 3 :: st) (sx pl kp I A) P := rx_get (h := "DeltaRoad") (ci := 0) (k := 0) dq_Road_make_54 (by decide +kernel) ho (up_b (by decide)) rfl rfl (fl_r (by decide) (by decide) (by decide) (by decide))
theorem sq_Road_make_54_35 (ho : sx_o o pl kp) : rn (lt_G o L) mm_Road_make 54 lv (.ref 35 :: st) (sx pl kp I A) P ↔ rn (lt_G o L) mm_Road_make 57 lv (.ref 36 :: st) (sx pl kp I A) P := rx_get (h := "DeltaRoad") (ci := 0) (k := 0) dq_Road_make_54 (by decide +kernel) ho (up_b (by decide)) rfl rfl (fl_r (by decide) (by decide) (by decide) (by decide))
theorem sq_Road_make_54_137 (ho : sx_o o pl true) : rn (lt_G o L) mm_Road_make 54 lv (.ref 137 :: st) (sx pl true I A) P ↔ rn (lt_G o L) mm_Road_make 57 lv (.ref 138 :: st) (sx pl true I A) P := rx_get (h := "DeltaRoad") (ci := 0) (k := 0) dq_Road_make_54 (by decide +kernel) ho (up_k (by decide) (by decide)) rfl rfl (fl_k (by decide) (by decide))
theorem dq_Road_make_57 : decode (km_c mm_Road_make) 57 = .ok (.iload_n 2, 1) := by decide +kernel
theorem sq_Road_make_57 : rn G mm_Road_make 57 [a0, a1, some (.int x), a3, a4] st S P ↔ rn G mm_Road_make 58 [a0, a1, some (.int x), a3, a4] (.int x :: st) S P := rn_s dq_Road_make_57 rfl rfl rfl
theorem dq_Road_make_58 : decode (km_c mm_Road_make) 58 = .ok (.aaload, 1) := by decide +kernel
theorem sq_Road_make_58 (ho : sx_o o pl kp) (hk : ak L a = 3) (hu : sx_up pl kp a = true) (hc : c < ln L a) (hn : ln L a < 2 ^ 31) : rn (lt_G o L) mm_Road_make 58 lv (.int (nI c) :: .ref a :: st) (sx pl kp I A) P ↔ rn (lt_G o L) mm_Road_make 59 lv (.ref (ab L a + c) :: st) (sx pl kp I A) P := rx_ald dq_Road_make_58 ho hk hu hc hn
theorem dq_Road_make_59 : decode (km_c mm_Road_make) 59 = .ok (.iload_n 1, 1) := by decide +kernel
theorem sq_Road_make_59 : rn G mm_Road_make 59 [a0, some (.int x), a2, a3, a4] st S P ↔ rn G mm_Road_make 60 [a0, some (.int x), a2, a3, a4] (.int x :: st) S P := rn_s dq_Road_make_59 rfl rfl rfl
theorem dq_Road_make_60 : decode (km_c mm_Road_make) 60 = .ok (.iload_n 3, 1) := by decide +kernel
theorem sq_Road_make_60 : rn G mm_Road_make 60 [a0, a1, a2, some (.int x), a4] st S P ↔ rn G mm_Road_make 61 [a0, a1, a2, some (.int x), a4] (.int x :: st) S P := rn_s dq_Road_make_60 rfl rfl rfl
theorem dq_Road_make_61 : decode (km_c mm_Road_make) 61 = .ok (.iastore, 1) := by decide +kernel
theorem sq_Road_make_61 (ho : sx_o o pl kp) (hk : ak L a = 0) (hu : sx_up pl kp a = true) (hc : c < ln L a) (hn : ln L a < 2 ^ 31) : rn (lt_G o L) mm_Road_make 61 lv (.int x :: .int (nI c) :: .ref a :: st) (sx pl kp I A) P ↔ rn (lt_G o L) mm_Road_make 62 lv st (sx pl kp I (u2 A a c x)) P := rx_ist dq_Road_make_61 ho hk hu hc hn
theorem dq_Road_make_62 : decode (km_c mm_Road_make) 62 = .ok (.aload_n 0, 1) := by decide +kernel
theorem sq_Road_make_62 : rn G mm_Road_make 62 [some (.ref z), a1, a2, a3, a4] st S P ↔ rn G mm_Road_make 63 [some (.ref z), a1, a2, a3, a4] (.ref z :: st) S P := rn_s dq_Road_make_62 rfl rfl rfl
theorem dq_Road_make_63 : decode (km_c mm_Road_make) 63 = .ok (.invokevirtual 87, 3) := by decide +kernel
theorem sq_Road_make_63_0  {v : Option Value} {S2 : ks_S} (hc : ev (lt_G o L) mm_Road_forget [.ref 0] (sx pl kp I A) v S2) (ho : sx_o o pl kp) (hst : kx_cat st ≤ 8) : rn (lt_G o L) mm_Road_make 63 lv (.ref 0 :: st) (sx pl kp I A) P ↔ rn (lt_G o L) mm_Road_make 66 lv (v.toList ++ st) S2 P := rn_cv (k := 0) (host := "") (E' := mm_Road_forget) dq_Road_make_63 rfl (ok_v rfl (by decide) (by decide) (Nat.le_add_left _ _) hst (Nat.le_of_ble_eq_true rfl) (Or.inr (rc_v ho (up_b (by decide)) rfl))) rfl rfl hc
theorem dq_Road_make_66 : decode (km_c mm_Road_make) 66 = .ok (.iload 4, 2) := by decide +kernel
theorem sq_Road_make_66 : rn G mm_Road_make 66 [a0, a1, a2, a3, some (.int x)] st S P ↔ rn G mm_Road_make 68 [a0, a1, a2, a3, some (.int x)] (.int x :: st) S P := rn_s dq_Road_make_66 rfl rfl rfl
theorem dq_Road_make_68 : decode (km_c mm_Road_make) 68 = .ok (.ireturn, 1) := by decide +kernel
theorem sq_Road_make_68 : rn G mm_Road_make 68 lv [.int x] S P ↔ P (some (.int x)) S := rn_ir dq_Road_make_68 rfl
theorem dq_Road_noCell_0 : decode (km_c mm_Road_noCell) 0 = .ok (.iload_n 0, 1) := by decide +kernel
theorem sq_Road_noCell_0 : rn G mm_Road_noCell 0 [some (.int x)] st S P ↔ rn G mm_Road_noCell 1 [some (.int x)] (.int x :: st) S P := rn_s dq_Road_noCell_0 rfl rfl rfl
theorem dq_Road_noCell_1 : decode (km_c mm_Road_noCell) 1 = .ok (.iconst 0, 1) := by decide +kernel
theorem sq_Road_noCell_1 : rn G mm_Road_noCell 1 lv st S P ↔ rn G mm_Road_noCell 2 lv (.int (nI 0) :: st) S P := rn_s dq_Road_noCell_1 rfl rfl rfl
theorem dq_Road_noCell_2 : decode (km_c mm_Road_noCell) 2 = .ok (.bipush 48, 2) := by decide +kernel
theorem sq_Road_noCell_2 : rn G mm_Road_noCell 2 lv st S P ↔ rn G mm_Road_noCell 4 lv (.int (nI 48) :: st) S P := rn_s dq_Road_noCell_2 rfl rfl rfl
theorem dq_Road_noCell_4 : decode (km_c mm_Road_noCell) 4 = .ok (.invokestatic 72, 3) := by decide +kernel
theorem sq_Road_noCell_4 {x1 : Int32} {x2 : Int32} {x3 : Int32} {v : Option Value} {S2 : ks_S} (hc : ev G mm_Road_outside [.int x1, .int x2, .int x3] S v S2) (hst : kx_cat st ≤ 8) : rn G mm_Road_noCell 4 lv (.int x3 :: .int x2 :: .int x1 :: st) S P ↔ rn G mm_Road_noCell 7 lv (v.toList ++ st) S2 P := rn_cs (k := 1) (host := "") (E' := mm_Road_outside) dq_Road_noCell_4 (by decide) (by decide) rfl (ok_v rfl (by decide) (by decide) (Nat.le_add_left _ _) hst (Nat.le_of_ble_eq_true rfl) (Or.inl rfl)) rfl rfl hc
theorem dq_Road_noCell_7 : decode (km_c mm_Road_noCell) 7 = .ok (.ireturn, 1) := by decide +kernel
theorem sq_Road_noCell_7_0 : rn G mm_Road_noCell 7 lv [.int (nI 0)] S P ↔ P (some (.int (nI 0))) S := rn_ir dq_Road_noCell_7 (by decide)
theorem sq_Road_noCell_7_1 : rn G mm_Road_noCell 7 lv [.int (nI 1)] S P ↔ P (some (.int (nI 1))) S := rn_ir dq_Road_noCell_7 (by decide)
theorem dq_Road_outside_0 : decode (km_c mm_Road_outside) 0 = .ok (.iload_n 0, 1) := by decide +kernel
theorem sq_Road_outside_0 : rn G mm_Road_outside 0 [some (.int x), a1, a2] st S P ↔ rn G mm_Road_outside 1 [some (.int x), a1, a2] (.int x :: st) S P := rn_s dq_Road_outside_0 rfl rfl rfl
theorem dq_Road_outside_1 : decode (km_c mm_Road_outside) 1 = .ok (.iload_n 1, 1) := by decide +kernel
theorem sq_Road_outside_1 : rn G mm_Road_outside 1 [a0, some (.int x), a2] st S P ↔ rn G mm_Road_outside 2 [a0, some (.int x), a2] (.int x :: st) S P := rn_s dq_Road_outside_1 rfl rfl rfl
theorem dq_Road_outside_2 : decode (km_c mm_Road_outside) 2 = .ok (.if_icmp .lt 8, 3) := by decide +kernel
theorem sq_Road_outside_2 : rn G mm_Road_outside 2 lv (.int x2 :: .int x :: st) S P ↔ ((x < x2 → rn G mm_Road_outside 10 lv st S P) ∧ (¬ (x < x2) → rn G mm_Road_outside 5 lv st S P)) := rn_b (off := 8) dq_Road_outside_2 rfl rfl rfl rfl
theorem dq_Road_outside_5 : decode (km_c mm_Road_outside) 5 = .ok (.iload_n 0, 1) := by decide +kernel
theorem sq_Road_outside_5 : rn G mm_Road_outside 5 [some (.int x), a1, a2] st S P ↔ rn G mm_Road_outside 6 [some (.int x), a1, a2] (.int x :: st) S P := rn_s dq_Road_outside_5 rfl rfl rfl
theorem dq_Road_outside_6 : decode (km_c mm_Road_outside) 6 = .ok (.iload_n 2, 1) := by decide +kernel
theorem sq_Road_outside_6 : rn G mm_Road_outside 6 [a0, a1, some (.int x)] st S P ↔ rn G mm_Road_outside 7 [a0, a1, some (.int x)] (.int x :: st) S P := rn_s dq_Road_outside_6 rfl rfl rfl
theorem dq_Road_outside_7 : decode (km_c mm_Road_outside) 7 = .ok (.if_icmp .le 7, 3) := by decide +kernel
theorem sq_Road_outside_7 : rn G mm_Road_outside 7 lv (.int x2 :: .int x :: st) S P ↔ ((x ≤ x2 → rn G mm_Road_outside 14 lv st S P) ∧ (¬ (x ≤ x2) → rn G mm_Road_outside 10 lv st S P)) := rn_b (off := 7) dq_Road_outside_7 rfl rfl rfl rfl
theorem dq_Road_outside_10 : decode (km_c mm_Road_outside) 10 = .ok (.iconst 1, 1) := by decide +kernel
theorem sq_Road_outside_10 : rn G mm_Road_outside 10 lv st S P ↔ rn G mm_Road_outside 11 lv (.int (nI 1) :: st) S P := rn_s dq_Road_outside_10 rfl rfl rfl
theorem dq_Road_outside_11 : decode (km_c mm_Road_outside) 11 = .ok (.goto 4, 3) := by decide +kernel
theorem sq_Road_outside_11 : rn G mm_Road_outside 11 lv st S P ↔ rn G mm_Road_outside 15 lv st S P := rn_s dq_Road_outside_11 rfl rfl rfl
theorem dq_Road_outside_14 : decode (km_c mm_Road_outside) 14 = .ok (.iconst 0, 1) := by decide +kernel
theorem sq_Road_outside_14 : rn G mm_Road_outside 14 lv st S P ↔ rn G mm_Road_outside 15 lv (.int (nI 0) :: st) S P := rn_s dq_Road_outside_14 rfl rfl rfl
theorem dq_Road_outside_15 : decode (km_c mm_Road_outside) 15 = .ok (.ireturn, 1) := by decide +kernel
theorem sq_Road_outside_15_0 : rn G mm_Road_outside 15 lv [.int (nI 0)] S P ↔ P (some (.int (nI 0))) S := rn_ir dq_Road_outside_15 (by decide)
theorem sq_Road_outside_15_1 : rn G mm_Road_outside 15 lv [.int (nI 1)] S P ↔ P (some (.int (nI 1))) S := rn_ir dq_Road_outside_15 (by decide)
theorem dq_Road_forget_0 : decode (km_c mm_Road_forget) 0 = .ok (.aload_n 0, 1) := by decide +kernel
theorem sq_Road_forget_0 : rn G mm_Road_forget 0 [some (.ref z)] st S P ↔ rn G mm_Road_forget 1 [some (.ref z)] (.ref z :: st) S P := rn_s dq_Road_forget_0 rfl rfl rfl
theorem dq_Road_forget_1 : decode (km_c mm_Road_forget) 1 = .ok (.iconst 0, 1) := by decide +kernel
theorem sq_Road_forget_1 : rn G mm_Road_forget 1 lv st S P ↔ rn G mm_Road_forget 2 lv (.int (nI 0) :: st) S P := rn_s dq_Road_forget_1 rfl rfl rfl
theorem dq_Road_forget_2 : decode (km_c mm_Road_forget) 2 = .ok (.putfield 61, 3) := by decide +kernel
theorem sq_Road_forget_2_0 (ho : sx_o o pl kp) (hx : x = 0 ∨ x = 1) : rn (lt_G o L) mm_Road_forget 2 lv (.int x :: .ref 0 :: st) (sx pl kp I A) P ↔ rn (lt_G o L) mm_Road_forget 5 lv st (sx pl kp (u2 I 0 9 x) A) P := rx_putZ (h := "") (ci := 9) (k := 9) dq_Road_forget_2 (by decide +kernel) ho (up_b (by decide)) rfl rfl (by decide) (by decide) hx
theorem dq_Road_forget_5 : decode (km_c mm_Road_forget) 5 = .ok (.aload_n 0, 1) := by decide +kernel
theorem sq_Road_forget_5 : rn G mm_Road_forget 5 [some (.ref z)] st S P ↔ rn G mm_Road_forget 6 [some (.ref z)] (.ref z :: st) S P := rn_s dq_Road_forget_5 rfl rfl rfl
theorem dq_Road_forget_6 : decode (km_c mm_Road_forget) 6 = .ok (.iconst 0, 1) := by decide +kernel
theorem sq_Road_forget_6 : rn G mm_Road_forget 6 lv st S P ↔ rn G mm_Road_forget 7 lv (.int (nI 0) :: st) S P := rn_s dq_Road_forget_6 rfl rfl rfl
theorem dq_Road_forget_7 : decode (km_c mm_Road_forget) 7 = .ok (.putfield 65, 3) := by decide +kernel
theorem sq_Road_forget_7_0 (ho : sx_o o pl kp) (hx : x = 0 ∨ x = 1) : rn (lt_G o L) mm_Road_forget 7 lv (.int x :: .ref 0 :: st) (sx pl kp I A) P ↔ rn (lt_G o L) mm_Road_forget 10 lv st (sx pl kp (u2 I 0 10 x) A) P := rx_putZ (h := "") (ci := 9) (k := 10) dq_Road_forget_7 (by decide +kernel) ho (up_b (by decide)) rfl rfl (by decide) (by decide) hx
theorem dq_Road_forget_10 : decode (km_c mm_Road_forget) 10 = .ok (.return_, 1) := by decide +kernel
theorem sq_Road_forget_10 : rn G mm_Road_forget 10 lv [] S P ↔ P none S := rn_vr dq_Road_forget_10 rfl
theorem dq_Road_told_0 : decode (km_c mm_Road_told) 0 = .ok (.iload_n 1, 1) := by decide +kernel
theorem sq_Road_told_0 : rn G mm_Road_told 0 [a0, some (.int x), a2] st S P ↔ rn G mm_Road_told 1 [a0, some (.int x), a2] (.int x :: st) S P := rn_s dq_Road_told_0 rfl rfl rfl
theorem dq_Road_told_1 : decode (km_c mm_Road_told) 1 = .ok (.invokestatic 68, 3) := by decide +kernel
theorem sq_Road_told_1 {x1 : Int32} {v : Option Value} {S2 : ks_S} (hc : ev G mm_Road_noCell [.int x1] S v S2) (hst : kx_cat st ≤ 8) : rn G mm_Road_told 1 lv (.int x1 :: st) S P ↔ rn G mm_Road_told 4 lv (v.toList ++ st) S2 P := rn_cs (k := 1) (host := "") (E' := mm_Road_noCell) dq_Road_told_1 (by decide) (by decide) rfl (ok_v rfl (by decide) (by decide) (Nat.le_add_left _ _) hst (Nat.le_of_ble_eq_true rfl) (Or.inl rfl)) rfl rfl hc
theorem dq_Road_told_4 : decode (km_c mm_Road_told) 4 = .ok (.ifCond .ne 13, 3) := by decide +kernel
theorem sq_Road_told_4 : rn G mm_Road_told 4 lv (.int x :: st) S P ↔ ((¬ x = 0 → rn G mm_Road_told 17 lv st S P) ∧ (¬ (¬ x = 0) → rn G mm_Road_told 7 lv st S P)) := rn_b (off := 13) dq_Road_told_4 rfl rfl rfl rfl
theorem dq_Road_told_7 : decode (km_c mm_Road_told) 7 = .ok (.iload_n 2, 1) := by decide +kernel
theorem sq_Road_told_7 : rn G mm_Road_told 7 [a0, a1, some (.int x)] st S P ↔ rn G mm_Road_told 8 [a0, a1, some (.int x)] (.int x :: st) S P := rn_s dq_Road_told_7 rfl rfl rfl
theorem dq_Road_told_8 : decode (km_c mm_Road_told) 8 = .ok (.iconst 0, 1) := by decide +kernel
theorem sq_Road_told_8 : rn G mm_Road_told 8 lv st S P ↔ rn G mm_Road_told 9 lv (.int (nI 0) :: st) S P := rn_s dq_Road_told_8 rfl rfl rfl
theorem dq_Road_told_9 : decode (km_c mm_Road_told) 9 = .ok (.bipush 7, 2) := by decide +kernel
theorem sq_Road_told_9 : rn G mm_Road_told 9 lv st S P ↔ rn G mm_Road_told 11 lv (.int (nI 7) :: st) S P := rn_s dq_Road_told_9 rfl rfl rfl
theorem dq_Road_told_11 : decode (km_c mm_Road_told) 11 = .ok (.invokestatic 72, 3) := by decide +kernel
theorem sq_Road_told_11 {x1 : Int32} {x2 : Int32} {x3 : Int32} {v : Option Value} {S2 : ks_S} (hc : ev G mm_Road_outside [.int x1, .int x2, .int x3] S v S2) (hst : kx_cat st ≤ 8) : rn G mm_Road_told 11 lv (.int x3 :: .int x2 :: .int x1 :: st) S P ↔ rn G mm_Road_told 14 lv (v.toList ++ st) S2 P := rn_cs (k := 1) (host := "") (E' := mm_Road_outside) dq_Road_told_11 (by decide) (by decide) rfl (ok_v rfl (by decide) (by decide) (Nat.le_add_left _ _) hst (Nat.le_of_ble_eq_true rfl) (Or.inl rfl)) rfl rfl hc
theorem dq_Road_told_14 : decode (km_c mm_Road_told) 14 = .ok (.ifCond .eq 5, 3) := by decide +kernel
theorem sq_Road_told_14 : rn G mm_Road_told 14 lv (.int x :: st) S P ↔ ((x = 0 → rn G mm_Road_told 19 lv st S P) ∧ (¬ (x = 0) → rn G mm_Road_told 17 lv st S P)) := rn_b (off := 5) dq_Road_told_14 rfl rfl rfl rfl
theorem dq_Road_told_17 : decode (km_c mm_Road_told) 17 = .ok (.iconst (-1), 1) := by decide +kernel
theorem sq_Road_told_17 : rn G mm_Road_told 17 lv st S P ↔ rn G mm_Road_told 18 lv (.int ((-1)) :: st) S P := rn_s dq_Road_told_17 rfl rfl rfl
theorem dq_Road_told_18 : decode (km_c mm_Road_told) 18 = .ok (.ireturn, 1) := by decide +kernel
theorem sq_Road_told_18 : rn G mm_Road_told 18 lv [.int x] S P ↔ P (some (.int x)) S := rn_ir dq_Road_told_18 rfl
theorem dq_Road_told_19 : decode (km_c mm_Road_told) 19 = .ok (.iload_n 2, 1) := by decide +kernel
theorem sq_Road_told_19 : rn G mm_Road_told 19 [a0, a1, some (.int x)] st S P ↔ rn G mm_Road_told 20 [a0, a1, some (.int x)] (.int x :: st) S P := rn_s dq_Road_told_19 rfl rfl rfl
theorem dq_Road_told_20 : decode (km_c mm_Road_told) 20 = .ok (.tableswitch 50 5 7 #[28, 38, 44], 28) := by decide +kernel
theorem dq_Road_told_48 : decode (km_c mm_Road_told) 48 = .ok (.aload_n 0, 1) := by decide +kernel
theorem sq_Road_told_48 : rn G mm_Road_told 48 [some (.ref z), a1, a2] st S P ↔ rn G mm_Road_told 49 [some (.ref z), a1, a2] (.ref z :: st) S P := rn_s dq_Road_told_48 rfl rfl rfl
theorem dq_Road_told_49 : decode (km_c mm_Road_told) 49 = .ok (.invokevirtual 90, 3) := by decide +kernel
theorem sq_Road_told_49_0  {v : Option Value} {S2 : ks_S} (hc : ev (lt_G o L) mm_Road_waterNow [.ref 0] (sx pl kp I A) v S2) (ho : sx_o o pl kp) (hst : kx_cat st ≤ 8) : rn (lt_G o L) mm_Road_told 49 lv (.ref 0 :: st) (sx pl kp I A) P ↔ rn (lt_G o L) mm_Road_told 52 lv (v.toList ++ st) S2 P := rn_cv (k := 0) (host := "") (E' := mm_Road_waterNow) dq_Road_told_49 rfl (ok_v rfl (by decide) (by decide) (Nat.le_add_left _ _) hst (Nat.le_of_ble_eq_true rfl) (Or.inr (rc_v ho (up_b (by decide)) rfl))) rfl rfl hc
theorem dq_Road_told_52 : decode (km_c mm_Road_told) 52 = .ok (.getfield 94, 3) := by decide +kernel
theorem sq_Road_told_52_16 (ho : sx_o o pl kp) : rn (lt_G o L) mm_Road_told 52 lv (.ref 16 :: st) (sx pl kp I A) P ↔ rn (lt_G o L) mm_Road_told 55 lv (.ref 17 :: st) (sx pl kp I A) P := rx_get (h := "DeltaRoad") (ci := 6) (k := 0) dq_Road_told_52 (by decide +kernel) ho (up_b (by decide)) rfl rfl (fl_r (by decide) (by decide) (by decide) (by decide))
theorem sq_Road_told_52_20 (ho : sx_o o pl kp) : rn (lt_G o L) mm_Road_told 52 lv (.ref 20 :: st) (sx pl kp I A) P ↔ rn (lt_G o L) mm_Road_told 55 lv (.ref 21 :: st) (sx pl kp I A) P := rx_get (h := "DeltaRoad") (ci := 6) (k := 0) dq_Road_told_52 (by decide +kernel) ho (up_b (by decide)) rfl rfl (fl_r (by decide) (by decide) (by decide) (by decide))
theorem dq_Road_told_55 : decode (km_c mm_Road_told) 55 = .ok (.iload_n 1, 1) := by decide +kernel
theorem sq_Road_told_55 : rn G mm_Road_told 55 [a0, some (.int x), a2] st S P ↔ rn G mm_Road_told 56 [a0, some (.int x), a2] (.int x :: st) S P := rn_s dq_Road_told_55 rfl rfl rfl
theorem dq_Road_told_56 : decode (km_c mm_Road_told) 56 = .ok (.iaload, 1) := by decide +kernel
theorem sq_Road_told_56 (ho : sx_o o pl kp) (hk : ak L a = 0) (hu : sx_up pl kp a = true ∨ 1000 ≤ a) (hc : c < ln L a) (hn : ln L a < 2 ^ 31) : rn (lt_G o L) mm_Road_told 56 lv (.int (nI c) :: .ref a :: st) (sx pl kp I A) P ↔ rn (lt_G o L) mm_Road_told 57 lv (.int (A a c) :: st) (sx pl kp I A) P := rx_ild dq_Road_told_56 ho hk hu hc hn
theorem dq_Road_told_57 : decode (km_c mm_Road_told) 57 = .ok (.ireturn, 1) := by decide +kernel
theorem sq_Road_told_57 : rn G mm_Road_told 57 lv [.int x] S P ↔ P (some (.int x)) S := rn_ir dq_Road_told_57 rfl
theorem dq_Road_told_58 : decode (km_c mm_Road_told) 58 = .ok (.aload_n 0, 1) := by decide +kernel
theorem sq_Road_told_58 : rn G mm_Road_told 58 [some (.ref z), a1, a2] st S P ↔ rn G mm_Road_told 59 [some (.ref z), a1, a2] (.ref z :: st) S P := rn_s dq_Road_told_58 rfl rfl rfl
theorem dq_Road_told_59 : decode (km_c mm_Road_told) 59 = .ok (.iload_n 1, 1) := by decide +kernel
theorem sq_Road_told_59 : rn G mm_Road_told 59 [a0, some (.int x), a2] st S P ↔ rn G mm_Road_told 60 [a0, some (.int x), a2] (.int x :: st) S P := rn_s dq_Road_told_59 rfl rfl rfl
theorem dq_Road_told_60 : decode (km_c mm_Road_told) 60 = .ok (.invokevirtual 97, 3) := by decide +kernel
theorem sq_Road_told_60_0 {x1 : Int32} {v : Option Value} {S2 : ks_S} (hc : ev (lt_G o L) mm_Road_costOf [.ref 0, .int x1] (sx pl kp I A) v S2) (ho : sx_o o pl kp) (hst : kx_cat st ≤ 8) : rn (lt_G o L) mm_Road_told 60 lv (.int x1 :: .ref 0 :: st) (sx pl kp I A) P ↔ rn (lt_G o L) mm_Road_told 63 lv (v.toList ++ st) S2 P := rn_cv (k := 0) (host := "") (E' := mm_Road_costOf) dq_Road_told_60 rfl (ok_v rfl (by decide) (by decide) (Nat.le_add_left _ _) hst (Nat.le_of_ble_eq_true rfl) (Or.inr (rc_v ho (up_b (by decide)) rfl))) rfl rfl hc
theorem dq_Road_told_63 : decode (km_c mm_Road_told) 63 = .ok (.ireturn, 1) := by decide +kernel
theorem sq_Road_told_63 : rn G mm_Road_told 63 lv [.int x] S P ↔ P (some (.int x)) S := rn_ir dq_Road_told_63 rfl
theorem dq_Road_told_64 : decode (km_c mm_Road_told) 64 = .ok (.aload_n 0, 1) := by decide +kernel
theorem sq_Road_told_64 : rn G mm_Road_told 64 [some (.ref z), a1, a2] st S P ↔ rn G mm_Road_told 65 [some (.ref z), a1, a2] (.ref z :: st) S P := rn_s dq_Road_told_64 rfl rfl rfl
theorem dq_Road_told_65 : decode (km_c mm_Road_told) 65 = .ok (.iload_n 1, 1) := by decide +kernel
theorem sq_Road_told_65 : rn G mm_Road_told 65 [a0, some (.int x), a2] st S P ↔ rn G mm_Road_told 66 [a0, some (.int x), a2] (.int x :: st) S P := rn_s dq_Road_told_65 rfl rfl rfl
theorem dq_Road_told_66 : decode (km_c mm_Road_told) 66 = .ok (.invokevirtual 101, 3) := by decide +kernel
theorem sq_Road_told_66_0 {x1 : Int32} {v : Option Value} {S2 : ks_S} (hc : ev (lt_G o L) mm_Road_bearingOf [.ref 0, .int x1] (sx pl kp I A) v S2) (ho : sx_o o pl kp) (hst : kx_cat st ≤ 8) : rn (lt_G o L) mm_Road_told 66 lv (.int x1 :: .ref 0 :: st) (sx pl kp I A) P ↔ rn (lt_G o L) mm_Road_told 69 lv (v.toList ++ st) S2 P := rn_cv (k := 0) (host := "") (E' := mm_Road_bearingOf) dq_Road_told_66 rfl (ok_v rfl (by decide) (by decide) (Nat.le_add_left _ _) hst (Nat.le_of_ble_eq_true rfl) (Or.inr (rc_v ho (up_b (by decide)) rfl))) rfl rfl hc
theorem dq_Road_told_69 : decode (km_c mm_Road_told) 69 = .ok (.ireturn, 1) := by decide +kernel
theorem sq_Road_told_69 : rn G mm_Road_told 69 lv [.int x] S P ↔ P (some (.int x)) S := rn_ir dq_Road_told_69 rfl
theorem dq_Road_told_70 : decode (km_c mm_Road_told) 70 = .ok (.aload_n 0, 1) := by decide +kernel
theorem sq_Road_told_70 : rn G mm_Road_told 70 [some (.ref z), a1, a2] st S P ↔ rn G mm_Road_told 71 [some (.ref z), a1, a2] (.ref z :: st) S P := rn_s dq_Road_told_70 rfl rfl rfl
theorem dq_Road_told_71 : decode (km_c mm_Road_told) 71 = .ok (.getfield 10, 3) := by decide +kernel
theorem sq_Road_told_71_0 (ho : sx_o o pl kp) : rn (lt_G o L) mm_Road_told 71 lv (.ref 0 :: st) (sx pl kp I A) P ↔ rn (lt_G o L) mm_Road_told 74 lv (.ref 1 :: st) (sx pl kp I A) P := rx_get (h := "") (ci := 9) (k := 0) dq_Road_told_71 (by decide +kernel) ho (up_b (by decide)) rfl rfl (fl_r (by decide) (by decide) (by decide) (by decide))
theorem dq_Road_told_74 : decode (km_c mm_Road_told) 74 = .ok (.getfield 80, 3) := by decide +kernel
theorem sq_Road_told_74_1 (ho : sx_o o pl kp) : rn (lt_G o L) mm_Road_told 74 lv (.ref 1 :: st) (sx pl kp I A) P ↔ rn (lt_G o L) mm_Road_told 77 lv (.ref 2 :: st) (sx pl kp I A) P := rx_get (h := "DeltaRoad") (ci := 8) (k := 0) dq_Road_told_74 (by decide +kernel) ho (up_b (by decide)) rfl rfl (fl_r (by decide) (by decide) (by decide) (by decide))
theorem sq_Road_told_74_136 (ho : sx_o o pl true) : rn (lt_G o L) mm_Road_told 74 lv (.ref 136 :: st) (sx pl true I A) P ↔ rn (lt_G o L) mm_Road_told 77 lv (.ref 137 :: st) (sx pl true I A) P := rx_get (h := "DeltaRoad") (ci := 8) (k := 0) dq_Road_told_74 (by decide +kernel) ho (up_k (by decide) (by decide)) rfl rfl (fl_k (by decide) (by decide))
theorem dq_Road_told_77 : decode (km_c mm_Road_told) 77 = .ok (.getfield 83, 3) := by decide +kernel
theorem sq_Road_told_77_2 (ho : sx_o o pl kp) : rn (lt_G o L) mm_Road_told 77 lv (.ref 2 :: st) (sx pl kp I A) P ↔ rn (lt_G o L) mm_Road_told 80 lv (.ref 3 :: st) (sx pl kp I A) P := rx_get (h := "DeltaRoad") (ci := 0) (k := 0) dq_Road_told_77 (by decide +kernel) ho (up_b (by decide)) rfl rfl (fl_r (by decide) (by decide) (by decide) (by decide))
theorem sq_Road_told_77_35 (ho : sx_o o pl kp) : rn (lt_G o L) mm_Road_told 77 lv (.ref 35 :: st) (sx pl kp I A) P ↔ rn (lt_G o L) mm_Road_told 80 lv (.ref 36 :: st) (sx pl kp I A) P := rx_get (h := "DeltaRoad") (ci := 0) (k := 0) dq_Road_told_77 (by decide +kernel) ho (up_b (by decide)) rfl rfl (fl_r (by decide) (by decide) (by decide) (by decide))
theorem sq_Road_told_77_137 (ho : sx_o o pl true) : rn (lt_G o L) mm_Road_told 77 lv (.ref 137 :: st) (sx pl true I A) P ↔ rn (lt_G o L) mm_Road_told 80 lv (.ref 138 :: st) (sx pl true I A) P := rx_get (h := "DeltaRoad") (ci := 0) (k := 0) dq_Road_told_77 (by decide +kernel) ho (up_k (by decide) (by decide)) rfl rfl (fl_k (by decide) (by decide))
theorem dq_Road_told_80 : decode (km_c mm_Road_told) 80 = .ok (.iload_n 2, 1) := by decide +kernel
theorem sq_Road_told_80 : rn G mm_Road_told 80 [a0, a1, some (.int x)] st S P ↔ rn G mm_Road_told 81 [a0, a1, some (.int x)] (.int x :: st) S P := rn_s dq_Road_told_80 rfl rfl rfl
theorem dq_Road_told_81 : decode (km_c mm_Road_told) 81 = .ok (.aaload, 1) := by decide +kernel
theorem sq_Road_told_81 (ho : sx_o o pl kp) (hk : ak L a = 3) (hu : sx_up pl kp a = true) (hc : c < ln L a) (hn : ln L a < 2 ^ 31) : rn (lt_G o L) mm_Road_told 81 lv (.int (nI c) :: .ref a :: st) (sx pl kp I A) P ↔ rn (lt_G o L) mm_Road_told 82 lv (.ref (ab L a + c) :: st) (sx pl kp I A) P := rx_ald dq_Road_told_81 ho hk hu hc hn
theorem dq_Road_told_82 : decode (km_c mm_Road_told) 82 = .ok (.iload_n 1, 1) := by decide +kernel
theorem sq_Road_told_82 : rn G mm_Road_told 82 [a0, some (.int x), a2] st S P ↔ rn G mm_Road_told 83 [a0, some (.int x), a2] (.int x :: st) S P := rn_s dq_Road_told_82 rfl rfl rfl
theorem dq_Road_told_83 : decode (km_c mm_Road_told) 83 = .ok (.iaload, 1) := by decide +kernel
theorem sq_Road_told_83 (ho : sx_o o pl kp) (hk : ak L a = 0) (hu : sx_up pl kp a = true ∨ 1000 ≤ a) (hc : c < ln L a) (hn : ln L a < 2 ^ 31) : rn (lt_G o L) mm_Road_told 83 lv (.int (nI c) :: .ref a :: st) (sx pl kp I A) P ↔ rn (lt_G o L) mm_Road_told 84 lv (.int (A a c) :: st) (sx pl kp I A) P := rx_ild dq_Road_told_83 ho hk hu hc hn
theorem dq_Road_told_84 : decode (km_c mm_Road_told) 84 = .ok (.ireturn, 1) := by decide +kernel
theorem sq_Road_told_84 : rn G mm_Road_told 84 lv [.int x] S P ↔ P (some (.int x)) S := rn_ir dq_Road_told_84 rfl
theorem dq_Road_waterNow_0 : decode (km_c mm_Road_waterNow) 0 = .ok (.aload_n 0, 1) := by decide +kernel
theorem sq_Road_waterNow_0 : rn G mm_Road_waterNow 0 [some (.ref z)] st S P ↔ rn G mm_Road_waterNow 1 [some (.ref z)] (.ref z :: st) S P := rn_s dq_Road_waterNow_0 rfl rfl rfl
theorem dq_Road_waterNow_1 : decode (km_c mm_Road_waterNow) 1 = .ok (.getfield 61, 3) := by decide +kernel
theorem sq_Road_waterNow_1_0 (ho : sx_o o pl kp) : rn (lt_G o L) mm_Road_waterNow 1 lv (.ref 0 :: st) (sx pl kp I A) P ↔ rn (lt_G o L) mm_Road_waterNow 4 lv (.int (I 0 9) :: st) (sx pl kp I A) P := rx_get (h := "") (ci := 9) (k := 9) dq_Road_waterNow_1 (by decide +kernel) ho (up_b (by decide)) rfl rfl (fl_z (by decide))
theorem dq_Road_waterNow_4 : decode (km_c mm_Road_waterNow) 4 = .ok (.ifCond .ne 32, 3) := by decide +kernel
theorem sq_Road_waterNow_4 : rn G mm_Road_waterNow 4 lv (.int x :: st) S P ↔ ((¬ x = 0 → rn G mm_Road_waterNow 36 lv st S P) ∧ (¬ (¬ x = 0) → rn G mm_Road_waterNow 7 lv st S P)) := rn_b (off := 32) dq_Road_waterNow_4 rfl rfl rfl rfl
theorem dq_Road_waterNow_7 : decode (km_c mm_Road_waterNow) 7 = .ok (.aload_n 0, 1) := by decide +kernel
theorem sq_Road_waterNow_7 : rn G mm_Road_waterNow 7 [some (.ref z)] st S P ↔ rn G mm_Road_waterNow 8 [some (.ref z)] (.ref z :: st) S P := rn_s dq_Road_waterNow_7 rfl rfl rfl
theorem dq_Road_waterNow_8 : decode (km_c mm_Road_waterNow) 8 = .ok (.getfield 19, 3) := by decide +kernel
theorem sq_Road_waterNow_8_0 (ho : sx_o o pl kp) : rn (lt_G o L) mm_Road_waterNow 8 lv (.ref 0 :: st) (sx pl kp I A) P ↔ rn (lt_G o L) mm_Road_waterNow 11 lv (.ref 16 :: st) (sx pl kp I A) P := rx_get (h := "") (ci := 9) (k := 1) dq_Road_waterNow_8 (by decide +kernel) ho (up_b (by decide)) rfl rfl (fl_r (by decide) (by decide) (by decide) (by decide))
theorem dq_Road_waterNow_11 : decode (km_c mm_Road_waterNow) 11 = .ok (.aload_n 0, 1) := by decide +kernel
theorem sq_Road_waterNow_11 : rn G mm_Road_waterNow 11 [some (.ref z)] st S P ↔ rn G mm_Road_waterNow 12 [some (.ref z)] (.ref z :: st) S P := rn_s dq_Road_waterNow_11 rfl rfl rfl
theorem dq_Road_waterNow_12 : decode (km_c mm_Road_waterNow) 12 = .ok (.getfield 10, 3) := by decide +kernel
theorem sq_Road_waterNow_12_0 (ho : sx_o o pl kp) : rn (lt_G o L) mm_Road_waterNow 12 lv (.ref 0 :: st) (sx pl kp I A) P ↔ rn (lt_G o L) mm_Road_waterNow 15 lv (.ref 1 :: st) (sx pl kp I A) P := rx_get (h := "") (ci := 9) (k := 0) dq_Road_waterNow_12 (by decide +kernel) ho (up_b (by decide)) rfl rfl (fl_r (by decide) (by decide) (by decide) (by decide))
theorem dq_Road_waterNow_15 : decode (km_c mm_Road_waterNow) 15 = .ok (.getfield 80, 3) := by decide +kernel
theorem sq_Road_waterNow_15_1 (ho : sx_o o pl kp) : rn (lt_G o L) mm_Road_waterNow 15 lv (.ref 1 :: st) (sx pl kp I A) P ↔ rn (lt_G o L) mm_Road_waterNow 18 lv (.ref 2 :: st) (sx pl kp I A) P := rx_get (h := "DeltaRoad") (ci := 8) (k := 0) dq_Road_waterNow_15 (by decide +kernel) ho (up_b (by decide)) rfl rfl (fl_r (by decide) (by decide) (by decide) (by decide))
theorem sq_Road_waterNow_15_136 (ho : sx_o o pl true) : rn (lt_G o L) mm_Road_waterNow 15 lv (.ref 136 :: st) (sx pl true I A) P ↔ rn (lt_G o L) mm_Road_waterNow 18 lv (.ref 137 :: st) (sx pl true I A) P := rx_get (h := "DeltaRoad") (ci := 8) (k := 0) dq_Road_waterNow_15 (by decide +kernel) ho (up_k (by decide) (by decide)) rfl rfl (fl_k (by decide) (by decide))
theorem dq_Road_waterNow_18 : decode (km_c mm_Road_waterNow) 18 = .ok (.aload_n 0, 1) := by decide +kernel
theorem sq_Road_waterNow_18 : rn G mm_Road_waterNow 18 [some (.ref z)] st S P ↔ rn G mm_Road_waterNow 19 [some (.ref z)] (.ref z :: st) S P := rn_s dq_Road_waterNow_18 rfl rfl rfl
theorem dq_Road_waterNow_19 : decode (km_c mm_Road_waterNow) 19 = .ok (.getfield 10, 3) := by decide +kernel
theorem sq_Road_waterNow_19_0 (ho : sx_o o pl kp) : rn (lt_G o L) mm_Road_waterNow 19 lv (.ref 0 :: st) (sx pl kp I A) P ↔ rn (lt_G o L) mm_Road_waterNow 22 lv (.ref 1 :: st) (sx pl kp I A) P := rx_get (h := "") (ci := 9) (k := 0) dq_Road_waterNow_19 (by decide +kernel) ho (up_b (by decide)) rfl rfl (fl_r (by decide) (by decide) (by decide) (by decide))
theorem dq_Road_waterNow_22 : decode (km_c mm_Road_waterNow) 22 = .ok (.getfield 80, 3) := by decide +kernel
theorem sq_Road_waterNow_22_1 (ho : sx_o o pl kp) : rn (lt_G o L) mm_Road_waterNow 22 lv (.ref 1 :: st) (sx pl kp I A) P ↔ rn (lt_G o L) mm_Road_waterNow 25 lv (.ref 2 :: st) (sx pl kp I A) P := rx_get (h := "DeltaRoad") (ci := 8) (k := 0) dq_Road_waterNow_22 (by decide +kernel) ho (up_b (by decide)) rfl rfl (fl_r (by decide) (by decide) (by decide) (by decide))
theorem sq_Road_waterNow_22_136 (ho : sx_o o pl true) : rn (lt_G o L) mm_Road_waterNow 22 lv (.ref 136 :: st) (sx pl true I A) P ↔ rn (lt_G o L) mm_Road_waterNow 25 lv (.ref 137 :: st) (sx pl true I A) P := rx_get (h := "DeltaRoad") (ci := 8) (k := 0) dq_Road_waterNow_22 (by decide +kernel) ho (up_k (by decide) (by decide)) rfl rfl (fl_k (by decide) (by decide))
theorem dq_Road_waterNow_25 : decode (km_c mm_Road_waterNow) 25 = .ok (.getfield 104, 3) := by decide +kernel
theorem sq_Road_waterNow_25_2 (ho : sx_o o pl kp) : rn (lt_G o L) mm_Road_waterNow 25 lv (.ref 2 :: st) (sx pl kp I A) P ↔ rn (lt_G o L) mm_Road_waterNow 28 lv (.int (I 2 1) :: st) (sx pl kp I A) P := rx_get (h := "DeltaRoad") (ci := 0) (k := 1) dq_Road_waterNow_25 (by decide +kernel) ho (up_b (by decide)) rfl rfl (fl_i (by decide))
theorem sq_Road_waterNow_25_35 (ho : sx_o o pl kp) : rn (lt_G o L) mm_Road_waterNow 25 lv (.ref 35 :: st) (sx pl kp I A) P ↔ rn (lt_G o L) mm_Road_waterNow 28 lv (.int (I 35 1) :: st) (sx pl kp I A) P := rx_get (h := "DeltaRoad") (ci := 0) (k := 1) dq_Road_waterNow_25 (by decide +kernel) ho (up_b (by decide)) rfl rfl (fl_i (by decide))
theorem sq_Road_waterNow_25_137 (ho : sx_o o pl true) : rn (lt_G o L) mm_Road_waterNow 25 lv (.ref 137 :: st) (sx pl true I A) P ↔ rn (lt_G o L) mm_Road_waterNow 28 lv (.int (I 137 1) :: st) (sx pl true I A) P := rx_get (h := "DeltaRoad") (ci := 0) (k := 1) dq_Road_waterNow_25 (by decide +kernel) ho (up_k (by decide) (by decide)) rfl rfl (fl_i (by decide))
theorem dq_Road_waterNow_28 : decode (km_c mm_Road_waterNow) 28 = .ok (.invokevirtual 307, 3) := by decide +kernel
theorem sq_Road_waterNow_28_16 {z1 : Nat} {x2 : Int32} {v : Option Value} {S2 : ks_S} (hc : ev (lt_G o L) mm_Water_rise [.ref 16, .ref z1, .int x2] (sx pl kp I A) v S2) (ho : sx_o o pl kp) (hst : kx_cat st ≤ 8) : rn (lt_G o L) mm_Road_waterNow 28 lv (.int x2 :: .ref z1 :: .ref 16 :: st) (sx pl kp I A) P ↔ rn (lt_G o L) mm_Road_waterNow 31 lv (v.toList ++ st) S2 P := rn_cv (k := 0) (host := "") (E' := mm_Water_rise) dq_Road_waterNow_28 rfl (ok_v rfl (by decide) (by decide) (Nat.le_add_left _ _) hst (Nat.le_of_ble_eq_true rfl) (Or.inr (rc_v ho (up_b (by decide)) rfl))) rfl rfl hc
theorem sq_Road_waterNow_28_20 {z1 : Nat} {x2 : Int32} {v : Option Value} {S2 : ks_S} (hc : ev (lt_G o L) mm_Water_rise [.ref 20, .ref z1, .int x2] (sx pl kp I A) v S2) (ho : sx_o o pl kp) (hst : kx_cat st ≤ 8) : rn (lt_G o L) mm_Road_waterNow 28 lv (.int x2 :: .ref z1 :: .ref 20 :: st) (sx pl kp I A) P ↔ rn (lt_G o L) mm_Road_waterNow 31 lv (v.toList ++ st) S2 P := rn_cv (k := 0) (host := "") (E' := mm_Water_rise) dq_Road_waterNow_28 rfl (ok_v rfl (by decide) (by decide) (Nat.le_add_left _ _) hst (Nat.le_of_ble_eq_true rfl) (Or.inr (rc_v ho (up_b (by decide)) rfl))) rfl rfl hc
theorem dq_Road_waterNow_31 : decode (km_c mm_Road_waterNow) 31 = .ok (.aload_n 0, 1) := by decide +kernel
theorem sq_Road_waterNow_31 : rn G mm_Road_waterNow 31 [some (.ref z)] st S P ↔ rn G mm_Road_waterNow 32 [some (.ref z)] (.ref z :: st) S P := rn_s dq_Road_waterNow_31 rfl rfl rfl
theorem dq_Road_waterNow_32 : decode (km_c mm_Road_waterNow) 32 = .ok (.iconst 1, 1) := by decide +kernel
theorem sq_Road_waterNow_32 : rn G mm_Road_waterNow 32 lv st S P ↔ rn G mm_Road_waterNow 33 lv (.int (nI 1) :: st) S P := rn_s dq_Road_waterNow_32 rfl rfl rfl
theorem dq_Road_waterNow_33 : decode (km_c mm_Road_waterNow) 33 = .ok (.putfield 61, 3) := by decide +kernel
theorem sq_Road_waterNow_33_0 (ho : sx_o o pl kp) (hx : x = 0 ∨ x = 1) : rn (lt_G o L) mm_Road_waterNow 33 lv (.int x :: .ref 0 :: st) (sx pl kp I A) P ↔ rn (lt_G o L) mm_Road_waterNow 36 lv st (sx pl kp (u2 I 0 9 x) A) P := rx_putZ (h := "") (ci := 9) (k := 9) dq_Road_waterNow_33 (by decide +kernel) ho (up_b (by decide)) rfl rfl (by decide) (by decide) hx
theorem dq_Road_waterNow_36 : decode (km_c mm_Road_waterNow) 36 = .ok (.aload_n 0, 1) := by decide +kernel
theorem sq_Road_waterNow_36 : rn G mm_Road_waterNow 36 [some (.ref z)] st S P ↔ rn G mm_Road_waterNow 37 [some (.ref z)] (.ref z :: st) S P := rn_s dq_Road_waterNow_36 rfl rfl rfl
theorem dq_Road_waterNow_37 : decode (km_c mm_Road_waterNow) 37 = .ok (.getfield 19, 3) := by decide +kernel
theorem sq_Road_waterNow_37_0 (ho : sx_o o pl kp) : rn (lt_G o L) mm_Road_waterNow 37 lv (.ref 0 :: st) (sx pl kp I A) P ↔ rn (lt_G o L) mm_Road_waterNow 40 lv (.ref 16 :: st) (sx pl kp I A) P := rx_get (h := "") (ci := 9) (k := 1) dq_Road_waterNow_37 (by decide +kernel) ho (up_b (by decide)) rfl rfl (fl_r (by decide) (by decide) (by decide) (by decide))
theorem dq_Road_waterNow_40 : decode (km_c mm_Road_waterNow) 40 = .ok (.areturn, 1) := by decide +kernel
theorem sq_Road_waterNow_40 : rn G mm_Road_waterNow 40 lv [.ref z] S P ↔ P (some (.ref z)) S := rn_ar dq_Road_waterNow_40 rfl
theorem dq_Road_cellAt_0 : decode (km_c mm_Road_cellAt) 0 = .ok (.iload_n 0, 1) := by decide +kernel
theorem sq_Road_cellAt_0 : rn G mm_Road_cellAt 0 [some (.int x), a1, a2] st S P ↔ rn G mm_Road_cellAt 1 [some (.int x), a1, a2] (.int x :: st) S P := rn_s dq_Road_cellAt_0 rfl rfl rfl
theorem dq_Road_cellAt_1 : decode (km_c mm_Road_cellAt) 1 = .ok (.bipush 7, 2) := by decide +kernel
theorem sq_Road_cellAt_1 : rn G mm_Road_cellAt 1 lv st S P ↔ rn G mm_Road_cellAt 3 lv (.int (nI 7) :: st) S P := rn_s dq_Road_cellAt_1 rfl rfl rfl
theorem dq_Road_cellAt_3 : decode (km_c mm_Road_cellAt) 3 = .ok (.irem, 1) := by decide +kernel
theorem sq_Road_cellAt_3 (hz : ¬ x2 = 0) : rn G mm_Road_cellAt 3 lv (.int x2 :: .int x :: st) S P ↔ rn G mm_Road_cellAt 4 lv (.int (x - x / x2 * x2) :: st) S P := rn_s dq_Road_cellAt_3 rfl rfl (if_neg hz)
theorem dq_Road_cellAt_4 : decode (km_c mm_Road_cellAt) 4 = .ok (.istore_n 2, 1) := by decide +kernel
theorem sq_Road_cellAt_4n : rn G mm_Road_cellAt 4 [a0, none, a2] (.int x :: st) S P ↔ rn G mm_Road_cellAt 5 [a0, none, some (.int x)] st S P := rn_s dq_Road_cellAt_4 rfl rfl rfl
theorem sq_Road_cellAt_4i : rn G mm_Road_cellAt 4 [a0, some (.int x2), a2] (.int x :: st) S P ↔ rn G mm_Road_cellAt 5 [a0, some (.int x2), some (.int x)] st S P := rn_s dq_Road_cellAt_4 rfl rfl rfl
theorem sq_Road_cellAt_4r : rn G mm_Road_cellAt 4 [a0, some (.ref z2), a2] (.int x :: st) S P ↔ rn G mm_Road_cellAt 5 [a0, some (.ref z2), some (.int x)] st S P := rn_s dq_Road_cellAt_4 rfl rfl rfl
theorem dq_Road_cellAt_5 : decode (km_c mm_Road_cellAt) 5 = .ok (.iload_n 1, 1) := by decide +kernel
theorem sq_Road_cellAt_5 : rn G mm_Road_cellAt 5 [a0, some (.int x), a2] st S P ↔ rn G mm_Road_cellAt 6 [a0, some (.int x), a2] (.int x :: st) S P := rn_s dq_Road_cellAt_5 rfl rfl rfl
theorem dq_Road_cellAt_6 : decode (km_c mm_Road_cellAt) 6 = .ok (.tableswitch 67 0 2 #[26, 41, 53], 26) := by decide +kernel
theorem dq_Road_cellAt_32 : decode (km_c mm_Road_cellAt) 32 = .ok (.iload_n 0, 1) := by decide +kernel
theorem sq_Road_cellAt_32 : rn G mm_Road_cellAt 32 [some (.int x), a1, a2] st S P ↔ rn G mm_Road_cellAt 33 [some (.int x), a1, a2] (.int x :: st) S P := rn_s dq_Road_cellAt_32 rfl rfl rfl
theorem dq_Road_cellAt_33 : decode (km_c mm_Road_cellAt) 33 = .ok (.bipush 7, 2) := by decide +kernel
theorem sq_Road_cellAt_33 : rn G mm_Road_cellAt 33 lv st S P ↔ rn G mm_Road_cellAt 35 lv (.int (nI 7) :: st) S P := rn_s dq_Road_cellAt_33 rfl rfl rfl
theorem dq_Road_cellAt_35 : decode (km_c mm_Road_cellAt) 35 = .ok (.if_icmp .lt 10, 3) := by decide +kernel
theorem sq_Road_cellAt_35 : rn G mm_Road_cellAt 35 lv (.int x2 :: .int x :: st) S P ↔ ((x < x2 → rn G mm_Road_cellAt 45 lv st S P) ∧ (¬ (x < x2) → rn G mm_Road_cellAt 38 lv st S P)) := rn_b (off := 10) dq_Road_cellAt_35 rfl rfl rfl rfl
theorem dq_Road_cellAt_38 : decode (km_c mm_Road_cellAt) 38 = .ok (.iload_n 0, 1) := by decide +kernel
theorem sq_Road_cellAt_38 : rn G mm_Road_cellAt 38 [some (.int x), a1, a2] st S P ↔ rn G mm_Road_cellAt 39 [some (.int x), a1, a2] (.int x :: st) S P := rn_s dq_Road_cellAt_38 rfl rfl rfl
theorem dq_Road_cellAt_39 : decode (km_c mm_Road_cellAt) 39 = .ok (.bipush 7, 2) := by decide +kernel
theorem sq_Road_cellAt_39 : rn G mm_Road_cellAt 39 lv st S P ↔ rn G mm_Road_cellAt 41 lv (.int (nI 7) :: st) S P := rn_s dq_Road_cellAt_39 rfl rfl rfl
theorem dq_Road_cellAt_41 : decode (km_c mm_Road_cellAt) 41 = .ok (.isub, 1) := by decide +kernel
theorem sq_Road_cellAt_41 : rn G mm_Road_cellAt 41 lv (.int x2 :: .int x :: st) S P ↔ rn G mm_Road_cellAt 42 lv (.int (x - x2) :: st) S P := rn_s dq_Road_cellAt_41 rfl rfl rfl
theorem dq_Road_cellAt_42 : decode (km_c mm_Road_cellAt) 42 = .ok (.goto 4, 3) := by decide +kernel
theorem sq_Road_cellAt_42 : rn G mm_Road_cellAt 42 lv st S P ↔ rn G mm_Road_cellAt 46 lv st S P := rn_s dq_Road_cellAt_42 rfl rfl rfl
theorem dq_Road_cellAt_45 : decode (km_c mm_Road_cellAt) 45 = .ok (.iconst (-1), 1) := by decide +kernel
theorem sq_Road_cellAt_45 : rn G mm_Road_cellAt 45 lv st S P ↔ rn G mm_Road_cellAt 46 lv (.int ((-1)) :: st) S P := rn_s dq_Road_cellAt_45 rfl rfl rfl
theorem dq_Road_cellAt_46 : decode (km_c mm_Road_cellAt) 46 = .ok (.ireturn, 1) := by decide +kernel
theorem sq_Road_cellAt_46 : rn G mm_Road_cellAt 46 lv [.int x] S P ↔ P (some (.int x)) S := rn_ir dq_Road_cellAt_46 rfl
theorem dq_Road_cellAt_47 : decode (km_c mm_Road_cellAt) 47 = .ok (.iload_n 2, 1) := by decide +kernel
theorem sq_Road_cellAt_47 : rn G mm_Road_cellAt 47 [a0, a1, some (.int x)] st S P ↔ rn G mm_Road_cellAt 48 [a0, a1, some (.int x)] (.int x :: st) S P := rn_s dq_Road_cellAt_47 rfl rfl rfl
theorem dq_Road_cellAt_48 : decode (km_c mm_Road_cellAt) 48 = .ok (.ifCond .le 9, 3) := by decide +kernel
theorem sq_Road_cellAt_48 : rn G mm_Road_cellAt 48 lv (.int x :: st) S P ↔ ((x ≤ 0 → rn G mm_Road_cellAt 57 lv st S P) ∧ (¬ (x ≤ 0) → rn G mm_Road_cellAt 51 lv st S P)) := rn_b (off := 9) dq_Road_cellAt_48 rfl rfl rfl rfl
theorem dq_Road_cellAt_51 : decode (km_c mm_Road_cellAt) 51 = .ok (.iload_n 0, 1) := by decide +kernel
theorem sq_Road_cellAt_51 : rn G mm_Road_cellAt 51 [some (.int x), a1, a2] st S P ↔ rn G mm_Road_cellAt 52 [some (.int x), a1, a2] (.int x :: st) S P := rn_s dq_Road_cellAt_51 rfl rfl rfl
theorem dq_Road_cellAt_52 : decode (km_c mm_Road_cellAt) 52 = .ok (.iconst 1, 1) := by decide +kernel
theorem sq_Road_cellAt_52 : rn G mm_Road_cellAt 52 lv st S P ↔ rn G mm_Road_cellAt 53 lv (.int (nI 1) :: st) S P := rn_s dq_Road_cellAt_52 rfl rfl rfl
theorem dq_Road_cellAt_53 : decode (km_c mm_Road_cellAt) 53 = .ok (.isub, 1) := by decide +kernel
theorem sq_Road_cellAt_53 : rn G mm_Road_cellAt 53 lv (.int x2 :: .int x :: st) S P ↔ rn G mm_Road_cellAt 54 lv (.int (x - x2) :: st) S P := rn_s dq_Road_cellAt_53 rfl rfl rfl
theorem dq_Road_cellAt_54 : decode (km_c mm_Road_cellAt) 54 = .ok (.goto 4, 3) := by decide +kernel
theorem sq_Road_cellAt_54 : rn G mm_Road_cellAt 54 lv st S P ↔ rn G mm_Road_cellAt 58 lv st S P := rn_s dq_Road_cellAt_54 rfl rfl rfl
theorem dq_Road_cellAt_57 : decode (km_c mm_Road_cellAt) 57 = .ok (.iconst (-1), 1) := by decide +kernel
theorem sq_Road_cellAt_57 : rn G mm_Road_cellAt 57 lv st S P ↔ rn G mm_Road_cellAt 58 lv (.int ((-1)) :: st) S P := rn_s dq_Road_cellAt_57 rfl rfl rfl
theorem dq_Road_cellAt_58 : decode (km_c mm_Road_cellAt) 58 = .ok (.ireturn, 1) := by decide +kernel
theorem sq_Road_cellAt_58 : rn G mm_Road_cellAt 58 lv [.int x] S P ↔ P (some (.int x)) S := rn_ir dq_Road_cellAt_58 rfl
theorem dq_Road_cellAt_59 : decode (km_c mm_Road_cellAt) 59 = .ok (.iload_n 2, 1) := by decide +kernel
theorem sq_Road_cellAt_59 : rn G mm_Road_cellAt 59 [a0, a1, some (.int x)] st S P ↔ rn G mm_Road_cellAt 60 [a0, a1, some (.int x)] (.int x :: st) S P := rn_s dq_Road_cellAt_59 rfl rfl rfl
theorem dq_Road_cellAt_60 : decode (km_c mm_Road_cellAt) 60 = .ok (.bipush 6, 2) := by decide +kernel
theorem sq_Road_cellAt_60 : rn G mm_Road_cellAt 60 lv st S P ↔ rn G mm_Road_cellAt 62 lv (.int (nI 6) :: st) S P := rn_s dq_Road_cellAt_60 rfl rfl rfl
theorem dq_Road_cellAt_62 : decode (km_c mm_Road_cellAt) 62 = .ok (.if_icmp .ge 9, 3) := by decide +kernel
theorem sq_Road_cellAt_62 : rn G mm_Road_cellAt 62 lv (.int x2 :: .int x :: st) S P ↔ ((x2 ≤ x → rn G mm_Road_cellAt 71 lv st S P) ∧ (¬ (x2 ≤ x) → rn G mm_Road_cellAt 65 lv st S P)) := rn_b (off := 9) dq_Road_cellAt_62 rfl rfl rfl rfl
theorem dq_Road_cellAt_65 : decode (km_c mm_Road_cellAt) 65 = .ok (.iload_n 0, 1) := by decide +kernel
theorem sq_Road_cellAt_65 : rn G mm_Road_cellAt 65 [some (.int x), a1, a2] st S P ↔ rn G mm_Road_cellAt 66 [some (.int x), a1, a2] (.int x :: st) S P := rn_s dq_Road_cellAt_65 rfl rfl rfl
theorem dq_Road_cellAt_66 : decode (km_c mm_Road_cellAt) 66 = .ok (.iconst 1, 1) := by decide +kernel
theorem sq_Road_cellAt_66 : rn G mm_Road_cellAt 66 lv st S P ↔ rn G mm_Road_cellAt 67 lv (.int (nI 1) :: st) S P := rn_s dq_Road_cellAt_66 rfl rfl rfl
theorem dq_Road_cellAt_67 : decode (km_c mm_Road_cellAt) 67 = .ok (.iadd, 1) := by decide +kernel
theorem sq_Road_cellAt_67 : rn G mm_Road_cellAt 67 lv (.int x2 :: .int x :: st) S P ↔ rn G mm_Road_cellAt 68 lv (.int (x + x2) :: st) S P := rn_s dq_Road_cellAt_67 rfl rfl rfl
theorem dq_Road_cellAt_68 : decode (km_c mm_Road_cellAt) 68 = .ok (.goto 4, 3) := by decide +kernel
theorem sq_Road_cellAt_68 : rn G mm_Road_cellAt 68 lv st S P ↔ rn G mm_Road_cellAt 72 lv st S P := rn_s dq_Road_cellAt_68 rfl rfl rfl
theorem dq_Road_cellAt_71 : decode (km_c mm_Road_cellAt) 71 = .ok (.iconst (-1), 1) := by decide +kernel
theorem sq_Road_cellAt_71 : rn G mm_Road_cellAt 71 lv st S P ↔ rn G mm_Road_cellAt 72 lv (.int ((-1)) :: st) S P := rn_s dq_Road_cellAt_71 rfl rfl rfl
theorem dq_Road_cellAt_72 : decode (km_c mm_Road_cellAt) 72 = .ok (.ireturn, 1) := by decide +kernel
theorem sq_Road_cellAt_72 : rn G mm_Road_cellAt 72 lv [.int x] S P ↔ P (some (.int x)) S := rn_ir dq_Road_cellAt_72 rfl
theorem dq_Road_cellAt_73 : decode (km_c mm_Road_cellAt) 73 = .ok (.iload_n 0, 1) := by decide +kernel
theorem sq_Road_cellAt_73 : rn G mm_Road_cellAt 73 [some (.int x), a1, a2] st S P ↔ rn G mm_Road_cellAt 74 [some (.int x), a1, a2] (.int x :: st) S P := rn_s dq_Road_cellAt_73 rfl rfl rfl
theorem dq_Road_cellAt_74 : decode (km_c mm_Road_cellAt) 74 = .ok (.bipush 42, 2) := by decide +kernel
theorem sq_Road_cellAt_74 : rn G mm_Road_cellAt 74 lv st S P ↔ rn G mm_Road_cellAt 76 lv (.int (nI 42) :: st) S P := rn_s dq_Road_cellAt_74 rfl rfl rfl
theorem dq_Road_cellAt_76 : decode (km_c mm_Road_cellAt) 76 = .ok (.if_icmp .ge 10, 3) := by decide +kernel
theorem sq_Road_cellAt_76 : rn G mm_Road_cellAt 76 lv (.int x2 :: .int x :: st) S P ↔ ((x2 ≤ x → rn G mm_Road_cellAt 86 lv st S P) ∧ (¬ (x2 ≤ x) → rn G mm_Road_cellAt 79 lv st S P)) := rn_b (off := 10) dq_Road_cellAt_76 rfl rfl rfl rfl
theorem dq_Road_cellAt_79 : decode (km_c mm_Road_cellAt) 79 = .ok (.iload_n 0, 1) := by decide +kernel
theorem sq_Road_cellAt_79 : rn G mm_Road_cellAt 79 [some (.int x), a1, a2] st S P ↔ rn G mm_Road_cellAt 80 [some (.int x), a1, a2] (.int x :: st) S P := rn_s dq_Road_cellAt_79 rfl rfl rfl
theorem dq_Road_cellAt_80 : decode (km_c mm_Road_cellAt) 80 = .ok (.bipush 7, 2) := by decide +kernel
theorem sq_Road_cellAt_80 : rn G mm_Road_cellAt 80 lv st S P ↔ rn G mm_Road_cellAt 82 lv (.int (nI 7) :: st) S P := rn_s dq_Road_cellAt_80 rfl rfl rfl
theorem dq_Road_cellAt_82 : decode (km_c mm_Road_cellAt) 82 = .ok (.iadd, 1) := by decide +kernel
theorem sq_Road_cellAt_82 : rn G mm_Road_cellAt 82 lv (.int x2 :: .int x :: st) S P ↔ rn G mm_Road_cellAt 83 lv (.int (x + x2) :: st) S P := rn_s dq_Road_cellAt_82 rfl rfl rfl
theorem dq_Road_cellAt_83 : decode (km_c mm_Road_cellAt) 83 = .ok (.goto 4, 3) := by decide +kernel
theorem sq_Road_cellAt_83 : rn G mm_Road_cellAt 83 lv st S P ↔ rn G mm_Road_cellAt 87 lv st S P := rn_s dq_Road_cellAt_83 rfl rfl rfl
theorem dq_Road_cellAt_86 : decode (km_c mm_Road_cellAt) 86 = .ok (.iconst (-1), 1) := by decide +kernel
theorem sq_Road_cellAt_86 : rn G mm_Road_cellAt 86 lv st S P ↔ rn G mm_Road_cellAt 87 lv (.int ((-1)) :: st) S P := rn_s dq_Road_cellAt_86 rfl rfl rfl
theorem dq_Road_cellAt_87 : decode (km_c mm_Road_cellAt) 87 = .ok (.ireturn, 1) := by decide +kernel
theorem sq_Road_cellAt_87 : rn G mm_Road_cellAt 87 lv [.int x] S P ↔ P (some (.int x)) S := rn_ir dq_Road_cellAt_87 rfl
theorem dq_Road_costOf_0 : decode (km_c mm_Road_costOf) 0 = .ok (.getstatic 322, 3) := by decide +kernel
theorem sq_Road_costOf_0 : rn (lt_G o L) mm_Road_costOf 0 lv st (sx pl kp I A) P ↔ rn (lt_G o L) mm_Road_costOf 3 lv (.ref 1001 :: st) (sx pl kp I A) P := rx_st (h := "") (k := 1) dq_Road_costOf_0 (by decide +kernel)
theorem dq_Road_costOf_3 : decode (km_c mm_Road_costOf) 3 = .ok (.aload_n 0, 1) := by decide +kernel
theorem sq_Road_costOf_3 : rn G mm_Road_costOf 3 [some (.ref z), a1, a2] st S P ↔ rn G mm_Road_costOf 4 [some (.ref z), a1, a2] (.ref z :: st) S P := rn_s dq_Road_costOf_3 rfl rfl rfl
theorem dq_Road_costOf_4 : decode (km_c mm_Road_costOf) 4 = .ok (.getfield 10, 3) := by decide +kernel
theorem sq_Road_costOf_4_0 (ho : sx_o o pl kp) : rn (lt_G o L) mm_Road_costOf 4 lv (.ref 0 :: st) (sx pl kp I A) P ↔ rn (lt_G o L) mm_Road_costOf 7 lv (.ref 1 :: st) (sx pl kp I A) P := rx_get (h := "") (ci := 9) (k := 0) dq_Road_costOf_4 (by decide +kernel) ho (up_b (by decide)) rfl rfl (fl_r (by decide) (by decide) (by decide) (by decide))
theorem dq_Road_costOf_7 : decode (km_c mm_Road_costOf) 7 = .ok (.getfield 80, 3) := by decide +kernel
theorem sq_Road_costOf_7_1 (ho : sx_o o pl kp) : rn (lt_G o L) mm_Road_costOf 7 lv (.ref 1 :: st) (sx pl kp I A) P ↔ rn (lt_G o L) mm_Road_costOf 10 lv (.ref 2 :: st) (sx pl kp I A) P := rx_get (h := "DeltaRoad") (ci := 8) (k := 0) dq_Road_costOf_7 (by decide +kernel) ho (up_b (by decide)) rfl rfl (fl_r (by decide) (by decide) (by decide) (by decide))
theorem sq_Road_costOf_7_136 (ho : sx_o o pl true) : rn (lt_G o L) mm_Road_costOf 7 lv (.ref 136 :: st) (sx pl true I A) P ↔ rn (lt_G o L) mm_Road_costOf 10 lv (.ref 137 :: st) (sx pl true I A) P := rx_get (h := "DeltaRoad") (ci := 8) (k := 0) dq_Road_costOf_7 (by decide +kernel) ho (up_k (by decide) (by decide)) rfl rfl (fl_k (by decide) (by decide))
theorem dq_Road_costOf_10 : decode (km_c mm_Road_costOf) 10 = .ok (.getfield 83, 3) := by decide +kernel
theorem sq_Road_costOf_10_2 (ho : sx_o o pl kp) : rn (lt_G o L) mm_Road_costOf 10 lv (.ref 2 :: st) (sx pl kp I A) P ↔ rn (lt_G o L) mm_Road_costOf 13 lv (.ref 3 :: st) (sx pl kp I A) P := rx_get (h := "DeltaRoad") (ci := 0) (k := 0) dq_Road_costOf_10 (by decide +kernel) ho (up_b (by decide)) rfl rfl (fl_r (by decide) (by decide) (by decide) (by decide))
theorem sq_Road_costOf_10_35 (ho : sx_o o pl kp) : rn (lt_G o L) mm_Road_costOf 10 lv (.ref 35 :: st) (sx pl kp I A) P ↔ rn (lt_G o L) mm_Road_costOf 13 lv (.ref 36 :: st) (sx pl kp I A) P := rx_get (h := "DeltaRoad") (ci := 0) (k := 0) dq_Road_costOf_10 (by decide +kernel) ho (up_b (by decide)) rfl rfl (fl_r (by decide) (by decide) (by decide) (by decide))
theorem sq_Road_costOf_10_137 (ho : sx_o o pl true) : rn (lt_G o L) mm_Road_costOf 10 lv (.ref 137 :: st) (sx pl true I A) P ↔ rn (lt_G o L) mm_Road_costOf 13 lv (.ref 138 :: st) (sx pl true I A) P := rx_get (h := "DeltaRoad") (ci := 0) (k := 0) dq_Road_costOf_10 (by decide +kernel) ho (up_k (by decide) (by decide)) rfl rfl (fl_k (by decide) (by decide))
theorem dq_Road_costOf_13 : decode (km_c mm_Road_costOf) 13 = .ok (.iconst 2, 1) := by decide +kernel
theorem sq_Road_costOf_13 : rn G mm_Road_costOf 13 lv st S P ↔ rn G mm_Road_costOf 14 lv (.int (nI 2) :: st) S P := rn_s dq_Road_costOf_13 rfl rfl rfl
theorem dq_Road_costOf_14 : decode (km_c mm_Road_costOf) 14 = .ok (.aaload, 1) := by decide +kernel
theorem sq_Road_costOf_14 (ho : sx_o o pl kp) (hk : ak L a = 3) (hu : sx_up pl kp a = true) (hc : c < ln L a) (hn : ln L a < 2 ^ 31) : rn (lt_G o L) mm_Road_costOf 14 lv (.int (nI c) :: .ref a :: st) (sx pl kp I A) P ↔ rn (lt_G o L) mm_Road_costOf 15 lv (.ref (ab L a + c) :: st) (sx pl kp I A) P := rx_ald dq_Road_costOf_14 ho hk hu hc hn
theorem dq_Road_costOf_15 : decode (km_c mm_Road_costOf) 15 = .ok (.iload_n 1, 1) := by decide +kernel
theorem sq_Road_costOf_15 : rn G mm_Road_costOf 15 [a0, some (.int x), a2] st S P ↔ rn G mm_Road_costOf 16 [a0, some (.int x), a2] (.int x :: st) S P := rn_s dq_Road_costOf_15 rfl rfl rfl
theorem dq_Road_costOf_16 : decode (km_c mm_Road_costOf) 16 = .ok (.iaload, 1) := by decide +kernel
theorem sq_Road_costOf_16 (ho : sx_o o pl kp) (hk : ak L a = 0) (hu : sx_up pl kp a = true ∨ 1000 ≤ a) (hc : c < ln L a) (hn : ln L a < 2 ^ 31) : rn (lt_G o L) mm_Road_costOf 16 lv (.int (nI c) :: .ref a :: st) (sx pl kp I A) P ↔ rn (lt_G o L) mm_Road_costOf 17 lv (.int (A a c) :: st) (sx pl kp I A) P := rx_ild dq_Road_costOf_16 ho hk hu hc hn
theorem dq_Road_costOf_17 : decode (km_c mm_Road_costOf) 17 = .ok (.iaload, 1) := by decide +kernel
theorem sq_Road_costOf_17 (ho : sx_o o pl kp) (hk : ak L a = 0) (hu : sx_up pl kp a = true ∨ 1000 ≤ a) (hc : c < ln L a) (hn : ln L a < 2 ^ 31) : rn (lt_G o L) mm_Road_costOf 17 lv (.int (nI c) :: .ref a :: st) (sx pl kp I A) P ↔ rn (lt_G o L) mm_Road_costOf 18 lv (.int (A a c) :: st) (sx pl kp I A) P := rx_ild dq_Road_costOf_17 ho hk hu hc hn
theorem dq_Road_costOf_18 : decode (km_c mm_Road_costOf) 18 = .ok (.aload_n 0, 1) := by decide +kernel
theorem sq_Road_costOf_18 : rn G mm_Road_costOf 18 [some (.ref z), a1, a2] st S P ↔ rn G mm_Road_costOf 19 [some (.ref z), a1, a2] (.ref z :: st) S P := rn_s dq_Road_costOf_18 rfl rfl rfl
theorem dq_Road_costOf_19 : decode (km_c mm_Road_costOf) 19 = .ok (.invokevirtual 90, 3) := by decide +kernel
theorem sq_Road_costOf_19_0  {v : Option Value} {S2 : ks_S} (hc : ev (lt_G o L) mm_Road_waterNow [.ref 0] (sx pl kp I A) v S2) (ho : sx_o o pl kp) (hst : kx_cat st ≤ 8) : rn (lt_G o L) mm_Road_costOf 19 lv (.ref 0 :: st) (sx pl kp I A) P ↔ rn (lt_G o L) mm_Road_costOf 22 lv (v.toList ++ st) S2 P := rn_cv (k := 0) (host := "") (E' := mm_Road_waterNow) dq_Road_costOf_19 rfl (ok_v rfl (by decide) (by decide) (Nat.le_add_left _ _) hst (Nat.le_of_ble_eq_true rfl) (Or.inr (rc_v ho (up_b (by decide)) rfl))) rfl rfl hc
theorem dq_Road_costOf_22 : decode (km_c mm_Road_costOf) 22 = .ok (.getfield 94, 3) := by decide +kernel
theorem sq_Road_costOf_22_16 (ho : sx_o o pl kp) : rn (lt_G o L) mm_Road_costOf 22 lv (.ref 16 :: st) (sx pl kp I A) P ↔ rn (lt_G o L) mm_Road_costOf 25 lv (.ref 17 :: st) (sx pl kp I A) P := rx_get (h := "DeltaRoad") (ci := 6) (k := 0) dq_Road_costOf_22 (by decide +kernel) ho (up_b (by decide)) rfl rfl (fl_r (by decide) (by decide) (by decide) (by decide))
theorem sq_Road_costOf_22_20 (ho : sx_o o pl kp) : rn (lt_G o L) mm_Road_costOf 22 lv (.ref 20 :: st) (sx pl kp I A) P ↔ rn (lt_G o L) mm_Road_costOf 25 lv (.ref 21 :: st) (sx pl kp I A) P := rx_get (h := "DeltaRoad") (ci := 6) (k := 0) dq_Road_costOf_22 (by decide +kernel) ho (up_b (by decide)) rfl rfl (fl_r (by decide) (by decide) (by decide) (by decide))
theorem dq_Road_costOf_25 : decode (km_c mm_Road_costOf) 25 = .ok (.iload_n 1, 1) := by decide +kernel
theorem sq_Road_costOf_25 : rn G mm_Road_costOf 25 [a0, some (.int x), a2] st S P ↔ rn G mm_Road_costOf 26 [a0, some (.int x), a2] (.int x :: st) S P := rn_s dq_Road_costOf_25 rfl rfl rfl
theorem dq_Road_costOf_26 : decode (km_c mm_Road_costOf) 26 = .ok (.iaload, 1) := by decide +kernel
theorem sq_Road_costOf_26 (ho : sx_o o pl kp) (hk : ak L a = 0) (hu : sx_up pl kp a = true ∨ 1000 ≤ a) (hc : c < ln L a) (hn : ln L a < 2 ^ 31) : rn (lt_G o L) mm_Road_costOf 26 lv (.int (nI c) :: .ref a :: st) (sx pl kp I A) P ↔ rn (lt_G o L) mm_Road_costOf 27 lv (.int (A a c) :: st) (sx pl kp I A) P := rx_ild dq_Road_costOf_26 ho hk hu hc hn
theorem dq_Road_costOf_27 : decode (km_c mm_Road_costOf) 27 = .ok (.iadd, 1) := by decide +kernel
theorem sq_Road_costOf_27 : rn G mm_Road_costOf 27 lv (.int x2 :: .int x :: st) S P ↔ rn G mm_Road_costOf 28 lv (.int (x + x2) :: st) S P := rn_s dq_Road_costOf_27 rfl rfl rfl
theorem dq_Road_costOf_28 : decode (km_c mm_Road_costOf) 28 = .ok (.istore_n 2, 1) := by decide +kernel
theorem sq_Road_costOf_28n : rn G mm_Road_costOf 28 [a0, none, a2] (.int x :: st) S P ↔ rn G mm_Road_costOf 29 [a0, none, some (.int x)] st S P := rn_s dq_Road_costOf_28 rfl rfl rfl
theorem sq_Road_costOf_28i : rn G mm_Road_costOf 28 [a0, some (.int x2), a2] (.int x :: st) S P ↔ rn G mm_Road_costOf 29 [a0, some (.int x2), some (.int x)] st S P := rn_s dq_Road_costOf_28 rfl rfl rfl
theorem sq_Road_costOf_28r : rn G mm_Road_costOf 28 [a0, some (.ref z2), a2] (.int x :: st) S P ↔ rn G mm_Road_costOf 29 [a0, some (.ref z2), some (.int x)] st S P := rn_s dq_Road_costOf_28 rfl rfl rfl
theorem dq_Road_costOf_29 : decode (km_c mm_Road_costOf) 29 = .ok (.iconst 1, 1) := by decide +kernel
theorem sq_Road_costOf_29 : rn G mm_Road_costOf 29 lv st S P ↔ rn G mm_Road_costOf 30 lv (.int (nI 1) :: st) S P := rn_s dq_Road_costOf_29 rfl rfl rfl
theorem dq_Road_costOf_30 : decode (km_c mm_Road_costOf) 30 = .ok (.iload_n 2, 1) := by decide +kernel
theorem sq_Road_costOf_30 : rn G mm_Road_costOf 30 [a0, a1, some (.int x)] st S P ↔ rn G mm_Road_costOf 31 [a0, a1, some (.int x)] (.int x :: st) S P := rn_s dq_Road_costOf_30 rfl rfl rfl
theorem dq_Road_costOf_31 : decode (km_c mm_Road_costOf) 31 = .ok (.aload_n 0, 1) := by decide +kernel
theorem sq_Road_costOf_31 : rn G mm_Road_costOf 31 [some (.ref z), a1, a2] st S P ↔ rn G mm_Road_costOf 32 [some (.ref z), a1, a2] (.ref z :: st) S P := rn_s dq_Road_costOf_31 rfl rfl rfl
theorem dq_Road_costOf_32 : decode (km_c mm_Road_costOf) 32 = .ok (.getfield 10, 3) := by decide +kernel
theorem sq_Road_costOf_32_0 (ho : sx_o o pl kp) : rn (lt_G o L) mm_Road_costOf 32 lv (.ref 0 :: st) (sx pl kp I A) P ↔ rn (lt_G o L) mm_Road_costOf 35 lv (.ref 1 :: st) (sx pl kp I A) P := rx_get (h := "") (ci := 9) (k := 0) dq_Road_costOf_32 (by decide +kernel) ho (up_b (by decide)) rfl rfl (fl_r (by decide) (by decide) (by decide) (by decide))
theorem dq_Road_costOf_35 : decode (km_c mm_Road_costOf) 35 = .ok (.getfield 80, 3) := by decide +kernel
theorem sq_Road_costOf_35_1 (ho : sx_o o pl kp) : rn (lt_G o L) mm_Road_costOf 35 lv (.ref 1 :: st) (sx pl kp I A) P ↔ rn (lt_G o L) mm_Road_costOf 38 lv (.ref 2 :: st) (sx pl kp I A) P := rx_get (h := "DeltaRoad") (ci := 8) (k := 0) dq_Road_costOf_35 (by decide +kernel) ho (up_b (by decide)) rfl rfl (fl_r (by decide) (by decide) (by decide) (by decide))
theorem sq_Road_costOf_35_136 (ho : sx_o o pl true) : rn (lt_G o L) mm_Road_costOf 35 lv (.ref 136 :: st) (sx pl true I A) P ↔ rn (lt_G o L) mm_Road_costOf 38 lv (.ref 137 :: st) (sx pl true I A) P := rx_get (h := "DeltaRoad") (ci := 8) (k := 0) dq_Road_costOf_35 (by decide +kernel) ho (up_k (by decide) (by decide)) rfl rfl (fl_k (by decide) (by decide))
theorem dq_Road_costOf_38 : decode (km_c mm_Road_costOf) 38 = .ok (.getfield 83, 3) := by decide +kernel
theorem sq_Road_costOf_38_2 (ho : sx_o o pl kp) : rn (lt_G o L) mm_Road_costOf 38 lv (.ref 2 :: st) (sx pl kp I A) P ↔ rn (lt_G o L) mm_Road_costOf 41 lv (.ref 3 :: st) (sx pl kp I A) P := rx_get (h := "DeltaRoad") (ci := 0) (k := 0) dq_Road_costOf_38 (by decide +kernel) ho (up_b (by decide)) rfl rfl (fl_r (by decide) (by decide) (by decide) (by decide))
theorem sq_Road_costOf_38_35 (ho : sx_o o pl kp) : rn (lt_G o L) mm_Road_costOf 38 lv (.ref 35 :: st) (sx pl kp I A) P ↔ rn (lt_G o L) mm_Road_costOf 41 lv (.ref 36 :: st) (sx pl kp I A) P := rx_get (h := "DeltaRoad") (ci := 0) (k := 0) dq_Road_costOf_38 (by decide +kernel) ho (up_b (by decide)) rfl rfl (fl_r (by decide) (by decide) (by decide) (by decide))
theorem sq_Road_costOf_38_137 (ho : sx_o o pl true) : rn (lt_G o L) mm_Road_costOf 38 lv (.ref 137 :: st) (sx pl true I A) P ↔ rn (lt_G o L) mm_Road_costOf 41 lv (.ref 138 :: st) (sx pl true I A) P := rx_get (h := "DeltaRoad") (ci := 0) (k := 0) dq_Road_costOf_38 (by decide +kernel) ho (up_k (by decide) (by decide)) rfl rfl (fl_k (by decide) (by decide))
theorem dq_Road_costOf_41 : decode (km_c mm_Road_costOf) 41 = .ok (.iconst 3, 1) := by decide +kernel
theorem sq_Road_costOf_41 : rn G mm_Road_costOf 41 lv st S P ↔ rn G mm_Road_costOf 42 lv (.int (nI 3) :: st) S P := rn_s dq_Road_costOf_41 rfl rfl rfl
theorem dq_Road_costOf_42 : decode (km_c mm_Road_costOf) 42 = .ok (.aaload, 1) := by decide +kernel
theorem sq_Road_costOf_42 (ho : sx_o o pl kp) (hk : ak L a = 3) (hu : sx_up pl kp a = true) (hc : c < ln L a) (hn : ln L a < 2 ^ 31) : rn (lt_G o L) mm_Road_costOf 42 lv (.int (nI c) :: .ref a :: st) (sx pl kp I A) P ↔ rn (lt_G o L) mm_Road_costOf 43 lv (.ref (ab L a + c) :: st) (sx pl kp I A) P := rx_ald dq_Road_costOf_42 ho hk hu hc hn
theorem dq_Road_costOf_43 : decode (km_c mm_Road_costOf) 43 = .ok (.iload_n 1, 1) := by decide +kernel
theorem sq_Road_costOf_43 : rn G mm_Road_costOf 43 [a0, some (.int x), a2] st S P ↔ rn G mm_Road_costOf 44 [a0, some (.int x), a2] (.int x :: st) S P := rn_s dq_Road_costOf_43 rfl rfl rfl
theorem dq_Road_costOf_44 : decode (km_c mm_Road_costOf) 44 = .ok (.iaload, 1) := by decide +kernel
theorem sq_Road_costOf_44 (ho : sx_o o pl kp) (hk : ak L a = 0) (hu : sx_up pl kp a = true ∨ 1000 ≤ a) (hc : c < ln L a) (hn : ln L a < 2 ^ 31) : rn (lt_G o L) mm_Road_costOf 44 lv (.int (nI c) :: .ref a :: st) (sx pl kp I A) P ↔ rn (lt_G o L) mm_Road_costOf 45 lv (.int (A a c) :: st) (sx pl kp I A) P := rx_ild dq_Road_costOf_44 ho hk hu hc hn
theorem dq_Road_costOf_45 : decode (km_c mm_Road_costOf) 45 = .ok (.isub, 1) := by decide +kernel
theorem sq_Road_costOf_45 : rn G mm_Road_costOf 45 lv (.int x2 :: .int x :: st) S P ↔ rn G mm_Road_costOf 46 lv (.int (x - x2) :: st) S P := rn_s dq_Road_costOf_45 rfl rfl rfl
theorem dq_Road_costOf_46 : decode (km_c mm_Road_costOf) 46 = .ok (.invokestatic 325, 3) := by decide +kernel
theorem sq_Road_costOf_46 (hst : kx_cat st ≤ 8) : rn G mm_Road_costOf 46 lv (.int x2 :: .int x :: st) S P ↔ rn G mm_Road_costOf 49 lv (.int (if x < x2 then x2 else x) :: st) S P := rn_mm dq_Road_costOf_46 (by decide) (w := 0) (by decide) (if_pos ⟨by decide, Nat.le_trans (Nat.add_le_add_right hst 13) (by decide)⟩)
theorem dq_Road_costOf_49 : decode (km_c mm_Road_costOf) 49 = .ok (.ireturn, 1) := by decide +kernel
theorem sq_Road_costOf_49 : rn G mm_Road_costOf 49 lv [.int x] S P ↔ P (some (.int x)) S := rn_ir dq_Road_costOf_49 rfl
theorem dq_Road_bearingOf_0 : decode (km_c mm_Road_bearingOf) 0 = .ok (.bipush 40, 2) := by decide +kernel
theorem sq_Road_bearingOf_0 : rn G mm_Road_bearingOf 0 lv st S P ↔ rn G mm_Road_bearingOf 2 lv (.int (nI 40) :: st) S P := rn_s dq_Road_bearingOf_0 rfl rfl rfl
theorem dq_Road_bearingOf_2 : decode (km_c mm_Road_bearingOf) 2 = .ok (.getstatic 330, 3) := by decide +kernel
theorem sq_Road_bearingOf_2 : rn (lt_G o L) mm_Road_bearingOf 2 lv st (sx pl kp I A) P ↔ rn (lt_G o L) mm_Road_bearingOf 5 lv (.ref 1002 :: st) (sx pl kp I A) P := rx_st (h := "") (k := 2) dq_Road_bearingOf_2 (by decide +kernel)
theorem dq_Road_bearingOf_5 : decode (km_c mm_Road_bearingOf) 5 = .ok (.aload_n 0, 1) := by decide +kernel
theorem sq_Road_bearingOf_5 : rn G mm_Road_bearingOf 5 [some (.ref z), a1, a2] st S P ↔ rn G mm_Road_bearingOf 6 [some (.ref z), a1, a2] (.ref z :: st) S P := rn_s dq_Road_bearingOf_5 rfl rfl rfl
theorem dq_Road_bearingOf_6 : decode (km_c mm_Road_bearingOf) 6 = .ok (.getfield 10, 3) := by decide +kernel
theorem sq_Road_bearingOf_6_0 (ho : sx_o o pl kp) : rn (lt_G o L) mm_Road_bearingOf 6 lv (.ref 0 :: st) (sx pl kp I A) P ↔ rn (lt_G o L) mm_Road_bearingOf 9 lv (.ref 1 :: st) (sx pl kp I A) P := rx_get (h := "") (ci := 9) (k := 0) dq_Road_bearingOf_6 (by decide +kernel) ho (up_b (by decide)) rfl rfl (fl_r (by decide) (by decide) (by decide) (by decide))
theorem dq_Road_bearingOf_9 : decode (km_c mm_Road_bearingOf) 9 = .ok (.getfield 80, 3) := by decide +kernel
theorem sq_Road_bearingOf_9_1 (ho : sx_o o pl kp) : rn (lt_G o L) mm_Road_bearingOf 9 lv (.ref 1 :: st) (sx pl kp I A) P ↔ rn (lt_G o L) mm_Road_bearingOf 12 lv (.ref 2 :: st) (sx pl kp I A) P := rx_get (h := "DeltaRoad") (ci := 8) (k := 0) dq_Road_bearingOf_9 (by decide +kernel) ho (up_b (by decide)) rfl rfl (fl_r (by decide) (by decide) (by decide) (by decide))
theorem sq_Road_bearingOf_9_136 (ho : sx_o o pl true) : rn (lt_G o L) mm_Road_bearingOf 9 lv (.ref 136 :: st) (sx pl true I A) P ↔ rn (lt_G o L) mm_Road_bearingOf 12 lv (.ref 137 :: st) (sx pl true I A) P := rx_get (h := "DeltaRoad") (ci := 8) (k := 0) dq_Road_bearingOf_9 (by decide +kernel) ho (up_k (by decide) (by decide)) rfl rfl (fl_k (by decide) (by decide))
theorem dq_Road_bearingOf_12 : decode (km_c mm_Road_bearingOf) 12 = .ok (.getfield 83, 3) := by decide +kernel
theorem sq_Road_bearingOf_12_2 (ho : sx_o o pl kp) : rn (lt_G o L) mm_Road_bearingOf 12 lv (.ref 2 :: st) (sx pl kp I A) P ↔ rn (lt_G o L) mm_Road_bearingOf 15 lv (.ref 3 :: st) (sx pl kp I A) P := rx_get (h := "DeltaRoad") (ci := 0) (k := 0) dq_Road_bearingOf_12 (by decide +kernel) ho (up_b (by decide)) rfl rfl (fl_r (by decide) (by decide) (by decide) (by decide))
theorem sq_Road_bearingOf_12_35 (ho : sx_o o pl kp) : rn (lt_G o L) mm_Road_bearingOf 12 lv (.ref 35 :: st) (sx pl kp I A) P ↔ rn (lt_G o L) mm_Road_bearingOf 15 lv (.ref 36 :: st) (sx pl kp I A) P := rx_get (h := "DeltaRoad") (ci := 0) (k := 0) dq_Road_bearingOf_12 (by decide +kernel) ho (up_b (by decide)) rfl rfl (fl_r (by decide) (by decide) (by decide) (by decide))
theorem sq_Road_bearingOf_12_137 (ho : sx_o o pl true) : rn (lt_G o L) mm_Road_bearingOf 12 lv (.ref 137 :: st) (sx pl true I A) P ↔ rn (lt_G o L) mm_Road_bearingOf 15 lv (.ref 138 :: st) (sx pl true I A) P := rx_get (h := "DeltaRoad") (ci := 0) (k := 0) dq_Road_bearingOf_12 (by decide +kernel) ho (up_k (by decide) (by decide)) rfl rfl (fl_k (by decide) (by decide))
theorem dq_Road_bearingOf_15 : decode (km_c mm_Road_bearingOf) 15 = .ok (.iconst 2, 1) := by decide +kernel
theorem sq_Road_bearingOf_15 : rn G mm_Road_bearingOf 15 lv st S P ↔ rn G mm_Road_bearingOf 16 lv (.int (nI 2) :: st) S P := rn_s dq_Road_bearingOf_15 rfl rfl rfl
theorem dq_Road_bearingOf_16 : decode (km_c mm_Road_bearingOf) 16 = .ok (.aaload, 1) := by decide +kernel
theorem sq_Road_bearingOf_16 (ho : sx_o o pl kp) (hk : ak L a = 3) (hu : sx_up pl kp a = true) (hc : c < ln L a) (hn : ln L a < 2 ^ 31) : rn (lt_G o L) mm_Road_bearingOf 16 lv (.int (nI c) :: .ref a :: st) (sx pl kp I A) P ↔ rn (lt_G o L) mm_Road_bearingOf 17 lv (.ref (ab L a + c) :: st) (sx pl kp I A) P := rx_ald dq_Road_bearingOf_16 ho hk hu hc hn
theorem dq_Road_bearingOf_17 : decode (km_c mm_Road_bearingOf) 17 = .ok (.iload_n 1, 1) := by decide +kernel
theorem sq_Road_bearingOf_17 : rn G mm_Road_bearingOf 17 [a0, some (.int x), a2] st S P ↔ rn G mm_Road_bearingOf 18 [a0, some (.int x), a2] (.int x :: st) S P := rn_s dq_Road_bearingOf_17 rfl rfl rfl
theorem dq_Road_bearingOf_18 : decode (km_c mm_Road_bearingOf) 18 = .ok (.iaload, 1) := by decide +kernel
theorem sq_Road_bearingOf_18 (ho : sx_o o pl kp) (hk : ak L a = 0) (hu : sx_up pl kp a = true ∨ 1000 ≤ a) (hc : c < ln L a) (hn : ln L a < 2 ^ 31) : rn (lt_G o L) mm_Road_bearingOf 18 lv (.int (nI c) :: .ref a :: st) (sx pl kp I A) P ↔ rn (lt_G o L) mm_Road_bearingOf 19 lv (.int (A a c) :: st) (sx pl kp I A) P := rx_ild dq_Road_bearingOf_18 ho hk hu hc hn
theorem dq_Road_bearingOf_19 : decode (km_c mm_Road_bearingOf) 19 = .ok (.iaload, 1) := by decide +kernel
theorem sq_Road_bearingOf_19 (ho : sx_o o pl kp) (hk : ak L a = 0) (hu : sx_up pl kp a = true ∨ 1000 ≤ a) (hc : c < ln L a) (hn : ln L a < 2 ^ 31) : rn (lt_G o L) mm_Road_bearingOf 19 lv (.int (nI c) :: .ref a :: st) (sx pl kp I A) P ↔ rn (lt_G o L) mm_Road_bearingOf 20 lv (.int (A a c) :: st) (sx pl kp I A) P := rx_ild dq_Road_bearingOf_19 ho hk hu hc hn
theorem dq_Road_bearingOf_20 : decode (km_c mm_Road_bearingOf) 20 = .ok (.isub, 1) := by decide +kernel
theorem sq_Road_bearingOf_20 : rn G mm_Road_bearingOf 20 lv (.int x2 :: .int x :: st) S P ↔ rn G mm_Road_bearingOf 21 lv (.int (x - x2) :: st) S P := rn_s dq_Road_bearingOf_20 rfl rfl rfl
theorem dq_Road_bearingOf_21 : decode (km_c mm_Road_bearingOf) 21 = .ok (.bipush 15, 2) := by decide +kernel
theorem sq_Road_bearingOf_21 : rn G mm_Road_bearingOf 21 lv st S P ↔ rn G mm_Road_bearingOf 23 lv (.int (nI 15) :: st) S P := rn_s dq_Road_bearingOf_21 rfl rfl rfl
theorem dq_Road_bearingOf_23 : decode (km_c mm_Road_bearingOf) 23 = .ok (.aload_n 0, 1) := by decide +kernel
theorem sq_Road_bearingOf_23 : rn G mm_Road_bearingOf 23 [some (.ref z), a1, a2] st S P ↔ rn G mm_Road_bearingOf 24 [some (.ref z), a1, a2] (.ref z :: st) S P := rn_s dq_Road_bearingOf_23 rfl rfl rfl
theorem dq_Road_bearingOf_24 : decode (km_c mm_Road_bearingOf) 24 = .ok (.getfield 10, 3) := by decide +kernel
theorem sq_Road_bearingOf_24_0 (ho : sx_o o pl kp) : rn (lt_G o L) mm_Road_bearingOf 24 lv (.ref 0 :: st) (sx pl kp I A) P ↔ rn (lt_G o L) mm_Road_bearingOf 27 lv (.ref 1 :: st) (sx pl kp I A) P := rx_get (h := "") (ci := 9) (k := 0) dq_Road_bearingOf_24 (by decide +kernel) ho (up_b (by decide)) rfl rfl (fl_r (by decide) (by decide) (by decide) (by decide))
theorem dq_Road_bearingOf_27 : decode (km_c mm_Road_bearingOf) 27 = .ok (.getfield 80, 3) := by decide +kernel
theorem sq_Road_bearingOf_27_1 (ho : sx_o o pl kp) : rn (lt_G o L) mm_Road_bearingOf 27 lv (.ref 1 :: st) (sx pl kp I A) P ↔ rn (lt_G o L) mm_Road_bearingOf 30 lv (.ref 2 :: st) (sx pl kp I A) P := rx_get (h := "DeltaRoad") (ci := 8) (k := 0) dq_Road_bearingOf_27 (by decide +kernel) ho (up_b (by decide)) rfl rfl (fl_r (by decide) (by decide) (by decide) (by decide))
theorem sq_Road_bearingOf_27_136 (ho : sx_o o pl true) : rn (lt_G o L) mm_Road_bearingOf 27 lv (.ref 136 :: st) (sx pl true I A) P ↔ rn (lt_G o L) mm_Road_bearingOf 30 lv (.ref 137 :: st) (sx pl true I A) P := rx_get (h := "DeltaRoad") (ci := 8) (k := 0) dq_Road_bearingOf_27 (by decide +kernel) ho (up_k (by decide) (by decide)) rfl rfl (fl_k (by decide) (by decide))
theorem dq_Road_bearingOf_30 : decode (km_c mm_Road_bearingOf) 30 = .ok (.getfield 83, 3) := by decide +kernel
theorem sq_Road_bearingOf_30_2 (ho : sx_o o pl kp) : rn (lt_G o L) mm_Road_bearingOf 30 lv (.ref 2 :: st) (sx pl kp I A) P ↔ rn (lt_G o L) mm_Road_bearingOf 33 lv (.ref 3 :: st) (sx pl kp I A) P := rx_get (h := "DeltaRoad") (ci := 0) (k := 0) dq_Road_bearingOf_30 (by decide +kernel) ho (up_b (by decide)) rfl rfl (fl_r (by decide) (by decide) (by decide) (by decide))
theorem sq_Road_bearingOf_30_35 (ho : sx_o o pl kp) : rn (lt_G o L) mm_Road_bearingOf 30 lv (.ref 35 :: st) (sx pl kp I A) P ↔ rn (lt_G o L) mm_Road_bearingOf 33 lv (.ref 36 :: st) (sx pl kp I A) P := rx_get (h := "DeltaRoad") (ci := 0) (k := 0) dq_Road_bearingOf_30 (by decide +kernel) ho (up_b (by decide)) rfl rfl (fl_r (by decide) (by decide) (by decide) (by decide))
theorem sq_Road_bearingOf_30_137 (ho : sx_o o pl true) : rn (lt_G o L) mm_Road_bearingOf 30 lv (.ref 137 :: st) (sx pl true I A) P ↔ rn (lt_G o L) mm_Road_bearingOf 33 lv (.ref 138 :: st) (sx pl true I A) P := rx_get (h := "DeltaRoad") (ci := 0) (k := 0) dq_Road_bearingOf_30 (by decide +kernel) ho (up_k (by decide) (by decide)) rfl rfl (fl_k (by decide) (by decide))
theorem dq_Road_bearingOf_33 : decode (km_c mm_Road_bearingOf) 33 = .ok (.iconst 3, 1) := by decide +kernel
theorem sq_Road_bearingOf_33 : rn G mm_Road_bearingOf 33 lv st S P ↔ rn G mm_Road_bearingOf 34 lv (.int (nI 3) :: st) S P := rn_s dq_Road_bearingOf_33 rfl rfl rfl
theorem dq_Road_bearingOf_34 : decode (km_c mm_Road_bearingOf) 34 = .ok (.aaload, 1) := by decide +kernel
theorem sq_Road_bearingOf_34 (ho : sx_o o pl kp) (hk : ak L a = 3) (hu : sx_up pl kp a = true) (hc : c < ln L a) (hn : ln L a < 2 ^ 31) : rn (lt_G o L) mm_Road_bearingOf 34 lv (.int (nI c) :: .ref a :: st) (sx pl kp I A) P ↔ rn (lt_G o L) mm_Road_bearingOf 35 lv (.ref (ab L a + c) :: st) (sx pl kp I A) P := rx_ald dq_Road_bearingOf_34 ho hk hu hc hn
theorem dq_Road_bearingOf_35 : decode (km_c mm_Road_bearingOf) 35 = .ok (.iload_n 1, 1) := by decide +kernel
theorem sq_Road_bearingOf_35 : rn G mm_Road_bearingOf 35 [a0, some (.int x), a2] st S P ↔ rn G mm_Road_bearingOf 36 [a0, some (.int x), a2] (.int x :: st) S P := rn_s dq_Road_bearingOf_35 rfl rfl rfl
theorem dq_Road_bearingOf_36 : decode (km_c mm_Road_bearingOf) 36 = .ok (.iaload, 1) := by decide +kernel
theorem sq_Road_bearingOf_36 (ho : sx_o o pl kp) (hk : ak L a = 0) (hu : sx_up pl kp a = true ∨ 1000 ≤ a) (hc : c < ln L a) (hn : ln L a < 2 ^ 31) : rn (lt_G o L) mm_Road_bearingOf 36 lv (.int (nI c) :: .ref a :: st) (sx pl kp I A) P ↔ rn (lt_G o L) mm_Road_bearingOf 37 lv (.int (A a c) :: st) (sx pl kp I A) P := rx_ild dq_Road_bearingOf_36 ho hk hu hc hn
theorem dq_Road_bearingOf_37 : decode (km_c mm_Road_bearingOf) 37 = .ok (.imul, 1) := by decide +kernel
theorem sq_Road_bearingOf_37 : rn G mm_Road_bearingOf 37 lv (.int x2 :: .int x :: st) S P ↔ rn G mm_Road_bearingOf 38 lv (.int (x * x2) :: st) S P := rn_s dq_Road_bearingOf_37 rfl rfl rfl
theorem dq_Road_bearingOf_38 : decode (km_c mm_Road_bearingOf) 38 = .ok (.iadd, 1) := by decide +kernel
theorem sq_Road_bearingOf_38 : rn G mm_Road_bearingOf 38 lv (.int x2 :: .int x :: st) S P ↔ rn G mm_Road_bearingOf 39 lv (.int (x + x2) :: st) S P := rn_s dq_Road_bearingOf_38 rfl rfl rfl
theorem dq_Road_bearingOf_39 : decode (km_c mm_Road_bearingOf) 39 = .ok (.istore_n 2, 1) := by decide +kernel
theorem sq_Road_bearingOf_39n : rn G mm_Road_bearingOf 39 [a0, none, a2] (.int x :: st) S P ↔ rn G mm_Road_bearingOf 40 [a0, none, some (.int x)] st S P := rn_s dq_Road_bearingOf_39 rfl rfl rfl
theorem sq_Road_bearingOf_39i : rn G mm_Road_bearingOf 39 [a0, some (.int x2), a2] (.int x :: st) S P ↔ rn G mm_Road_bearingOf 40 [a0, some (.int x2), some (.int x)] st S P := rn_s dq_Road_bearingOf_39 rfl rfl rfl
theorem sq_Road_bearingOf_39r : rn G mm_Road_bearingOf 39 [a0, some (.ref z2), a2] (.int x :: st) S P ↔ rn G mm_Road_bearingOf 40 [a0, some (.ref z2), some (.int x)] st S P := rn_s dq_Road_bearingOf_39 rfl rfl rfl
theorem dq_Road_bearingOf_40 : decode (km_c mm_Road_bearingOf) 40 = .ok (.iconst 0, 1) := by decide +kernel
theorem sq_Road_bearingOf_40 : rn G mm_Road_bearingOf 40 lv st S P ↔ rn G mm_Road_bearingOf 41 lv (.int (nI 0) :: st) S P := rn_s dq_Road_bearingOf_40 rfl rfl rfl
theorem dq_Road_bearingOf_41 : decode (km_c mm_Road_bearingOf) 41 = .ok (.iload_n 2, 1) := by decide +kernel
theorem sq_Road_bearingOf_41 : rn G mm_Road_bearingOf 41 [a0, a1, some (.int x)] st S P ↔ rn G mm_Road_bearingOf 42 [a0, a1, some (.int x)] (.int x :: st) S P := rn_s dq_Road_bearingOf_41 rfl rfl rfl
theorem dq_Road_bearingOf_42 : decode (km_c mm_Road_bearingOf) 42 = .ok (.iconst 4, 1) := by decide +kernel
theorem sq_Road_bearingOf_42 : rn G mm_Road_bearingOf 42 lv st S P ↔ rn G mm_Road_bearingOf 43 lv (.int (nI 4) :: st) S P := rn_s dq_Road_bearingOf_42 rfl rfl rfl
theorem dq_Road_bearingOf_43 : decode (km_c mm_Road_bearingOf) 43 = .ok (.aload_n 0, 1) := by decide +kernel
theorem sq_Road_bearingOf_43 : rn G mm_Road_bearingOf 43 [some (.ref z), a1, a2] st S P ↔ rn G mm_Road_bearingOf 44 [some (.ref z), a1, a2] (.ref z :: st) S P := rn_s dq_Road_bearingOf_43 rfl rfl rfl
theorem dq_Road_bearingOf_44 : decode (km_c mm_Road_bearingOf) 44 = .ok (.invokevirtual 90, 3) := by decide +kernel
theorem sq_Road_bearingOf_44_0  {v : Option Value} {S2 : ks_S} (hc : ev (lt_G o L) mm_Road_waterNow [.ref 0] (sx pl kp I A) v S2) (ho : sx_o o pl kp) (hst : kx_cat st ≤ 8) : rn (lt_G o L) mm_Road_bearingOf 44 lv (.ref 0 :: st) (sx pl kp I A) P ↔ rn (lt_G o L) mm_Road_bearingOf 47 lv (v.toList ++ st) S2 P := rn_cv (k := 0) (host := "") (E' := mm_Road_waterNow) dq_Road_bearingOf_44 rfl (ok_v rfl (by decide) (by decide) (Nat.le_add_left _ _) hst (Nat.le_of_ble_eq_true rfl) (Or.inr (rc_v ho (up_b (by decide)) rfl))) rfl rfl hc
theorem dq_Road_bearingOf_47 : decode (km_c mm_Road_bearingOf) 47 = .ok (.getfield 94, 3) := by decide +kernel
theorem sq_Road_bearingOf_47_16 (ho : sx_o o pl kp) : rn (lt_G o L) mm_Road_bearingOf 47 lv (.ref 16 :: st) (sx pl kp I A) P ↔ rn (lt_G o L) mm_Road_bearingOf 50 lv (.ref 17 :: st) (sx pl kp I A) P := rx_get (h := "DeltaRoad") (ci := 6) (k := 0) dq_Road_bearingOf_47 (by decide +kernel) ho (up_b (by decide)) rfl rfl (fl_r (by decide) (by decide) (by decide) (by decide))
theorem sq_Road_bearingOf_47_20 (ho : sx_o o pl kp) : rn (lt_G o L) mm_Road_bearingOf 47 lv (.ref 20 :: st) (sx pl kp I A) P ↔ rn (lt_G o L) mm_Road_bearingOf 50 lv (.ref 21 :: st) (sx pl kp I A) P := rx_get (h := "DeltaRoad") (ci := 6) (k := 0) dq_Road_bearingOf_47 (by decide +kernel) ho (up_b (by decide)) rfl rfl (fl_r (by decide) (by decide) (by decide) (by decide))
theorem dq_Road_bearingOf_50 : decode (km_c mm_Road_bearingOf) 50 = .ok (.iload_n 1, 1) := by decide +kernel
theorem sq_Road_bearingOf_50 : rn G mm_Road_bearingOf 50 [a0, some (.int x), a2] st S P ↔ rn G mm_Road_bearingOf 51 [a0, some (.int x), a2] (.int x :: st) S P := rn_s dq_Road_bearingOf_50 rfl rfl rfl
theorem dq_Road_bearingOf_51 : decode (km_c mm_Road_bearingOf) 51 = .ok (.iaload, 1) := by decide +kernel
theorem sq_Road_bearingOf_51 (ho : sx_o o pl kp) (hk : ak L a = 0) (hu : sx_up pl kp a = true ∨ 1000 ≤ a) (hc : c < ln L a) (hn : ln L a < 2 ^ 31) : rn (lt_G o L) mm_Road_bearingOf 51 lv (.int (nI c) :: .ref a :: st) (sx pl kp I A) P ↔ rn (lt_G o L) mm_Road_bearingOf 52 lv (.int (A a c) :: st) (sx pl kp I A) P := rx_ild dq_Road_bearingOf_51 ho hk hu hc hn
theorem dq_Road_bearingOf_52 : decode (km_c mm_Road_bearingOf) 52 = .ok (.imul, 1) := by decide +kernel
theorem sq_Road_bearingOf_52 : rn G mm_Road_bearingOf 52 lv (.int x2 :: .int x :: st) S P ↔ rn G mm_Road_bearingOf 53 lv (.int (x * x2) :: st) S P := rn_s dq_Road_bearingOf_52 rfl rfl rfl
theorem dq_Road_bearingOf_53 : decode (km_c mm_Road_bearingOf) 53 = .ok (.isub, 1) := by decide +kernel
theorem sq_Road_bearingOf_53 : rn G mm_Road_bearingOf 53 lv (.int x2 :: .int x :: st) S P ↔ rn G mm_Road_bearingOf 54 lv (.int (x - x2) :: st) S P := rn_s dq_Road_bearingOf_53 rfl rfl rfl
theorem dq_Road_bearingOf_54 : decode (km_c mm_Road_bearingOf) 54 = .ok (.invokestatic 325, 3) := by decide +kernel
theorem sq_Road_bearingOf_54 (hst : kx_cat st ≤ 8) : rn G mm_Road_bearingOf 54 lv (.int x2 :: .int x :: st) S P ↔ rn G mm_Road_bearingOf 57 lv (.int (if x < x2 then x2 else x) :: st) S P := rn_mm dq_Road_bearingOf_54 (by decide) (w := 0) (by decide) (if_pos ⟨by decide, Nat.le_trans (Nat.add_le_add_right hst 13) (by decide)⟩)
theorem dq_Road_bearingOf_57 : decode (km_c mm_Road_bearingOf) 57 = .ok (.ireturn, 1) := by decide +kernel
theorem sq_Road_bearingOf_57 : rn G mm_Road_bearingOf 57 lv [.int x] S P ↔ P (some (.int x)) S := rn_ir dq_Road_bearingOf_57 rfl
theorem dq_Road_level_0 : decode (km_c mm_Road_level) 0 = .ok (.iload_n 1, 1) := by decide +kernel
theorem sq_Road_level_0 : rn G mm_Road_level 0 [a0, some (.int x)] st S P ↔ rn G mm_Road_level 1 [a0, some (.int x)] (.int x :: st) S P := rn_s dq_Road_level_0 rfl rfl rfl
theorem dq_Road_level_1 : decode (km_c mm_Road_level) 1 = .ok (.iconst 0, 1) := by decide +kernel
theorem sq_Road_level_1 : rn G mm_Road_level 1 lv st S P ↔ rn G mm_Road_level 2 lv (.int (nI 0) :: st) S P := rn_s dq_Road_level_1 rfl rfl rfl
theorem dq_Road_level_2 : decode (km_c mm_Road_level) 2 = .ok (.bipush 40, 2) := by decide +kernel
theorem sq_Road_level_2 : rn G mm_Road_level 2 lv st S P ↔ rn G mm_Road_level 4 lv (.int (nI 40) :: st) S P := rn_s dq_Road_level_2 rfl rfl rfl
theorem dq_Road_level_4 : decode (km_c mm_Road_level) 4 = .ok (.invokestatic 72, 3) := by decide +kernel
theorem sq_Road_level_4 {x1 : Int32} {x2 : Int32} {x3 : Int32} {v : Option Value} {S2 : ks_S} (hc : ev G mm_Road_outside [.int x1, .int x2, .int x3] S v S2) (hst : kx_cat st ≤ 8) : rn G mm_Road_level 4 lv (.int x3 :: .int x2 :: .int x1 :: st) S P ↔ rn G mm_Road_level 7 lv (v.toList ++ st) S2 P := rn_cs (k := 1) (host := "") (E' := mm_Road_outside) dq_Road_level_4 (by decide) (by decide) rfl (ok_v rfl (by decide) (by decide) (Nat.le_add_left _ _) hst (Nat.le_of_ble_eq_true rfl) (Or.inl rfl)) rfl rfl hc
theorem dq_Road_level_7 : decode (km_c mm_Road_level) 7 = .ok (.ifCond .eq 5, 3) := by decide +kernel
theorem sq_Road_level_7 : rn G mm_Road_level 7 lv (.int x :: st) S P ↔ ((x = 0 → rn G mm_Road_level 12 lv st S P) ∧ (¬ (x = 0) → rn G mm_Road_level 10 lv st S P)) := rn_b (off := 5) dq_Road_level_7 rfl rfl rfl rfl
theorem dq_Road_level_10 : decode (km_c mm_Road_level) 10 = .ok (.iconst (-1), 1) := by decide +kernel
theorem sq_Road_level_10 : rn G mm_Road_level 10 lv st S P ↔ rn G mm_Road_level 11 lv (.int ((-1)) :: st) S P := rn_s dq_Road_level_10 rfl rfl rfl
theorem dq_Road_level_11 : decode (km_c mm_Road_level) 11 = .ok (.ireturn, 1) := by decide +kernel
theorem sq_Road_level_11 : rn G mm_Road_level 11 lv [.int x] S P ↔ P (some (.int x)) S := rn_ir dq_Road_level_11 rfl
theorem dq_Road_level_12 : decode (km_c mm_Road_level) 12 = .ok (.aload_n 0, 1) := by decide +kernel
theorem sq_Road_level_12 : rn G mm_Road_level 12 [some (.ref z), a1] st S P ↔ rn G mm_Road_level 13 [some (.ref z), a1] (.ref z :: st) S P := rn_s dq_Road_level_12 rfl rfl rfl
theorem dq_Road_level_13 : decode (km_c mm_Road_level) 13 = .ok (.getfield 10, 3) := by decide +kernel
theorem sq_Road_level_13_0 (ho : sx_o o pl kp) : rn (lt_G o L) mm_Road_level 13 lv (.ref 0 :: st) (sx pl kp I A) P ↔ rn (lt_G o L) mm_Road_level 16 lv (.ref 1 :: st) (sx pl kp I A) P := rx_get (h := "") (ci := 9) (k := 0) dq_Road_level_13 (by decide +kernel) ho (up_b (by decide)) rfl rfl (fl_r (by decide) (by decide) (by decide) (by decide))
theorem dq_Road_level_16 : decode (km_c mm_Road_level) 16 = .ok (.getfield 80, 3) := by decide +kernel
theorem sq_Road_level_16_1 (ho : sx_o o pl kp) : rn (lt_G o L) mm_Road_level 16 lv (.ref 1 :: st) (sx pl kp I A) P ↔ rn (lt_G o L) mm_Road_level 19 lv (.ref 2 :: st) (sx pl kp I A) P := rx_get (h := "DeltaRoad") (ci := 8) (k := 0) dq_Road_level_16 (by decide +kernel) ho (up_b (by decide)) rfl rfl (fl_r (by decide) (by decide) (by decide) (by decide))
theorem sq_Road_level_16_136 (ho : sx_o o pl true) : rn (lt_G o L) mm_Road_level 16 lv (.ref 136 :: st) (sx pl true I A) P ↔ rn (lt_G o L) mm_Road_level 19 lv (.ref 137 :: st) (sx pl true I A) P := rx_get (h := "DeltaRoad") (ci := 8) (k := 0) dq_Road_level_16 (by decide +kernel) ho (up_k (by decide) (by decide)) rfl rfl (fl_k (by decide) (by decide))
theorem dq_Road_level_19 : decode (km_c mm_Road_level) 19 = .ok (.iload_n 1, 1) := by decide +kernel
theorem sq_Road_level_19 : rn G mm_Road_level 19 [a0, some (.int x)] st S P ↔ rn G mm_Road_level 20 [a0, some (.int x)] (.int x :: st) S P := rn_s dq_Road_level_19 rfl rfl rfl
theorem dq_Road_level_20 : decode (km_c mm_Road_level) 20 = .ok (.putfield 104, 3) := by decide +kernel
theorem sq_Road_level_20_2 (ho : sx_o o pl kp) : rn (lt_G o L) mm_Road_level 20 lv (.int x :: .ref 2 :: st) (sx pl kp I A) P ↔ rn (lt_G o L) mm_Road_level 23 lv st (sx pl kp (u2 I 2 1 x) A) P := rx_put (h := "DeltaRoad") (ci := 0) (k := 1) dq_Road_level_20 (by decide +kernel) ho (up_b (by decide)) rfl rfl (by decide) (by decide)
theorem sq_Road_level_20_35 (ho : sx_o o pl kp) : rn (lt_G o L) mm_Road_level 20 lv (.int x :: .ref 35 :: st) (sx pl kp I A) P ↔ rn (lt_G o L) mm_Road_level 23 lv st (sx pl kp (u2 I 35 1 x) A) P := rx_put (h := "DeltaRoad") (ci := 0) (k := 1) dq_Road_level_20 (by decide +kernel) ho (up_b (by decide)) rfl rfl (by decide) (by decide)
theorem sq_Road_level_20_137 (ho : sx_o o pl true) : rn (lt_G o L) mm_Road_level 20 lv (.int x :: .ref 137 :: st) (sx pl true I A) P ↔ rn (lt_G o L) mm_Road_level 23 lv st (sx pl true (u2 I 137 1 x) A) P := rx_put (h := "DeltaRoad") (ci := 0) (k := 1) dq_Road_level_20 (by decide +kernel) ho (up_k (by decide) (by decide)) rfl rfl (by decide) (by decide)
theorem dq_Road_level_23 : decode (km_c mm_Road_level) 23 = .ok (.aload_n 0, 1) := by decide +kernel
theorem sq_Road_level_23 : rn G mm_Road_level 23 [some (.ref z), a1] st S P ↔ rn G mm_Road_level 24 [some (.ref z), a1] (.ref z :: st) S P := rn_s dq_Road_level_23 rfl rfl rfl
theorem dq_Road_level_24 : decode (km_c mm_Road_level) 24 = .ok (.invokevirtual 87, 3) := by decide +kernel
theorem sq_Road_level_24_0  {v : Option Value} {S2 : ks_S} (hc : ev (lt_G o L) mm_Road_forget [.ref 0] (sx pl kp I A) v S2) (ho : sx_o o pl kp) (hst : kx_cat st ≤ 8) : rn (lt_G o L) mm_Road_level 24 lv (.ref 0 :: st) (sx pl kp I A) P ↔ rn (lt_G o L) mm_Road_level 27 lv (v.toList ++ st) S2 P := rn_cv (k := 0) (host := "") (E' := mm_Road_forget) dq_Road_level_24 rfl (ok_v rfl (by decide) (by decide) (Nat.le_add_left _ _) hst (Nat.le_of_ble_eq_true rfl) (Or.inr (rc_v ho (up_b (by decide)) rfl))) rfl rfl hc
theorem dq_Road_level_27 : decode (km_c mm_Road_level) 27 = .ok (.aload_n 0, 1) := by decide +kernel
theorem sq_Road_level_27 : rn G mm_Road_level 27 [some (.ref z), a1] st S P ↔ rn G mm_Road_level 28 [some (.ref z), a1] (.ref z :: st) S P := rn_s dq_Road_level_27 rfl rfl rfl
theorem dq_Road_level_28 : decode (km_c mm_Road_level) 28 = .ok (.invokevirtual 90, 3) := by decide +kernel
theorem sq_Road_level_28_0  {v : Option Value} {S2 : ks_S} (hc : ev (lt_G o L) mm_Road_waterNow [.ref 0] (sx pl kp I A) v S2) (ho : sx_o o pl kp) (hst : kx_cat st ≤ 8) : rn (lt_G o L) mm_Road_level 28 lv (.ref 0 :: st) (sx pl kp I A) P ↔ rn (lt_G o L) mm_Road_level 31 lv (v.toList ++ st) S2 P := rn_cv (k := 0) (host := "") (E' := mm_Road_waterNow) dq_Road_level_28 rfl (ok_v rfl (by decide) (by decide) (Nat.le_add_left _ _) hst (Nat.le_of_ble_eq_true rfl) (Or.inr (rc_v ho (up_b (by decide)) rfl))) rfl rfl hc
theorem dq_Road_level_31 : decode (km_c mm_Road_level) 31 = .ok (.invokevirtual 108, 3) := by decide +kernel
theorem sq_Road_level_31_16  {v : Option Value} {S2 : ks_S} (hc : ev (lt_G o L) mm_Water_wetCells [.ref 16] (sx pl kp I A) v S2) (ho : sx_o o pl kp) (hst : kx_cat st ≤ 8) : rn (lt_G o L) mm_Road_level 31 lv (.ref 16 :: st) (sx pl kp I A) P ↔ rn (lt_G o L) mm_Road_level 34 lv (v.toList ++ st) S2 P := rn_cv (k := 0) (host := "") (E' := mm_Water_wetCells) dq_Road_level_31 rfl (ok_v rfl (by decide) (by decide) (Nat.le_add_left _ _) hst (Nat.le_of_ble_eq_true rfl) (Or.inr (rc_v ho (up_b (by decide)) rfl))) rfl rfl hc
theorem sq_Road_level_31_20  {v : Option Value} {S2 : ks_S} (hc : ev (lt_G o L) mm_Water_wetCells [.ref 20] (sx pl kp I A) v S2) (ho : sx_o o pl kp) (hst : kx_cat st ≤ 8) : rn (lt_G o L) mm_Road_level 31 lv (.ref 20 :: st) (sx pl kp I A) P ↔ rn (lt_G o L) mm_Road_level 34 lv (v.toList ++ st) S2 P := rn_cv (k := 0) (host := "") (E' := mm_Water_wetCells) dq_Road_level_31 rfl (ok_v rfl (by decide) (by decide) (Nat.le_add_left _ _) hst (Nat.le_of_ble_eq_true rfl) (Or.inr (rc_v ho (up_b (by decide)) rfl))) rfl rfl hc
theorem dq_Road_level_34 : decode (km_c mm_Road_level) 34 = .ok (.ireturn, 1) := by decide +kernel
theorem sq_Road_level_34 : rn G mm_Road_level 34 lv [.int x] S P ↔ P (some (.int x)) S := rn_ir dq_Road_level_34 rfl
theorem dq_Road_flood_0 : decode (km_c mm_Road_flood) 0 = .ok (.aload_n 0, 1) := by decide +kernel
theorem sq_Road_flood_0 : rn G mm_Road_flood 0 [some (.ref z)] st S P ↔ rn G mm_Road_flood 1 [some (.ref z)] (.ref z :: st) S P := rn_s dq_Road_flood_0 rfl rfl rfl
theorem dq_Road_flood_1 : decode (km_c mm_Road_flood) 1 = .ok (.invokevirtual 112, 3) := by decide +kernel
theorem sq_Road_flood_1_0  {v : Option Value} {S2 : ks_S} (hc : ev (lt_G o L) mm_Road_runFlood [.ref 0] (sx pl kp I A) v S2) (ho : sx_o o pl kp) (hst : kx_cat st ≤ 8) : rn (lt_G o L) mm_Road_flood 1 lv (.ref 0 :: st) (sx pl kp I A) P ↔ rn (lt_G o L) mm_Road_flood 4 lv (v.toList ++ st) S2 P := rn_cv (k := 0) (host := "") (E' := mm_Road_runFlood) dq_Road_flood_1 rfl (ok_v rfl (by decide) (by decide) (Nat.le_add_left _ _) hst (Nat.le_of_ble_eq_true rfl) (Or.inr (rc_v ho (up_b (by decide)) rfl))) rfl rfl hc
theorem dq_Road_flood_4 : decode (km_c mm_Road_flood) 4 = .ok (.ireturn, 1) := by decide +kernel
theorem sq_Road_flood_4 : rn G mm_Road_flood 4 lv [.int x] S P ↔ P (some (.int x)) S := rn_ir dq_Road_flood_4 rfl
theorem dq_Road_runFlood_0 : decode (km_c mm_Road_runFlood) 0 = .ok (.aload_n 0, 1) := by decide +kernel
theorem sq_Road_runFlood_0 : rn G mm_Road_runFlood 0 [some (.ref z), a1] st S P ↔ rn G mm_Road_runFlood 1 [some (.ref z), a1] (.ref z :: st) S P := rn_s dq_Road_runFlood_0 rfl rfl rfl
theorem dq_Road_runFlood_1 : decode (km_c mm_Road_runFlood) 1 = .ok (.invokevirtual 90, 3) := by decide +kernel
theorem sq_Road_runFlood_1_0  {v : Option Value} {S2 : ks_S} (hc : ev (lt_G o L) mm_Road_waterNow [.ref 0] (sx pl kp I A) v S2) (ho : sx_o o pl kp) (hst : kx_cat st ≤ 8) : rn (lt_G o L) mm_Road_runFlood 1 lv (.ref 0 :: st) (sx pl kp I A) P ↔ rn (lt_G o L) mm_Road_runFlood 4 lv (v.toList ++ st) S2 P := rn_cv (k := 0) (host := "") (E' := mm_Road_waterNow) dq_Road_runFlood_1 rfl (ok_v rfl (by decide) (by decide) (Nat.le_add_left _ _) hst (Nat.le_of_ble_eq_true rfl) (Or.inr (rc_v ho (up_b (by decide)) rfl))) rfl rfl hc
theorem dq_Road_runFlood_4 : decode (km_c mm_Road_runFlood) 4 = .ok (.aload_n 0, 1) := by decide +kernel
theorem sq_Road_runFlood_4 : rn G mm_Road_runFlood 4 [some (.ref z), a1] st S P ↔ rn G mm_Road_runFlood 5 [some (.ref z), a1] (.ref z :: st) S P := rn_s dq_Road_runFlood_4 rfl rfl rfl
theorem dq_Road_runFlood_5 : decode (km_c mm_Road_runFlood) 5 = .ok (.getfield 10, 3) := by decide +kernel
theorem sq_Road_runFlood_5_0 (ho : sx_o o pl kp) : rn (lt_G o L) mm_Road_runFlood 5 lv (.ref 0 :: st) (sx pl kp I A) P ↔ rn (lt_G o L) mm_Road_runFlood 8 lv (.ref 1 :: st) (sx pl kp I A) P := rx_get (h := "") (ci := 9) (k := 0) dq_Road_runFlood_5 (by decide +kernel) ho (up_b (by decide)) rfl rfl (fl_r (by decide) (by decide) (by decide) (by decide))
theorem dq_Road_runFlood_8 : decode (km_c mm_Road_runFlood) 8 = .ok (.getfield 80, 3) := by decide +kernel
theorem sq_Road_runFlood_8_1 (ho : sx_o o pl kp) : rn (lt_G o L) mm_Road_runFlood 8 lv (.ref 1 :: st) (sx pl kp I A) P ↔ rn (lt_G o L) mm_Road_runFlood 11 lv (.ref 2 :: st) (sx pl kp I A) P := rx_get (h := "DeltaRoad") (ci := 8) (k := 0) dq_Road_runFlood_8 (by decide +kernel) ho (up_b (by decide)) rfl rfl (fl_r (by decide) (by decide) (by decide) (by decide))
theorem sq_Road_runFlood_8_136 (ho : sx_o o pl true) : rn (lt_G o L) mm_Road_runFlood 8 lv (.ref 136 :: st) (sx pl true I A) P ↔ rn (lt_G o L) mm_Road_runFlood 11 lv (.ref 137 :: st) (sx pl true I A) P := rx_get (h := "DeltaRoad") (ci := 8) (k := 0) dq_Road_runFlood_8 (by decide +kernel) ho (up_k (by decide) (by decide)) rfl rfl (fl_k (by decide) (by decide))
theorem dq_Road_runFlood_11 : decode (km_c mm_Road_runFlood) 11 = .ok (.invokevirtual 336, 3) := by decide +kernel
theorem sq_Road_runFlood_11_16 {z1 : Nat} {v : Option Value} {S2 : ks_S} (hc : ev (lt_G o L) mm_Water_carryMud [.ref 16, .ref z1] (sx pl kp I A) v S2) (ho : sx_o o pl kp) (hst : kx_cat st ≤ 8) : rn (lt_G o L) mm_Road_runFlood 11 lv (.ref z1 :: .ref 16 :: st) (sx pl kp I A) P ↔ rn (lt_G o L) mm_Road_runFlood 14 lv (v.toList ++ st) S2 P := rn_cv (k := 0) (host := "") (E' := mm_Water_carryMud) dq_Road_runFlood_11 rfl (ok_v rfl (by decide) (by decide) (Nat.le_add_left _ _) hst (Nat.le_of_ble_eq_true rfl) (Or.inr (rc_v ho (up_b (by decide)) rfl))) rfl rfl hc
theorem sq_Road_runFlood_11_20 {z1 : Nat} {v : Option Value} {S2 : ks_S} (hc : ev (lt_G o L) mm_Water_carryMud [.ref 20, .ref z1] (sx pl kp I A) v S2) (ho : sx_o o pl kp) (hst : kx_cat st ≤ 8) : rn (lt_G o L) mm_Road_runFlood 11 lv (.ref z1 :: .ref 20 :: st) (sx pl kp I A) P ↔ rn (lt_G o L) mm_Road_runFlood 14 lv (v.toList ++ st) S2 P := rn_cv (k := 0) (host := "") (E' := mm_Water_carryMud) dq_Road_runFlood_11 rfl (ok_v rfl (by decide) (by decide) (Nat.le_add_left _ _) hst (Nat.le_of_ble_eq_true rfl) (Or.inr (rc_v ho (up_b (by decide)) rfl))) rfl rfl hc
theorem dq_Road_runFlood_14 : decode (km_c mm_Road_runFlood) 14 = .ok (.istore_n 1, 1) := by decide +kernel
theorem sq_Road_runFlood_14n : rn G mm_Road_runFlood 14 [none, a1] (.int x :: st) S P ↔ rn G mm_Road_runFlood 15 [none, some (.int x)] st S P := rn_s dq_Road_runFlood_14 rfl rfl rfl
theorem sq_Road_runFlood_14i : rn G mm_Road_runFlood 14 [some (.int x2), a1] (.int x :: st) S P ↔ rn G mm_Road_runFlood 15 [some (.int x2), some (.int x)] st S P := rn_s dq_Road_runFlood_14 rfl rfl rfl
theorem sq_Road_runFlood_14r : rn G mm_Road_runFlood 14 [some (.ref z2), a1] (.int x :: st) S P ↔ rn G mm_Road_runFlood 15 [some (.ref z2), some (.int x)] st S P := rn_s dq_Road_runFlood_14 rfl rfl rfl
theorem dq_Road_runFlood_15 : decode (km_c mm_Road_runFlood) 15 = .ok (.aload_n 0, 1) := by decide +kernel
theorem sq_Road_runFlood_15 : rn G mm_Road_runFlood 15 [some (.ref z), a1] st S P ↔ rn G mm_Road_runFlood 16 [some (.ref z), a1] (.ref z :: st) S P := rn_s dq_Road_runFlood_15 rfl rfl rfl
theorem dq_Road_runFlood_16 : decode (km_c mm_Road_runFlood) 16 = .ok (.invokevirtual 87, 3) := by decide +kernel
theorem sq_Road_runFlood_16_0  {v : Option Value} {S2 : ks_S} (hc : ev (lt_G o L) mm_Road_forget [.ref 0] (sx pl kp I A) v S2) (ho : sx_o o pl kp) (hst : kx_cat st ≤ 8) : rn (lt_G o L) mm_Road_runFlood 16 lv (.ref 0 :: st) (sx pl kp I A) P ↔ rn (lt_G o L) mm_Road_runFlood 19 lv (v.toList ++ st) S2 P := rn_cv (k := 0) (host := "") (E' := mm_Road_forget) dq_Road_runFlood_16 rfl (ok_v rfl (by decide) (by decide) (Nat.le_add_left _ _) hst (Nat.le_of_ble_eq_true rfl) (Or.inr (rc_v ho (up_b (by decide)) rfl))) rfl rfl hc
theorem dq_Road_runFlood_19 : decode (km_c mm_Road_runFlood) 19 = .ok (.iload_n 1, 1) := by decide +kernel
theorem sq_Road_runFlood_19 : rn G mm_Road_runFlood 19 [a0, some (.int x)] st S P ↔ rn G mm_Road_runFlood 20 [a0, some (.int x)] (.int x :: st) S P := rn_s dq_Road_runFlood_19 rfl rfl rfl
theorem dq_Road_runFlood_20 : decode (km_c mm_Road_runFlood) 20 = .ok (.ireturn, 1) := by decide +kernel
theorem sq_Road_runFlood_20 : rn G mm_Road_runFlood 20 lv [.int x] S P ↔ P (some (.int x)) S := rn_ir dq_Road_runFlood_20 rfl
theorem dq_Road_type_0 : decode (km_c mm_Road_type) 0 = .ok (.iload_n 3, 1) := by decide +kernel
theorem sq_Road_type_0 : rn G mm_Road_type 0 [a0, a1, a2, some (.int x)] st S P ↔ rn G mm_Road_type 1 [a0, a1, a2, some (.int x)] (.int x :: st) S P := rn_s dq_Road_type_0 rfl rfl rfl
theorem dq_Road_type_1 : decode (km_c mm_Road_type) 1 = .ok (.iconst 1, 1) := by decide +kernel
theorem sq_Road_type_1 : rn G mm_Road_type 1 lv st S P ↔ rn G mm_Road_type 2 lv (.int (nI 1) :: st) S P := rn_s dq_Road_type_1 rfl rfl rfl
theorem dq_Road_type_2 : decode (km_c mm_Road_type) 2 = .ok (.bipush 8, 2) := by decide +kernel
theorem sq_Road_type_2 : rn G mm_Road_type 2 lv st S P ↔ rn G mm_Road_type 4 lv (.int (nI 8) :: st) S P := rn_s dq_Road_type_2 rfl rfl rfl
theorem dq_Road_type_4 : decode (km_c mm_Road_type) 4 = .ok (.invokestatic 72, 3) := by decide +kernel
theorem sq_Road_type_4 {x1 : Int32} {x2 : Int32} {x3 : Int32} {v : Option Value} {S2 : ks_S} (hc : ev G mm_Road_outside [.int x1, .int x2, .int x3] S v S2) (hst : kx_cat st ≤ 8) : rn G mm_Road_type 4 lv (.int x3 :: .int x2 :: .int x1 :: st) S P ↔ rn G mm_Road_type 7 lv (v.toList ++ st) S2 P := rn_cs (k := 1) (host := "") (E' := mm_Road_outside) dq_Road_type_4 (by decide) (by decide) rfl (ok_v rfl (by decide) (by decide) (Nat.le_add_left _ _) hst (Nat.le_of_ble_eq_true rfl) (Or.inl rfl)) rfl rfl hc
theorem dq_Road_type_7 : decode (km_c mm_Road_type) 7 = .ok (.ifCond .ne 11, 3) := by decide +kernel
theorem sq_Road_type_7 : rn G mm_Road_type 7 lv (.int x :: st) S P ↔ ((¬ x = 0 → rn G mm_Road_type 18 lv st S P) ∧ (¬ (¬ x = 0) → rn G mm_Road_type 10 lv st S P)) := rn_b (off := 11) dq_Road_type_7 rfl rfl rfl rfl
theorem dq_Road_type_10 : decode (km_c mm_Road_type) 10 = .ok (.lload_n 1, 1) := by decide +kernel
theorem sq_Road_type_10 : rn G mm_Road_type 10 [a0, some (.long y), a2, a3] st S P ↔ rn G mm_Road_type 11 [a0, some (.long y), a2, a3] (.long y :: st) S P := rn_s dq_Road_type_10 rfl rfl rfl
theorem dq_Road_type_11 : decode (km_c mm_Road_type) 11 = .ok (.iload_n 3, 1) := by decide +kernel
theorem sq_Road_type_11 : rn G mm_Road_type 11 [a0, a1, a2, some (.int x)] st S P ↔ rn G mm_Road_type 12 [a0, a1, a2, some (.int x)] (.int x :: st) S P := rn_s dq_Road_type_11 rfl rfl rfl
theorem dq_Road_type_12 : decode (km_c mm_Road_type) 12 = .ok (.invokestatic 115, 3) := by decide +kernel
theorem sq_Road_type_12 {y1 : Int64} {x2 : Int32} {v : Option Value} {S2 : ks_S} (hc : ev G mm_Tape_canStand [.long y1, .int x2] S v S2) (hst : kx_cat st ≤ 8) : rn G mm_Road_type 12 lv (.int x2 :: .long y1 :: st) S P ↔ rn G mm_Road_type 15 lv (v.toList ++ st) S2 P := rn_cs (k := 1) (host := "") (E' := mm_Tape_canStand) dq_Road_type_12 (by decide) (by decide) rfl (ok_v rfl (by decide) (by decide) (Nat.le_add_left _ _) hst (Nat.le_of_ble_eq_true rfl) (Or.inl rfl)) rfl rfl hc
theorem dq_Road_type_15 : decode (km_c mm_Road_type) 15 = .ok (.ifCond .ne 5, 3) := by decide +kernel
theorem sq_Road_type_15 : rn G mm_Road_type 15 lv (.int x :: st) S P ↔ ((¬ x = 0 → rn G mm_Road_type 20 lv st S P) ∧ (¬ (¬ x = 0) → rn G mm_Road_type 18 lv st S P)) := rn_b (off := 5) dq_Road_type_15 rfl rfl rfl rfl
theorem dq_Road_type_18 : decode (km_c mm_Road_type) 18 = .ok (.iconst (-1), 1) := by decide +kernel
theorem sq_Road_type_18 : rn G mm_Road_type 18 lv st S P ↔ rn G mm_Road_type 19 lv (.int ((-1)) :: st) S P := rn_s dq_Road_type_18 rfl rfl rfl
theorem dq_Road_type_19 : decode (km_c mm_Road_type) 19 = .ok (.ireturn, 1) := by decide +kernel
theorem sq_Road_type_19 : rn G mm_Road_type 19 lv [.int x] S P ↔ P (some (.int x)) S := rn_ir dq_Road_type_19 rfl
theorem dq_Road_type_20 : decode (km_c mm_Road_type) 20 = .ok (.aload_n 0, 1) := by decide +kernel
theorem sq_Road_type_20 : rn G mm_Road_type 20 [some (.ref z), a1, a2, a3] st S P ↔ rn G mm_Road_type 21 [some (.ref z), a1, a2, a3] (.ref z :: st) S P := rn_s dq_Road_type_20 rfl rfl rfl
theorem dq_Road_type_21 : decode (km_c mm_Road_type) 21 = .ok (.getfield 29, 3) := by decide +kernel
theorem sq_Road_type_21_0 (ho : sx_o o pl kp) : rn (lt_G o L) mm_Road_type 21 lv (.ref 0 :: st) (sx pl kp I A) P ↔ rn (lt_G o L) mm_Road_type 24 lv (.ref 24 :: st) (sx pl kp I A) P := rx_get (h := "") (ci := 9) (k := 3) dq_Road_type_21 (by decide +kernel) ho (up_b (by decide)) rfl rfl (fl_r (by decide) (by decide) (by decide) (by decide))
theorem dq_Road_type_24 : decode (km_c mm_Road_type) 24 = .ok (.getfield 119, 3) := by decide +kernel
theorem sq_Road_type_24_24 (ho : sx_o o pl kp) : rn (lt_G o L) mm_Road_type 24 lv (.ref 24 :: st) (sx pl kp I A) P ↔ rn (lt_G o L) mm_Road_type 27 lv (.int (I 24 1) :: st) (sx pl kp I A) P := rx_get (h := "DeltaRoad") (ci := 4) (k := 1) dq_Road_type_24 (by decide +kernel) ho (up_b (by decide)) rfl rfl (fl_i (by decide))
theorem dq_Road_type_27 : decode (km_c mm_Road_type) 27 = .ok (.iload_n 3, 1) := by decide +kernel
theorem sq_Road_type_27 : rn G mm_Road_type 27 [a0, a1, a2, some (.int x)] st S P ↔ rn G mm_Road_type 28 [a0, a1, a2, some (.int x)] (.int x :: st) S P := rn_s dq_Road_type_27 rfl rfl rfl
theorem dq_Road_type_28 : decode (km_c mm_Road_type) 28 = .ok (.iadd, 1) := by decide +kernel
theorem sq_Road_type_28 : rn G mm_Road_type 28 lv (.int x2 :: .int x :: st) S P ↔ rn G mm_Road_type 29 lv (.int (x + x2) :: st) S P := rn_s dq_Road_type_28 rfl rfl rfl
theorem dq_Road_type_29 : decode (km_c mm_Road_type) 29 = .ok (.sipush 140, 3) := by decide +kernel
theorem sq_Road_type_29 : rn G mm_Road_type 29 lv st S P ↔ rn G mm_Road_type 32 lv (.int (nI 140) :: st) S P := rn_s dq_Road_type_29 rfl rfl rfl
theorem dq_Road_type_32 : decode (km_c mm_Road_type) 32 = .ok (.if_icmp .le 6, 3) := by decide +kernel
theorem sq_Road_type_32 : rn G mm_Road_type 32 lv (.int x2 :: .int x :: st) S P ↔ ((x ≤ x2 → rn G mm_Road_type 38 lv st S P) ∧ (¬ (x ≤ x2) → rn G mm_Road_type 35 lv st S P)) := rn_b (off := 6) dq_Road_type_32 rfl rfl rfl rfl
theorem dq_Road_type_35 : decode (km_c mm_Road_type) 35 = .ok (.bipush (-3), 2) := by decide +kernel
theorem sq_Road_type_35 : rn G mm_Road_type 35 lv st S P ↔ rn G mm_Road_type 37 lv (.int ((-3)) :: st) S P := rn_s dq_Road_type_35 rfl rfl rfl
theorem dq_Road_type_37 : decode (km_c mm_Road_type) 37 = .ok (.ireturn, 1) := by decide +kernel
theorem sq_Road_type_37 : rn G mm_Road_type 37 lv [.int x] S P ↔ P (some (.int x)) S := rn_ir dq_Road_type_37 rfl
theorem dq_Road_type_38 : decode (km_c mm_Road_type) 38 = .ok (.aload_n 0, 1) := by decide +kernel
theorem sq_Road_type_38 : rn G mm_Road_type 38 [some (.ref z), a1, a2, a3] st S P ↔ rn G mm_Road_type 39 [some (.ref z), a1, a2, a3] (.ref z :: st) S P := rn_s dq_Road_type_38 rfl rfl rfl
theorem dq_Road_type_39 : decode (km_c mm_Road_type) 39 = .ok (.getfield 29, 3) := by decide +kernel
theorem sq_Road_type_39_0 (ho : sx_o o pl kp) : rn (lt_G o L) mm_Road_type 39 lv (.ref 0 :: st) (sx pl kp I A) P ↔ rn (lt_G o L) mm_Road_type 42 lv (.ref 24 :: st) (sx pl kp I A) P := rx_get (h := "") (ci := 9) (k := 3) dq_Road_type_39 (by decide +kernel) ho (up_b (by decide)) rfl rfl (fl_r (by decide) (by decide) (by decide) (by decide))
theorem dq_Road_type_42 : decode (km_c mm_Road_type) 42 = .ok (.lload_n 1, 1) := by decide +kernel
theorem sq_Road_type_42 : rn G mm_Road_type 42 [a0, some (.long y), a2, a3] st S P ↔ rn G mm_Road_type 43 [a0, some (.long y), a2, a3] (.long y :: st) S P := rn_s dq_Road_type_42 rfl rfl rfl
theorem dq_Road_type_43 : decode (km_c mm_Road_type) 43 = .ok (.iload_n 3, 1) := by decide +kernel
theorem sq_Road_type_43 : rn G mm_Road_type 43 [a0, a1, a2, some (.int x)] st S P ↔ rn G mm_Road_type 44 [a0, a1, a2, some (.int x)] (.int x :: st) S P := rn_s dq_Road_type_43 rfl rfl rfl
theorem dq_Road_type_44 : decode (km_c mm_Road_type) 44 = .ok (.invokevirtual 122, 3) := by decide +kernel
theorem sq_Road_type_44_24 {y1 : Int64} {x2 : Int32} {v : Option Value} {S2 : ks_S} (hc : ev (lt_G o L) mm_Tape_append [.ref 24, .long y1, .int x2] (sx pl kp I A) v S2) (ho : sx_o o pl kp) (hst : kx_cat st ≤ 8) : rn (lt_G o L) mm_Road_type 44 lv (.int x2 :: .long y1 :: .ref 24 :: st) (sx pl kp I A) P ↔ rn (lt_G o L) mm_Road_type 47 lv (v.toList ++ st) S2 P := rn_cv (k := 0) (host := "") (E' := mm_Tape_append) dq_Road_type_44 rfl (ok_v rfl (by decide) (by decide) (Nat.le_add_left _ _) hst (Nat.le_of_ble_eq_true rfl) (Or.inr (rc_v ho (up_b (by decide)) rfl))) rfl rfl hc
theorem dq_Road_type_47 : decode (km_c mm_Road_type) 47 = .ok (.aload_n 0, 1) := by decide +kernel
theorem sq_Road_type_47 : rn G mm_Road_type 47 [some (.ref z), a1, a2, a3] st S P ↔ rn G mm_Road_type 48 [some (.ref z), a1, a2, a3] (.ref z :: st) S P := rn_s dq_Road_type_47 rfl rfl rfl
theorem dq_Road_type_48 : decode (km_c mm_Road_type) 48 = .ok (.getfield 29, 3) := by decide +kernel
theorem sq_Road_type_48_0 (ho : sx_o o pl kp) : rn (lt_G o L) mm_Road_type 48 lv (.ref 0 :: st) (sx pl kp I A) P ↔ rn (lt_G o L) mm_Road_type 51 lv (.ref 24 :: st) (sx pl kp I A) P := rx_get (h := "") (ci := 9) (k := 3) dq_Road_type_48 (by decide +kernel) ho (up_b (by decide)) rfl rfl (fl_r (by decide) (by decide) (by decide) (by decide))
theorem dq_Road_type_51 : decode (km_c mm_Road_type) 51 = .ok (.getfield 119, 3) := by decide +kernel
theorem sq_Road_type_51_24 (ho : sx_o o pl kp) : rn (lt_G o L) mm_Road_type 51 lv (.ref 24 :: st) (sx pl kp I A) P ↔ rn (lt_G o L) mm_Road_type 54 lv (.int (I 24 1) :: st) (sx pl kp I A) P := rx_get (h := "DeltaRoad") (ci := 4) (k := 1) dq_Road_type_51 (by decide +kernel) ho (up_b (by decide)) rfl rfl (fl_i (by decide))
theorem dq_Road_type_54 : decode (km_c mm_Road_type) 54 = .ok (.ireturn, 1) := by decide +kernel
theorem sq_Road_type_54 : rn G mm_Road_type 54 lv [.int x] S P ↔ P (some (.int x)) S := rn_ir dq_Road_type_54 rfl
end SQ
