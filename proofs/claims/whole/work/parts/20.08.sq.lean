section SQ
variable {o pl kp : Bool} {L : Nat} {I A : Nat → Nat → Int32} {G : kg_G} {S : ks_S} {lv : List (Option Value)} {st : List Value} {P : Option Value → ks_S → Prop} {x x2 : Int32} {y y2 : Int64} {z z2 c a : Nat} {a0 a1 a2 a3 a4 a5 a6 a7 a8 a9 a10 a11 a12 a13 a14 a15 a16 a17 a18 a19 a20 a21 a22 a23 : Option Value}
theorem dq_Model_findWet_0 : decode (km_c mm_Model_findWet) 0 = .ok (.aload_n 0, 1) := by decide +kernel
theorem sq_Model_findWet_0 : rn G mm_Model_findWet 0 [some (.ref z), a1, a2, a3] st S P ↔ rn G mm_Model_findWet 1 [some (.ref z), a1, a2, a3] (.ref z :: st) S P := rn_s dq_Model_findWet_0 rfl rfl rfl
theorem dq_Model_findWet_1 : decode (km_c mm_Model_findWet) 1 = .ok (.iconst 0, 1) := by decide +kernel
theorem sq_Model_findWet_1 : rn G mm_Model_findWet 1 lv st S P ↔ rn G mm_Model_findWet 2 lv (.int (nI 0) :: st) S P := rn_s dq_Model_findWet_1 rfl rfl rfl
theorem dq_Model_findWet_2 : decode (km_c mm_Model_findWet) 2 = .ok (.putfield 88, 3) := by decide +kernel
theorem sq_Model_findWet_2_45 (ho : sx_o o pl kp) : rn (lt_G o L) mm_Model_findWet 2 lv (.int x :: .ref 45 :: st) (sx pl kp I A) P ↔ rn (lt_G o L) mm_Model_findWet 5 lv st (sx pl kp (u2 I 45 13 x) A) P := rx_put (h := "") (ci := 10) (k := 13) dq_Model_findWet_2 (by decide +kernel) ho (up_b (by decide)) rfl rfl (by decide) (by decide)
theorem dq_Model_findWet_5 : decode (km_c mm_Model_findWet) 5 = .ok (.iconst 0, 1) := by decide +kernel
theorem sq_Model_findWet_5 : rn G mm_Model_findWet 5 lv st S P ↔ rn G mm_Model_findWet 6 lv (.int (nI 0) :: st) S P := rn_s dq_Model_findWet_5 rfl rfl rfl
theorem dq_Model_findWet_6 : decode (km_c mm_Model_findWet) 6 = .ok (.istore_n 2, 1) := by decide +kernel
theorem sq_Model_findWet_6n : rn G mm_Model_findWet 6 [a0, none, a2, a3] (.int x :: st) S P ↔ rn G mm_Model_findWet 7 [a0, none, some (.int x), a3] st S P := rn_s dq_Model_findWet_6 rfl rfl rfl
theorem sq_Model_findWet_6i : rn G mm_Model_findWet 6 [a0, some (.int x2), a2, a3] (.int x :: st) S P ↔ rn G mm_Model_findWet 7 [a0, some (.int x2), some (.int x), a3] st S P := rn_s dq_Model_findWet_6 rfl rfl rfl
theorem sq_Model_findWet_6r : rn G mm_Model_findWet 6 [a0, some (.ref z2), a2, a3] (.int x :: st) S P ↔ rn G mm_Model_findWet 7 [a0, some (.ref z2), some (.int x), a3] st S P := rn_s dq_Model_findWet_6 rfl rfl rfl
theorem dq_Model_findWet_7 : decode (km_c mm_Model_findWet) 7 = .ok (.iload_n 2, 1) := by decide +kernel
theorem sq_Model_findWet_7 : rn G mm_Model_findWet 7 [a0, a1, some (.int x), a3] st S P ↔ rn G mm_Model_findWet 8 [a0, a1, some (.int x), a3] (.int x :: st) S P := rn_s dq_Model_findWet_7 rfl rfl rfl
theorem dq_Model_findWet_8 : decode (km_c mm_Model_findWet) 8 = .ok (.bipush 49, 2) := by decide +kernel
theorem sq_Model_findWet_8 : rn G mm_Model_findWet 8 lv st S P ↔ rn G mm_Model_findWet 10 lv (.int (nI 49) :: st) S P := rn_s dq_Model_findWet_8 rfl rfl rfl
theorem dq_Model_findWet_10 : decode (km_c mm_Model_findWet) 10 = .ok (.if_icmp .ge 16, 3) := by decide +kernel
theorem sq_Model_findWet_10 : rn G mm_Model_findWet 10 lv (.int x2 :: .int x :: st) S P ↔ ((x2 ≤ x → rn G mm_Model_findWet 26 lv st S P) ∧ (¬ (x2 ≤ x) → rn G mm_Model_findWet 13 lv st S P)) := rn_b (off := 16) dq_Model_findWet_10 rfl rfl rfl rfl
theorem dq_Model_findWet_13 : decode (km_c mm_Model_findWet) 13 = .ok (.aload_n 0, 1) := by decide +kernel
theorem sq_Model_findWet_13 : rn G mm_Model_findWet 13 [some (.ref z), a1, a2, a3] st S P ↔ rn G mm_Model_findWet 14 [some (.ref z), a1, a2, a3] (.ref z :: st) S P := rn_s dq_Model_findWet_13 rfl rfl rfl
theorem dq_Model_findWet_14 : decode (km_c mm_Model_findWet) 14 = .ok (.getfield 32, 3) := by decide +kernel
theorem sq_Model_findWet_14_45 (ho : sx_o o pl kp) : rn (lt_G o L) mm_Model_findWet 14 lv (.ref 45 :: st) (sx pl kp I A) P ↔ rn (lt_G o L) mm_Model_findWet 17 lv (.ref 51 :: st) (sx pl kp I A) P := rx_get (h := "") (ci := 10) (k := 11) dq_Model_findWet_14 (by decide +kernel) ho (up_b (by decide)) rfl rfl (fl_r (by decide) (by decide) (by decide) (by decide))
theorem dq_Model_findWet_17 : decode (km_c mm_Model_findWet) 17 = .ok (.iload_n 2, 1) := by decide +kernel
theorem sq_Model_findWet_17 : rn G mm_Model_findWet 17 [a0, a1, some (.int x), a3] st S P ↔ rn G mm_Model_findWet 18 [a0, a1, some (.int x), a3] (.int x :: st) S P := rn_s dq_Model_findWet_17 rfl rfl rfl
theorem dq_Model_findWet_18 : decode (km_c mm_Model_findWet) 18 = .ok (.iconst 0, 1) := by decide +kernel
theorem sq_Model_findWet_18 : rn G mm_Model_findWet 18 lv st S P ↔ rn G mm_Model_findWet 19 lv (.int (nI 0) :: st) S P := rn_s dq_Model_findWet_18 rfl rfl rfl
theorem dq_Model_findWet_19 : decode (km_c mm_Model_findWet) 19 = .ok (.iastore, 1) := by decide +kernel
theorem sq_Model_findWet_19 (ho : sx_o o pl kp) (hk : ak L a = 0) (hu : sx_up pl kp a = true) (hc : c < ln L a) (hn : ln L a < 2 ^ 31) : rn (lt_G o L) mm_Model_findWet 19 lv (.int x :: .int (nI c) :: .ref a :: st) (sx pl kp I A) P ↔ rn (lt_G o L) mm_Model_findWet 20 lv st (sx pl kp I (u2 A a c x)) P := rx_ist dq_Model_findWet_19 ho hk hu hc hn
theorem dq_Model_findWet_20 : decode (km_c mm_Model_findWet) 20 = .ok (.iinc 2 1, 3) := by decide +kernel
theorem sq_Model_findWet_20n : rn G mm_Model_findWet 20 [a0, none, some (.int x), a3] st S P ↔ rn G mm_Model_findWet 23 [a0, none, some (.int (x + nI 1)), a3] st S P := rn_s dq_Model_findWet_20 rfl rfl rfl
theorem sq_Model_findWet_20i : rn G mm_Model_findWet 20 [a0, some (.int x2), some (.int x), a3] st S P ↔ rn G mm_Model_findWet 23 [a0, some (.int x2), some (.int (x + nI 1)), a3] st S P := rn_s dq_Model_findWet_20 rfl rfl rfl
theorem sq_Model_findWet_20r : rn G mm_Model_findWet 20 [a0, some (.ref z2), some (.int x), a3] st S P ↔ rn G mm_Model_findWet 23 [a0, some (.ref z2), some (.int (x + nI 1)), a3] st S P := rn_s dq_Model_findWet_20 rfl rfl rfl
theorem dq_Model_findWet_23 : decode (km_c mm_Model_findWet) 23 = .ok (.goto (-16), 3) := by decide +kernel
theorem sq_Model_findWet_23 : rn G mm_Model_findWet 23 lv st S P ↔ rn G mm_Model_findWet 7 lv st S P := rn_s dq_Model_findWet_23 rfl rfl rfl
theorem dq_Model_findWet_26 : decode (km_c mm_Model_findWet) 26 = .ok (.iconst 0, 1) := by decide +kernel
theorem sq_Model_findWet_26 : rn G mm_Model_findWet 26 lv st S P ↔ rn G mm_Model_findWet 27 lv (.int (nI 0) :: st) S P := rn_s dq_Model_findWet_26 rfl rfl rfl
theorem dq_Model_findWet_27 : decode (km_c mm_Model_findWet) 27 = .ok (.istore_n 2, 1) := by decide +kernel
theorem sq_Model_findWet_27n : rn G mm_Model_findWet 27 [a0, none, a2, a3] (.int x :: st) S P ↔ rn G mm_Model_findWet 28 [a0, none, some (.int x), a3] st S P := rn_s dq_Model_findWet_27 rfl rfl rfl
theorem sq_Model_findWet_27i : rn G mm_Model_findWet 27 [a0, some (.int x2), a2, a3] (.int x :: st) S P ↔ rn G mm_Model_findWet 28 [a0, some (.int x2), some (.int x), a3] st S P := rn_s dq_Model_findWet_27 rfl rfl rfl
theorem sq_Model_findWet_27r : rn G mm_Model_findWet 27 [a0, some (.ref z2), a2, a3] (.int x :: st) S P ↔ rn G mm_Model_findWet 28 [a0, some (.ref z2), some (.int x), a3] st S P := rn_s dq_Model_findWet_27 rfl rfl rfl
theorem dq_Model_findWet_28 : decode (km_c mm_Model_findWet) 28 = .ok (.iload_n 2, 1) := by decide +kernel
theorem sq_Model_findWet_28 : rn G mm_Model_findWet 28 [a0, a1, some (.int x), a3] st S P ↔ rn G mm_Model_findWet 29 [a0, a1, some (.int x), a3] (.int x :: st) S P := rn_s dq_Model_findWet_28 rfl rfl rfl
theorem dq_Model_findWet_29 : decode (km_c mm_Model_findWet) 29 = .ok (.bipush 49, 2) := by decide +kernel
theorem sq_Model_findWet_29 : rn G mm_Model_findWet 29 lv st S P ↔ rn G mm_Model_findWet 31 lv (.int (nI 49) :: st) S P := rn_s dq_Model_findWet_29 rfl rfl rfl
theorem dq_Model_findWet_31 : decode (km_c mm_Model_findWet) 31 = .ok (.if_icmp .ge 29, 3) := by decide +kernel
theorem sq_Model_findWet_31 : rn G mm_Model_findWet 31 lv (.int x2 :: .int x :: st) S P ↔ ((x2 ≤ x → rn G mm_Model_findWet 60 lv st S P) ∧ (¬ (x2 ≤ x) → rn G mm_Model_findWet 34 lv st S P)) := rn_b (off := 29) dq_Model_findWet_31 rfl rfl rfl rfl
theorem dq_Model_findWet_34 : decode (km_c mm_Model_findWet) 34 = .ok (.aload_n 0, 1) := by decide +kernel
theorem sq_Model_findWet_34 : rn G mm_Model_findWet 34 [some (.ref z), a1, a2, a3] st S P ↔ rn G mm_Model_findWet 35 [some (.ref z), a1, a2, a3] (.ref z :: st) S P := rn_s dq_Model_findWet_34 rfl rfl rfl
theorem dq_Model_findWet_35 : decode (km_c mm_Model_findWet) 35 = .ok (.getfield 7, 3) := by decide +kernel
theorem sq_Model_findWet_35_45 (ho : sx_o o pl kp) : rn (lt_G o L) mm_Model_findWet 35 lv (.ref 45 :: st) (sx pl kp I A) P ↔ rn (lt_G o L) mm_Model_findWet 38 lv (.ref 46 :: st) (sx pl kp I A) P := rx_get (h := "") (ci := 10) (k := 0) dq_Model_findWet_35 (by decide +kernel) ho (up_b (by decide)) rfl rfl (fl_r (by decide) (by decide) (by decide) (by decide))
theorem dq_Model_findWet_38 : decode (km_c mm_Model_findWet) 38 = .ok (.sipush 196, 3) := by decide +kernel
theorem sq_Model_findWet_38 : rn G mm_Model_findWet 38 lv st S P ↔ rn G mm_Model_findWet 41 lv (.int (nI 196) :: st) S P := rn_s dq_Model_findWet_38 rfl rfl rfl
theorem dq_Model_findWet_41 : decode (km_c mm_Model_findWet) 41 = .ok (.iload_n 2, 1) := by decide +kernel
theorem sq_Model_findWet_41 : rn G mm_Model_findWet 41 [a0, a1, some (.int x), a3] st S P ↔ rn G mm_Model_findWet 42 [a0, a1, some (.int x), a3] (.int x :: st) S P := rn_s dq_Model_findWet_41 rfl rfl rfl
theorem dq_Model_findWet_42 : decode (km_c mm_Model_findWet) 42 = .ok (.iadd, 1) := by decide +kernel
theorem sq_Model_findWet_42 : rn G mm_Model_findWet 42 lv (.int x2 :: .int x :: st) S P ↔ rn G mm_Model_findWet 43 lv (.int (x + x2) :: st) S P := rn_s dq_Model_findWet_42 rfl rfl rfl
theorem dq_Model_findWet_43 : decode (km_c mm_Model_findWet) 43 = .ok (.iaload, 1) := by decide +kernel
theorem sq_Model_findWet_43 (ho : sx_o o pl kp) (hk : ak L a = 0) (hu : sx_up pl kp a = true ∨ 1000 ≤ a) (hc : c < ln L a) (hn : ln L a < 2 ^ 31) : rn (lt_G o L) mm_Model_findWet 43 lv (.int (nI c) :: .ref a :: st) (sx pl kp I A) P ↔ rn (lt_G o L) mm_Model_findWet 44 lv (.int (A a c) :: st) (sx pl kp I A) P := rx_ild dq_Model_findWet_43 ho hk hu hc hn
theorem dq_Model_findWet_44 : decode (km_c mm_Model_findWet) 44 = .ok (.iconst 1, 1) := by decide +kernel
theorem sq_Model_findWet_44 : rn G mm_Model_findWet 44 lv st S P ↔ rn G mm_Model_findWet 45 lv (.int (nI 1) :: st) S P := rn_s dq_Model_findWet_44 rfl rfl rfl
theorem dq_Model_findWet_45 : decode (km_c mm_Model_findWet) 45 = .ok (.if_icmp .ne 9, 3) := by decide +kernel
theorem sq_Model_findWet_45 : rn G mm_Model_findWet 45 lv (.int x2 :: .int x :: st) S P ↔ ((¬ x = x2 → rn G mm_Model_findWet 54 lv st S P) ∧ (¬ (¬ x = x2) → rn G mm_Model_findWet 48 lv st S P)) := rn_b (off := 9) dq_Model_findWet_45 rfl rfl rfl rfl
theorem dq_Model_findWet_48 : decode (km_c mm_Model_findWet) 48 = .ok (.aload_n 0, 1) := by decide +kernel
theorem sq_Model_findWet_48 : rn G mm_Model_findWet 48 [some (.ref z), a1, a2, a3] st S P ↔ rn G mm_Model_findWet 49 [some (.ref z), a1, a2, a3] (.ref z :: st) S P := rn_s dq_Model_findWet_48 rfl rfl rfl
theorem dq_Model_findWet_49 : decode (km_c mm_Model_findWet) 49 = .ok (.iload_n 2, 1) := by decide +kernel
theorem sq_Model_findWet_49 : rn G mm_Model_findWet 49 [a0, a1, some (.int x), a3] st S P ↔ rn G mm_Model_findWet 50 [a0, a1, some (.int x), a3] (.int x :: st) S P := rn_s dq_Model_findWet_49 rfl rfl rfl
theorem dq_Model_findWet_50 : decode (km_c mm_Model_findWet) 50 = .ok (.iload_n 1, 1) := by decide +kernel
theorem sq_Model_findWet_50 : rn G mm_Model_findWet 50 [a0, some (.int x), a2, a3] st S P ↔ rn G mm_Model_findWet 51 [a0, some (.int x), a2, a3] (.int x :: st) S P := rn_s dq_Model_findWet_50 rfl rfl rfl
theorem dq_Model_findWet_51 : decode (km_c mm_Model_findWet) 51 = .ok (.invokevirtual 91, 3) := by decide +kernel
theorem sq_Model_findWet_51_45 {x1 : Int32} {x2 : Int32} {v : Option Value} {S2 : ks_S} (hc : ev (lt_G o L) mm_Model_soak [.ref 45, .int x1, .int x2] (sx pl kp I A) v S2) (ho : sx_o o pl kp) (hst : kx_cat st ≤ 8) : rn (lt_G o L) mm_Model_findWet 51 lv (.int x2 :: .int x1 :: .ref 45 :: st) (sx pl kp I A) P ↔ rn (lt_G o L) mm_Model_findWet 54 lv (v.toList ++ st) S2 P := rn_cv (k := 0) (host := "") (E' := mm_Model_soak) dq_Model_findWet_51 rfl (ok_v rfl (by decide) (by decide) (Nat.le_add_left _ _) hst (Nat.le_of_ble_eq_true rfl) (Or.inr (rc_v ho (up_b (by decide)) rfl))) rfl rfl hc
theorem dq_Model_findWet_54 : decode (km_c mm_Model_findWet) 54 = .ok (.iinc 2 1, 3) := by decide +kernel
theorem sq_Model_findWet_54n : rn G mm_Model_findWet 54 [a0, none, some (.int x), a3] st S P ↔ rn G mm_Model_findWet 57 [a0, none, some (.int (x + nI 1)), a3] st S P := rn_s dq_Model_findWet_54 rfl rfl rfl
theorem sq_Model_findWet_54i : rn G mm_Model_findWet 54 [a0, some (.int x2), some (.int x), a3] st S P ↔ rn G mm_Model_findWet 57 [a0, some (.int x2), some (.int (x + nI 1)), a3] st S P := rn_s dq_Model_findWet_54 rfl rfl rfl
theorem sq_Model_findWet_54r : rn G mm_Model_findWet 54 [a0, some (.ref z2), some (.int x), a3] st S P ↔ rn G mm_Model_findWet 57 [a0, some (.ref z2), some (.int (x + nI 1)), a3] st S P := rn_s dq_Model_findWet_54 rfl rfl rfl
theorem dq_Model_findWet_57 : decode (km_c mm_Model_findWet) 57 = .ok (.goto (-29), 3) := by decide +kernel
theorem sq_Model_findWet_57 : rn G mm_Model_findWet 57 lv st S P ↔ rn G mm_Model_findWet 28 lv st S P := rn_s dq_Model_findWet_57 rfl rfl rfl
theorem dq_Model_findWet_60 : decode (km_c mm_Model_findWet) 60 = .ok (.iconst 0, 1) := by decide +kernel
theorem sq_Model_findWet_60 : rn G mm_Model_findWet 60 lv st S P ↔ rn G mm_Model_findWet 61 lv (.int (nI 0) :: st) S P := rn_s dq_Model_findWet_60 rfl rfl rfl
theorem dq_Model_findWet_61 : decode (km_c mm_Model_findWet) 61 = .ok (.istore_n 2, 1) := by decide +kernel
theorem sq_Model_findWet_61n : rn G mm_Model_findWet 61 [a0, none, a2, a3] (.int x :: st) S P ↔ rn G mm_Model_findWet 62 [a0, none, some (.int x), a3] st S P := rn_s dq_Model_findWet_61 rfl rfl rfl
theorem sq_Model_findWet_61i : rn G mm_Model_findWet 61 [a0, some (.int x2), a2, a3] (.int x :: st) S P ↔ rn G mm_Model_findWet 62 [a0, some (.int x2), some (.int x), a3] st S P := rn_s dq_Model_findWet_61 rfl rfl rfl
theorem sq_Model_findWet_61r : rn G mm_Model_findWet 61 [a0, some (.ref z2), a2, a3] (.int x :: st) S P ↔ rn G mm_Model_findWet 62 [a0, some (.ref z2), some (.int x), a3] st S P := rn_s dq_Model_findWet_61 rfl rfl rfl
theorem dq_Model_findWet_62 : decode (km_c mm_Model_findWet) 62 = .ok (.iload_n 2, 1) := by decide +kernel
theorem sq_Model_findWet_62 : rn G mm_Model_findWet 62 [a0, a1, some (.int x), a3] st S P ↔ rn G mm_Model_findWet 63 [a0, a1, some (.int x), a3] (.int x :: st) S P := rn_s dq_Model_findWet_62 rfl rfl rfl
theorem dq_Model_findWet_63 : decode (km_c mm_Model_findWet) 63 = .ok (.aload_n 0, 1) := by decide +kernel
theorem sq_Model_findWet_63 : rn G mm_Model_findWet 63 [some (.ref z), a1, a2, a3] st S P ↔ rn G mm_Model_findWet 64 [some (.ref z), a1, a2, a3] (.ref z :: st) S P := rn_s dq_Model_findWet_63 rfl rfl rfl
theorem dq_Model_findWet_64 : decode (km_c mm_Model_findWet) 64 = .ok (.getfield 88, 3) := by decide +kernel
theorem sq_Model_findWet_64_45 (ho : sx_o o pl kp) : rn (lt_G o L) mm_Model_findWet 64 lv (.ref 45 :: st) (sx pl kp I A) P ↔ rn (lt_G o L) mm_Model_findWet 67 lv (.int (I 45 13) :: st) (sx pl kp I A) P := rx_get (h := "") (ci := 10) (k := 13) dq_Model_findWet_64 (by decide +kernel) ho (up_b (by decide)) rfl rfl (fl_i (by decide))
theorem dq_Model_findWet_67 : decode (km_c mm_Model_findWet) 67 = .ok (.if_icmp .ge 37, 3) := by decide +kernel
theorem sq_Model_findWet_67 : rn G mm_Model_findWet 67 lv (.int x2 :: .int x :: st) S P ↔ ((x2 ≤ x → rn G mm_Model_findWet 104 lv st S P) ∧ (¬ (x2 ≤ x) → rn G mm_Model_findWet 70 lv st S P)) := rn_b (off := 37) dq_Model_findWet_67 rfl rfl rfl rfl
theorem dq_Model_findWet_70 : decode (km_c mm_Model_findWet) 70 = .ok (.iconst 0, 1) := by decide +kernel
theorem sq_Model_findWet_70 : rn G mm_Model_findWet 70 lv st S P ↔ rn G mm_Model_findWet 71 lv (.int (nI 0) :: st) S P := rn_s dq_Model_findWet_70 rfl rfl rfl
theorem dq_Model_findWet_71 : decode (km_c mm_Model_findWet) 71 = .ok (.istore_n 3, 1) := by decide +kernel
theorem sq_Model_findWet_71n : rn G mm_Model_findWet 71 [a0, a1, none, a3] (.int x :: st) S P ↔ rn G mm_Model_findWet 72 [a0, a1, none, some (.int x)] st S P := rn_s dq_Model_findWet_71 rfl rfl rfl
theorem sq_Model_findWet_71i : rn G mm_Model_findWet 71 [a0, a1, some (.int x2), a3] (.int x :: st) S P ↔ rn G mm_Model_findWet 72 [a0, a1, some (.int x2), some (.int x)] st S P := rn_s dq_Model_findWet_71 rfl rfl rfl
theorem sq_Model_findWet_71r : rn G mm_Model_findWet 71 [a0, a1, some (.ref z2), a3] (.int x :: st) S P ↔ rn G mm_Model_findWet 72 [a0, a1, some (.ref z2), some (.int x)] st S P := rn_s dq_Model_findWet_71 rfl rfl rfl
theorem dq_Model_findWet_72 : decode (km_c mm_Model_findWet) 72 = .ok (.iload_n 3, 1) := by decide +kernel
theorem sq_Model_findWet_72 : rn G mm_Model_findWet 72 [a0, a1, a2, some (.int x)] st S P ↔ rn G mm_Model_findWet 73 [a0, a1, a2, some (.int x)] (.int x :: st) S P := rn_s dq_Model_findWet_72 rfl rfl rfl
theorem dq_Model_findWet_73 : decode (km_c mm_Model_findWet) 73 = .ok (.iconst 4, 1) := by decide +kernel
theorem sq_Model_findWet_73 : rn G mm_Model_findWet 73 lv st S P ↔ rn G mm_Model_findWet 74 lv (.int (nI 4) :: st) S P := rn_s dq_Model_findWet_73 rfl rfl rfl
theorem dq_Model_findWet_74 : decode (km_c mm_Model_findWet) 74 = .ok (.if_icmp .ge 24, 3) := by decide +kernel
theorem sq_Model_findWet_74 : rn G mm_Model_findWet 74 lv (.int x2 :: .int x :: st) S P ↔ ((x2 ≤ x → rn G mm_Model_findWet 98 lv st S P) ∧ (¬ (x2 ≤ x) → rn G mm_Model_findWet 77 lv st S P)) := rn_b (off := 24) dq_Model_findWet_74 rfl rfl rfl rfl
theorem dq_Model_findWet_77 : decode (km_c mm_Model_findWet) 77 = .ok (.aload_n 0, 1) := by decide +kernel
theorem sq_Model_findWet_77 : rn G mm_Model_findWet 77 [some (.ref z), a1, a2, a3] st S P ↔ rn G mm_Model_findWet 78 [some (.ref z), a1, a2, a3] (.ref z :: st) S P := rn_s dq_Model_findWet_77 rfl rfl rfl
theorem dq_Model_findWet_78 : decode (km_c mm_Model_findWet) 78 = .ok (.aload_n 0, 1) := by decide +kernel
theorem sq_Model_findWet_78 : rn G mm_Model_findWet 78 [some (.ref z), a1, a2, a3] st S P ↔ rn G mm_Model_findWet 79 [some (.ref z), a1, a2, a3] (.ref z :: st) S P := rn_s dq_Model_findWet_78 rfl rfl rfl
theorem dq_Model_findWet_79 : decode (km_c mm_Model_findWet) 79 = .ok (.getfield 35, 3) := by decide +kernel
theorem sq_Model_findWet_79_45 (ho : sx_o o pl kp) : rn (lt_G o L) mm_Model_findWet 79 lv (.ref 45 :: st) (sx pl kp I A) P ↔ rn (lt_G o L) mm_Model_findWet 82 lv (.ref 52 :: st) (sx pl kp I A) P := rx_get (h := "") (ci := 10) (k := 12) dq_Model_findWet_79 (by decide +kernel) ho (up_b (by decide)) rfl rfl (fl_r (by decide) (by decide) (by decide) (by decide))
theorem dq_Model_findWet_82 : decode (km_c mm_Model_findWet) 82 = .ok (.iload_n 2, 1) := by decide +kernel
theorem sq_Model_findWet_82 : rn G mm_Model_findWet 82 [a0, a1, some (.int x), a3] st S P ↔ rn G mm_Model_findWet 83 [a0, a1, some (.int x), a3] (.int x :: st) S P := rn_s dq_Model_findWet_82 rfl rfl rfl
theorem dq_Model_findWet_83 : decode (km_c mm_Model_findWet) 83 = .ok (.iaload, 1) := by decide +kernel
theorem sq_Model_findWet_83 (ho : sx_o o pl kp) (hk : ak L a = 0) (hu : sx_up pl kp a = true ∨ 1000 ≤ a) (hc : c < ln L a) (hn : ln L a < 2 ^ 31) : rn (lt_G o L) mm_Model_findWet 83 lv (.int (nI c) :: .ref a :: st) (sx pl kp I A) P ↔ rn (lt_G o L) mm_Model_findWet 84 lv (.int (A a c) :: st) (sx pl kp I A) P := rx_ild dq_Model_findWet_83 ho hk hu hc hn
theorem dq_Model_findWet_84 : decode (km_c mm_Model_findWet) 84 = .ok (.iload_n 3, 1) := by decide +kernel
theorem sq_Model_findWet_84 : rn G mm_Model_findWet 84 [a0, a1, a2, some (.int x)] st S P ↔ rn G mm_Model_findWet 85 [a0, a1, a2, some (.int x)] (.int x :: st) S P := rn_s dq_Model_findWet_84 rfl rfl rfl
theorem dq_Model_findWet_85 : decode (km_c mm_Model_findWet) 85 = .ok (.invokestatic 80, 3) := by decide +kernel
theorem sq_Model_findWet_85 {x1 : Int32} {x2 : Int32} {v : Option Value} {S2 : ks_S} (hc : ev G mm_Model_nextTo [.int x1, .int x2] S v S2) (hst : kx_cat st ≤ 8) : rn G mm_Model_findWet 85 lv (.int x2 :: .int x1 :: st) S P ↔ rn G mm_Model_findWet 88 lv (v.toList ++ st) S2 P := rn_cs (k := 1) (host := "") (E' := mm_Model_nextTo) dq_Model_findWet_85 (by decide) (by decide) rfl (ok_v rfl (by decide) (by decide) (Nat.le_add_left _ _) hst (Nat.le_of_ble_eq_true rfl) (Or.inl rfl)) rfl rfl hc
theorem dq_Model_findWet_88 : decode (km_c mm_Model_findWet) 88 = .ok (.iload_n 1, 1) := by decide +kernel
theorem sq_Model_findWet_88 : rn G mm_Model_findWet 88 [a0, some (.int x), a2, a3] st S P ↔ rn G mm_Model_findWet 89 [a0, some (.int x), a2, a3] (.int x :: st) S P := rn_s dq_Model_findWet_88 rfl rfl rfl
theorem dq_Model_findWet_89 : decode (km_c mm_Model_findWet) 89 = .ok (.invokevirtual 91, 3) := by decide +kernel
theorem sq_Model_findWet_89_45 {x1 : Int32} {x2 : Int32} {v : Option Value} {S2 : ks_S} (hc : ev (lt_G o L) mm_Model_soak [.ref 45, .int x1, .int x2] (sx pl kp I A) v S2) (ho : sx_o o pl kp) (hst : kx_cat st ≤ 8) : rn (lt_G o L) mm_Model_findWet 89 lv (.int x2 :: .int x1 :: .ref 45 :: st) (sx pl kp I A) P ↔ rn (lt_G o L) mm_Model_findWet 92 lv (v.toList ++ st) S2 P := rn_cv (k := 0) (host := "") (E' := mm_Model_soak) dq_Model_findWet_89 rfl (ok_v rfl (by decide) (by decide) (Nat.le_add_left _ _) hst (Nat.le_of_ble_eq_true rfl) (Or.inr (rc_v ho (up_b (by decide)) rfl))) rfl rfl hc
theorem dq_Model_findWet_92 : decode (km_c mm_Model_findWet) 92 = .ok (.iinc 3 1, 3) := by decide +kernel
theorem sq_Model_findWet_92n : rn G mm_Model_findWet 92 [a0, a1, none, some (.int x)] st S P ↔ rn G mm_Model_findWet 95 [a0, a1, none, some (.int (x + nI 1))] st S P := rn_s dq_Model_findWet_92 rfl rfl rfl
theorem sq_Model_findWet_92i : rn G mm_Model_findWet 92 [a0, a1, some (.int x2), some (.int x)] st S P ↔ rn G mm_Model_findWet 95 [a0, a1, some (.int x2), some (.int (x + nI 1))] st S P := rn_s dq_Model_findWet_92 rfl rfl rfl
theorem sq_Model_findWet_92r : rn G mm_Model_findWet 92 [a0, a1, some (.ref z2), some (.int x)] st S P ↔ rn G mm_Model_findWet 95 [a0, a1, some (.ref z2), some (.int (x + nI 1))] st S P := rn_s dq_Model_findWet_92 rfl rfl rfl
theorem dq_Model_findWet_95 : decode (km_c mm_Model_findWet) 95 = .ok (.goto (-23), 3) := by decide +kernel
theorem sq_Model_findWet_95 : rn G mm_Model_findWet 95 lv st S P ↔ rn G mm_Model_findWet 72 lv st S P := rn_s dq_Model_findWet_95 rfl rfl rfl
theorem dq_Model_findWet_98 : decode (km_c mm_Model_findWet) 98 = .ok (.iinc 2 1, 3) := by decide +kernel
theorem sq_Model_findWet_98n : rn G mm_Model_findWet 98 [a0, none, some (.int x), a3] st S P ↔ rn G mm_Model_findWet 101 [a0, none, some (.int (x + nI 1)), a3] st S P := rn_s dq_Model_findWet_98 rfl rfl rfl
theorem sq_Model_findWet_98i : rn G mm_Model_findWet 98 [a0, some (.int x2), some (.int x), a3] st S P ↔ rn G mm_Model_findWet 101 [a0, some (.int x2), some (.int (x + nI 1)), a3] st S P := rn_s dq_Model_findWet_98 rfl rfl rfl
theorem sq_Model_findWet_98r : rn G mm_Model_findWet 98 [a0, some (.ref z2), some (.int x), a3] st S P ↔ rn G mm_Model_findWet 101 [a0, some (.ref z2), some (.int (x + nI 1)), a3] st S P := rn_s dq_Model_findWet_98 rfl rfl rfl
theorem dq_Model_findWet_101 : decode (km_c mm_Model_findWet) 101 = .ok (.goto (-39), 3) := by decide +kernel
theorem sq_Model_findWet_101 : rn G mm_Model_findWet 101 lv st S P ↔ rn G mm_Model_findWet 62 lv st S P := rn_s dq_Model_findWet_101 rfl rfl rfl
theorem dq_Model_findWet_104 : decode (km_c mm_Model_findWet) 104 = .ok (.return_, 1) := by decide +kernel
theorem sq_Model_findWet_104 : rn G mm_Model_findWet 104 lv [] S P ↔ P none S := rn_vr dq_Model_findWet_104 rfl
theorem dq_Model_soak_0 : decode (km_c mm_Model_soak) 0 = .ok (.iload_n 1, 1) := by decide +kernel
theorem sq_Model_soak_0 : rn G mm_Model_soak 0 [a0, some (.int x), a2] st S P ↔ rn G mm_Model_soak 1 [a0, some (.int x), a2] (.int x :: st) S P := rn_s dq_Model_soak_0 rfl rfl rfl
theorem dq_Model_soak_1 : decode (km_c mm_Model_soak) 1 = .ok (.ifCond .lt 48, 3) := by decide +kernel
theorem sq_Model_soak_1 : rn G mm_Model_soak 1 lv (.int x :: st) S P ↔ ((x < 0 → rn G mm_Model_soak 49 lv st S P) ∧ (¬ (x < 0) → rn G mm_Model_soak 4 lv st S P)) := rn_b (off := 48) dq_Model_soak_1 rfl rfl rfl rfl
theorem dq_Model_soak_4 : decode (km_c mm_Model_soak) 4 = .ok (.aload_n 0, 1) := by decide +kernel
theorem sq_Model_soak_4 : rn G mm_Model_soak 4 [some (.ref z), a1, a2] st S P ↔ rn G mm_Model_soak 5 [some (.ref z), a1, a2] (.ref z :: st) S P := rn_s dq_Model_soak_4 rfl rfl rfl
theorem dq_Model_soak_5 : decode (km_c mm_Model_soak) 5 = .ok (.getfield 32, 3) := by decide +kernel
theorem sq_Model_soak_5_45 (ho : sx_o o pl kp) : rn (lt_G o L) mm_Model_soak 5 lv (.ref 45 :: st) (sx pl kp I A) P ↔ rn (lt_G o L) mm_Model_soak 8 lv (.ref 51 :: st) (sx pl kp I A) P := rx_get (h := "") (ci := 10) (k := 11) dq_Model_soak_5 (by decide +kernel) ho (up_b (by decide)) rfl rfl (fl_r (by decide) (by decide) (by decide) (by decide))
theorem dq_Model_soak_8 : decode (km_c mm_Model_soak) 8 = .ok (.iload_n 1, 1) := by decide +kernel
theorem sq_Model_soak_8 : rn G mm_Model_soak 8 [a0, some (.int x), a2] st S P ↔ rn G mm_Model_soak 9 [a0, some (.int x), a2] (.int x :: st) S P := rn_s dq_Model_soak_8 rfl rfl rfl
theorem dq_Model_soak_9 : decode (km_c mm_Model_soak) 9 = .ok (.iaload, 1) := by decide +kernel
theorem sq_Model_soak_9 (ho : sx_o o pl kp) (hk : ak L a = 0) (hu : sx_up pl kp a = true ∨ 1000 ≤ a) (hc : c < ln L a) (hn : ln L a < 2 ^ 31) : rn (lt_G o L) mm_Model_soak 9 lv (.int (nI c) :: .ref a :: st) (sx pl kp I A) P ↔ rn (lt_G o L) mm_Model_soak 10 lv (.int (A a c) :: st) (sx pl kp I A) P := rx_ild dq_Model_soak_9 ho hk hu hc hn
theorem dq_Model_soak_10 : decode (km_c mm_Model_soak) 10 = .ok (.ifCond .ne 39, 3) := by decide +kernel
theorem sq_Model_soak_10 : rn G mm_Model_soak 10 lv (.int x :: st) S P ↔ ((¬ x = 0 → rn G mm_Model_soak 49 lv st S P) ∧ (¬ (¬ x = 0) → rn G mm_Model_soak 13 lv st S P)) := rn_b (off := 39) dq_Model_soak_10 rfl rfl rfl rfl
theorem dq_Model_soak_13 : decode (km_c mm_Model_soak) 13 = .ok (.aload_n 0, 1) := by decide +kernel
theorem sq_Model_soak_13 : rn G mm_Model_soak 13 [some (.ref z), a1, a2] st S P ↔ rn G mm_Model_soak 14 [some (.ref z), a1, a2] (.ref z :: st) S P := rn_s dq_Model_soak_13 rfl rfl rfl
theorem dq_Model_soak_14 : decode (km_c mm_Model_soak) 14 = .ok (.iload_n 1, 1) := by decide +kernel
theorem sq_Model_soak_14 : rn G mm_Model_soak 14 [a0, some (.int x), a2] st S P ↔ rn G mm_Model_soak 15 [a0, some (.int x), a2] (.int x :: st) S P := rn_s dq_Model_soak_14 rfl rfl rfl
theorem dq_Model_soak_15 : decode (km_c mm_Model_soak) 15 = .ok (.invokevirtual 84, 3) := by decide +kernel
theorem sq_Model_soak_15_45 {x1 : Int32} {v : Option Value} {S2 : ks_S} (hc : ev (lt_G o L) mm_Model_top [.ref 45, .int x1] (sx pl kp I A) v S2) (ho : sx_o o pl kp) (hst : kx_cat st ≤ 8) : rn (lt_G o L) mm_Model_soak 15 lv (.int x1 :: .ref 45 :: st) (sx pl kp I A) P ↔ rn (lt_G o L) mm_Model_soak 18 lv (v.toList ++ st) S2 P := rn_cv (k := 0) (host := "") (E' := mm_Model_top) dq_Model_soak_15 rfl (ok_v rfl (by decide) (by decide) (Nat.le_add_left _ _) hst (Nat.le_of_ble_eq_true rfl) (Or.inr (rc_v ho (up_b (by decide)) rfl))) rfl rfl hc
theorem dq_Model_soak_18 : decode (km_c mm_Model_soak) 18 = .ok (.iload_n 2, 1) := by decide +kernel
theorem sq_Model_soak_18 : rn G mm_Model_soak 18 [a0, a1, some (.int x)] st S P ↔ rn G mm_Model_soak 19 [a0, a1, some (.int x)] (.int x :: st) S P := rn_s dq_Model_soak_18 rfl rfl rfl
theorem dq_Model_soak_19 : decode (km_c mm_Model_soak) 19 = .ok (.if_icmp .ge 30, 3) := by decide +kernel
theorem sq_Model_soak_19 : rn G mm_Model_soak 19 lv (.int x2 :: .int x :: st) S P ↔ ((x2 ≤ x → rn G mm_Model_soak 49 lv st S P) ∧ (¬ (x2 ≤ x) → rn G mm_Model_soak 22 lv st S P)) := rn_b (off := 30) dq_Model_soak_19 rfl rfl rfl rfl
theorem dq_Model_soak_22 : decode (km_c mm_Model_soak) 22 = .ok (.aload_n 0, 1) := by decide +kernel
theorem sq_Model_soak_22 : rn G mm_Model_soak 22 [some (.ref z), a1, a2] st S P ↔ rn G mm_Model_soak 23 [some (.ref z), a1, a2] (.ref z :: st) S P := rn_s dq_Model_soak_22 rfl rfl rfl
theorem dq_Model_soak_23 : decode (km_c mm_Model_soak) 23 = .ok (.getfield 32, 3) := by decide +kernel
theorem sq_Model_soak_23_45 (ho : sx_o o pl kp) : rn (lt_G o L) mm_Model_soak 23 lv (.ref 45 :: st) (sx pl kp I A) P ↔ rn (lt_G o L) mm_Model_soak 26 lv (.ref 51 :: st) (sx pl kp I A) P := rx_get (h := "") (ci := 10) (k := 11) dq_Model_soak_23 (by decide +kernel) ho (up_b (by decide)) rfl rfl (fl_r (by decide) (by decide) (by decide) (by decide))
theorem dq_Model_soak_26 : decode (km_c mm_Model_soak) 26 = .ok (.iload_n 1, 1) := by decide +kernel
theorem sq_Model_soak_26 : rn G mm_Model_soak 26 [a0, some (.int x), a2] st S P ↔ rn G mm_Model_soak 27 [a0, some (.int x), a2] (.int x :: st) S P := rn_s dq_Model_soak_26 rfl rfl rfl
theorem dq_Model_soak_27 : decode (km_c mm_Model_soak) 27 = .ok (.iconst 1, 1) := by decide +kernel
theorem sq_Model_soak_27 : rn G mm_Model_soak 27 lv st S P ↔ rn G mm_Model_soak 28 lv (.int (nI 1) :: st) S P := rn_s dq_Model_soak_27 rfl rfl rfl
theorem dq_Model_soak_28 : decode (km_c mm_Model_soak) 28 = .ok (.iastore, 1) := by decide +kernel
theorem sq_Model_soak_28 (ho : sx_o o pl kp) (hk : ak L a = 0) (hu : sx_up pl kp a = true) (hc : c < ln L a) (hn : ln L a < 2 ^ 31) : rn (lt_G o L) mm_Model_soak 28 lv (.int x :: .int (nI c) :: .ref a :: st) (sx pl kp I A) P ↔ rn (lt_G o L) mm_Model_soak 29 lv st (sx pl kp I (u2 A a c x)) P := rx_ist dq_Model_soak_28 ho hk hu hc hn
theorem dq_Model_soak_29 : decode (km_c mm_Model_soak) 29 = .ok (.aload_n 0, 1) := by decide +kernel
theorem sq_Model_soak_29 : rn G mm_Model_soak 29 [some (.ref z), a1, a2] st S P ↔ rn G mm_Model_soak 30 [some (.ref z), a1, a2] (.ref z :: st) S P := rn_s dq_Model_soak_29 rfl rfl rfl
theorem dq_Model_soak_30 : decode (km_c mm_Model_soak) 30 = .ok (.getfield 35, 3) := by decide +kernel
theorem sq_Model_soak_30_45 (ho : sx_o o pl kp) : rn (lt_G o L) mm_Model_soak 30 lv (.ref 45 :: st) (sx pl kp I A) P ↔ rn (lt_G o L) mm_Model_soak 33 lv (.ref 52 :: st) (sx pl kp I A) P := rx_get (h := "") (ci := 10) (k := 12) dq_Model_soak_30 (by decide +kernel) ho (up_b (by decide)) rfl rfl (fl_r (by decide) (by decide) (by decide) (by decide))
theorem dq_Model_soak_33 : decode (km_c mm_Model_soak) 33 = .ok (.aload_n 0, 1) := by decide +kernel
theorem sq_Model_soak_33 : rn G mm_Model_soak 33 [some (.ref z), a1, a2] st S P ↔ rn G mm_Model_soak 34 [some (.ref z), a1, a2] (.ref z :: st) S P := rn_s dq_Model_soak_33 rfl rfl rfl
theorem dq_Model_soak_34 : decode (km_c mm_Model_soak) 34 = .ok (.getfield 88, 3) := by decide +kernel
theorem sq_Model_soak_34_45 (ho : sx_o o pl kp) : rn (lt_G o L) mm_Model_soak 34 lv (.ref 45 :: st) (sx pl kp I A) P ↔ rn (lt_G o L) mm_Model_soak 37 lv (.int (I 45 13) :: st) (sx pl kp I A) P := rx_get (h := "") (ci := 10) (k := 13) dq_Model_soak_34 (by decide +kernel) ho (up_b (by decide)) rfl rfl (fl_i (by decide))
theorem dq_Model_soak_37 : decode (km_c mm_Model_soak) 37 = .ok (.iload_n 1, 1) := by decide +kernel
theorem sq_Model_soak_37 : rn G mm_Model_soak 37 [a0, some (.int x), a2] st S P ↔ rn G mm_Model_soak 38 [a0, some (.int x), a2] (.int x :: st) S P := rn_s dq_Model_soak_37 rfl rfl rfl
theorem dq_Model_soak_38 : decode (km_c mm_Model_soak) 38 = .ok (.iastore, 1) := by decide +kernel
theorem sq_Model_soak_38 (ho : sx_o o pl kp) (hk : ak L a = 0) (hu : sx_up pl kp a = true) (hc : c < ln L a) (hn : ln L a < 2 ^ 31) : rn (lt_G o L) mm_Model_soak 38 lv (.int x :: .int (nI c) :: .ref a :: st) (sx pl kp I A) P ↔ rn (lt_G o L) mm_Model_soak 39 lv st (sx pl kp I (u2 A a c x)) P := rx_ist dq_Model_soak_38 ho hk hu hc hn
theorem dq_Model_soak_39 : decode (km_c mm_Model_soak) 39 = .ok (.aload_n 0, 1) := by decide +kernel
theorem sq_Model_soak_39 : rn G mm_Model_soak 39 [some (.ref z), a1, a2] st S P ↔ rn G mm_Model_soak 40 [some (.ref z), a1, a2] (.ref z :: st) S P := rn_s dq_Model_soak_39 rfl rfl rfl
theorem dq_Model_soak_40 : decode (km_c mm_Model_soak) 40 = .ok (.dup, 1) := by decide +kernel
theorem sq_Model_soak_40i : rn G mm_Model_soak 40 lv (.int x :: st) S P ↔ rn G mm_Model_soak 41 lv (.int x :: .int x :: st) S P := rn_s dq_Model_soak_40 rfl rfl rfl
theorem sq_Model_soak_40r : rn G mm_Model_soak 40 lv (.ref z :: st) S P ↔ rn G mm_Model_soak 41 lv (.ref z :: .ref z :: st) S P := rn_s dq_Model_soak_40 rfl rfl rfl
theorem dq_Model_soak_41 : decode (km_c mm_Model_soak) 41 = .ok (.getfield 88, 3) := by decide +kernel
theorem sq_Model_soak_41_45 (ho : sx_o o pl kp) : rn (lt_G o L) mm_Model_soak 41 lv (.ref 45 :: st) (sx pl kp I A) P ↔ rn (lt_G o L) mm_Model_soak 44 lv (.int (I 45 13) :: st) (sx pl kp I A) P := rx_get (h := "") (ci := 10) (k := 13) dq_Model_soak_41 (by decide +kernel) ho (up_b (by decide)) rfl rfl (fl_i (by decide))
theorem dq_Model_soak_44 : decode (km_c mm_Model_soak) 44 = .ok (.iconst 1, 1) := by decide +kernel
theorem sq_Model_soak_44 : rn G mm_Model_soak 44 lv st S P ↔ rn G mm_Model_soak 45 lv (.int (nI 1) :: st) S P := rn_s dq_Model_soak_44 rfl rfl rfl
theorem dq_Model_soak_45 : decode (km_c mm_Model_soak) 45 = .ok (.iadd, 1) := by decide +kernel
theorem sq_Model_soak_45 : rn G mm_Model_soak 45 lv (.int x2 :: .int x :: st) S P ↔ rn G mm_Model_soak 46 lv (.int (x + x2) :: st) S P := rn_s dq_Model_soak_45 rfl rfl rfl
theorem dq_Model_soak_46 : decode (km_c mm_Model_soak) 46 = .ok (.putfield 88, 3) := by decide +kernel
theorem sq_Model_soak_46_45 (ho : sx_o o pl kp) : rn (lt_G o L) mm_Model_soak 46 lv (.int x :: .ref 45 :: st) (sx pl kp I A) P ↔ rn (lt_G o L) mm_Model_soak 49 lv st (sx pl kp (u2 I 45 13 x) A) P := rx_put (h := "") (ci := 10) (k := 13) dq_Model_soak_46 (by decide +kernel) ho (up_b (by decide)) rfl rfl (by decide) (by decide)
theorem dq_Model_soak_49 : decode (km_c mm_Model_soak) 49 = .ok (.return_, 1) := by decide +kernel
theorem sq_Model_soak_49 : rn G mm_Model_soak 49 lv [] S P ↔ P none S := rn_vr dq_Model_soak_49 rfl
theorem dq_Model_top_0 : decode (km_c mm_Model_top) 0 = .ok (.aload_n 0, 1) := by decide +kernel
theorem sq_Model_top_0 : rn G mm_Model_top 0 [some (.ref z), a1] st S P ↔ rn G mm_Model_top 1 [some (.ref z), a1] (.ref z :: st) S P := rn_s dq_Model_top_0 rfl rfl rfl
theorem dq_Model_top_1 : decode (km_c mm_Model_top) 1 = .ok (.getfield 7, 3) := by decide +kernel
theorem sq_Model_top_1_45 (ho : sx_o o pl kp) : rn (lt_G o L) mm_Model_top 1 lv (.ref 45 :: st) (sx pl kp I A) P ↔ rn (lt_G o L) mm_Model_top 4 lv (.ref 46 :: st) (sx pl kp I A) P := rx_get (h := "") (ci := 10) (k := 0) dq_Model_top_1 (by decide +kernel) ho (up_b (by decide)) rfl rfl (fl_r (by decide) (by decide) (by decide) (by decide))
theorem dq_Model_top_4 : decode (km_c mm_Model_top) 4 = .ok (.iload_n 1, 1) := by decide +kernel
theorem sq_Model_top_4 : rn G mm_Model_top 4 [a0, some (.int x)] st S P ↔ rn G mm_Model_top 5 [a0, some (.int x)] (.int x :: st) S P := rn_s dq_Model_top_4 rfl rfl rfl
theorem dq_Model_top_5 : decode (km_c mm_Model_top) 5 = .ok (.iaload, 1) := by decide +kernel
theorem sq_Model_top_5 (ho : sx_o o pl kp) (hk : ak L a = 0) (hu : sx_up pl kp a = true ∨ 1000 ≤ a) (hc : c < ln L a) (hn : ln L a < 2 ^ 31) : rn (lt_G o L) mm_Model_top 5 lv (.int (nI c) :: .ref a :: st) (sx pl kp I A) P ↔ rn (lt_G o L) mm_Model_top 6 lv (.int (A a c) :: st) (sx pl kp I A) P := rx_ild dq_Model_top_5 ho hk hu hc hn
theorem dq_Model_top_6 : decode (km_c mm_Model_top) 6 = .ok (.aload_n 0, 1) := by decide +kernel
theorem sq_Model_top_6 : rn G mm_Model_top 6 [some (.ref z), a1] st S P ↔ rn G mm_Model_top 7 [some (.ref z), a1] (.ref z :: st) S P := rn_s dq_Model_top_6 rfl rfl rfl
theorem dq_Model_top_7 : decode (km_c mm_Model_top) 7 = .ok (.getfield 7, 3) := by decide +kernel
theorem sq_Model_top_7_45 (ho : sx_o o pl kp) : rn (lt_G o L) mm_Model_top 7 lv (.ref 45 :: st) (sx pl kp I A) P ↔ rn (lt_G o L) mm_Model_top 10 lv (.ref 46 :: st) (sx pl kp I A) P := rx_get (h := "") (ci := 10) (k := 0) dq_Model_top_7 (by decide +kernel) ho (up_b (by decide)) rfl rfl (fl_r (by decide) (by decide) (by decide) (by decide))
theorem dq_Model_top_10 : decode (km_c mm_Model_top) 10 = .ok (.bipush 49, 2) := by decide +kernel
theorem sq_Model_top_10 : rn G mm_Model_top 10 lv st S P ↔ rn G mm_Model_top 12 lv (.int (nI 49) :: st) S P := rn_s dq_Model_top_10 rfl rfl rfl
theorem dq_Model_top_12 : decode (km_c mm_Model_top) 12 = .ok (.iload_n 1, 1) := by decide +kernel
theorem sq_Model_top_12 : rn G mm_Model_top 12 [a0, some (.int x)] st S P ↔ rn G mm_Model_top 13 [a0, some (.int x)] (.int x :: st) S P := rn_s dq_Model_top_12 rfl rfl rfl
theorem dq_Model_top_13 : decode (km_c mm_Model_top) 13 = .ok (.iadd, 1) := by decide +kernel
theorem sq_Model_top_13 : rn G mm_Model_top 13 lv (.int x2 :: .int x :: st) S P ↔ rn G mm_Model_top 14 lv (.int (x + x2) :: st) S P := rn_s dq_Model_top_13 rfl rfl rfl
theorem dq_Model_top_14 : decode (km_c mm_Model_top) 14 = .ok (.iaload, 1) := by decide +kernel
theorem sq_Model_top_14 (ho : sx_o o pl kp) (hk : ak L a = 0) (hu : sx_up pl kp a = true ∨ 1000 ≤ a) (hc : c < ln L a) (hn : ln L a < 2 ^ 31) : rn (lt_G o L) mm_Model_top 14 lv (.int (nI c) :: .ref a :: st) (sx pl kp I A) P ↔ rn (lt_G o L) mm_Model_top 15 lv (.int (A a c) :: st) (sx pl kp I A) P := rx_ild dq_Model_top_14 ho hk hu hc hn
theorem dq_Model_top_15 : decode (km_c mm_Model_top) 15 = .ok (.iadd, 1) := by decide +kernel
theorem sq_Model_top_15 : rn G mm_Model_top 15 lv (.int x2 :: .int x :: st) S P ↔ rn G mm_Model_top 16 lv (.int (x + x2) :: st) S P := rn_s dq_Model_top_15 rfl rfl rfl
theorem dq_Model_top_16 : decode (km_c mm_Model_top) 16 = .ok (.ireturn, 1) := by decide +kernel
theorem sq_Model_top_16 : rn G mm_Model_top 16 lv [.int x] S P ↔ P (some (.int x)) S := rn_ir dq_Model_top_16 rfl
theorem dq_Model_nextTo_0 : decode (km_c mm_Model_nextTo) 0 = .ok (.iload_n 1, 1) := by decide +kernel
theorem sq_Model_nextTo_0 : rn G mm_Model_nextTo 0 [a0, some (.int x)] st S P ↔ rn G mm_Model_nextTo 1 [a0, some (.int x)] (.int x :: st) S P := rn_s dq_Model_nextTo_0 rfl rfl rfl
theorem dq_Model_nextTo_1 : decode (km_c mm_Model_nextTo) 1 = .ok (.ifCond .ne 18, 3) := by decide +kernel
theorem sq_Model_nextTo_1 : rn G mm_Model_nextTo 1 lv (.int x :: st) S P ↔ ((¬ x = 0 → rn G mm_Model_nextTo 19 lv st S P) ∧ (¬ (¬ x = 0) → rn G mm_Model_nextTo 4 lv st S P)) := rn_b (off := 18) dq_Model_nextTo_1 rfl rfl rfl rfl
theorem dq_Model_nextTo_4 : decode (km_c mm_Model_nextTo) 4 = .ok (.iload_n 0, 1) := by decide +kernel
theorem sq_Model_nextTo_4 : rn G mm_Model_nextTo 4 [some (.int x), a1] st S P ↔ rn G mm_Model_nextTo 5 [some (.int x), a1] (.int x :: st) S P := rn_s dq_Model_nextTo_4 rfl rfl rfl
theorem dq_Model_nextTo_5 : decode (km_c mm_Model_nextTo) 5 = .ok (.bipush 7, 2) := by decide +kernel
theorem sq_Model_nextTo_5 : rn G mm_Model_nextTo 5 lv st S P ↔ rn G mm_Model_nextTo 7 lv (.int (nI 7) :: st) S P := rn_s dq_Model_nextTo_5 rfl rfl rfl
theorem dq_Model_nextTo_7 : decode (km_c mm_Model_nextTo) 7 = .ok (.if_icmp .ge 7, 3) := by decide +kernel
theorem sq_Model_nextTo_7 : rn G mm_Model_nextTo 7 lv (.int x2 :: .int x :: st) S P ↔ ((x2 ≤ x → rn G mm_Model_nextTo 14 lv st S P) ∧ (¬ (x2 ≤ x) → rn G mm_Model_nextTo 10 lv st S P)) := rn_b (off := 7) dq_Model_nextTo_7 rfl rfl rfl rfl
theorem dq_Model_nextTo_10 : decode (km_c mm_Model_nextTo) 10 = .ok (.iconst (-1), 1) := by decide +kernel
theorem sq_Model_nextTo_10 : rn G mm_Model_nextTo 10 lv st S P ↔ rn G mm_Model_nextTo 11 lv (.int ((-1)) :: st) S P := rn_s dq_Model_nextTo_10 rfl rfl rfl
theorem dq_Model_nextTo_11 : decode (km_c mm_Model_nextTo) 11 = .ok (.goto 7, 3) := by decide +kernel
theorem sq_Model_nextTo_11 : rn G mm_Model_nextTo 11 lv st S P ↔ rn G mm_Model_nextTo 18 lv st S P := rn_s dq_Model_nextTo_11 rfl rfl rfl
theorem dq_Model_nextTo_14 : decode (km_c mm_Model_nextTo) 14 = .ok (.iload_n 0, 1) := by decide +kernel
theorem sq_Model_nextTo_14 : rn G mm_Model_nextTo 14 [some (.int x), a1] st S P ↔ rn G mm_Model_nextTo 15 [some (.int x), a1] (.int x :: st) S P := rn_s dq_Model_nextTo_14 rfl rfl rfl
theorem dq_Model_nextTo_15 : decode (km_c mm_Model_nextTo) 15 = .ok (.bipush 7, 2) := by decide +kernel
theorem sq_Model_nextTo_15 : rn G mm_Model_nextTo 15 lv st S P ↔ rn G mm_Model_nextTo 17 lv (.int (nI 7) :: st) S P := rn_s dq_Model_nextTo_15 rfl rfl rfl
theorem dq_Model_nextTo_17 : decode (km_c mm_Model_nextTo) 17 = .ok (.isub, 1) := by decide +kernel
theorem sq_Model_nextTo_17 : rn G mm_Model_nextTo 17 lv (.int x2 :: .int x :: st) S P ↔ rn G mm_Model_nextTo 18 lv (.int (x - x2) :: st) S P := rn_s dq_Model_nextTo_17 rfl rfl rfl
theorem dq_Model_nextTo_18 : decode (km_c mm_Model_nextTo) 18 = .ok (.ireturn, 1) := by decide +kernel
theorem sq_Model_nextTo_18 : rn G mm_Model_nextTo 18 lv [.int x] S P ↔ P (some (.int x)) S := rn_ir dq_Model_nextTo_18 rfl
theorem dq_Model_nextTo_19 : decode (km_c mm_Model_nextTo) 19 = .ok (.iload_n 1, 1) := by decide +kernel
theorem sq_Model_nextTo_19 : rn G mm_Model_nextTo 19 [a0, some (.int x)] st S P ↔ rn G mm_Model_nextTo 20 [a0, some (.int x)] (.int x :: st) S P := rn_s dq_Model_nextTo_19 rfl rfl rfl
theorem dq_Model_nextTo_20 : decode (km_c mm_Model_nextTo) 20 = .ok (.iconst 3, 1) := by decide +kernel
theorem sq_Model_nextTo_20 : rn G mm_Model_nextTo 20 lv st S P ↔ rn G mm_Model_nextTo 21 lv (.int (nI 3) :: st) S P := rn_s dq_Model_nextTo_20 rfl rfl rfl
theorem dq_Model_nextTo_21 : decode (km_c mm_Model_nextTo) 21 = .ok (.if_icmp .ne 18, 3) := by decide +kernel
theorem sq_Model_nextTo_21 : rn G mm_Model_nextTo 21 lv (.int x2 :: .int x :: st) S P ↔ ((¬ x = x2 → rn G mm_Model_nextTo 39 lv st S P) ∧ (¬ (¬ x = x2) → rn G mm_Model_nextTo 24 lv st S P)) := rn_b (off := 18) dq_Model_nextTo_21 rfl rfl rfl rfl
theorem dq_Model_nextTo_24 : decode (km_c mm_Model_nextTo) 24 = .ok (.iload_n 0, 1) := by decide +kernel
theorem sq_Model_nextTo_24 : rn G mm_Model_nextTo 24 [some (.int x), a1] st S P ↔ rn G mm_Model_nextTo 25 [some (.int x), a1] (.int x :: st) S P := rn_s dq_Model_nextTo_24 rfl rfl rfl
theorem dq_Model_nextTo_25 : decode (km_c mm_Model_nextTo) 25 = .ok (.bipush 42, 2) := by decide +kernel
theorem sq_Model_nextTo_25 : rn G mm_Model_nextTo 25 lv st S P ↔ rn G mm_Model_nextTo 27 lv (.int (nI 42) :: st) S P := rn_s dq_Model_nextTo_25 rfl rfl rfl
theorem dq_Model_nextTo_27 : decode (km_c mm_Model_nextTo) 27 = .ok (.if_icmp .lt 7, 3) := by decide +kernel
theorem sq_Model_nextTo_27 : rn G mm_Model_nextTo 27 lv (.int x2 :: .int x :: st) S P ↔ ((x < x2 → rn G mm_Model_nextTo 34 lv st S P) ∧ (¬ (x < x2) → rn G mm_Model_nextTo 30 lv st S P)) := rn_b (off := 7) dq_Model_nextTo_27 rfl rfl rfl rfl
theorem dq_Model_nextTo_30 : decode (km_c mm_Model_nextTo) 30 = .ok (.iconst (-1), 1) := by decide +kernel
theorem sq_Model_nextTo_30 : rn G mm_Model_nextTo 30 lv st S P ↔ rn G mm_Model_nextTo 31 lv (.int ((-1)) :: st) S P := rn_s dq_Model_nextTo_30 rfl rfl rfl
theorem dq_Model_nextTo_31 : decode (km_c mm_Model_nextTo) 31 = .ok (.goto 7, 3) := by decide +kernel
theorem sq_Model_nextTo_31 : rn G mm_Model_nextTo 31 lv st S P ↔ rn G mm_Model_nextTo 38 lv st S P := rn_s dq_Model_nextTo_31 rfl rfl rfl
theorem dq_Model_nextTo_34 : decode (km_c mm_Model_nextTo) 34 = .ok (.iload_n 0, 1) := by decide +kernel
theorem sq_Model_nextTo_34 : rn G mm_Model_nextTo 34 [some (.int x), a1] st S P ↔ rn G mm_Model_nextTo 35 [some (.int x), a1] (.int x :: st) S P := rn_s dq_Model_nextTo_34 rfl rfl rfl
theorem dq_Model_nextTo_35 : decode (km_c mm_Model_nextTo) 35 = .ok (.bipush 7, 2) := by decide +kernel
theorem sq_Model_nextTo_35 : rn G mm_Model_nextTo 35 lv st S P ↔ rn G mm_Model_nextTo 37 lv (.int (nI 7) :: st) S P := rn_s dq_Model_nextTo_35 rfl rfl rfl
theorem dq_Model_nextTo_37 : decode (km_c mm_Model_nextTo) 37 = .ok (.iadd, 1) := by decide +kernel
theorem sq_Model_nextTo_37 : rn G mm_Model_nextTo 37 lv (.int x2 :: .int x :: st) S P ↔ rn G mm_Model_nextTo 38 lv (.int (x + x2) :: st) S P := rn_s dq_Model_nextTo_37 rfl rfl rfl
theorem dq_Model_nextTo_38 : decode (km_c mm_Model_nextTo) 38 = .ok (.ireturn, 1) := by decide +kernel
theorem sq_Model_nextTo_38 : rn G mm_Model_nextTo 38 lv [.int x] S P ↔ P (some (.int x)) S := rn_ir dq_Model_nextTo_38 rfl
theorem dq_Model_nextTo_39 : decode (km_c mm_Model_nextTo) 39 = .ok (.iload_n 1, 1) := by decide +kernel
theorem sq_Model_nextTo_39 : rn G mm_Model_nextTo 39 [a0, some (.int x)] st S P ↔ rn G mm_Model_nextTo 40 [a0, some (.int x)] (.int x :: st) S P := rn_s dq_Model_nextTo_39 rfl rfl rfl
theorem dq_Model_nextTo_40 : decode (km_c mm_Model_nextTo) 40 = .ok (.iconst 1, 1) := by decide +kernel
theorem sq_Model_nextTo_40 : rn G mm_Model_nextTo 40 lv st S P ↔ rn G mm_Model_nextTo 41 lv (.int (nI 1) :: st) S P := rn_s dq_Model_nextTo_40 rfl rfl rfl
theorem dq_Model_nextTo_41 : decode (km_c mm_Model_nextTo) 41 = .ok (.if_icmp .ne 20, 3) := by decide +kernel
theorem sq_Model_nextTo_41 : rn G mm_Model_nextTo 41 lv (.int x2 :: .int x :: st) S P ↔ ((¬ x = x2 → rn G mm_Model_nextTo 61 lv st S P) ∧ (¬ (¬ x = x2) → rn G mm_Model_nextTo 44 lv st S P)) := rn_b (off := 20) dq_Model_nextTo_41 rfl rfl rfl rfl
theorem dq_Model_nextTo_44 : decode (km_c mm_Model_nextTo) 44 = .ok (.iload_n 0, 1) := by decide +kernel
theorem sq_Model_nextTo_44 : rn G mm_Model_nextTo 44 [some (.int x), a1] st S P ↔ rn G mm_Model_nextTo 45 [some (.int x), a1] (.int x :: st) S P := rn_s dq_Model_nextTo_44 rfl rfl rfl
theorem dq_Model_nextTo_45 : decode (km_c mm_Model_nextTo) 45 = .ok (.bipush 7, 2) := by decide +kernel
theorem sq_Model_nextTo_45 : rn G mm_Model_nextTo 45 lv st S P ↔ rn G mm_Model_nextTo 47 lv (.int (nI 7) :: st) S P := rn_s dq_Model_nextTo_45 rfl rfl rfl
theorem dq_Model_nextTo_47 : decode (km_c mm_Model_nextTo) 47 = .ok (.irem, 1) := by decide +kernel
theorem sq_Model_nextTo_47 (hz : ¬ x2 = 0) : rn G mm_Model_nextTo 47 lv (.int x2 :: .int x :: st) S P ↔ rn G mm_Model_nextTo 48 lv (.int (x - x / x2 * x2) :: st) S P := rn_s dq_Model_nextTo_47 rfl rfl (if_neg hz)
theorem dq_Model_nextTo_48 : decode (km_c mm_Model_nextTo) 48 = .ok (.ifCond .ne 7, 3) := by decide +kernel
theorem sq_Model_nextTo_48 : rn G mm_Model_nextTo 48 lv (.int x :: st) S P ↔ ((¬ x = 0 → rn G mm_Model_nextTo 55 lv st S P) ∧ (¬ (¬ x = 0) → rn G mm_Model_nextTo 51 lv st S P)) := rn_b (off := 7) dq_Model_nextTo_48 rfl rfl rfl rfl
theorem dq_Model_nextTo_51 : decode (km_c mm_Model_nextTo) 51 = .ok (.iconst (-1), 1) := by decide +kernel
theorem sq_Model_nextTo_51 : rn G mm_Model_nextTo 51 lv st S P ↔ rn G mm_Model_nextTo 52 lv (.int ((-1)) :: st) S P := rn_s dq_Model_nextTo_51 rfl rfl rfl
theorem dq_Model_nextTo_52 : decode (km_c mm_Model_nextTo) 52 = .ok (.goto 25, 3) := by decide +kernel
theorem sq_Model_nextTo_52 : rn G mm_Model_nextTo 52 lv st S P ↔ rn G mm_Model_nextTo 77 lv st S P := rn_s dq_Model_nextTo_52 rfl rfl rfl
theorem dq_Model_nextTo_55 : decode (km_c mm_Model_nextTo) 55 = .ok (.iload_n 0, 1) := by decide +kernel
theorem sq_Model_nextTo_55 : rn G mm_Model_nextTo 55 [some (.int x), a1] st S P ↔ rn G mm_Model_nextTo 56 [some (.int x), a1] (.int x :: st) S P := rn_s dq_Model_nextTo_55 rfl rfl rfl
theorem dq_Model_nextTo_56 : decode (km_c mm_Model_nextTo) 56 = .ok (.iconst 1, 1) := by decide +kernel
theorem sq_Model_nextTo_56 : rn G mm_Model_nextTo 56 lv st S P ↔ rn G mm_Model_nextTo 57 lv (.int (nI 1) :: st) S P := rn_s dq_Model_nextTo_56 rfl rfl rfl
theorem dq_Model_nextTo_57 : decode (km_c mm_Model_nextTo) 57 = .ok (.isub, 1) := by decide +kernel
theorem sq_Model_nextTo_57 : rn G mm_Model_nextTo 57 lv (.int x2 :: .int x :: st) S P ↔ rn G mm_Model_nextTo 58 lv (.int (x - x2) :: st) S P := rn_s dq_Model_nextTo_57 rfl rfl rfl
theorem dq_Model_nextTo_58 : decode (km_c mm_Model_nextTo) 58 = .ok (.goto 19, 3) := by decide +kernel
theorem sq_Model_nextTo_58 : rn G mm_Model_nextTo 58 lv st S P ↔ rn G mm_Model_nextTo 77 lv st S P := rn_s dq_Model_nextTo_58 rfl rfl rfl
theorem dq_Model_nextTo_61 : decode (km_c mm_Model_nextTo) 61 = .ok (.iload_n 0, 1) := by decide +kernel
theorem sq_Model_nextTo_61 : rn G mm_Model_nextTo 61 [some (.int x), a1] st S P ↔ rn G mm_Model_nextTo 62 [some (.int x), a1] (.int x :: st) S P := rn_s dq_Model_nextTo_61 rfl rfl rfl
theorem dq_Model_nextTo_62 : decode (km_c mm_Model_nextTo) 62 = .ok (.bipush 7, 2) := by decide +kernel
theorem sq_Model_nextTo_62 : rn G mm_Model_nextTo 62 lv st S P ↔ rn G mm_Model_nextTo 64 lv (.int (nI 7) :: st) S P := rn_s dq_Model_nextTo_62 rfl rfl rfl
theorem dq_Model_nextTo_64 : decode (km_c mm_Model_nextTo) 64 = .ok (.irem, 1) := by decide +kernel
theorem sq_Model_nextTo_64 (hz : ¬ x2 = 0) : rn G mm_Model_nextTo 64 lv (.int x2 :: .int x :: st) S P ↔ rn G mm_Model_nextTo 65 lv (.int (x - x / x2 * x2) :: st) S P := rn_s dq_Model_nextTo_64 rfl rfl (if_neg hz)
theorem dq_Model_nextTo_65 : decode (km_c mm_Model_nextTo) 65 = .ok (.bipush 6, 2) := by decide +kernel
theorem sq_Model_nextTo_65 : rn G mm_Model_nextTo 65 lv st S P ↔ rn G mm_Model_nextTo 67 lv (.int (nI 6) :: st) S P := rn_s dq_Model_nextTo_65 rfl rfl rfl
theorem dq_Model_nextTo_67 : decode (km_c mm_Model_nextTo) 67 = .ok (.if_icmp .ne 7, 3) := by decide +kernel
theorem sq_Model_nextTo_67 : rn G mm_Model_nextTo 67 lv (.int x2 :: .int x :: st) S P ↔ ((¬ x = x2 → rn G mm_Model_nextTo 74 lv st S P) ∧ (¬ (¬ x = x2) → rn G mm_Model_nextTo 70 lv st S P)) := rn_b (off := 7) dq_Model_nextTo_67 rfl rfl rfl rfl
theorem dq_Model_nextTo_70 : decode (km_c mm_Model_nextTo) 70 = .ok (.iconst (-1), 1) := by decide +kernel
theorem sq_Model_nextTo_70 : rn G mm_Model_nextTo 70 lv st S P ↔ rn G mm_Model_nextTo 71 lv (.int ((-1)) :: st) S P := rn_s dq_Model_nextTo_70 rfl rfl rfl
theorem dq_Model_nextTo_71 : decode (km_c mm_Model_nextTo) 71 = .ok (.goto 6, 3) := by decide +kernel
theorem sq_Model_nextTo_71 : rn G mm_Model_nextTo 71 lv st S P ↔ rn G mm_Model_nextTo 77 lv st S P := rn_s dq_Model_nextTo_71 rfl rfl rfl
theorem dq_Model_nextTo_74 : decode (km_c mm_Model_nextTo) 74 = .ok (.iload_n 0, 1) := by decide +kernel
theorem sq_Model_nextTo_74 : rn G mm_Model_nextTo 74 [some (.int x), a1] st S P ↔ rn G mm_Model_nextTo 75 [some (.int x), a1] (.int x :: st) S P := rn_s dq_Model_nextTo_74 rfl rfl rfl
theorem dq_Model_nextTo_75 : decode (km_c mm_Model_nextTo) 75 = .ok (.iconst 1, 1) := by decide +kernel
theorem sq_Model_nextTo_75 : rn G mm_Model_nextTo 75 lv st S P ↔ rn G mm_Model_nextTo 76 lv (.int (nI 1) :: st) S P := rn_s dq_Model_nextTo_75 rfl rfl rfl
theorem dq_Model_nextTo_76 : decode (km_c mm_Model_nextTo) 76 = .ok (.iadd, 1) := by decide +kernel
theorem sq_Model_nextTo_76 : rn G mm_Model_nextTo 76 lv (.int x2 :: .int x :: st) S P ↔ rn G mm_Model_nextTo 77 lv (.int (x + x2) :: st) S P := rn_s dq_Model_nextTo_76 rfl rfl rfl
theorem dq_Model_nextTo_77 : decode (km_c mm_Model_nextTo) 77 = .ok (.ireturn, 1) := by decide +kernel
theorem sq_Model_nextTo_77 : rn G mm_Model_nextTo 77 lv [.int x] S P ↔ P (some (.int x)) S := rn_ir dq_Model_nextTo_77 rfl
theorem dq_Model_waterAt_0 : decode (km_c mm_Model_waterAt) 0 = .ok (.aload_n 0, 1) := by decide +kernel
theorem sq_Model_waterAt_0 : rn G mm_Model_waterAt 0 [some (.ref z), a1, a2] st S P ↔ rn G mm_Model_waterAt 1 [some (.ref z), a1, a2] (.ref z :: st) S P := rn_s dq_Model_waterAt_0 rfl rfl rfl
theorem dq_Model_waterAt_1 : decode (km_c mm_Model_waterAt) 1 = .ok (.getfield 32, 3) := by decide +kernel
theorem sq_Model_waterAt_1_45 (ho : sx_o o pl kp) : rn (lt_G o L) mm_Model_waterAt 1 lv (.ref 45 :: st) (sx pl kp I A) P ↔ rn (lt_G o L) mm_Model_waterAt 4 lv (.ref 51 :: st) (sx pl kp I A) P := rx_get (h := "") (ci := 10) (k := 11) dq_Model_waterAt_1 (by decide +kernel) ho (up_b (by decide)) rfl rfl (fl_r (by decide) (by decide) (by decide) (by decide))
theorem dq_Model_waterAt_4 : decode (km_c mm_Model_waterAt) 4 = .ok (.iload_n 1, 1) := by decide +kernel
theorem sq_Model_waterAt_4 : rn G mm_Model_waterAt 4 [a0, some (.int x), a2] st S P ↔ rn G mm_Model_waterAt 5 [a0, some (.int x), a2] (.int x :: st) S P := rn_s dq_Model_waterAt_4 rfl rfl rfl
theorem dq_Model_waterAt_5 : decode (km_c mm_Model_waterAt) 5 = .ok (.iaload, 1) := by decide +kernel
theorem sq_Model_waterAt_5 (ho : sx_o o pl kp) (hk : ak L a = 0) (hu : sx_up pl kp a = true ∨ 1000 ≤ a) (hc : c < ln L a) (hn : ln L a < 2 ^ 31) : rn (lt_G o L) mm_Model_waterAt 5 lv (.int (nI c) :: .ref a :: st) (sx pl kp I A) P ↔ rn (lt_G o L) mm_Model_waterAt 6 lv (.int (A a c) :: st) (sx pl kp I A) P := rx_ild dq_Model_waterAt_5 ho hk hu hc hn
theorem dq_Model_waterAt_6 : decode (km_c mm_Model_waterAt) 6 = .ok (.iconst 1, 1) := by decide +kernel
theorem sq_Model_waterAt_6 : rn G mm_Model_waterAt 6 lv st S P ↔ rn G mm_Model_waterAt 7 lv (.int (nI 1) :: st) S P := rn_s dq_Model_waterAt_6 rfl rfl rfl
theorem dq_Model_waterAt_7 : decode (km_c mm_Model_waterAt) 7 = .ok (.if_icmp .ne 13, 3) := by decide +kernel
theorem sq_Model_waterAt_7 : rn G mm_Model_waterAt 7 lv (.int x2 :: .int x :: st) S P ↔ ((¬ x = x2 → rn G mm_Model_waterAt 20 lv st S P) ∧ (¬ (¬ x = x2) → rn G mm_Model_waterAt 10 lv st S P)) := rn_b (off := 13) dq_Model_waterAt_7 rfl rfl rfl rfl
theorem dq_Model_waterAt_10 : decode (km_c mm_Model_waterAt) 10 = .ok (.iload_n 2, 1) := by decide +kernel
theorem sq_Model_waterAt_10 : rn G mm_Model_waterAt 10 [a0, a1, some (.int x)] st S P ↔ rn G mm_Model_waterAt 11 [a0, a1, some (.int x)] (.int x :: st) S P := rn_s dq_Model_waterAt_10 rfl rfl rfl
theorem dq_Model_waterAt_11 : decode (km_c mm_Model_waterAt) 11 = .ok (.aload_n 0, 1) := by decide +kernel
theorem sq_Model_waterAt_11 : rn G mm_Model_waterAt 11 [some (.ref z), a1, a2] st S P ↔ rn G mm_Model_waterAt 12 [some (.ref z), a1, a2] (.ref z :: st) S P := rn_s dq_Model_waterAt_11 rfl rfl rfl
theorem dq_Model_waterAt_12 : decode (km_c mm_Model_waterAt) 12 = .ok (.iload_n 1, 1) := by decide +kernel
theorem sq_Model_waterAt_12 : rn G mm_Model_waterAt 12 [a0, some (.int x), a2] st S P ↔ rn G mm_Model_waterAt 13 [a0, some (.int x), a2] (.int x :: st) S P := rn_s dq_Model_waterAt_12 rfl rfl rfl
theorem dq_Model_waterAt_13 : decode (km_c mm_Model_waterAt) 13 = .ok (.invokevirtual 84, 3) := by decide +kernel
theorem sq_Model_waterAt_13_45 {x1 : Int32} {v : Option Value} {S2 : ks_S} (hc : ev (lt_G o L) mm_Model_top [.ref 45, .int x1] (sx pl kp I A) v S2) (ho : sx_o o pl kp) (hst : kx_cat st ≤ 8) : rn (lt_G o L) mm_Model_waterAt 13 lv (.int x1 :: .ref 45 :: st) (sx pl kp I A) P ↔ rn (lt_G o L) mm_Model_waterAt 16 lv (v.toList ++ st) S2 P := rn_cv (k := 0) (host := "") (E' := mm_Model_top) dq_Model_waterAt_13 rfl (ok_v rfl (by decide) (by decide) (Nat.le_add_left _ _) hst (Nat.le_of_ble_eq_true rfl) (Or.inr (rc_v ho (up_b (by decide)) rfl))) rfl rfl hc
theorem dq_Model_waterAt_16 : decode (km_c mm_Model_waterAt) 16 = .ok (.isub, 1) := by decide +kernel
theorem sq_Model_waterAt_16 : rn G mm_Model_waterAt 16 lv (.int x2 :: .int x :: st) S P ↔ rn G mm_Model_waterAt 17 lv (.int (x - x2) :: st) S P := rn_s dq_Model_waterAt_16 rfl rfl rfl
theorem dq_Model_waterAt_17 : decode (km_c mm_Model_waterAt) 17 = .ok (.goto 4, 3) := by decide +kernel
theorem sq_Model_waterAt_17 : rn G mm_Model_waterAt 17 lv st S P ↔ rn G mm_Model_waterAt 21 lv st S P := rn_s dq_Model_waterAt_17 rfl rfl rfl
theorem dq_Model_waterAt_20 : decode (km_c mm_Model_waterAt) 20 = .ok (.iconst 0, 1) := by decide +kernel
theorem sq_Model_waterAt_20 : rn G mm_Model_waterAt 20 lv st S P ↔ rn G mm_Model_waterAt 21 lv (.int (nI 0) :: st) S P := rn_s dq_Model_waterAt_20 rfl rfl rfl
theorem dq_Model_waterAt_21 : decode (km_c mm_Model_waterAt) 21 = .ok (.ireturn, 1) := by decide +kernel
theorem sq_Model_waterAt_21 : rn G mm_Model_waterAt 21 lv [.int x] S P ↔ P (some (.int x)) S := rn_ir dq_Model_waterAt_21 rfl
theorem dq_Model_costOf_0 : decode (km_c mm_Model_costOf) 0 = .ok (.aload_n 0, 1) := by decide +kernel
theorem sq_Model_costOf_0 : rn G mm_Model_costOf 0 [some (.ref z), a1, a2] st S P ↔ rn G mm_Model_costOf 1 [some (.ref z), a1, a2] (.ref z :: st) S P := rn_s dq_Model_costOf_0 rfl rfl rfl
theorem dq_Model_costOf_1 : decode (km_c mm_Model_costOf) 1 = .ok (.getfield 7, 3) := by decide +kernel
theorem sq_Model_costOf_1_45 (ho : sx_o o pl kp) : rn (lt_G o L) mm_Model_costOf 1 lv (.ref 45 :: st) (sx pl kp I A) P ↔ rn (lt_G o L) mm_Model_costOf 4 lv (.ref 46 :: st) (sx pl kp I A) P := rx_get (h := "") (ci := 10) (k := 0) dq_Model_costOf_1 (by decide +kernel) ho (up_b (by decide)) rfl rfl (fl_r (by decide) (by decide) (by decide) (by decide))
theorem dq_Model_costOf_4 : decode (km_c mm_Model_costOf) 4 = .ok (.bipush 98, 2) := by decide +kernel
theorem sq_Model_costOf_4 : rn G mm_Model_costOf 4 lv st S P ↔ rn G mm_Model_costOf 6 lv (.int (nI 98) :: st) S P := rn_s dq_Model_costOf_4 rfl rfl rfl
theorem dq_Model_costOf_6 : decode (km_c mm_Model_costOf) 6 = .ok (.iload_n 1, 1) := by decide +kernel
theorem sq_Model_costOf_6 : rn G mm_Model_costOf 6 [a0, some (.int x), a2] st S P ↔ rn G mm_Model_costOf 7 [a0, some (.int x), a2] (.int x :: st) S P := rn_s dq_Model_costOf_6 rfl rfl rfl
theorem dq_Model_costOf_7 : decode (km_c mm_Model_costOf) 7 = .ok (.iadd, 1) := by decide +kernel
theorem sq_Model_costOf_7 : rn G mm_Model_costOf 7 lv (.int x2 :: .int x :: st) S P ↔ rn G mm_Model_costOf 8 lv (.int (x + x2) :: st) S P := rn_s dq_Model_costOf_7 rfl rfl rfl
theorem dq_Model_costOf_8 : decode (km_c mm_Model_costOf) 8 = .ok (.iaload, 1) := by decide +kernel
theorem sq_Model_costOf_8 (ho : sx_o o pl kp) (hk : ak L a = 0) (hu : sx_up pl kp a = true ∨ 1000 ≤ a) (hc : c < ln L a) (hn : ln L a < 2 ^ 31) : rn (lt_G o L) mm_Model_costOf 8 lv (.int (nI c) :: .ref a :: st) (sx pl kp I A) P ↔ rn (lt_G o L) mm_Model_costOf 9 lv (.int (A a c) :: st) (sx pl kp I A) P := rx_ild dq_Model_costOf_8 ho hk hu hc hn
theorem dq_Model_costOf_9 : decode (km_c mm_Model_costOf) 9 = .ok (.invokestatic 95, 3) := by decide +kernel
theorem sq_Model_costOf_9 {x1 : Int32} {v : Option Value} {S2 : ks_S} (hc : ev G mm_Model_costOfKind [.int x1] S v S2) (hst : kx_cat st ≤ 8) : rn G mm_Model_costOf 9 lv (.int x1 :: st) S P ↔ rn G mm_Model_costOf 12 lv (v.toList ++ st) S2 P := rn_cs (k := 1) (host := "") (E' := mm_Model_costOfKind) dq_Model_costOf_9 (by decide) (by decide) rfl (ok_v rfl (by decide) (by decide) (Nat.le_add_left _ _) hst (Nat.le_of_ble_eq_true rfl) (Or.inl rfl)) rfl rfl hc
theorem dq_Model_costOf_12 : decode (km_c mm_Model_costOf) 12 = .ok (.aload_n 0, 1) := by decide +kernel
theorem sq_Model_costOf_12 : rn G mm_Model_costOf 12 [some (.ref z), a1, a2] st S P ↔ rn G mm_Model_costOf 13 [some (.ref z), a1, a2] (.ref z :: st) S P := rn_s dq_Model_costOf_12 rfl rfl rfl
theorem dq_Model_costOf_13 : decode (km_c mm_Model_costOf) 13 = .ok (.iload_n 1, 1) := by decide +kernel
theorem sq_Model_costOf_13 : rn G mm_Model_costOf 13 [a0, some (.int x), a2] st S P ↔ rn G mm_Model_costOf 14 [a0, some (.int x), a2] (.int x :: st) S P := rn_s dq_Model_costOf_13 rfl rfl rfl
theorem dq_Model_costOf_14 : decode (km_c mm_Model_costOf) 14 = .ok (.aload_n 0, 1) := by decide +kernel
theorem sq_Model_costOf_14 : rn G mm_Model_costOf 14 [some (.ref z), a1, a2] st S P ↔ rn G mm_Model_costOf 15 [some (.ref z), a1, a2] (.ref z :: st) S P := rn_s dq_Model_costOf_14 rfl rfl rfl
theorem dq_Model_costOf_15 : decode (km_c mm_Model_costOf) 15 = .ok (.getfield 98, 3) := by decide +kernel
theorem sq_Model_costOf_15_45 (ho : sx_o o pl kp) : rn (lt_G o L) mm_Model_costOf 15 lv (.ref 45 :: st) (sx pl kp I A) P ↔ rn (lt_G o L) mm_Model_costOf 18 lv (.int (I 45 1) :: st) (sx pl kp I A) P := rx_get (h := "") (ci := 10) (k := 1) dq_Model_costOf_15 (by decide +kernel) ho (up_b (by decide)) rfl rfl (fl_i (by decide))
theorem dq_Model_costOf_18 : decode (km_c mm_Model_costOf) 18 = .ok (.invokevirtual 101, 3) := by decide +kernel
theorem sq_Model_costOf_18_45 {x1 : Int32} {x2 : Int32} {v : Option Value} {S2 : ks_S} (hc : ev (lt_G o L) mm_Model_waterAt [.ref 45, .int x1, .int x2] (sx pl kp I A) v S2) (ho : sx_o o pl kp) (hst : kx_cat st ≤ 8) : rn (lt_G o L) mm_Model_costOf 18 lv (.int x2 :: .int x1 :: .ref 45 :: st) (sx pl kp I A) P ↔ rn (lt_G o L) mm_Model_costOf 21 lv (v.toList ++ st) S2 P := rn_cv (k := 0) (host := "") (E' := mm_Model_waterAt) dq_Model_costOf_18 rfl (ok_v rfl (by decide) (by decide) (Nat.le_add_left _ _) hst (Nat.le_of_ble_eq_true rfl) (Or.inr (rc_v ho (up_b (by decide)) rfl))) rfl rfl hc
theorem dq_Model_costOf_21 : decode (km_c mm_Model_costOf) 21 = .ok (.iadd, 1) := by decide +kernel
theorem sq_Model_costOf_21 : rn G mm_Model_costOf 21 lv (.int x2 :: .int x :: st) S P ↔ rn G mm_Model_costOf 22 lv (.int (x + x2) :: st) S P := rn_s dq_Model_costOf_21 rfl rfl rfl
theorem dq_Model_costOf_22 : decode (km_c mm_Model_costOf) 22 = .ok (.aload_n 0, 1) := by decide +kernel
theorem sq_Model_costOf_22 : rn G mm_Model_costOf 22 [some (.ref z), a1, a2] st S P ↔ rn G mm_Model_costOf 23 [some (.ref z), a1, a2] (.ref z :: st) S P := rn_s dq_Model_costOf_22 rfl rfl rfl
theorem dq_Model_costOf_23 : decode (km_c mm_Model_costOf) 23 = .ok (.getfield 7, 3) := by decide +kernel
theorem sq_Model_costOf_23_45 (ho : sx_o o pl kp) : rn (lt_G o L) mm_Model_costOf 23 lv (.ref 45 :: st) (sx pl kp I A) P ↔ rn (lt_G o L) mm_Model_costOf 26 lv (.ref 46 :: st) (sx pl kp I A) P := rx_get (h := "") (ci := 10) (k := 0) dq_Model_costOf_23 (by decide +kernel) ho (up_b (by decide)) rfl rfl (fl_r (by decide) (by decide) (by decide) (by decide))
theorem dq_Model_costOf_26 : decode (km_c mm_Model_costOf) 26 = .ok (.sipush 147, 3) := by decide +kernel
theorem sq_Model_costOf_26 : rn G mm_Model_costOf 26 lv st S P ↔ rn G mm_Model_costOf 29 lv (.int (nI 147) :: st) S P := rn_s dq_Model_costOf_26 rfl rfl rfl
theorem dq_Model_costOf_29 : decode (km_c mm_Model_costOf) 29 = .ok (.iload_n 1, 1) := by decide +kernel
theorem sq_Model_costOf_29 : rn G mm_Model_costOf 29 [a0, some (.int x), a2] st S P ↔ rn G mm_Model_costOf 30 [a0, some (.int x), a2] (.int x :: st) S P := rn_s dq_Model_costOf_29 rfl rfl rfl
theorem dq_Model_costOf_30 : decode (km_c mm_Model_costOf) 30 = .ok (.iadd, 1) := by decide +kernel
theorem sq_Model_costOf_30 : rn G mm_Model_costOf 30 lv (.int x2 :: .int x :: st) S P ↔ rn G mm_Model_costOf 31 lv (.int (x + x2) :: st) S P := rn_s dq_Model_costOf_30 rfl rfl rfl
theorem dq_Model_costOf_31 : decode (km_c mm_Model_costOf) 31 = .ok (.iaload, 1) := by decide +kernel
theorem sq_Model_costOf_31 (ho : sx_o o pl kp) (hk : ak L a = 0) (hu : sx_up pl kp a = true ∨ 1000 ≤ a) (hc : c < ln L a) (hn : ln L a < 2 ^ 31) : rn (lt_G o L) mm_Model_costOf 31 lv (.int (nI c) :: .ref a :: st) (sx pl kp I A) P ↔ rn (lt_G o L) mm_Model_costOf 32 lv (.int (A a c) :: st) (sx pl kp I A) P := rx_ild dq_Model_costOf_31 ho hk hu hc hn
theorem dq_Model_costOf_32 : decode (km_c mm_Model_costOf) 32 = .ok (.isub, 1) := by decide +kernel
theorem sq_Model_costOf_32 : rn G mm_Model_costOf 32 lv (.int x2 :: .int x :: st) S P ↔ rn G mm_Model_costOf 33 lv (.int (x - x2) :: st) S P := rn_s dq_Model_costOf_32 rfl rfl rfl
theorem dq_Model_costOf_33 : decode (km_c mm_Model_costOf) 33 = .ok (.istore_n 2, 1) := by decide +kernel
theorem sq_Model_costOf_33n : rn G mm_Model_costOf 33 [a0, none, a2] (.int x :: st) S P ↔ rn G mm_Model_costOf 34 [a0, none, some (.int x)] st S P := rn_s dq_Model_costOf_33 rfl rfl rfl
theorem sq_Model_costOf_33i : rn G mm_Model_costOf 33 [a0, some (.int x2), a2] (.int x :: st) S P ↔ rn G mm_Model_costOf 34 [a0, some (.int x2), some (.int x)] st S P := rn_s dq_Model_costOf_33 rfl rfl rfl
theorem sq_Model_costOf_33r : rn G mm_Model_costOf 33 [a0, some (.ref z2), a2] (.int x :: st) S P ↔ rn G mm_Model_costOf 34 [a0, some (.ref z2), some (.int x)] st S P := rn_s dq_Model_costOf_33 rfl rfl rfl
theorem dq_Model_costOf_34 : decode (km_c mm_Model_costOf) 34 = .ok (.iload_n 2, 1) := by decide +kernel
theorem sq_Model_costOf_34 : rn G mm_Model_costOf 34 [a0, a1, some (.int x)] st S P ↔ rn G mm_Model_costOf 35 [a0, a1, some (.int x)] (.int x :: st) S P := rn_s dq_Model_costOf_34 rfl rfl rfl
theorem dq_Model_costOf_35 : decode (km_c mm_Model_costOf) 35 = .ok (.iconst 1, 1) := by decide +kernel
theorem sq_Model_costOf_35 : rn G mm_Model_costOf 35 lv st S P ↔ rn G mm_Model_costOf 36 lv (.int (nI 1) :: st) S P := rn_s dq_Model_costOf_35 rfl rfl rfl
theorem dq_Model_costOf_36 : decode (km_c mm_Model_costOf) 36 = .ok (.if_icmp .ge 7, 3) := by decide +kernel
theorem sq_Model_costOf_36 : rn G mm_Model_costOf 36 lv (.int x2 :: .int x :: st) S P ↔ ((x2 ≤ x → rn G mm_Model_costOf 43 lv st S P) ∧ (¬ (x2 ≤ x) → rn G mm_Model_costOf 39 lv st S P)) := rn_b (off := 7) dq_Model_costOf_36 rfl rfl rfl rfl
theorem dq_Model_costOf_39 : decode (km_c mm_Model_costOf) 39 = .ok (.iconst 1, 1) := by decide +kernel
theorem sq_Model_costOf_39 : rn G mm_Model_costOf 39 lv st S P ↔ rn G mm_Model_costOf 40 lv (.int (nI 1) :: st) S P := rn_s dq_Model_costOf_39 rfl rfl rfl
theorem dq_Model_costOf_40 : decode (km_c mm_Model_costOf) 40 = .ok (.goto 4, 3) := by decide +kernel
theorem sq_Model_costOf_40 : rn G mm_Model_costOf 40 lv st S P ↔ rn G mm_Model_costOf 44 lv st S P := rn_s dq_Model_costOf_40 rfl rfl rfl
theorem dq_Model_costOf_43 : decode (km_c mm_Model_costOf) 43 = .ok (.iload_n 2, 1) := by decide +kernel
theorem sq_Model_costOf_43 : rn G mm_Model_costOf 43 [a0, a1, some (.int x)] st S P ↔ rn G mm_Model_costOf 44 [a0, a1, some (.int x)] (.int x :: st) S P := rn_s dq_Model_costOf_43 rfl rfl rfl
theorem dq_Model_costOf_44 : decode (km_c mm_Model_costOf) 44 = .ok (.ireturn, 1) := by decide +kernel
theorem sq_Model_costOf_44 : rn G mm_Model_costOf 44 lv [.int x] S P ↔ P (some (.int x)) S := rn_ir dq_Model_costOf_44 rfl
theorem dq_Model_costOfKind_0 : decode (km_c mm_Model_costOfKind) 0 = .ok (.iload_n 0, 1) := by decide +kernel
theorem sq_Model_costOfKind_0 : rn G mm_Model_costOfKind 0 [some (.int x)] st S P ↔ rn G mm_Model_costOfKind 1 [some (.int x)] (.int x :: st) S P := rn_s dq_Model_costOfKind_0 rfl rfl rfl
theorem dq_Model_costOfKind_1 : decode (km_c mm_Model_costOfKind) 1 = .ok (.ifCond .ne 7, 3) := by decide +kernel
theorem sq_Model_costOfKind_1 : rn G mm_Model_costOfKind 1 lv (.int x :: st) S P ↔ ((¬ x = 0 → rn G mm_Model_costOfKind 8 lv st S P) ∧ (¬ (¬ x = 0) → rn G mm_Model_costOfKind 4 lv st S P)) := rn_b (off := 7) dq_Model_costOfKind_1 rfl rfl rfl rfl
theorem dq_Model_costOfKind_4 : decode (km_c mm_Model_costOfKind) 4 = .ok (.iconst 1, 1) := by decide +kernel
theorem sq_Model_costOfKind_4 : rn G mm_Model_costOfKind 4 lv st S P ↔ rn G mm_Model_costOfKind 5 lv (.int (nI 1) :: st) S P := rn_s dq_Model_costOfKind_4 rfl rfl rfl
theorem dq_Model_costOfKind_5 : decode (km_c mm_Model_costOfKind) 5 = .ok (.goto 23, 3) := by decide +kernel
theorem sq_Model_costOfKind_5 : rn G mm_Model_costOfKind 5 lv st S P ↔ rn G mm_Model_costOfKind 28 lv st S P := rn_s dq_Model_costOfKind_5 rfl rfl rfl
theorem dq_Model_costOfKind_8 : decode (km_c mm_Model_costOfKind) 8 = .ok (.iload_n 0, 1) := by decide +kernel
theorem sq_Model_costOfKind_8 : rn G mm_Model_costOfKind 8 [some (.int x)] st S P ↔ rn G mm_Model_costOfKind 9 [some (.int x)] (.int x :: st) S P := rn_s dq_Model_costOfKind_8 rfl rfl rfl
theorem dq_Model_costOfKind_9 : decode (km_c mm_Model_costOfKind) 9 = .ok (.iconst 1, 1) := by decide +kernel
theorem sq_Model_costOfKind_9 : rn G mm_Model_costOfKind 9 lv st S P ↔ rn G mm_Model_costOfKind 10 lv (.int (nI 1) :: st) S P := rn_s dq_Model_costOfKind_9 rfl rfl rfl
theorem dq_Model_costOfKind_10 : decode (km_c mm_Model_costOfKind) 10 = .ok (.if_icmp .ne 7, 3) := by decide +kernel
theorem sq_Model_costOfKind_10 : rn G mm_Model_costOfKind 10 lv (.int x2 :: .int x :: st) S P ↔ ((¬ x = x2 → rn G mm_Model_costOfKind 17 lv st S P) ∧ (¬ (¬ x = x2) → rn G mm_Model_costOfKind 13 lv st S P)) := rn_b (off := 7) dq_Model_costOfKind_10 rfl rfl rfl rfl
theorem dq_Model_costOfKind_13 : decode (km_c mm_Model_costOfKind) 13 = .ok (.iconst 3, 1) := by decide +kernel
theorem sq_Model_costOfKind_13 : rn G mm_Model_costOfKind 13 lv st S P ↔ rn G mm_Model_costOfKind 14 lv (.int (nI 3) :: st) S P := rn_s dq_Model_costOfKind_13 rfl rfl rfl
theorem dq_Model_costOfKind_14 : decode (km_c mm_Model_costOfKind) 14 = .ok (.goto 14, 3) := by decide +kernel
theorem sq_Model_costOfKind_14 : rn G mm_Model_costOfKind 14 lv st S P ↔ rn G mm_Model_costOfKind 28 lv st S P := rn_s dq_Model_costOfKind_14 rfl rfl rfl
theorem dq_Model_costOfKind_17 : decode (km_c mm_Model_costOfKind) 17 = .ok (.iload_n 0, 1) := by decide +kernel
theorem sq_Model_costOfKind_17 : rn G mm_Model_costOfKind 17 [some (.int x)] st S P ↔ rn G mm_Model_costOfKind 18 [some (.int x)] (.int x :: st) S P := rn_s dq_Model_costOfKind_17 rfl rfl rfl
theorem dq_Model_costOfKind_18 : decode (km_c mm_Model_costOfKind) 18 = .ok (.iconst 2, 1) := by decide +kernel
theorem sq_Model_costOfKind_18 : rn G mm_Model_costOfKind 18 lv st S P ↔ rn G mm_Model_costOfKind 19 lv (.int (nI 2) :: st) S P := rn_s dq_Model_costOfKind_18 rfl rfl rfl
theorem dq_Model_costOfKind_19 : decode (km_c mm_Model_costOfKind) 19 = .ok (.if_icmp .ne 7, 3) := by decide +kernel
theorem sq_Model_costOfKind_19 : rn G mm_Model_costOfKind 19 lv (.int x2 :: .int x :: st) S P ↔ ((¬ x = x2 → rn G mm_Model_costOfKind 26 lv st S P) ∧ (¬ (¬ x = x2) → rn G mm_Model_costOfKind 22 lv st S P)) := rn_b (off := 7) dq_Model_costOfKind_19 rfl rfl rfl rfl
theorem dq_Model_costOfKind_22 : decode (km_c mm_Model_costOfKind) 22 = .ok (.iconst 2, 1) := by decide +kernel
theorem sq_Model_costOfKind_22 : rn G mm_Model_costOfKind 22 lv st S P ↔ rn G mm_Model_costOfKind 23 lv (.int (nI 2) :: st) S P := rn_s dq_Model_costOfKind_22 rfl rfl rfl
theorem dq_Model_costOfKind_23 : decode (km_c mm_Model_costOfKind) 23 = .ok (.goto 5, 3) := by decide +kernel
theorem sq_Model_costOfKind_23 : rn G mm_Model_costOfKind 23 lv st S P ↔ rn G mm_Model_costOfKind 28 lv st S P := rn_s dq_Model_costOfKind_23 rfl rfl rfl
theorem dq_Model_costOfKind_26 : decode (km_c mm_Model_costOfKind) 26 = .ok (.bipush 6, 2) := by decide +kernel
theorem sq_Model_costOfKind_26 : rn G mm_Model_costOfKind 26 lv st S P ↔ rn G mm_Model_costOfKind 28 lv (.int (nI 6) :: st) S P := rn_s dq_Model_costOfKind_26 rfl rfl rfl
theorem dq_Model_costOfKind_28 : decode (km_c mm_Model_costOfKind) 28 = .ok (.ireturn, 1) := by decide +kernel
theorem sq_Model_costOfKind_28 : rn G mm_Model_costOfKind 28 lv [.int x] S P ↔ P (some (.int x)) S := rn_ir dq_Model_costOfKind_28 rfl
theorem dq_Model_bears_0 : decode (km_c mm_Model_bears) 0 = .ok (.aload_n 0, 1) := by decide +kernel
theorem sq_Model_bears_0 : rn G mm_Model_bears 0 [some (.ref z), a1, a2, a3] st S P ↔ rn G mm_Model_bears 1 [some (.ref z), a1, a2, a3] (.ref z :: st) S P := rn_s dq_Model_bears_0 rfl rfl rfl
theorem dq_Model_bears_1 : decode (km_c mm_Model_bears) 1 = .ok (.getfield 7, 3) := by decide +kernel
theorem sq_Model_bears_1_45 (ho : sx_o o pl kp) : rn (lt_G o L) mm_Model_bears 1 lv (.ref 45 :: st) (sx pl kp I A) P ↔ rn (lt_G o L) mm_Model_bears 4 lv (.ref 46 :: st) (sx pl kp I A) P := rx_get (h := "") (ci := 10) (k := 0) dq_Model_bears_1 (by decide +kernel) ho (up_b (by decide)) rfl rfl (fl_r (by decide) (by decide) (by decide) (by decide))
theorem dq_Model_bears_4 : decode (km_c mm_Model_bears) 4 = .ok (.bipush 98, 2) := by decide +kernel
theorem sq_Model_bears_4 : rn G mm_Model_bears 4 lv st S P ↔ rn G mm_Model_bears 6 lv (.int (nI 98) :: st) S P := rn_s dq_Model_bears_4 rfl rfl rfl
theorem dq_Model_bears_6 : decode (km_c mm_Model_bears) 6 = .ok (.iload_n 1, 1) := by decide +kernel
theorem sq_Model_bears_6 : rn G mm_Model_bears 6 [a0, some (.int x), a2, a3] st S P ↔ rn G mm_Model_bears 7 [a0, some (.int x), a2, a3] (.int x :: st) S P := rn_s dq_Model_bears_6 rfl rfl rfl
theorem dq_Model_bears_7 : decode (km_c mm_Model_bears) 7 = .ok (.iadd, 1) := by decide +kernel
theorem sq_Model_bears_7 : rn G mm_Model_bears 7 lv (.int x2 :: .int x :: st) S P ↔ rn G mm_Model_bears 8 lv (.int (x + x2) :: st) S P := rn_s dq_Model_bears_7 rfl rfl rfl
theorem dq_Model_bears_8 : decode (km_c mm_Model_bears) 8 = .ok (.iaload, 1) := by decide +kernel
theorem sq_Model_bears_8 (ho : sx_o o pl kp) (hk : ak L a = 0) (hu : sx_up pl kp a = true ∨ 1000 ≤ a) (hc : c < ln L a) (hn : ln L a < 2 ^ 31) : rn (lt_G o L) mm_Model_bears 8 lv (.int (nI c) :: .ref a :: st) (sx pl kp I A) P ↔ rn (lt_G o L) mm_Model_bears 9 lv (.int (A a c) :: st) (sx pl kp I A) P := rx_ild dq_Model_bears_8 ho hk hu hc hn
theorem dq_Model_bears_9 : decode (km_c mm_Model_bears) 9 = .ok (.istore_n 2, 1) := by decide +kernel
theorem sq_Model_bears_9n : rn G mm_Model_bears 9 [a0, none, a2, a3] (.int x :: st) S P ↔ rn G mm_Model_bears 10 [a0, none, some (.int x), a3] st S P := rn_s dq_Model_bears_9 rfl rfl rfl
theorem sq_Model_bears_9i : rn G mm_Model_bears 9 [a0, some (.int x2), a2, a3] (.int x :: st) S P ↔ rn G mm_Model_bears 10 [a0, some (.int x2), some (.int x), a3] st S P := rn_s dq_Model_bears_9 rfl rfl rfl
theorem sq_Model_bears_9r : rn G mm_Model_bears 9 [a0, some (.ref z2), a2, a3] (.int x :: st) S P ↔ rn G mm_Model_bears 10 [a0, some (.ref z2), some (.int x), a3] st S P := rn_s dq_Model_bears_9 rfl rfl rfl
theorem dq_Model_bears_10 : decode (km_c mm_Model_bears) 10 = .ok (.bipush 40, 2) := by decide +kernel
theorem sq_Model_bears_10 : rn G mm_Model_bears 10 lv st S P ↔ rn G mm_Model_bears 12 lv (.int (nI 40) :: st) S P := rn_s dq_Model_bears_10 rfl rfl rfl
theorem dq_Model_bears_12 : decode (km_c mm_Model_bears) 12 = .ok (.iconst 4, 1) := by decide +kernel
theorem sq_Model_bears_12 : rn G mm_Model_bears 12 lv st S P ↔ rn G mm_Model_bears 13 lv (.int (nI 4) :: st) S P := rn_s dq_Model_bears_12 rfl rfl rfl
theorem dq_Model_bears_13 : decode (km_c mm_Model_bears) 13 = .ok (.aload_n 0, 1) := by decide +kernel
theorem sq_Model_bears_13 : rn G mm_Model_bears 13 [some (.ref z), a1, a2, a3] st S P ↔ rn G mm_Model_bears 14 [some (.ref z), a1, a2, a3] (.ref z :: st) S P := rn_s dq_Model_bears_13 rfl rfl rfl
theorem dq_Model_bears_14 : decode (km_c mm_Model_bears) 14 = .ok (.iload_n 1, 1) := by decide +kernel
theorem sq_Model_bears_14 : rn G mm_Model_bears 14 [a0, some (.int x), a2, a3] st S P ↔ rn G mm_Model_bears 15 [a0, some (.int x), a2, a3] (.int x :: st) S P := rn_s dq_Model_bears_14 rfl rfl rfl
theorem dq_Model_bears_15 : decode (km_c mm_Model_bears) 15 = .ok (.aload_n 0, 1) := by decide +kernel
theorem sq_Model_bears_15 : rn G mm_Model_bears 15 [some (.ref z), a1, a2, a3] st S P ↔ rn G mm_Model_bears 16 [some (.ref z), a1, a2, a3] (.ref z :: st) S P := rn_s dq_Model_bears_15 rfl rfl rfl
theorem dq_Model_bears_16 : decode (km_c mm_Model_bears) 16 = .ok (.getfield 98, 3) := by decide +kernel
theorem sq_Model_bears_16_45 (ho : sx_o o pl kp) : rn (lt_G o L) mm_Model_bears 16 lv (.ref 45 :: st) (sx pl kp I A) P ↔ rn (lt_G o L) mm_Model_bears 19 lv (.int (I 45 1) :: st) (sx pl kp I A) P := rx_get (h := "") (ci := 10) (k := 1) dq_Model_bears_16 (by decide +kernel) ho (up_b (by decide)) rfl rfl (fl_i (by decide))
theorem dq_Model_bears_19 : decode (km_c mm_Model_bears) 19 = .ok (.invokevirtual 101, 3) := by decide +kernel
theorem sq_Model_bears_19_45 {x1 : Int32} {x2 : Int32} {v : Option Value} {S2 : ks_S} (hc : ev (lt_G o L) mm_Model_waterAt [.ref 45, .int x1, .int x2] (sx pl kp I A) v S2) (ho : sx_o o pl kp) (hst : kx_cat st ≤ 8) : rn (lt_G o L) mm_Model_bears 19 lv (.int x2 :: .int x1 :: .ref 45 :: st) (sx pl kp I A) P ↔ rn (lt_G o L) mm_Model_bears 22 lv (v.toList ++ st) S2 P := rn_cv (k := 0) (host := "") (E' := mm_Model_waterAt) dq_Model_bears_19 rfl (ok_v rfl (by decide) (by decide) (Nat.le_add_left _ _) hst (Nat.le_of_ble_eq_true rfl) (Or.inr (rc_v ho (up_b (by decide)) rfl))) rfl rfl hc
theorem dq_Model_bears_22 : decode (km_c mm_Model_bears) 22 = .ok (.imul, 1) := by decide +kernel
theorem sq_Model_bears_22 : rn G mm_Model_bears 22 lv (.int x2 :: .int x :: st) S P ↔ rn G mm_Model_bears 23 lv (.int (x * x2) :: st) S P := rn_s dq_Model_bears_22 rfl rfl rfl
theorem dq_Model_bears_23 : decode (km_c mm_Model_bears) 23 = .ok (.isub, 1) := by decide +kernel
theorem sq_Model_bears_23 : rn G mm_Model_bears 23 lv (.int x2 :: .int x :: st) S P ↔ rn G mm_Model_bears 24 lv (.int (x - x2) :: st) S P := rn_s dq_Model_bears_23 rfl rfl rfl
theorem dq_Model_bears_24 : decode (km_c mm_Model_bears) 24 = .ok (.iload_n 2, 1) := by decide +kernel
theorem sq_Model_bears_24 : rn G mm_Model_bears 24 [a0, a1, some (.int x), a3] st S P ↔ rn G mm_Model_bears 25 [a0, a1, some (.int x), a3] (.int x :: st) S P := rn_s dq_Model_bears_24 rfl rfl rfl
theorem dq_Model_bears_25 : decode (km_c mm_Model_bears) 25 = .ok (.ifCond .ne 7, 3) := by decide +kernel
theorem sq_Model_bears_25 : rn G mm_Model_bears 25 lv (.int x :: st) S P ↔ ((¬ x = 0 → rn G mm_Model_bears 32 lv st S P) ∧ (¬ (¬ x = 0) → rn G mm_Model_bears 28 lv st S P)) := rn_b (off := 7) dq_Model_bears_25 rfl rfl rfl rfl
theorem dq_Model_bears_28 : decode (km_c mm_Model_bears) 28 = .ok (.iconst 0, 1) := by decide +kernel
theorem sq_Model_bears_28 : rn G mm_Model_bears 28 lv st S P ↔ rn G mm_Model_bears 29 lv (.int (nI 0) :: st) S P := rn_s dq_Model_bears_28 rfl rfl rfl
theorem dq_Model_bears_29 : decode (km_c mm_Model_bears) 29 = .ok (.goto 15, 3) := by decide +kernel
theorem sq_Model_bears_29 : rn G mm_Model_bears 29 lv st S P ↔ rn G mm_Model_bears 44 lv st S P := rn_s dq_Model_bears_29 rfl rfl rfl
theorem dq_Model_bears_32 : decode (km_c mm_Model_bears) 32 = .ok (.iload_n 2, 1) := by decide +kernel
theorem sq_Model_bears_32 : rn G mm_Model_bears 32 [a0, a1, some (.int x), a3] st S P ↔ rn G mm_Model_bears 33 [a0, a1, some (.int x), a3] (.int x :: st) S P := rn_s dq_Model_bears_32 rfl rfl rfl
theorem dq_Model_bears_33 : decode (km_c mm_Model_bears) 33 = .ok (.iconst 3, 1) := by decide +kernel
theorem sq_Model_bears_33 : rn G mm_Model_bears 33 lv st S P ↔ rn G mm_Model_bears 34 lv (.int (nI 3) :: st) S P := rn_s dq_Model_bears_33 rfl rfl rfl
theorem dq_Model_bears_34 : decode (km_c mm_Model_bears) 34 = .ok (.if_icmp .ne 8, 3) := by decide +kernel
theorem sq_Model_bears_34 : rn G mm_Model_bears 34 lv (.int x2 :: .int x :: st) S P ↔ ((¬ x = x2 → rn G mm_Model_bears 42 lv st S P) ∧ (¬ (¬ x = x2) → rn G mm_Model_bears 37 lv st S P)) := rn_b (off := 8) dq_Model_bears_34 rfl rfl rfl rfl
theorem dq_Model_bears_37 : decode (km_c mm_Model_bears) 37 = .ok (.bipush 20, 2) := by decide +kernel
theorem sq_Model_bears_37 : rn G mm_Model_bears 37 lv st S P ↔ rn G mm_Model_bears 39 lv (.int (nI 20) :: st) S P := rn_s dq_Model_bears_37 rfl rfl rfl
theorem dq_Model_bears_39 : decode (km_c mm_Model_bears) 39 = .ok (.goto 5, 3) := by decide +kernel
theorem sq_Model_bears_39 : rn G mm_Model_bears 39 lv st S P ↔ rn G mm_Model_bears 44 lv st S P := rn_s dq_Model_bears_39 rfl rfl rfl
theorem dq_Model_bears_42 : decode (km_c mm_Model_bears) 42 = .ok (.bipush 10, 2) := by decide +kernel
theorem sq_Model_bears_42 : rn G mm_Model_bears 42 lv st S P ↔ rn G mm_Model_bears 44 lv (.int (nI 10) :: st) S P := rn_s dq_Model_bears_42 rfl rfl rfl
theorem dq_Model_bears_44 : decode (km_c mm_Model_bears) 44 = .ok (.isub, 1) := by decide +kernel
theorem sq_Model_bears_44 : rn G mm_Model_bears 44 lv (.int x2 :: .int x :: st) S P ↔ rn G mm_Model_bears 45 lv (.int (x - x2) :: st) S P := rn_s dq_Model_bears_44 rfl rfl rfl
theorem dq_Model_bears_45 : decode (km_c mm_Model_bears) 45 = .ok (.bipush 15, 2) := by decide +kernel
theorem sq_Model_bears_45 : rn G mm_Model_bears 45 lv st S P ↔ rn G mm_Model_bears 47 lv (.int (nI 15) :: st) S P := rn_s dq_Model_bears_45 rfl rfl rfl
theorem dq_Model_bears_47 : decode (km_c mm_Model_bears) 47 = .ok (.aload_n 0, 1) := by decide +kernel
theorem sq_Model_bears_47 : rn G mm_Model_bears 47 [some (.ref z), a1, a2, a3] st S P ↔ rn G mm_Model_bears 48 [some (.ref z), a1, a2, a3] (.ref z :: st) S P := rn_s dq_Model_bears_47 rfl rfl rfl
theorem dq_Model_bears_48 : decode (km_c mm_Model_bears) 48 = .ok (.getfield 7, 3) := by decide +kernel
theorem sq_Model_bears_48_45 (ho : sx_o o pl kp) : rn (lt_G o L) mm_Model_bears 48 lv (.ref 45 :: st) (sx pl kp I A) P ↔ rn (lt_G o L) mm_Model_bears 51 lv (.ref 46 :: st) (sx pl kp I A) P := rx_get (h := "") (ci := 10) (k := 0) dq_Model_bears_48 (by decide +kernel) ho (up_b (by decide)) rfl rfl (fl_r (by decide) (by decide) (by decide) (by decide))
theorem dq_Model_bears_51 : decode (km_c mm_Model_bears) 51 = .ok (.sipush 147, 3) := by decide +kernel
theorem sq_Model_bears_51 : rn G mm_Model_bears 51 lv st S P ↔ rn G mm_Model_bears 54 lv (.int (nI 147) :: st) S P := rn_s dq_Model_bears_51 rfl rfl rfl
theorem dq_Model_bears_54 : decode (km_c mm_Model_bears) 54 = .ok (.iload_n 1, 1) := by decide +kernel
theorem sq_Model_bears_54 : rn G mm_Model_bears 54 [a0, some (.int x), a2, a3] st S P ↔ rn G mm_Model_bears 55 [a0, some (.int x), a2, a3] (.int x :: st) S P := rn_s dq_Model_bears_54 rfl rfl rfl
theorem dq_Model_bears_55 : decode (km_c mm_Model_bears) 55 = .ok (.iadd, 1) := by decide +kernel
theorem sq_Model_bears_55 : rn G mm_Model_bears 55 lv (.int x2 :: .int x :: st) S P ↔ rn G mm_Model_bears 56 lv (.int (x + x2) :: st) S P := rn_s dq_Model_bears_55 rfl rfl rfl
theorem dq_Model_bears_56 : decode (km_c mm_Model_bears) 56 = .ok (.iaload, 1) := by decide +kernel
theorem sq_Model_bears_56 (ho : sx_o o pl kp) (hk : ak L a = 0) (hu : sx_up pl kp a = true ∨ 1000 ≤ a) (hc : c < ln L a) (hn : ln L a < 2 ^ 31) : rn (lt_G o L) mm_Model_bears 56 lv (.int (nI c) :: .ref a :: st) (sx pl kp I A) P ↔ rn (lt_G o L) mm_Model_bears 57 lv (.int (A a c) :: st) (sx pl kp I A) P := rx_ild dq_Model_bears_56 ho hk hu hc hn
theorem dq_Model_bears_57 : decode (km_c mm_Model_bears) 57 = .ok (.imul, 1) := by decide +kernel
theorem sq_Model_bears_57 : rn G mm_Model_bears 57 lv (.int x2 :: .int x :: st) S P ↔ rn G mm_Model_bears 58 lv (.int (x * x2) :: st) S P := rn_s dq_Model_bears_57 rfl rfl rfl
theorem dq_Model_bears_58 : decode (km_c mm_Model_bears) 58 = .ok (.iadd, 1) := by decide +kernel
theorem sq_Model_bears_58 : rn G mm_Model_bears 58 lv (.int x2 :: .int x :: st) S P ↔ rn G mm_Model_bears 59 lv (.int (x + x2) :: st) S P := rn_s dq_Model_bears_58 rfl rfl rfl
theorem dq_Model_bears_59 : decode (km_c mm_Model_bears) 59 = .ok (.istore_n 3, 1) := by decide +kernel
theorem sq_Model_bears_59n : rn G mm_Model_bears 59 [a0, a1, none, a3] (.int x :: st) S P ↔ rn G mm_Model_bears 60 [a0, a1, none, some (.int x)] st S P := rn_s dq_Model_bears_59 rfl rfl rfl
theorem sq_Model_bears_59i : rn G mm_Model_bears 59 [a0, a1, some (.int x2), a3] (.int x :: st) S P ↔ rn G mm_Model_bears 60 [a0, a1, some (.int x2), some (.int x)] st S P := rn_s dq_Model_bears_59 rfl rfl rfl
theorem sq_Model_bears_59r : rn G mm_Model_bears 59 [a0, a1, some (.ref z2), a3] (.int x :: st) S P ↔ rn G mm_Model_bears 60 [a0, a1, some (.ref z2), some (.int x)] st S P := rn_s dq_Model_bears_59 rfl rfl rfl
theorem dq_Model_bears_60 : decode (km_c mm_Model_bears) 60 = .ok (.iload_n 3, 1) := by decide +kernel
theorem sq_Model_bears_60 : rn G mm_Model_bears 60 [a0, a1, a2, some (.int x)] st S P ↔ rn G mm_Model_bears 61 [a0, a1, a2, some (.int x)] (.int x :: st) S P := rn_s dq_Model_bears_60 rfl rfl rfl
theorem dq_Model_bears_61 : decode (km_c mm_Model_bears) 61 = .ok (.ifCond .ge 7, 3) := by decide +kernel
theorem sq_Model_bears_61 : rn G mm_Model_bears 61 lv (.int x :: st) S P ↔ ((0 ≤ x → rn G mm_Model_bears 68 lv st S P) ∧ (¬ (0 ≤ x) → rn G mm_Model_bears 64 lv st S P)) := rn_b (off := 7) dq_Model_bears_61 rfl rfl rfl rfl
theorem dq_Model_bears_64 : decode (km_c mm_Model_bears) 64 = .ok (.iconst 0, 1) := by decide +kernel
theorem sq_Model_bears_64 : rn G mm_Model_bears 64 lv st S P ↔ rn G mm_Model_bears 65 lv (.int (nI 0) :: st) S P := rn_s dq_Model_bears_64 rfl rfl rfl
theorem dq_Model_bears_65 : decode (km_c mm_Model_bears) 65 = .ok (.goto 4, 3) := by decide +kernel
theorem sq_Model_bears_65 : rn G mm_Model_bears 65 lv st S P ↔ rn G mm_Model_bears 69 lv st S P := rn_s dq_Model_bears_65 rfl rfl rfl
theorem dq_Model_bears_68 : decode (km_c mm_Model_bears) 68 = .ok (.iload_n 3, 1) := by decide +kernel
theorem sq_Model_bears_68 : rn G mm_Model_bears 68 [a0, a1, a2, some (.int x)] st S P ↔ rn G mm_Model_bears 69 [a0, a1, a2, some (.int x)] (.int x :: st) S P := rn_s dq_Model_bears_68 rfl rfl rfl
theorem dq_Model_bears_69 : decode (km_c mm_Model_bears) 69 = .ok (.ireturn, 1) := by decide +kernel
theorem sq_Model_bears_69 : rn G mm_Model_bears 69 lv [.int x] S P ↔ P (some (.int x)) S := rn_ir dq_Model_bears_69 rfl
theorem dq_Model_level_0 : decode (km_c mm_Model_level) 0 = .ok (.iload_n 1, 1) := by decide +kernel
theorem sq_Model_level_0 : rn G mm_Model_level 0 [a0, some (.int x)] st S P ↔ rn G mm_Model_level 1 [a0, some (.int x)] (.int x :: st) S P := rn_s dq_Model_level_0 rfl rfl rfl
theorem dq_Model_level_1 : decode (km_c mm_Model_level) 1 = .ok (.i2l, 1) := by decide +kernel
theorem sq_Model_level_1 : rn G mm_Model_level 1 lv (.int x :: st) S P ↔ rn G mm_Model_level 2 lv (.long x.toInt64 :: st) S P := rn_s dq_Model_level_1 rfl rfl rfl
theorem dq_Model_level_2 : decode (km_c mm_Model_level) 2 = .ok (.lconst 0, 1) := by decide +kernel
theorem sq_Model_level_2 : rn G mm_Model_level 2 lv st S P ↔ rn G mm_Model_level 3 lv (.long (0) :: st) S P := rn_s dq_Model_level_2 rfl rfl rfl
theorem dq_Model_level_3 : decode (km_c mm_Model_level) 3 = .ok (.ldc2_w 125, 3) := by decide +kernel
theorem sq_Model_level_3 : rn G mm_Model_level 3 lv st S P ↔ rn G mm_Model_level 6 lv (.long (40) :: st) S P := rn_s dq_Model_level_3 rfl rfl rfl
theorem dq_Model_level_6 : decode (km_c mm_Model_level) 6 = .ok (.invokestatic 76, 3) := by decide +kernel
theorem sq_Model_level_6 {y1 : Int64} {y2 : Int64} {y3 : Int64} {v : Option Value} {S2 : ks_S} (hc : ev G mm_Model_in [.long y1, .long y2, .long y3] S v S2) (hst : kx_cat st ≤ 8) : rn G mm_Model_level 6 lv (.long y3 :: .long y2 :: .long y1 :: st) S P ↔ rn G mm_Model_level 9 lv (v.toList ++ st) S2 P := rn_cs (k := 1) (host := "") (E' := mm_Model_in) dq_Model_level_6 (by decide) (by decide) rfl (ok_v rfl (by decide) (by decide) (Nat.le_add_left _ _) hst (Nat.le_of_ble_eq_true rfl) (Or.inl rfl)) rfl rfl hc
theorem dq_Model_level_9 : decode (km_c mm_Model_level) 9 = .ok (.ifCond .ne 5, 3) := by decide +kernel
theorem sq_Model_level_9 : rn G mm_Model_level 9 lv (.int x :: st) S P ↔ ((¬ x = 0 → rn G mm_Model_level 14 lv st S P) ∧ (¬ (¬ x = 0) → rn G mm_Model_level 12 lv st S P)) := rn_b (off := 5) dq_Model_level_9 rfl rfl rfl rfl
theorem dq_Model_level_12 : decode (km_c mm_Model_level) 12 = .ok (.iconst (-1), 1) := by decide +kernel
theorem sq_Model_level_12 : rn G mm_Model_level 12 lv st S P ↔ rn G mm_Model_level 13 lv (.int ((-1)) :: st) S P := rn_s dq_Model_level_12 rfl rfl rfl
theorem dq_Model_level_13 : decode (km_c mm_Model_level) 13 = .ok (.ireturn, 1) := by decide +kernel
theorem sq_Model_level_13 : rn G mm_Model_level 13 lv [.int x] S P ↔ P (some (.int x)) S := rn_ir dq_Model_level_13 rfl
theorem dq_Model_level_14 : decode (km_c mm_Model_level) 14 = .ok (.aload_n 0, 1) := by decide +kernel
theorem sq_Model_level_14 : rn G mm_Model_level 14 [some (.ref z), a1] st S P ↔ rn G mm_Model_level 15 [some (.ref z), a1] (.ref z :: st) S P := rn_s dq_Model_level_14 rfl rfl rfl
theorem dq_Model_level_15 : decode (km_c mm_Model_level) 15 = .ok (.iload_n 1, 1) := by decide +kernel
theorem sq_Model_level_15 : rn G mm_Model_level 15 [a0, some (.int x)] st S P ↔ rn G mm_Model_level 16 [a0, some (.int x)] (.int x :: st) S P := rn_s dq_Model_level_15 rfl rfl rfl
theorem dq_Model_level_16 : decode (km_c mm_Model_level) 16 = .ok (.putfield 98, 3) := by decide +kernel
theorem sq_Model_level_16_45 (ho : sx_o o pl kp) : rn (lt_G o L) mm_Model_level 16 lv (.int x :: .ref 45 :: st) (sx pl kp I A) P ↔ rn (lt_G o L) mm_Model_level 19 lv st (sx pl kp (u2 I 45 1 x) A) P := rx_put (h := "") (ci := 10) (k := 1) dq_Model_level_16 (by decide +kernel) ho (up_b (by decide)) rfl rfl (by decide) (by decide)
theorem dq_Model_level_19 : decode (km_c mm_Model_level) 19 = .ok (.aload_n 0, 1) := by decide +kernel
theorem sq_Model_level_19 : rn G mm_Model_level 19 [some (.ref z), a1] st S P ↔ rn G mm_Model_level 20 [some (.ref z), a1] (.ref z :: st) S P := rn_s dq_Model_level_19 rfl rfl rfl
theorem dq_Model_level_20 : decode (km_c mm_Model_level) 20 = .ok (.iload_n 1, 1) := by decide +kernel
theorem sq_Model_level_20 : rn G mm_Model_level 20 [a0, some (.int x)] st S P ↔ rn G mm_Model_level 21 [a0, some (.int x)] (.int x :: st) S P := rn_s dq_Model_level_20 rfl rfl rfl
theorem dq_Model_level_21 : decode (km_c mm_Model_level) 21 = .ok (.invokevirtual 115, 3) := by decide +kernel
theorem sq_Model_level_21_45 {x1 : Int32} {v : Option Value} {S2 : ks_S} (hc : ev (lt_G o L) mm_Model_findWet [.ref 45, .int x1] (sx pl kp I A) v S2) (ho : sx_o o pl kp) (hst : kx_cat st ≤ 8) : rn (lt_G o L) mm_Model_level 21 lv (.int x1 :: .ref 45 :: st) (sx pl kp I A) P ↔ rn (lt_G o L) mm_Model_level 24 lv (v.toList ++ st) S2 P := rn_cv (k := 0) (host := "") (E' := mm_Model_findWet) dq_Model_level_21 rfl (ok_v rfl (by decide) (by decide) (Nat.le_add_left _ _) hst (Nat.le_of_ble_eq_true rfl) (Or.inr (rc_v ho (up_b (by decide)) rfl))) rfl rfl hc
theorem dq_Model_level_24 : decode (km_c mm_Model_level) 24 = .ok (.aload_n 0, 1) := by decide +kernel
theorem sq_Model_level_24 : rn G mm_Model_level 24 [some (.ref z), a1] st S P ↔ rn G mm_Model_level 25 [some (.ref z), a1] (.ref z :: st) S P := rn_s dq_Model_level_24 rfl rfl rfl
theorem dq_Model_level_25 : decode (km_c mm_Model_level) 25 = .ok (.getfield 88, 3) := by decide +kernel
theorem sq_Model_level_25_45 (ho : sx_o o pl kp) : rn (lt_G o L) mm_Model_level 25 lv (.ref 45 :: st) (sx pl kp I A) P ↔ rn (lt_G o L) mm_Model_level 28 lv (.int (I 45 13) :: st) (sx pl kp I A) P := rx_get (h := "") (ci := 10) (k := 13) dq_Model_level_25 (by decide +kernel) ho (up_b (by decide)) rfl rfl (fl_i (by decide))
theorem dq_Model_level_28 : decode (km_c mm_Model_level) 28 = .ok (.ireturn, 1) := by decide +kernel
theorem sq_Model_level_28 : rn G mm_Model_level 28 lv [.int x] S P ↔ P (some (.int x)) S := rn_ir dq_Model_level_28 rfl
theorem dq_Model_flood_0 : decode (km_c mm_Model_flood) 0 = .ok (.aload_n 0, 1) := by decide +kernel
theorem sq_Model_flood_0 : rn G mm_Model_flood 0 [some (.ref z)] st S P ↔ rn G mm_Model_flood 1 [some (.ref z)] (.ref z :: st) S P := rn_s dq_Model_flood_0 rfl rfl rfl
theorem dq_Model_flood_1 : decode (km_c mm_Model_flood) 1 = .ok (.invokevirtual 127, 3) := by decide +kernel
theorem sq_Model_flood_1_45  {v : Option Value} {S2 : ks_S} (hc : ev (lt_G o L) mm_Model_floodNow [.ref 45] (sx pl kp I A) v S2) (ho : sx_o o pl kp) (hst : kx_cat st ≤ 8) : rn (lt_G o L) mm_Model_flood 1 lv (.ref 45 :: st) (sx pl kp I A) P ↔ rn (lt_G o L) mm_Model_flood 4 lv (v.toList ++ st) S2 P := rn_cv (k := 0) (host := "") (E' := mm_Model_floodNow) dq_Model_flood_1 rfl (ok_v rfl (by decide) (by decide) (Nat.le_add_left _ _) hst (Nat.le_of_ble_eq_true rfl) (Or.inr (rc_v ho (up_b (by decide)) rfl))) rfl rfl hc
theorem dq_Model_flood_4 : decode (km_c mm_Model_flood) 4 = .ok (.ireturn, 1) := by decide +kernel
theorem sq_Model_flood_4 : rn G mm_Model_flood 4 lv [.int x] S P ↔ P (some (.int x)) S := rn_ir dq_Model_flood_4 rfl
theorem dq_Model_floodNow_0 : decode (km_c mm_Model_floodNow) 0 = .ok (.aload_n 0, 1) := by decide +kernel
theorem sq_Model_floodNow_0 : rn G mm_Model_floodNow 0 [some (.ref z), a1, a2, a3, a4] st S P ↔ rn G mm_Model_floodNow 1 [some (.ref z), a1, a2, a3, a4] (.ref z :: st) S P := rn_s dq_Model_floodNow_0 rfl rfl rfl
theorem dq_Model_floodNow_1 : decode (km_c mm_Model_floodNow) 1 = .ok (.aload_n 0, 1) := by decide +kernel
theorem sq_Model_floodNow_1 : rn G mm_Model_floodNow 1 [some (.ref z), a1, a2, a3, a4] st S P ↔ rn G mm_Model_floodNow 2 [some (.ref z), a1, a2, a3, a4] (.ref z :: st) S P := rn_s dq_Model_floodNow_1 rfl rfl rfl
theorem dq_Model_floodNow_2 : decode (km_c mm_Model_floodNow) 2 = .ok (.getfield 98, 3) := by decide +kernel
theorem sq_Model_floodNow_2_45 (ho : sx_o o pl kp) : rn (lt_G o L) mm_Model_floodNow 2 lv (.ref 45 :: st) (sx pl kp I A) P ↔ rn (lt_G o L) mm_Model_floodNow 5 lv (.int (I 45 1) :: st) (sx pl kp I A) P := rx_get (h := "") (ci := 10) (k := 1) dq_Model_floodNow_2 (by decide +kernel) ho (up_b (by decide)) rfl rfl (fl_i (by decide))
theorem dq_Model_floodNow_5 : decode (km_c mm_Model_floodNow) 5 = .ok (.invokevirtual 115, 3) := by decide +kernel
theorem sq_Model_floodNow_5_45 {x1 : Int32} {v : Option Value} {S2 : ks_S} (hc : ev (lt_G o L) mm_Model_findWet [.ref 45, .int x1] (sx pl kp I A) v S2) (ho : sx_o o pl kp) (hst : kx_cat st ≤ 8) : rn (lt_G o L) mm_Model_floodNow 5 lv (.int x1 :: .ref 45 :: st) (sx pl kp I A) P ↔ rn (lt_G o L) mm_Model_floodNow 8 lv (v.toList ++ st) S2 P := rn_cv (k := 0) (host := "") (E' := mm_Model_findWet) dq_Model_floodNow_5 rfl (ok_v rfl (by decide) (by decide) (Nat.le_add_left _ _) hst (Nat.le_of_ble_eq_true rfl) (Or.inr (rc_v ho (up_b (by decide)) rfl))) rfl rfl hc
theorem dq_Model_floodNow_8 : decode (km_c mm_Model_floodNow) 8 = .ok (.iconst 0, 1) := by decide +kernel
theorem sq_Model_floodNow_8 : rn G mm_Model_floodNow 8 lv st S P ↔ rn G mm_Model_floodNow 9 lv (.int (nI 0) :: st) S P := rn_s dq_Model_floodNow_8 rfl rfl rfl
theorem dq_Model_floodNow_9 : decode (km_c mm_Model_floodNow) 9 = .ok (.istore_n 1, 1) := by decide +kernel
theorem sq_Model_floodNow_9n : rn G mm_Model_floodNow 9 [none, a1, a2, a3, a4] (.int x :: st) S P ↔ rn G mm_Model_floodNow 10 [none, some (.int x), a2, a3, a4] st S P := rn_s dq_Model_floodNow_9 rfl rfl rfl
theorem sq_Model_floodNow_9i : rn G mm_Model_floodNow 9 [some (.int x2), a1, a2, a3, a4] (.int x :: st) S P ↔ rn G mm_Model_floodNow 10 [some (.int x2), some (.int x), a2, a3, a4] st S P := rn_s dq_Model_floodNow_9 rfl rfl rfl
theorem sq_Model_floodNow_9r : rn G mm_Model_floodNow 9 [some (.ref z2), a1, a2, a3, a4] (.int x :: st) S P ↔ rn G mm_Model_floodNow 10 [some (.ref z2), some (.int x), a2, a3, a4] st S P := rn_s dq_Model_floodNow_9 rfl rfl rfl
theorem dq_Model_floodNow_10 : decode (km_c mm_Model_floodNow) 10 = .ok (.iload_n 1, 1) := by decide +kernel
theorem sq_Model_floodNow_10 : rn G mm_Model_floodNow 10 [a0, some (.int x), a2, a3, a4] st S P ↔ rn G mm_Model_floodNow 11 [a0, some (.int x), a2, a3, a4] (.int x :: st) S P := rn_s dq_Model_floodNow_10 rfl rfl rfl
theorem dq_Model_floodNow_11 : decode (km_c mm_Model_floodNow) 11 = .ok (.bipush 49, 2) := by decide +kernel
theorem sq_Model_floodNow_11 : rn G mm_Model_floodNow 11 lv st S P ↔ rn G mm_Model_floodNow 13 lv (.int (nI 49) :: st) S P := rn_s dq_Model_floodNow_11 rfl rfl rfl
theorem dq_Model_floodNow_13 : decode (km_c mm_Model_floodNow) 13 = .ok (.if_icmp .ge 129, 3) := by decide +kernel
theorem sq_Model_floodNow_13 : rn G mm_Model_floodNow 13 lv (.int x2 :: .int x :: st) S P ↔ ((x2 ≤ x → rn G mm_Model_floodNow 142 lv st S P) ∧ (¬ (x2 ≤ x) → rn G mm_Model_floodNow 16 lv st S P)) := rn_b (off := 129) dq_Model_floodNow_13 rfl rfl rfl rfl
theorem dq_Model_floodNow_16 : decode (km_c mm_Model_floodNow) 16 = .ok (.aload_n 0, 1) := by decide +kernel
theorem sq_Model_floodNow_16 : rn G mm_Model_floodNow 16 [some (.ref z), a1, a2, a3, a4] st S P ↔ rn G mm_Model_floodNow 17 [some (.ref z), a1, a2, a3, a4] (.ref z :: st) S P := rn_s dq_Model_floodNow_16 rfl rfl rfl
theorem dq_Model_floodNow_17 : decode (km_c mm_Model_floodNow) 17 = .ok (.getfield 38, 3) := by decide +kernel
theorem sq_Model_floodNow_17_45 (ho : sx_o o pl kp) : rn (lt_G o L) mm_Model_floodNow 17 lv (.ref 45 :: st) (sx pl kp I A) P ↔ rn (lt_G o L) mm_Model_floodNow 20 lv (.ref 53 :: st) (sx pl kp I A) P := rx_get (h := "") (ci := 10) (k := 14) dq_Model_floodNow_17 (by decide +kernel) ho (up_b (by decide)) rfl rfl (fl_r (by decide) (by decide) (by decide) (by decide))
theorem dq_Model_floodNow_20 : decode (km_c mm_Model_floodNow) 20 = .ok (.iload_n 1, 1) := by decide +kernel
theorem sq_Model_floodNow_20 : rn G mm_Model_floodNow 20 [a0, some (.int x), a2, a3, a4] st S P ↔ rn G mm_Model_floodNow 21 [a0, some (.int x), a2, a3, a4] (.int x :: st) S P := rn_s dq_Model_floodNow_20 rfl rfl rfl
theorem dq_Model_floodNow_21 : decode (km_c mm_Model_floodNow) 21 = .ok (.iconst (-1), 1) := by decide +kernel
theorem sq_Model_floodNow_21 : rn G mm_Model_floodNow 21 lv st S P ↔ rn G mm_Model_floodNow 22 lv (.int ((-1)) :: st) S P := rn_s dq_Model_floodNow_21 rfl rfl rfl
theorem dq_Model_floodNow_22 : decode (km_c mm_Model_floodNow) 22 = .ok (.iastore, 1) := by decide +kernel
theorem sq_Model_floodNow_22 (ho : sx_o o pl kp) (hk : ak L a = 0) (hu : sx_up pl kp a = true) (hc : c < ln L a) (hn : ln L a < 2 ^ 31) : rn (lt_G o L) mm_Model_floodNow 22 lv (.int x :: .int (nI c) :: .ref a :: st) (sx pl kp I A) P ↔ rn (lt_G o L) mm_Model_floodNow 23 lv st (sx pl kp I (u2 A a c x)) P := rx_ist dq_Model_floodNow_22 ho hk hu hc hn
theorem dq_Model_floodNow_23 : decode (km_c mm_Model_floodNow) 23 = .ok (.iconst 0, 1) := by decide +kernel
theorem sq_Model_floodNow_23 : rn G mm_Model_floodNow 23 lv st S P ↔ rn G mm_Model_floodNow 24 lv (.int (nI 0) :: st) S P := rn_s dq_Model_floodNow_23 rfl rfl rfl
theorem dq_Model_floodNow_24 : decode (km_c mm_Model_floodNow) 24 = .ok (.istore_n 2, 1) := by decide +kernel
theorem sq_Model_floodNow_24n : rn G mm_Model_floodNow 24 [a0, none, a2, a3, a4] (.int x :: st) S P ↔ rn G mm_Model_floodNow 25 [a0, none, some (.int x), a3, a4] st S P := rn_s dq_Model_floodNow_24 rfl rfl rfl
theorem sq_Model_floodNow_24i : rn G mm_Model_floodNow 24 [a0, some (.int x2), a2, a3, a4] (.int x :: st) S P ↔ rn G mm_Model_floodNow 25 [a0, some (.int x2), some (.int x), a3, a4] st S P := rn_s dq_Model_floodNow_24 rfl rfl rfl
theorem sq_Model_floodNow_24r : rn G mm_Model_floodNow 24 [a0, some (.ref z2), a2, a3, a4] (.int x :: st) S P ↔ rn G mm_Model_floodNow 25 [a0, some (.ref z2), some (.int x), a3, a4] st S P := rn_s dq_Model_floodNow_24 rfl rfl rfl
theorem dq_Model_floodNow_25 : decode (km_c mm_Model_floodNow) 25 = .ok (.iload_n 2, 1) := by decide +kernel
theorem sq_Model_floodNow_25 : rn G mm_Model_floodNow 25 [a0, a1, some (.int x), a3, a4] st S P ↔ rn G mm_Model_floodNow 26 [a0, a1, some (.int x), a3, a4] (.int x :: st) S P := rn_s dq_Model_floodNow_25 rfl rfl rfl
theorem dq_Model_floodNow_26 : decode (km_c mm_Model_floodNow) 26 = .ok (.iconst 4, 1) := by decide +kernel
theorem sq_Model_floodNow_26 : rn G mm_Model_floodNow 26 lv st S P ↔ rn G mm_Model_floodNow 27 lv (.int (nI 4) :: st) S P := rn_s dq_Model_floodNow_26 rfl rfl rfl
theorem dq_Model_floodNow_27 : decode (km_c mm_Model_floodNow) 27 = .ok (.if_icmp .ge 109, 3) := by decide +kernel
theorem sq_Model_floodNow_27 : rn G mm_Model_floodNow 27 lv (.int x2 :: .int x :: st) S P ↔ ((x2 ≤ x → rn G mm_Model_floodNow 136 lv st S P) ∧ (¬ (x2 ≤ x) → rn G mm_Model_floodNow 30 lv st S P)) := rn_b (off := 109) dq_Model_floodNow_27 rfl rfl rfl rfl
theorem dq_Model_floodNow_30 : decode (km_c mm_Model_floodNow) 30 = .ok (.aload_n 0, 1) := by decide +kernel
theorem sq_Model_floodNow_30 : rn G mm_Model_floodNow 30 [some (.ref z), a1, a2, a3, a4] st S P ↔ rn G mm_Model_floodNow 31 [some (.ref z), a1, a2, a3, a4] (.ref z :: st) S P := rn_s dq_Model_floodNow_30 rfl rfl rfl
theorem dq_Model_floodNow_31 : decode (km_c mm_Model_floodNow) 31 = .ok (.getfield 32, 3) := by decide +kernel
theorem sq_Model_floodNow_31_45 (ho : sx_o o pl kp) : rn (lt_G o L) mm_Model_floodNow 31 lv (.ref 45 :: st) (sx pl kp I A) P ↔ rn (lt_G o L) mm_Model_floodNow 34 lv (.ref 51 :: st) (sx pl kp I A) P := rx_get (h := "") (ci := 10) (k := 11) dq_Model_floodNow_31 (by decide +kernel) ho (up_b (by decide)) rfl rfl (fl_r (by decide) (by decide) (by decide) (by decide))
theorem dq_Model_floodNow_34 : decode (km_c mm_Model_floodNow) 34 = .ok (.iload_n 1, 1) := by decide +kernel
theorem sq_Model_floodNow_34 : rn G mm_Model_floodNow 34 [a0, some (.int x), a2, a3, a4] st S P ↔ rn G mm_Model_floodNow 35 [a0, some (.int x), a2, a3, a4] (.int x :: st) S P := rn_s dq_Model_floodNow_34 rfl rfl rfl
theorem dq_Model_floodNow_35 : decode (km_c mm_Model_floodNow) 35 = .ok (.iaload, 1) := by decide +kernel
theorem sq_Model_floodNow_35 (ho : sx_o o pl kp) (hk : ak L a = 0) (hu : sx_up pl kp a = true ∨ 1000 ≤ a) (hc : c < ln L a) (hn : ln L a < 2 ^ 31) : rn (lt_G o L) mm_Model_floodNow 35 lv (.int (nI c) :: .ref a :: st) (sx pl kp I A) P ↔ rn (lt_G o L) mm_Model_floodNow 36 lv (.int (A a c) :: st) (sx pl kp I A) P := rx_ild dq_Model_floodNow_35 ho hk hu hc hn
theorem dq_Model_floodNow_36 : decode (km_c mm_Model_floodNow) 36 = .ok (.iconst 1, 1) := by decide +kernel
theorem sq_Model_floodNow_36 : rn G mm_Model_floodNow 36 lv st S P ↔ rn G mm_Model_floodNow 37 lv (.int (nI 1) :: st) S P := rn_s dq_Model_floodNow_36 rfl rfl rfl
theorem dq_Model_floodNow_37 : decode (km_c mm_Model_floodNow) 37 = .ok (.if_icmp .ne 99, 3) := by decide +kernel
theorem sq_Model_floodNow_37 : rn G mm_Model_floodNow 37 lv (.int x2 :: .int x :: st) S P ↔ ((¬ x = x2 → rn G mm_Model_floodNow 136 lv st S P) ∧ (¬ (¬ x = x2) → rn G mm_Model_floodNow 40 lv st S P)) := rn_b (off := 99) dq_Model_floodNow_37 rfl rfl rfl rfl
theorem dq_Model_floodNow_40 : decode (km_c mm_Model_floodNow) 40 = .ok (.aload_n 0, 1) := by decide +kernel
theorem sq_Model_floodNow_40 : rn G mm_Model_floodNow 40 [some (.ref z), a1, a2, a3, a4] st S P ↔ rn G mm_Model_floodNow 41 [some (.ref z), a1, a2, a3, a4] (.ref z :: st) S P := rn_s dq_Model_floodNow_40 rfl rfl rfl
theorem dq_Model_floodNow_41 : decode (km_c mm_Model_floodNow) 41 = .ok (.getfield 7, 3) := by decide +kernel
theorem sq_Model_floodNow_41_45 (ho : sx_o o pl kp) : rn (lt_G o L) mm_Model_floodNow 41 lv (.ref 45 :: st) (sx pl kp I A) P ↔ rn (lt_G o L) mm_Model_floodNow 44 lv (.ref 46 :: st) (sx pl kp I A) P := rx_get (h := "") (ci := 10) (k := 0) dq_Model_floodNow_41 (by decide +kernel) ho (up_b (by decide)) rfl rfl (fl_r (by decide) (by decide) (by decide) (by decide))
theorem dq_Model_floodNow_44 : decode (km_c mm_Model_floodNow) 44 = .ok (.bipush 49, 2) := by decide +kernel
theorem sq_Model_floodNow_44 : rn G mm_Model_floodNow 44 lv st S P ↔ rn G mm_Model_floodNow 46 lv (.int (nI 49) :: st) S P := rn_s dq_Model_floodNow_44 rfl rfl rfl
theorem dq_Model_floodNow_46 : decode (km_c mm_Model_floodNow) 46 = .ok (.iload_n 1, 1) := by decide +kernel
theorem sq_Model_floodNow_46 : rn G mm_Model_floodNow 46 [a0, some (.int x), a2, a3, a4] st S P ↔ rn G mm_Model_floodNow 47 [a0, some (.int x), a2, a3, a4] (.int x :: st) S P := rn_s dq_Model_floodNow_46 rfl rfl rfl
theorem dq_Model_floodNow_47 : decode (km_c mm_Model_floodNow) 47 = .ok (.iadd, 1) := by decide +kernel
theorem sq_Model_floodNow_47 : rn G mm_Model_floodNow 47 lv (.int x2 :: .int x :: st) S P ↔ rn G mm_Model_floodNow 48 lv (.int (x + x2) :: st) S P := rn_s dq_Model_floodNow_47 rfl rfl rfl
theorem dq_Model_floodNow_48 : decode (km_c mm_Model_floodNow) 48 = .ok (.iaload, 1) := by decide +kernel
theorem sq_Model_floodNow_48 (ho : sx_o o pl kp) (hk : ak L a = 0) (hu : sx_up pl kp a = true ∨ 1000 ≤ a) (hc : c < ln L a) (hn : ln L a < 2 ^ 31) : rn (lt_G o L) mm_Model_floodNow 48 lv (.int (nI c) :: .ref a :: st) (sx pl kp I A) P ↔ rn (lt_G o L) mm_Model_floodNow 49 lv (.int (A a c) :: st) (sx pl kp I A) P := rx_ild dq_Model_floodNow_48 ho hk hu hc hn
theorem dq_Model_floodNow_49 : decode (km_c mm_Model_floodNow) 49 = .ok (.ifCond .le 87, 3) := by decide +kernel
theorem sq_Model_floodNow_49 : rn G mm_Model_floodNow 49 lv (.int x :: st) S P ↔ ((x ≤ 0 → rn G mm_Model_floodNow 136 lv st S P) ∧ (¬ (x ≤ 0) → rn G mm_Model_floodNow 52 lv st S P)) := rn_b (off := 87) dq_Model_floodNow_49 rfl rfl rfl rfl
theorem dq_Model_floodNow_52 : decode (km_c mm_Model_floodNow) 52 = .ok (.iload_n 1, 1) := by decide +kernel
theorem sq_Model_floodNow_52 : rn G mm_Model_floodNow 52 [a0, some (.int x), a2, a3, a4] st S P ↔ rn G mm_Model_floodNow 53 [a0, some (.int x), a2, a3, a4] (.int x :: st) S P := rn_s dq_Model_floodNow_52 rfl rfl rfl
theorem dq_Model_floodNow_53 : decode (km_c mm_Model_floodNow) 53 = .ok (.iload_n 2, 1) := by decide +kernel
theorem sq_Model_floodNow_53 : rn G mm_Model_floodNow 53 [a0, a1, some (.int x), a3, a4] st S P ↔ rn G mm_Model_floodNow 54 [a0, a1, some (.int x), a3, a4] (.int x :: st) S P := rn_s dq_Model_floodNow_53 rfl rfl rfl
theorem dq_Model_floodNow_54 : decode (km_c mm_Model_floodNow) 54 = .ok (.invokestatic 80, 3) := by decide +kernel
theorem sq_Model_floodNow_54 {x1 : Int32} {x2 : Int32} {v : Option Value} {S2 : ks_S} (hc : ev G mm_Model_nextTo [.int x1, .int x2] S v S2) (hst : kx_cat st ≤ 8) : rn G mm_Model_floodNow 54 lv (.int x2 :: .int x1 :: st) S P ↔ rn G mm_Model_floodNow 57 lv (v.toList ++ st) S2 P := rn_cs (k := 1) (host := "") (E' := mm_Model_nextTo) dq_Model_floodNow_54 (by decide) (by decide) rfl (ok_v rfl (by decide) (by decide) (Nat.le_add_left _ _) hst (Nat.le_of_ble_eq_true rfl) (Or.inl rfl)) rfl rfl hc
theorem dq_Model_floodNow_57 : decode (km_c mm_Model_floodNow) 57 = .ok (.istore_n 3, 1) := by decide +kernel
theorem sq_Model_floodNow_57n : rn G mm_Model_floodNow 57 [a0, a1, none, a3, a4] (.int x :: st) S P ↔ rn G mm_Model_floodNow 58 [a0, a1, none, some (.int x), a4] st S P := rn_s dq_Model_floodNow_57 rfl rfl rfl
theorem sq_Model_floodNow_57i : rn G mm_Model_floodNow 57 [a0, a1, some (.int x2), a3, a4] (.int x :: st) S P ↔ rn G mm_Model_floodNow 58 [a0, a1, some (.int x2), some (.int x), a4] st S P := rn_s dq_Model_floodNow_57 rfl rfl rfl
theorem sq_Model_floodNow_57r : rn G mm_Model_floodNow 57 [a0, a1, some (.ref z2), a3, a4] (.int x :: st) S P ↔ rn G mm_Model_floodNow 58 [a0, a1, some (.ref z2), some (.int x), a4] st S P := rn_s dq_Model_floodNow_57 rfl rfl rfl
theorem dq_Model_floodNow_58 : decode (km_c mm_Model_floodNow) 58 = .ok (.iload_n 3, 1) := by decide +kernel
theorem sq_Model_floodNow_58 : rn G mm_Model_floodNow 58 [a0, a1, a2, some (.int x), a4] st S P ↔ rn G mm_Model_floodNow 59 [a0, a1, a2, some (.int x), a4] (.int x :: st) S P := rn_s dq_Model_floodNow_58 rfl rfl rfl
theorem dq_Model_floodNow_59 : decode (km_c mm_Model_floodNow) 59 = .ok (.ifCond .lt 20, 3) := by decide +kernel
theorem sq_Model_floodNow_59 : rn G mm_Model_floodNow 59 lv (.int x :: st) S P ↔ ((x < 0 → rn G mm_Model_floodNow 79 lv st S P) ∧ (¬ (x < 0) → rn G mm_Model_floodNow 62 lv st S P)) := rn_b (off := 20) dq_Model_floodNow_59 rfl rfl rfl rfl
theorem dq_Model_floodNow_62 : decode (km_c mm_Model_floodNow) 62 = .ok (.aload_n 0, 1) := by decide +kernel
theorem sq_Model_floodNow_62 : rn G mm_Model_floodNow 62 [some (.ref z), a1, a2, a3, a4] st S P ↔ rn G mm_Model_floodNow 63 [some (.ref z), a1, a2, a3, a4] (.ref z :: st) S P := rn_s dq_Model_floodNow_62 rfl rfl rfl
theorem dq_Model_floodNow_63 : decode (km_c mm_Model_floodNow) 63 = .ok (.iload_n 3, 1) := by decide +kernel
theorem sq_Model_floodNow_63 : rn G mm_Model_floodNow 63 [a0, a1, a2, some (.int x), a4] st S P ↔ rn G mm_Model_floodNow 64 [a0, a1, a2, some (.int x), a4] (.int x :: st) S P := rn_s dq_Model_floodNow_63 rfl rfl rfl
theorem dq_Model_floodNow_64 : decode (km_c mm_Model_floodNow) 64 = .ok (.invokevirtual 84, 3) := by decide +kernel
theorem sq_Model_floodNow_64_45 {x1 : Int32} {v : Option Value} {S2 : ks_S} (hc : ev (lt_G o L) mm_Model_top [.ref 45, .int x1] (sx pl kp I A) v S2) (ho : sx_o o pl kp) (hst : kx_cat st ≤ 8) : rn (lt_G o L) mm_Model_floodNow 64 lv (.int x1 :: .ref 45 :: st) (sx pl kp I A) P ↔ rn (lt_G o L) mm_Model_floodNow 67 lv (v.toList ++ st) S2 P := rn_cv (k := 0) (host := "") (E' := mm_Model_top) dq_Model_floodNow_64 rfl (ok_v rfl (by decide) (by decide) (Nat.le_add_left _ _) hst (Nat.le_of_ble_eq_true rfl) (Or.inr (rc_v ho (up_b (by decide)) rfl))) rfl rfl hc
theorem dq_Model_floodNow_67 : decode (km_c mm_Model_floodNow) 67 = .ok (.aload_n 0, 1) := by decide +kernel
theorem sq_Model_floodNow_67 : rn G mm_Model_floodNow 67 [some (.ref z), a1, a2, a3, a4] st S P ↔ rn G mm_Model_floodNow 68 [some (.ref z), a1, a2, a3, a4] (.ref z :: st) S P := rn_s dq_Model_floodNow_67 rfl rfl rfl
theorem dq_Model_floodNow_68 : decode (km_c mm_Model_floodNow) 68 = .ok (.iload_n 1, 1) := by decide +kernel
theorem sq_Model_floodNow_68 : rn G mm_Model_floodNow 68 [a0, some (.int x), a2, a3, a4] st S P ↔ rn G mm_Model_floodNow 69 [a0, some (.int x), a2, a3, a4] (.int x :: st) S P := rn_s dq_Model_floodNow_68 rfl rfl rfl
theorem dq_Model_floodNow_69 : decode (km_c mm_Model_floodNow) 69 = .ok (.invokevirtual 84, 3) := by decide +kernel
theorem sq_Model_floodNow_69_45 {x1 : Int32} {v : Option Value} {S2 : ks_S} (hc : ev (lt_G o L) mm_Model_top [.ref 45, .int x1] (sx pl kp I A) v S2) (ho : sx_o o pl kp) (hst : kx_cat st ≤ 8) : rn (lt_G o L) mm_Model_floodNow 69 lv (.int x1 :: .ref 45 :: st) (sx pl kp I A) P ↔ rn (lt_G o L) mm_Model_floodNow 72 lv (v.toList ++ st) S2 P := rn_cv (k := 0) (host := "") (E' := mm_Model_top) dq_Model_floodNow_69 rfl (ok_v rfl (by decide) (by decide) (Nat.le_add_left _ _) hst (Nat.le_of_ble_eq_true rfl) (Or.inr (rc_v ho (up_b (by decide)) rfl))) rfl rfl hc
theorem dq_Model_floodNow_72 : decode (km_c mm_Model_floodNow) 72 = .ok (.if_icmp .ge 7, 3) := by decide +kernel
theorem sq_Model_floodNow_72 : rn G mm_Model_floodNow 72 lv (.int x2 :: .int x :: st) S P ↔ ((x2 ≤ x → rn G mm_Model_floodNow 79 lv st S P) ∧ (¬ (x2 ≤ x) → rn G mm_Model_floodNow 75 lv st S P)) := rn_b (off := 7) dq_Model_floodNow_72 rfl rfl rfl rfl
theorem dq_Model_floodNow_75 : decode (km_c mm_Model_floodNow) 75 = .ok (.iconst 1, 1) := by decide +kernel
theorem sq_Model_floodNow_75 : rn G mm_Model_floodNow 75 lv st S P ↔ rn G mm_Model_floodNow 76 lv (.int (nI 1) :: st) S P := rn_s dq_Model_floodNow_75 rfl rfl rfl
theorem dq_Model_floodNow_76 : decode (km_c mm_Model_floodNow) 76 = .ok (.goto 4, 3) := by decide +kernel
theorem sq_Model_floodNow_76 : rn G mm_Model_floodNow 76 lv st S P ↔ rn G mm_Model_floodNow 80 lv st S P := rn_s dq_Model_floodNow_76 rfl rfl rfl
theorem dq_Model_floodNow_79 : decode (km_c mm_Model_floodNow) 79 = .ok (.iconst 0, 1) := by decide +kernel
theorem sq_Model_floodNow_79 : rn G mm_Model_floodNow 79 lv st S P ↔ rn G mm_Model_floodNow 80 lv (.int (nI 0) :: st) S P := rn_s dq_Model_floodNow_79 rfl rfl rfl
theorem dq_Model_floodNow_80 : decode (km_c mm_Model_floodNow) 80 = .ok (.istore 4, 2) := by decide +kernel
theorem sq_Model_floodNow_80n : rn G mm_Model_floodNow 80 [a0, a1, a2, none, a4] (.int x :: st) S P ↔ rn G mm_Model_floodNow 82 [a0, a1, a2, none, some (.int x)] st S P := rn_s dq_Model_floodNow_80 rfl rfl rfl
theorem sq_Model_floodNow_80i : rn G mm_Model_floodNow 80 [a0, a1, a2, some (.int x2), a4] (.int x :: st) S P ↔ rn G mm_Model_floodNow 82 [a0, a1, a2, some (.int x2), some (.int x)] st S P := rn_s dq_Model_floodNow_80 rfl rfl rfl
theorem sq_Model_floodNow_80r : rn G mm_Model_floodNow 80 [a0, a1, a2, some (.ref z2), a4] (.int x :: st) S P ↔ rn G mm_Model_floodNow 82 [a0, a1, a2, some (.ref z2), some (.int x)] st S P := rn_s dq_Model_floodNow_80 rfl rfl rfl
theorem dq_Model_floodNow_82 : decode (km_c mm_Model_floodNow) 82 = .ok (.aload_n 0, 1) := by decide +kernel
theorem sq_Model_floodNow_82 : rn G mm_Model_floodNow 82 [some (.ref z), a1, a2, a3, a4] st S P ↔ rn G mm_Model_floodNow 83 [some (.ref z), a1, a2, a3, a4] (.ref z :: st) S P := rn_s dq_Model_floodNow_82 rfl rfl rfl
theorem dq_Model_floodNow_83 : decode (km_c mm_Model_floodNow) 83 = .ok (.getfield 38, 3) := by decide +kernel
theorem sq_Model_floodNow_83_45 (ho : sx_o o pl kp) : rn (lt_G o L) mm_Model_floodNow 83 lv (.ref 45 :: st) (sx pl kp I A) P ↔ rn (lt_G o L) mm_Model_floodNow 86 lv (.ref 53 :: st) (sx pl kp I A) P := rx_get (h := "") (ci := 10) (k := 14) dq_Model_floodNow_83 (by decide +kernel) ho (up_b (by decide)) rfl rfl (fl_r (by decide) (by decide) (by decide) (by decide))
theorem dq_Model_floodNow_86 : decode (km_c mm_Model_floodNow) 86 = .ok (.iload_n 1, 1) := by decide +kernel
theorem sq_Model_floodNow_86 : rn G mm_Model_floodNow 86 [a0, some (.int x), a2, a3, a4] st S P ↔ rn G mm_Model_floodNow 87 [a0, some (.int x), a2, a3, a4] (.int x :: st) S P := rn_s dq_Model_floodNow_86 rfl rfl rfl
theorem dq_Model_floodNow_87 : decode (km_c mm_Model_floodNow) 87 = .ok (.iload 4, 2) := by decide +kernel
theorem sq_Model_floodNow_87 : rn G mm_Model_floodNow 87 [a0, a1, a2, a3, some (.int x)] st S P ↔ rn G mm_Model_floodNow 89 [a0, a1, a2, a3, some (.int x)] (.int x :: st) S P := rn_s dq_Model_floodNow_87 rfl rfl rfl
theorem dq_Model_floodNow_89 : decode (km_c mm_Model_floodNow) 89 = .ok (.ifCond .eq 34, 3) := by decide +kernel
theorem sq_Model_floodNow_89 : rn G mm_Model_floodNow 89 lv (.int x :: st) S P ↔ ((x = 0 → rn G mm_Model_floodNow 123 lv st S P) ∧ (¬ (x = 0) → rn G mm_Model_floodNow 92 lv st S P)) := rn_b (off := 34) dq_Model_floodNow_89 rfl rfl rfl rfl
theorem dq_Model_floodNow_92 : decode (km_c mm_Model_floodNow) 92 = .ok (.aload_n 0, 1) := by decide +kernel
theorem sq_Model_floodNow_92 : rn G mm_Model_floodNow 92 [some (.ref z), a1, a2, a3, a4] st S P ↔ rn G mm_Model_floodNow 93 [some (.ref z), a1, a2, a3, a4] (.ref z :: st) S P := rn_s dq_Model_floodNow_92 rfl rfl rfl
theorem dq_Model_floodNow_93 : decode (km_c mm_Model_floodNow) 93 = .ok (.getfield 38, 3) := by decide +kernel
theorem sq_Model_floodNow_93_45 (ho : sx_o o pl kp) : rn (lt_G o L) mm_Model_floodNow 93 lv (.ref 45 :: st) (sx pl kp I A) P ↔ rn (lt_G o L) mm_Model_floodNow 96 lv (.ref 53 :: st) (sx pl kp I A) P := rx_get (h := "") (ci := 10) (k := 14) dq_Model_floodNow_93 (by decide +kernel) ho (up_b (by decide)) rfl rfl (fl_r (by decide) (by decide) (by decide) (by decide))
theorem dq_Model_floodNow_96 : decode (km_c mm_Model_floodNow) 96 = .ok (.iload_n 1, 1) := by decide +kernel
theorem sq_Model_floodNow_96 : rn G mm_Model_floodNow 96 [a0, some (.int x), a2, a3, a4] st S P ↔ rn G mm_Model_floodNow 97 [a0, some (.int x), a2, a3, a4] (.int x :: st) S P := rn_s dq_Model_floodNow_96 rfl rfl rfl
theorem dq_Model_floodNow_97 : decode (km_c mm_Model_floodNow) 97 = .ok (.iaload, 1) := by decide +kernel
theorem sq_Model_floodNow_97 (ho : sx_o o pl kp) (hk : ak L a = 0) (hu : sx_up pl kp a = true ∨ 1000 ≤ a) (hc : c < ln L a) (hn : ln L a < 2 ^ 31) : rn (lt_G o L) mm_Model_floodNow 97 lv (.int (nI c) :: .ref a :: st) (sx pl kp I A) P ↔ rn (lt_G o L) mm_Model_floodNow 98 lv (.int (A a c) :: st) (sx pl kp I A) P := rx_ild dq_Model_floodNow_97 ho hk hu hc hn
theorem dq_Model_floodNow_98 : decode (km_c mm_Model_floodNow) 98 = .ok (.ifCond .lt 21, 3) := by decide +kernel
theorem sq_Model_floodNow_98 : rn G mm_Model_floodNow 98 lv (.int x :: st) S P ↔ ((x < 0 → rn G mm_Model_floodNow 119 lv st S P) ∧ (¬ (x < 0) → rn G mm_Model_floodNow 101 lv st S P)) := rn_b (off := 21) dq_Model_floodNow_98 rfl rfl rfl rfl
theorem dq_Model_floodNow_101 : decode (km_c mm_Model_floodNow) 101 = .ok (.aload_n 0, 1) := by decide +kernel
theorem sq_Model_floodNow_101 : rn G mm_Model_floodNow 101 [some (.ref z), a1, a2, a3, a4] st S P ↔ rn G mm_Model_floodNow 102 [some (.ref z), a1, a2, a3, a4] (.ref z :: st) S P := rn_s dq_Model_floodNow_101 rfl rfl rfl
theorem dq_Model_floodNow_102 : decode (km_c mm_Model_floodNow) 102 = .ok (.iload_n 3, 1) := by decide +kernel
theorem sq_Model_floodNow_102 : rn G mm_Model_floodNow 102 [a0, a1, a2, some (.int x), a4] st S P ↔ rn G mm_Model_floodNow 103 [a0, a1, a2, some (.int x), a4] (.int x :: st) S P := rn_s dq_Model_floodNow_102 rfl rfl rfl
theorem dq_Model_floodNow_103 : decode (km_c mm_Model_floodNow) 103 = .ok (.invokevirtual 84, 3) := by decide +kernel
theorem sq_Model_floodNow_103_45 {x1 : Int32} {v : Option Value} {S2 : ks_S} (hc : ev (lt_G o L) mm_Model_top [.ref 45, .int x1] (sx pl kp I A) v S2) (ho : sx_o o pl kp) (hst : kx_cat st ≤ 8) : rn (lt_G o L) mm_Model_floodNow 103 lv (.int x1 :: .ref 45 :: st) (sx pl kp I A) P ↔ rn (lt_G o L) mm_Model_floodNow 106 lv (v.toList ++ st) S2 P := rn_cv (k := 0) (host := "") (E' := mm_Model_top) dq_Model_floodNow_103 rfl (ok_v rfl (by decide) (by decide) (Nat.le_add_left _ _) hst (Nat.le_of_ble_eq_true rfl) (Or.inr (rc_v ho (up_b (by decide)) rfl))) rfl rfl hc
theorem dq_Model_floodNow_106 : decode (km_c mm_Model_floodNow) 106 = .ok (.aload_n 0, 1) := by decide +kernel
theorem sq_Model_floodNow_106 : rn G mm_Model_floodNow 106 [some (.ref z), a1, a2, a3, a4] st S P ↔ rn G mm_Model_floodNow 107 [some (.ref z), a1, a2, a3, a4] (.ref z :: st) S P := rn_s dq_Model_floodNow_106 rfl rfl rfl
theorem dq_Model_floodNow_107 : decode (km_c mm_Model_floodNow) 107 = .ok (.aload_n 0, 1) := by decide +kernel
theorem sq_Model_floodNow_107 : rn G mm_Model_floodNow 107 [some (.ref z), a1, a2, a3, a4] st S P ↔ rn G mm_Model_floodNow 108 [some (.ref z), a1, a2, a3, a4] (.ref z :: st) S P := rn_s dq_Model_floodNow_107 rfl rfl rfl
theorem dq_Model_floodNow_108 : decode (km_c mm_Model_floodNow) 108 = .ok (.getfield 38, 3) := by decide +kernel
theorem sq_Model_floodNow_108_45 (ho : sx_o o pl kp) : rn (lt_G o L) mm_Model_floodNow 108 lv (.ref 45 :: st) (sx pl kp I A) P ↔ rn (lt_G o L) mm_Model_floodNow 111 lv (.ref 53 :: st) (sx pl kp I A) P := rx_get (h := "") (ci := 10) (k := 14) dq_Model_floodNow_108 (by decide +kernel) ho (up_b (by decide)) rfl rfl (fl_r (by decide) (by decide) (by decide) (by decide))
theorem dq_Model_floodNow_111 : decode (km_c mm_Model_floodNow) 111 = .ok (.iload_n 1, 1) := by decide +kernel
theorem sq_Model_floodNow_111 : rn G mm_Model_floodNow 111 [a0, some (.int x), a2, a3, a4] st S P ↔ rn G mm_Model_floodNow 112 [a0, some (.int x), a2, a3, a4] (.int x :: st) S P := rn_s dq_Model_floodNow_111 rfl rfl rfl
theorem dq_Model_floodNow_112 : decode (km_c mm_Model_floodNow) 112 = .ok (.iaload, 1) := by decide +kernel
theorem sq_Model_floodNow_112 (ho : sx_o o pl kp) (hk : ak L a = 0) (hu : sx_up pl kp a = true ∨ 1000 ≤ a) (hc : c < ln L a) (hn : ln L a < 2 ^ 31) : rn (lt_G o L) mm_Model_floodNow 112 lv (.int (nI c) :: .ref a :: st) (sx pl kp I A) P ↔ rn (lt_G o L) mm_Model_floodNow 113 lv (.int (A a c) :: st) (sx pl kp I A) P := rx_ild dq_Model_floodNow_112 ho hk hu hc hn
theorem dq_Model_floodNow_113 : decode (km_c mm_Model_floodNow) 113 = .ok (.invokevirtual 84, 3) := by decide +kernel
theorem sq_Model_floodNow_113_45 {x1 : Int32} {v : Option Value} {S2 : ks_S} (hc : ev (lt_G o L) mm_Model_top [.ref 45, .int x1] (sx pl kp I A) v S2) (ho : sx_o o pl kp) (hst : kx_cat st ≤ 8) : rn (lt_G o L) mm_Model_floodNow 113 lv (.int x1 :: .ref 45 :: st) (sx pl kp I A) P ↔ rn (lt_G o L) mm_Model_floodNow 116 lv (v.toList ++ st) S2 P := rn_cv (k := 0) (host := "") (E' := mm_Model_top) dq_Model_floodNow_113 rfl (ok_v rfl (by decide) (by decide) (Nat.le_add_left _ _) hst (Nat.le_of_ble_eq_true rfl) (Or.inr (rc_v ho (up_b (by decide)) rfl))) rfl rfl hc
theorem dq_Model_floodNow_116 : decode (km_c mm_Model_floodNow) 116 = .ok (.if_icmp .ge 7, 3) := by decide +kernel
theorem sq_Model_floodNow_116 : rn G mm_Model_floodNow 116 lv (.int x2 :: .int x :: st) S P ↔ ((x2 ≤ x → rn G mm_Model_floodNow 123 lv st S P) ∧ (¬ (x2 ≤ x) → rn G mm_Model_floodNow 119 lv st S P)) := rn_b (off := 7) dq_Model_floodNow_116 rfl rfl rfl rfl
theorem dq_Model_floodNow_119 : decode (km_c mm_Model_floodNow) 119 = .ok (.iload_n 3, 1) := by decide +kernel
theorem sq_Model_floodNow_119 : rn G mm_Model_floodNow 119 [a0, a1, a2, some (.int x), a4] st S P ↔ rn G mm_Model_floodNow 120 [a0, a1, a2, some (.int x), a4] (.int x :: st) S P := rn_s dq_Model_floodNow_119 rfl rfl rfl
theorem dq_Model_floodNow_120 : decode (km_c mm_Model_floodNow) 120 = .ok (.goto 9, 3) := by decide +kernel
theorem sq_Model_floodNow_120 : rn G mm_Model_floodNow 120 lv st S P ↔ rn G mm_Model_floodNow 129 lv st S P := rn_s dq_Model_floodNow_120 rfl rfl rfl
theorem dq_Model_floodNow_123 : decode (km_c mm_Model_floodNow) 123 = .ok (.aload_n 0, 1) := by decide +kernel
theorem sq_Model_floodNow_123 : rn G mm_Model_floodNow 123 [some (.ref z), a1, a2, a3, a4] st S P ↔ rn G mm_Model_floodNow 124 [some (.ref z), a1, a2, a3, a4] (.ref z :: st) S P := rn_s dq_Model_floodNow_123 rfl rfl rfl
theorem dq_Model_floodNow_124 : decode (km_c mm_Model_floodNow) 124 = .ok (.getfield 38, 3) := by decide +kernel
theorem sq_Model_floodNow_124_45 (ho : sx_o o pl kp) : rn (lt_G o L) mm_Model_floodNow 124 lv (.ref 45 :: st) (sx pl kp I A) P ↔ rn (lt_G o L) mm_Model_floodNow 127 lv (.ref 53 :: st) (sx pl kp I A) P := rx_get (h := "") (ci := 10) (k := 14) dq_Model_floodNow_124 (by decide +kernel) ho (up_b (by decide)) rfl rfl (fl_r (by decide) (by decide) (by decide) (by decide))
theorem dq_Model_floodNow_127 : decode (km_c mm_Model_floodNow) 127 = .ok (.iload_n 1, 1) := by decide +kernel
theorem sq_Model_floodNow_127 : rn G mm_Model_floodNow 127 [a0, some (.int x), a2, a3, a4] st S P ↔ rn G mm_Model_floodNow 128 [a0, some (.int x), a2, a3, a4] (.int x :: st) S P := rn_s dq_Model_floodNow_127 rfl rfl rfl
theorem dq_Model_floodNow_128 : decode (km_c mm_Model_floodNow) 128 = .ok (.iaload, 1) := by decide +kernel
theorem sq_Model_floodNow_128 (ho : sx_o o pl kp) (hk : ak L a = 0) (hu : sx_up pl kp a = true ∨ 1000 ≤ a) (hc : c < ln L a) (hn : ln L a < 2 ^ 31) : rn (lt_G o L) mm_Model_floodNow 128 lv (.int (nI c) :: .ref a :: st) (sx pl kp I A) P ↔ rn (lt_G o L) mm_Model_floodNow 129 lv (.int (A a c) :: st) (sx pl kp I A) P := rx_ild dq_Model_floodNow_128 ho hk hu hc hn
theorem dq_Model_floodNow_129 : decode (km_c mm_Model_floodNow) 129 = .ok (.iastore, 1) := by decide +kernel
theorem sq_Model_floodNow_129 (ho : sx_o o pl kp) (hk : ak L a = 0) (hu : sx_up pl kp a = true) (hc : c < ln L a) (hn : ln L a < 2 ^ 31) : rn (lt_G o L) mm_Model_floodNow 129 lv (.int x :: .int (nI c) :: .ref a :: st) (sx pl kp I A) P ↔ rn (lt_G o L) mm_Model_floodNow 130 lv st (sx pl kp I (u2 A a c x)) P := rx_ist dq_Model_floodNow_129 ho hk hu hc hn
theorem dq_Model_floodNow_130 : decode (km_c mm_Model_floodNow) 130 = .ok (.iinc 2 1, 3) := by decide +kernel
theorem sq_Model_floodNow_130n : rn G mm_Model_floodNow 130 [a0, none, some (.int x), a3, a4] st S P ↔ rn G mm_Model_floodNow 133 [a0, none, some (.int (x + nI 1)), a3, a4] st S P := rn_s dq_Model_floodNow_130 rfl rfl rfl
theorem sq_Model_floodNow_130i : rn G mm_Model_floodNow 130 [a0, some (.int x2), some (.int x), a3, a4] st S P ↔ rn G mm_Model_floodNow 133 [a0, some (.int x2), some (.int (x + nI 1)), a3, a4] st S P := rn_s dq_Model_floodNow_130 rfl rfl rfl
theorem sq_Model_floodNow_130r : rn G mm_Model_floodNow 130 [a0, some (.ref z2), some (.int x), a3, a4] st S P ↔ rn G mm_Model_floodNow 133 [a0, some (.ref z2), some (.int (x + nI 1)), a3, a4] st S P := rn_s dq_Model_floodNow_130 rfl rfl rfl
theorem dq_Model_floodNow_133 : decode (km_c mm_Model_floodNow) 133 = .ok (.goto (-108), 3) := by decide +kernel
theorem sq_Model_floodNow_133 : rn G mm_Model_floodNow 133 lv st S P ↔ rn G mm_Model_floodNow 25 lv st S P := rn_s dq_Model_floodNow_133 rfl rfl rfl
theorem dq_Model_floodNow_136 : decode (km_c mm_Model_floodNow) 136 = .ok (.iinc 1 1, 3) := by decide +kernel
theorem sq_Model_floodNow_136n : rn G mm_Model_floodNow 136 [none, some (.int x), a2, a3, a4] st S P ↔ rn G mm_Model_floodNow 139 [none, some (.int (x + nI 1)), a2, a3, a4] st S P := rn_s dq_Model_floodNow_136 rfl rfl rfl
theorem sq_Model_floodNow_136i : rn G mm_Model_floodNow 136 [some (.int x2), some (.int x), a2, a3, a4] st S P ↔ rn G mm_Model_floodNow 139 [some (.int x2), some (.int (x + nI 1)), a2, a3, a4] st S P := rn_s dq_Model_floodNow_136 rfl rfl rfl
theorem sq_Model_floodNow_136r : rn G mm_Model_floodNow 136 [some (.ref z2), some (.int x), a2, a3, a4] st S P ↔ rn G mm_Model_floodNow 139 [some (.ref z2), some (.int (x + nI 1)), a2, a3, a4] st S P := rn_s dq_Model_floodNow_136 rfl rfl rfl
theorem dq_Model_floodNow_139 : decode (km_c mm_Model_floodNow) 139 = .ok (.goto (-129), 3) := by decide +kernel
theorem sq_Model_floodNow_139 : rn G mm_Model_floodNow 139 lv st S P ↔ rn G mm_Model_floodNow 10 lv st S P := rn_s dq_Model_floodNow_139 rfl rfl rfl
theorem dq_Model_floodNow_142 : decode (km_c mm_Model_floodNow) 142 = .ok (.iconst 0, 1) := by decide +kernel
theorem sq_Model_floodNow_142 : rn G mm_Model_floodNow 142 lv st S P ↔ rn G mm_Model_floodNow 143 lv (.int (nI 0) :: st) S P := rn_s dq_Model_floodNow_142 rfl rfl rfl
theorem dq_Model_floodNow_143 : decode (km_c mm_Model_floodNow) 143 = .ok (.istore_n 1, 1) := by decide +kernel
theorem sq_Model_floodNow_143n : rn G mm_Model_floodNow 143 [none, a1, a2, a3, a4] (.int x :: st) S P ↔ rn G mm_Model_floodNow 144 [none, some (.int x), a2, a3, a4] st S P := rn_s dq_Model_floodNow_143 rfl rfl rfl
theorem sq_Model_floodNow_143i : rn G mm_Model_floodNow 143 [some (.int x2), a1, a2, a3, a4] (.int x :: st) S P ↔ rn G mm_Model_floodNow 144 [some (.int x2), some (.int x), a2, a3, a4] st S P := rn_s dq_Model_floodNow_143 rfl rfl rfl
theorem sq_Model_floodNow_143r : rn G mm_Model_floodNow 143 [some (.ref z2), a1, a2, a3, a4] (.int x :: st) S P ↔ rn G mm_Model_floodNow 144 [some (.ref z2), some (.int x), a2, a3, a4] st S P := rn_s dq_Model_floodNow_143 rfl rfl rfl
theorem dq_Model_floodNow_144 : decode (km_c mm_Model_floodNow) 144 = .ok (.iconst 0, 1) := by decide +kernel
theorem sq_Model_floodNow_144 : rn G mm_Model_floodNow 144 lv st S P ↔ rn G mm_Model_floodNow 145 lv (.int (nI 0) :: st) S P := rn_s dq_Model_floodNow_144 rfl rfl rfl
theorem dq_Model_floodNow_145 : decode (km_c mm_Model_floodNow) 145 = .ok (.istore_n 2, 1) := by decide +kernel
theorem sq_Model_floodNow_145n : rn G mm_Model_floodNow 145 [a0, none, a2, a3, a4] (.int x :: st) S P ↔ rn G mm_Model_floodNow 146 [a0, none, some (.int x), a3, a4] st S P := rn_s dq_Model_floodNow_145 rfl rfl rfl
theorem sq_Model_floodNow_145i : rn G mm_Model_floodNow 145 [a0, some (.int x2), a2, a3, a4] (.int x :: st) S P ↔ rn G mm_Model_floodNow 146 [a0, some (.int x2), some (.int x), a3, a4] st S P := rn_s dq_Model_floodNow_145 rfl rfl rfl
theorem sq_Model_floodNow_145r : rn G mm_Model_floodNow 145 [a0, some (.ref z2), a2, a3, a4] (.int x :: st) S P ↔ rn G mm_Model_floodNow 146 [a0, some (.ref z2), some (.int x), a3, a4] st S P := rn_s dq_Model_floodNow_145 rfl rfl rfl
theorem dq_Model_floodNow_146 : decode (km_c mm_Model_floodNow) 146 = .ok (.iload_n 2, 1) := by decide +kernel
theorem sq_Model_floodNow_146 : rn G mm_Model_floodNow 146 [a0, a1, some (.int x), a3, a4] st S P ↔ rn G mm_Model_floodNow 147 [a0, a1, some (.int x), a3, a4] (.int x :: st) S P := rn_s dq_Model_floodNow_146 rfl rfl rfl
theorem dq_Model_floodNow_147 : decode (km_c mm_Model_floodNow) 147 = .ok (.bipush 49, 2) := by decide +kernel
theorem sq_Model_floodNow_147 : rn G mm_Model_floodNow 147 lv st S P ↔ rn G mm_Model_floodNow 149 lv (.int (nI 49) :: st) S P := rn_s dq_Model_floodNow_147 rfl rfl rfl
theorem dq_Model_floodNow_149 : decode (km_c mm_Model_floodNow) 149 = .ok (.if_icmp .ge 71, 3) := by decide +kernel
theorem sq_Model_floodNow_149 : rn G mm_Model_floodNow 149 lv (.int x2 :: .int x :: st) S P ↔ ((x2 ≤ x → rn G mm_Model_floodNow 220 lv st S P) ∧ (¬ (x2 ≤ x) → rn G mm_Model_floodNow 152 lv st S P)) := rn_b (off := 71) dq_Model_floodNow_149 rfl rfl rfl rfl
theorem dq_Model_floodNow_152 : decode (km_c mm_Model_floodNow) 152 = .ok (.aload_n 0, 1) := by decide +kernel
theorem sq_Model_floodNow_152 : rn G mm_Model_floodNow 152 [some (.ref z), a1, a2, a3, a4] st S P ↔ rn G mm_Model_floodNow 153 [some (.ref z), a1, a2, a3, a4] (.ref z :: st) S P := rn_s dq_Model_floodNow_152 rfl rfl rfl
theorem dq_Model_floodNow_153 : decode (km_c mm_Model_floodNow) 153 = .ok (.getfield 38, 3) := by decide +kernel
theorem sq_Model_floodNow_153_45 (ho : sx_o o pl kp) : rn (lt_G o L) mm_Model_floodNow 153 lv (.ref 45 :: st) (sx pl kp I A) P ↔ rn (lt_G o L) mm_Model_floodNow 156 lv (.ref 53 :: st) (sx pl kp I A) P := rx_get (h := "") (ci := 10) (k := 14) dq_Model_floodNow_153 (by decide +kernel) ho (up_b (by decide)) rfl rfl (fl_r (by decide) (by decide) (by decide) (by decide))
theorem dq_Model_floodNow_156 : decode (km_c mm_Model_floodNow) 156 = .ok (.iload_n 2, 1) := by decide +kernel
theorem sq_Model_floodNow_156 : rn G mm_Model_floodNow 156 [a0, a1, some (.int x), a3, a4] st S P ↔ rn G mm_Model_floodNow 157 [a0, a1, some (.int x), a3, a4] (.int x :: st) S P := rn_s dq_Model_floodNow_156 rfl rfl rfl
theorem dq_Model_floodNow_157 : decode (km_c mm_Model_floodNow) 157 = .ok (.iaload, 1) := by decide +kernel
theorem sq_Model_floodNow_157 (ho : sx_o o pl kp) (hk : ak L a = 0) (hu : sx_up pl kp a = true ∨ 1000 ≤ a) (hc : c < ln L a) (hn : ln L a < 2 ^ 31) : rn (lt_G o L) mm_Model_floodNow 157 lv (.int (nI c) :: .ref a :: st) (sx pl kp I A) P ↔ rn (lt_G o L) mm_Model_floodNow 158 lv (.int (A a c) :: st) (sx pl kp I A) P := rx_ild dq_Model_floodNow_157 ho hk hu hc hn
theorem dq_Model_floodNow_158 : decode (km_c mm_Model_floodNow) 158 = .ok (.ifCond .lt 56, 3) := by decide +kernel
theorem sq_Model_floodNow_158 : rn G mm_Model_floodNow 158 lv (.int x :: st) S P ↔ ((x < 0 → rn G mm_Model_floodNow 214 lv st S P) ∧ (¬ (x < 0) → rn G mm_Model_floodNow 161 lv st S P)) := rn_b (off := 56) dq_Model_floodNow_158 rfl rfl rfl rfl
theorem dq_Model_floodNow_161 : decode (km_c mm_Model_floodNow) 161 = .ok (.aload_n 0, 1) := by decide +kernel
theorem sq_Model_floodNow_161 : rn G mm_Model_floodNow 161 [some (.ref z), a1, a2, a3, a4] st S P ↔ rn G mm_Model_floodNow 162 [some (.ref z), a1, a2, a3, a4] (.ref z :: st) S P := rn_s dq_Model_floodNow_161 rfl rfl rfl
theorem dq_Model_floodNow_162 : decode (km_c mm_Model_floodNow) 162 = .ok (.getfield 7, 3) := by decide +kernel
theorem sq_Model_floodNow_162_45 (ho : sx_o o pl kp) : rn (lt_G o L) mm_Model_floodNow 162 lv (.ref 45 :: st) (sx pl kp I A) P ↔ rn (lt_G o L) mm_Model_floodNow 165 lv (.ref 46 :: st) (sx pl kp I A) P := rx_get (h := "") (ci := 10) (k := 0) dq_Model_floodNow_162 (by decide +kernel) ho (up_b (by decide)) rfl rfl (fl_r (by decide) (by decide) (by decide) (by decide))
theorem dq_Model_floodNow_165 : decode (km_c mm_Model_floodNow) 165 = .ok (.bipush 49, 2) := by decide +kernel
theorem sq_Model_floodNow_165 : rn G mm_Model_floodNow 165 lv st S P ↔ rn G mm_Model_floodNow 167 lv (.int (nI 49) :: st) S P := rn_s dq_Model_floodNow_165 rfl rfl rfl
theorem dq_Model_floodNow_167 : decode (km_c mm_Model_floodNow) 167 = .ok (.aload_n 0, 1) := by decide +kernel
theorem sq_Model_floodNow_167 : rn G mm_Model_floodNow 167 [some (.ref z), a1, a2, a3, a4] st S P ↔ rn G mm_Model_floodNow 168 [some (.ref z), a1, a2, a3, a4] (.ref z :: st) S P := rn_s dq_Model_floodNow_167 rfl rfl rfl
theorem dq_Model_floodNow_168 : decode (km_c mm_Model_floodNow) 168 = .ok (.getfield 38, 3) := by decide +kernel
theorem sq_Model_floodNow_168_45 (ho : sx_o o pl kp) : rn (lt_G o L) mm_Model_floodNow 168 lv (.ref 45 :: st) (sx pl kp I A) P ↔ rn (lt_G o L) mm_Model_floodNow 171 lv (.ref 53 :: st) (sx pl kp I A) P := rx_get (h := "") (ci := 10) (k := 14) dq_Model_floodNow_168 (by decide +kernel) ho (up_b (by decide)) rfl rfl (fl_r (by decide) (by decide) (by decide) (by decide))
theorem dq_Model_floodNow_171 : decode (km_c mm_Model_floodNow) 171 = .ok (.iload_n 2, 1) := by decide +kernel
theorem sq_Model_floodNow_171 : rn G mm_Model_floodNow 171 [a0, a1, some (.int x), a3, a4] st S P ↔ rn G mm_Model_floodNow 172 [a0, a1, some (.int x), a3, a4] (.int x :: st) S P := rn_s dq_Model_floodNow_171 rfl rfl rfl
theorem dq_Model_floodNow_172 : decode (km_c mm_Model_floodNow) 172 = .ok (.iaload, 1) := by decide +kernel
theorem sq_Model_floodNow_172 (ho : sx_o o pl kp) (hk : ak L a = 0) (hu : sx_up pl kp a = true ∨ 1000 ≤ a) (hc : c < ln L a) (hn : ln L a < 2 ^ 31) : rn (lt_G o L) mm_Model_floodNow 172 lv (.int (nI c) :: .ref a :: st) (sx pl kp I A) P ↔ rn (lt_G o L) mm_Model_floodNow 173 lv (.int (A a c) :: st) (sx pl kp I A) P := rx_ild dq_Model_floodNow_172 ho hk hu hc hn
theorem dq_Model_floodNow_173 : decode (km_c mm_Model_floodNow) 173 = .ok (.iadd, 1) := by decide +kernel
theorem sq_Model_floodNow_173 : rn G mm_Model_floodNow 173 lv (.int x2 :: .int x :: st) S P ↔ rn G mm_Model_floodNow 174 lv (.int (x + x2) :: st) S P := rn_s dq_Model_floodNow_173 rfl rfl rfl
theorem dq_Model_floodNow_174 : decode (km_c mm_Model_floodNow) 174 = .ok (.iaload, 1) := by decide +kernel
theorem sq_Model_floodNow_174 (ho : sx_o o pl kp) (hk : ak L a = 0) (hu : sx_up pl kp a = true ∨ 1000 ≤ a) (hc : c < ln L a) (hn : ln L a < 2 ^ 31) : rn (lt_G o L) mm_Model_floodNow 174 lv (.int (nI c) :: .ref a :: st) (sx pl kp I A) P ↔ rn (lt_G o L) mm_Model_floodNow 175 lv (.int (A a c) :: st) (sx pl kp I A) P := rx_ild dq_Model_floodNow_174 ho hk hu hc hn
theorem dq_Model_floodNow_175 : decode (km_c mm_Model_floodNow) 175 = .ok (.bipush 9, 2) := by decide +kernel
theorem sq_Model_floodNow_175 : rn G mm_Model_floodNow 175 lv st S P ↔ rn G mm_Model_floodNow 177 lv (.int (nI 9) :: st) S P := rn_s dq_Model_floodNow_175 rfl rfl rfl
theorem dq_Model_floodNow_177 : decode (km_c mm_Model_floodNow) 177 = .ok (.if_icmp .ge 37, 3) := by decide +kernel
theorem sq_Model_floodNow_177 : rn G mm_Model_floodNow 177 lv (.int x2 :: .int x :: st) S P ↔ ((x2 ≤ x → rn G mm_Model_floodNow 214 lv st S P) ∧ (¬ (x2 ≤ x) → rn G mm_Model_floodNow 180 lv st S P)) := rn_b (off := 37) dq_Model_floodNow_177 rfl rfl rfl rfl
theorem dq_Model_floodNow_180 : decode (km_c mm_Model_floodNow) 180 = .ok (.aload_n 0, 1) := by decide +kernel
theorem sq_Model_floodNow_180 : rn G mm_Model_floodNow 180 [some (.ref z), a1, a2, a3, a4] st S P ↔ rn G mm_Model_floodNow 181 [some (.ref z), a1, a2, a3, a4] (.ref z :: st) S P := rn_s dq_Model_floodNow_180 rfl rfl rfl
theorem dq_Model_floodNow_181 : decode (km_c mm_Model_floodNow) 181 = .ok (.getfield 7, 3) := by decide +kernel
theorem sq_Model_floodNow_181_45 (ho : sx_o o pl kp) : rn (lt_G o L) mm_Model_floodNow 181 lv (.ref 45 :: st) (sx pl kp I A) P ↔ rn (lt_G o L) mm_Model_floodNow 184 lv (.ref 46 :: st) (sx pl kp I A) P := rx_get (h := "") (ci := 10) (k := 0) dq_Model_floodNow_181 (by decide +kernel) ho (up_b (by decide)) rfl rfl (fl_r (by decide) (by decide) (by decide) (by decide))
theorem dq_Model_floodNow_184 : decode (km_c mm_Model_floodNow) 184 = .ok (.bipush 49, 2) := by decide +kernel
theorem sq_Model_floodNow_184 : rn G mm_Model_floodNow 184 lv st S P ↔ rn G mm_Model_floodNow 186 lv (.int (nI 49) :: st) S P := rn_s dq_Model_floodNow_184 rfl rfl rfl
theorem dq_Model_floodNow_186 : decode (km_c mm_Model_floodNow) 186 = .ok (.iload_n 2, 1) := by decide +kernel
theorem sq_Model_floodNow_186 : rn G mm_Model_floodNow 186 [a0, a1, some (.int x), a3, a4] st S P ↔ rn G mm_Model_floodNow 187 [a0, a1, some (.int x), a3, a4] (.int x :: st) S P := rn_s dq_Model_floodNow_186 rfl rfl rfl
theorem dq_Model_floodNow_187 : decode (km_c mm_Model_floodNow) 187 = .ok (.iadd, 1) := by decide +kernel
theorem sq_Model_floodNow_187 : rn G mm_Model_floodNow 187 lv (.int x2 :: .int x :: st) S P ↔ rn G mm_Model_floodNow 188 lv (.int (x + x2) :: st) S P := rn_s dq_Model_floodNow_187 rfl rfl rfl
theorem dq_Model_floodNow_188 : decode (km_c mm_Model_floodNow) 188 = .ok (.dup2, 1) := by decide +kernel
theorem sq_Model_floodNow_188 : rn G mm_Model_floodNow 188 lv (.int x :: .ref z :: st) S P ↔ rn G mm_Model_floodNow 189 lv (.int x :: .ref z :: .int x :: .ref z :: st) S P := rn_s dq_Model_floodNow_188 rfl rfl rfl
theorem dq_Model_floodNow_189 : decode (km_c mm_Model_floodNow) 189 = .ok (.iaload, 1) := by decide +kernel
theorem sq_Model_floodNow_189 (ho : sx_o o pl kp) (hk : ak L a = 0) (hu : sx_up pl kp a = true ∨ 1000 ≤ a) (hc : c < ln L a) (hn : ln L a < 2 ^ 31) : rn (lt_G o L) mm_Model_floodNow 189 lv (.int (nI c) :: .ref a :: st) (sx pl kp I A) P ↔ rn (lt_G o L) mm_Model_floodNow 190 lv (.int (A a c) :: st) (sx pl kp I A) P := rx_ild dq_Model_floodNow_189 ho hk hu hc hn
theorem dq_Model_floodNow_190 : decode (km_c mm_Model_floodNow) 190 = .ok (.iconst 1, 1) := by decide +kernel
theorem sq_Model_floodNow_190 : rn G mm_Model_floodNow 190 lv st S P ↔ rn G mm_Model_floodNow 191 lv (.int (nI 1) :: st) S P := rn_s dq_Model_floodNow_190 rfl rfl rfl
theorem dq_Model_floodNow_191 : decode (km_c mm_Model_floodNow) 191 = .ok (.isub, 1) := by decide +kernel
theorem sq_Model_floodNow_191 : rn G mm_Model_floodNow 191 lv (.int x2 :: .int x :: st) S P ↔ rn G mm_Model_floodNow 192 lv (.int (x - x2) :: st) S P := rn_s dq_Model_floodNow_191 rfl rfl rfl
theorem dq_Model_floodNow_192 : decode (km_c mm_Model_floodNow) 192 = .ok (.iastore, 1) := by decide +kernel
theorem sq_Model_floodNow_192 (ho : sx_o o pl kp) (hk : ak L a = 0) (hu : sx_up pl kp a = true) (hc : c < ln L a) (hn : ln L a < 2 ^ 31) : rn (lt_G o L) mm_Model_floodNow 192 lv (.int x :: .int (nI c) :: .ref a :: st) (sx pl kp I A) P ↔ rn (lt_G o L) mm_Model_floodNow 193 lv st (sx pl kp I (u2 A a c x)) P := rx_ist dq_Model_floodNow_192 ho hk hu hc hn
theorem dq_Model_floodNow_193 : decode (km_c mm_Model_floodNow) 193 = .ok (.aload_n 0, 1) := by decide +kernel
theorem sq_Model_floodNow_193 : rn G mm_Model_floodNow 193 [some (.ref z), a1, a2, a3, a4] st S P ↔ rn G mm_Model_floodNow 194 [some (.ref z), a1, a2, a3, a4] (.ref z :: st) S P := rn_s dq_Model_floodNow_193 rfl rfl rfl
theorem dq_Model_floodNow_194 : decode (km_c mm_Model_floodNow) 194 = .ok (.getfield 7, 3) := by decide +kernel
theorem sq_Model_floodNow_194_45 (ho : sx_o o pl kp) : rn (lt_G o L) mm_Model_floodNow 194 lv (.ref 45 :: st) (sx pl kp I A) P ↔ rn (lt_G o L) mm_Model_floodNow 197 lv (.ref 46 :: st) (sx pl kp I A) P := rx_get (h := "") (ci := 10) (k := 0) dq_Model_floodNow_194 (by decide +kernel) ho (up_b (by decide)) rfl rfl (fl_r (by decide) (by decide) (by decide) (by decide))
theorem dq_Model_floodNow_197 : decode (km_c mm_Model_floodNow) 197 = .ok (.bipush 49, 2) := by decide +kernel
theorem sq_Model_floodNow_197 : rn G mm_Model_floodNow 197 lv st S P ↔ rn G mm_Model_floodNow 199 lv (.int (nI 49) :: st) S P := rn_s dq_Model_floodNow_197 rfl rfl rfl
theorem dq_Model_floodNow_199 : decode (km_c mm_Model_floodNow) 199 = .ok (.aload_n 0, 1) := by decide +kernel
theorem sq_Model_floodNow_199 : rn G mm_Model_floodNow 199 [some (.ref z), a1, a2, a3, a4] st S P ↔ rn G mm_Model_floodNow 200 [some (.ref z), a1, a2, a3, a4] (.ref z :: st) S P := rn_s dq_Model_floodNow_199 rfl rfl rfl
theorem dq_Model_floodNow_200 : decode (km_c mm_Model_floodNow) 200 = .ok (.getfield 38, 3) := by decide +kernel
theorem sq_Model_floodNow_200_45 (ho : sx_o o pl kp) : rn (lt_G o L) mm_Model_floodNow 200 lv (.ref 45 :: st) (sx pl kp I A) P ↔ rn (lt_G o L) mm_Model_floodNow 203 lv (.ref 53 :: st) (sx pl kp I A) P := rx_get (h := "") (ci := 10) (k := 14) dq_Model_floodNow_200 (by decide +kernel) ho (up_b (by decide)) rfl rfl (fl_r (by decide) (by decide) (by decide) (by decide))
theorem dq_Model_floodNow_203 : decode (km_c mm_Model_floodNow) 203 = .ok (.iload_n 2, 1) := by decide +kernel
theorem sq_Model_floodNow_203 : rn G mm_Model_floodNow 203 [a0, a1, some (.int x), a3, a4] st S P ↔ rn G mm_Model_floodNow 204 [a0, a1, some (.int x), a3, a4] (.int x :: st) S P := rn_s dq_Model_floodNow_203 rfl rfl rfl
theorem dq_Model_floodNow_204 : decode (km_c mm_Model_floodNow) 204 = .ok (.iaload, 1) := by decide +kernel
theorem sq_Model_floodNow_204 (ho : sx_o o pl kp) (hk : ak L a = 0) (hu : sx_up pl kp a = true ∨ 1000 ≤ a) (hc : c < ln L a) (hn : ln L a < 2 ^ 31) : rn (lt_G o L) mm_Model_floodNow 204 lv (.int (nI c) :: .ref a :: st) (sx pl kp I A) P ↔ rn (lt_G o L) mm_Model_floodNow 205 lv (.int (A a c) :: st) (sx pl kp I A) P := rx_ild dq_Model_floodNow_204 ho hk hu hc hn
theorem dq_Model_floodNow_205 : decode (km_c mm_Model_floodNow) 205 = .ok (.iadd, 1) := by decide +kernel
theorem sq_Model_floodNow_205 : rn G mm_Model_floodNow 205 lv (.int x2 :: .int x :: st) S P ↔ rn G mm_Model_floodNow 206 lv (.int (x + x2) :: st) S P := rn_s dq_Model_floodNow_205 rfl rfl rfl
theorem dq_Model_floodNow_206 : decode (km_c mm_Model_floodNow) 206 = .ok (.dup2, 1) := by decide +kernel
theorem sq_Model_floodNow_206 : rn G mm_Model_floodNow 206 lv (.int x :: .ref z :: st) S P ↔ rn G mm_Model_floodNow 207 lv (.int x :: .ref z :: .int x :: .ref z :: st) S P := rn_s dq_Model_floodNow_206 rfl rfl rfl
theorem dq_Model_floodNow_207 : decode (km_c mm_Model_floodNow) 207 = .ok (.iaload, 1) := by decide +kernel
theorem sq_Model_floodNow_207 (ho : sx_o o pl kp) (hk : ak L a = 0) (hu : sx_up pl kp a = true ∨ 1000 ≤ a) (hc : c < ln L a) (hn : ln L a < 2 ^ 31) : rn (lt_G o L) mm_Model_floodNow 207 lv (.int (nI c) :: .ref a :: st) (sx pl kp I A) P ↔ rn (lt_G o L) mm_Model_floodNow 208 lv (.int (A a c) :: st) (sx pl kp I A) P := rx_ild dq_Model_floodNow_207 ho hk hu hc hn
theorem dq_Model_floodNow_208 : decode (km_c mm_Model_floodNow) 208 = .ok (.iconst 1, 1) := by decide +kernel
theorem sq_Model_floodNow_208 : rn G mm_Model_floodNow 208 lv st S P ↔ rn G mm_Model_floodNow 209 lv (.int (nI 1) :: st) S P := rn_s dq_Model_floodNow_208 rfl rfl rfl
theorem dq_Model_floodNow_209 : decode (km_c mm_Model_floodNow) 209 = .ok (.iadd, 1) := by decide +kernel
theorem sq_Model_floodNow_209 : rn G mm_Model_floodNow 209 lv (.int x2 :: .int x :: st) S P ↔ rn G mm_Model_floodNow 210 lv (.int (x + x2) :: st) S P := rn_s dq_Model_floodNow_209 rfl rfl rfl
theorem dq_Model_floodNow_210 : decode (km_c mm_Model_floodNow) 210 = .ok (.iastore, 1) := by decide +kernel
theorem sq_Model_floodNow_210 (ho : sx_o o pl kp) (hk : ak L a = 0) (hu : sx_up pl kp a = true) (hc : c < ln L a) (hn : ln L a < 2 ^ 31) : rn (lt_G o L) mm_Model_floodNow 210 lv (.int x :: .int (nI c) :: .ref a :: st) (sx pl kp I A) P ↔ rn (lt_G o L) mm_Model_floodNow 211 lv st (sx pl kp I (u2 A a c x)) P := rx_ist dq_Model_floodNow_210 ho hk hu hc hn
theorem dq_Model_floodNow_211 : decode (km_c mm_Model_floodNow) 211 = .ok (.iinc 1 1, 3) := by decide +kernel
theorem sq_Model_floodNow_211n : rn G mm_Model_floodNow 211 [none, some (.int x), a2, a3, a4] st S P ↔ rn G mm_Model_floodNow 214 [none, some (.int (x + nI 1)), a2, a3, a4] st S P := rn_s dq_Model_floodNow_211 rfl rfl rfl
theorem sq_Model_floodNow_211i : rn G mm_Model_floodNow 211 [some (.int x2), some (.int x), a2, a3, a4] st S P ↔ rn G mm_Model_floodNow 214 [some (.int x2), some (.int (x + nI 1)), a2, a3, a4] st S P := rn_s dq_Model_floodNow_211 rfl rfl rfl
theorem sq_Model_floodNow_211r : rn G mm_Model_floodNow 211 [some (.ref z2), some (.int x), a2, a3, a4] st S P ↔ rn G mm_Model_floodNow 214 [some (.ref z2), some (.int (x + nI 1)), a2, a3, a4] st S P := rn_s dq_Model_floodNow_211 rfl rfl rfl
theorem dq_Model_floodNow_214 : decode (km_c mm_Model_floodNow) 214 = .ok (.iinc 2 1, 3) := by decide +kernel
theorem sq_Model_floodNow_214n : rn G mm_Model_floodNow 214 [a0, none, some (.int x), a3, a4] st S P ↔ rn G mm_Model_floodNow 217 [a0, none, some (.int (x + nI 1)), a3, a4] st S P := rn_s dq_Model_floodNow_214 rfl rfl rfl
theorem sq_Model_floodNow_214i : rn G mm_Model_floodNow 214 [a0, some (.int x2), some (.int x), a3, a4] st S P ↔ rn G mm_Model_floodNow 217 [a0, some (.int x2), some (.int (x + nI 1)), a3, a4] st S P := rn_s dq_Model_floodNow_214 rfl rfl rfl
theorem sq_Model_floodNow_214r : rn G mm_Model_floodNow 214 [a0, some (.ref z2), some (.int x), a3, a4] st S P ↔ rn G mm_Model_floodNow 217 [a0, some (.ref z2), some (.int (x + nI 1)), a3, a4] st S P := rn_s dq_Model_floodNow_214 rfl rfl rfl
theorem dq_Model_floodNow_217 : decode (km_c mm_Model_floodNow) 217 = .ok (.goto (-71), 3) := by decide +kernel
theorem sq_Model_floodNow_217 : rn G mm_Model_floodNow 217 lv st S P ↔ rn G mm_Model_floodNow 146 lv st S P := rn_s dq_Model_floodNow_217 rfl rfl rfl
theorem dq_Model_floodNow_220 : decode (km_c mm_Model_floodNow) 220 = .ok (.iload_n 1, 1) := by decide +kernel
theorem sq_Model_floodNow_220 : rn G mm_Model_floodNow 220 [a0, some (.int x), a2, a3, a4] st S P ↔ rn G mm_Model_floodNow 221 [a0, some (.int x), a2, a3, a4] (.int x :: st) S P := rn_s dq_Model_floodNow_220 rfl rfl rfl
theorem dq_Model_floodNow_221 : decode (km_c mm_Model_floodNow) 221 = .ok (.ireturn, 1) := by decide +kernel
theorem sq_Model_floodNow_221 : rn G mm_Model_floodNow 221 lv [.int x] S P ↔ P (some (.int x)) S := rn_ir dq_Model_floodNow_221 rfl
end SQ
