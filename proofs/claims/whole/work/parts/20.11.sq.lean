section SQ
variable {o pl kp : Bool} {L : Nat} {I A : Nat → Nat → Int32} {G : kg_G} {S : ks_S} {lv : List (Option Value)} {st : List Value} {P : Option Value → ks_S → Prop} {x x2 : Int32} {y y2 : Int64} {z z2 c a : Nat} {a0 a1 a2 a3 a4 a5 a6 a7 a8 a9 a10 a11 a12 a13 a14 a15 a16 a17 a18 a19 a20 a21 a22 a23 : Option Value}
theorem dq_Model_serves_0 : decode (km_c mm_Model_serves) 0 = .ok (.iconst 0, 1) := by decide +kernel
theorem sq_Model_serves_0 : rn G mm_Model_serves 0 lv st S P ↔ rn G mm_Model_serves 1 lv (.int (nI 0) :: st) S P := rn_s dq_Model_serves_0 rfl rfl rfl
theorem dq_Model_serves_1 : decode (km_c mm_Model_serves) 1 = .ok (.istore_n 2, 1) := by decide +kernel
theorem sq_Model_serves_1n : rn G mm_Model_serves 1 [a0, none, a2, a3] (.int x :: st) S P ↔ rn G mm_Model_serves 2 [a0, none, some (.int x), a3] st S P := rn_s dq_Model_serves_1 rfl rfl rfl
theorem sq_Model_serves_1i : rn G mm_Model_serves 1 [a0, some (.int x2), a2, a3] (.int x :: st) S P ↔ rn G mm_Model_serves 2 [a0, some (.int x2), some (.int x), a3] st S P := rn_s dq_Model_serves_1 rfl rfl rfl
theorem sq_Model_serves_1r : rn G mm_Model_serves 1 [a0, some (.ref z2), a2, a3] (.int x :: st) S P ↔ rn G mm_Model_serves 2 [a0, some (.ref z2), some (.int x), a3] st S P := rn_s dq_Model_serves_1 rfl rfl rfl
theorem dq_Model_serves_2 : decode (km_c mm_Model_serves) 2 = .ok (.iconst 0, 1) := by decide +kernel
theorem sq_Model_serves_2 : rn G mm_Model_serves 2 lv st S P ↔ rn G mm_Model_serves 3 lv (.int (nI 0) :: st) S P := rn_s dq_Model_serves_2 rfl rfl rfl
theorem dq_Model_serves_3 : decode (km_c mm_Model_serves) 3 = .ok (.istore_n 3, 1) := by decide +kernel
theorem sq_Model_serves_3n : rn G mm_Model_serves 3 [a0, a1, none, a3] (.int x :: st) S P ↔ rn G mm_Model_serves 4 [a0, a1, none, some (.int x)] st S P := rn_s dq_Model_serves_3 rfl rfl rfl
theorem sq_Model_serves_3i : rn G mm_Model_serves 3 [a0, a1, some (.int x2), a3] (.int x :: st) S P ↔ rn G mm_Model_serves 4 [a0, a1, some (.int x2), some (.int x)] st S P := rn_s dq_Model_serves_3 rfl rfl rfl
theorem sq_Model_serves_3r : rn G mm_Model_serves 3 [a0, a1, some (.ref z2), a3] (.int x :: st) S P ↔ rn G mm_Model_serves 4 [a0, a1, some (.ref z2), some (.int x)] st S P := rn_s dq_Model_serves_3 rfl rfl rfl
theorem dq_Model_serves_4 : decode (km_c mm_Model_serves) 4 = .ok (.iload_n 3, 1) := by decide +kernel
theorem sq_Model_serves_4 : rn G mm_Model_serves 4 [a0, a1, a2, some (.int x)] st S P ↔ rn G mm_Model_serves 5 [a0, a1, a2, some (.int x)] (.int x :: st) S P := rn_s dq_Model_serves_4 rfl rfl rfl
theorem dq_Model_serves_5 : decode (km_c mm_Model_serves) 5 = .ok (.aload_n 0, 1) := by decide +kernel
theorem sq_Model_serves_5 : rn G mm_Model_serves 5 [some (.ref z), a1, a2, a3] st S P ↔ rn G mm_Model_serves 6 [some (.ref z), a1, a2, a3] (.ref z :: st) S P := rn_s dq_Model_serves_5 rfl rfl rfl
theorem dq_Model_serves_6 : decode (km_c mm_Model_serves) 6 = .ok (.getfield 131, 3) := by decide +kernel
theorem sq_Model_serves_6_45 (ho : sx_o o pl kp) : rn (lt_G o L) mm_Model_serves 6 lv (.ref 45 :: st) (sx pl kp I A) P ↔ rn (lt_G o L) mm_Model_serves 9 lv (.int (I 45 4) :: st) (sx pl kp I A) P := rx_get (h := "") (ci := 10) (k := 4) dq_Model_serves_6 (by decide +kernel) ho (up_b (by decide)) rfl rfl (fl_i (by decide))
theorem dq_Model_serves_9 : decode (km_c mm_Model_serves) 9 = .ok (.if_icmp .ge 33, 3) := by decide +kernel
theorem sq_Model_serves_9 : rn G mm_Model_serves 9 lv (.int x2 :: .int x :: st) S P ↔ ((x2 ≤ x → rn G mm_Model_serves 42 lv st S P) ∧ (¬ (x2 ≤ x) → rn G mm_Model_serves 12 lv st S P)) := rn_b (off := 33) dq_Model_serves_9 rfl rfl rfl rfl
theorem dq_Model_serves_12 : decode (km_c mm_Model_serves) 12 = .ok (.iload_n 2, 1) := by decide +kernel
theorem sq_Model_serves_12 : rn G mm_Model_serves 12 [a0, a1, some (.int x), a3] st S P ↔ rn G mm_Model_serves 13 [a0, a1, some (.int x), a3] (.int x :: st) S P := rn_s dq_Model_serves_12 rfl rfl rfl
theorem dq_Model_serves_13 : decode (km_c mm_Model_serves) 13 = .ok (.iload_n 1, 1) := by decide +kernel
theorem sq_Model_serves_13 : rn G mm_Model_serves 13 [a0, some (.int x), a2, a3] st S P ↔ rn G mm_Model_serves 14 [a0, some (.int x), a2, a3] (.int x :: st) S P := rn_s dq_Model_serves_13 rfl rfl rfl
theorem dq_Model_serves_14 : decode (km_c mm_Model_serves) 14 = .ok (.aload_n 0, 1) := by decide +kernel
theorem sq_Model_serves_14 : rn G mm_Model_serves 14 [some (.ref z), a1, a2, a3] st S P ↔ rn G mm_Model_serves 15 [some (.ref z), a1, a2, a3] (.ref z :: st) S P := rn_s dq_Model_serves_14 rfl rfl rfl
theorem dq_Model_serves_15 : decode (km_c mm_Model_serves) 15 = .ok (.getfield 13, 3) := by decide +kernel
theorem sq_Model_serves_15_45 (ho : sx_o o pl kp) : rn (lt_G o L) mm_Model_serves 15 lv (.ref 45 :: st) (sx pl kp I A) P ↔ rn (lt_G o L) mm_Model_serves 18 lv (.ref 47 :: st) (sx pl kp I A) P := rx_get (h := "") (ci := 10) (k := 2) dq_Model_serves_15 (by decide +kernel) ho (up_b (by decide)) rfl rfl (fl_r (by decide) (by decide) (by decide) (by decide))
theorem dq_Model_serves_18 : decode (km_c mm_Model_serves) 18 = .ok (.iload_n 3, 1) := by decide +kernel
theorem sq_Model_serves_18 : rn G mm_Model_serves 18 [a0, a1, a2, some (.int x)] st S P ↔ rn G mm_Model_serves 19 [a0, a1, a2, some (.int x)] (.int x :: st) S P := rn_s dq_Model_serves_18 rfl rfl rfl
theorem dq_Model_serves_19 : decode (km_c mm_Model_serves) 19 = .ok (.iaload, 1) := by decide +kernel
theorem sq_Model_serves_19 (ho : sx_o o pl kp) (hk : ak L a = 0) (hu : sx_up pl kp a = true ∨ 1000 ≤ a) (hc : c < ln L a) (hn : ln L a < 2 ^ 31) : rn (lt_G o L) mm_Model_serves 19 lv (.int (nI c) :: .ref a :: st) (sx pl kp I A) P ↔ rn (lt_G o L) mm_Model_serves 20 lv (.int (A a c) :: st) (sx pl kp I A) P := rx_ild dq_Model_serves_19 ho hk hu hc hn
theorem dq_Model_serves_20 : decode (km_c mm_Model_serves) 20 = .ok (.invokestatic 189, 3) := by decide +kernel
theorem sq_Model_serves_20 {x1 : Int32} {x2 : Int32} {v : Option Value} {S2 : ks_S} (hc : ev G mm_Model_away [.int x1, .int x2] S v S2) (hst : kx_cat st ≤ 8) : rn G mm_Model_serves 20 lv (.int x2 :: .int x1 :: st) S P ↔ rn G mm_Model_serves 23 lv (v.toList ++ st) S2 P := rn_cs (k := 1) (host := "") (E' := mm_Model_away) dq_Model_serves_20 (by decide) (by decide) rfl (ok_v rfl (by decide) (by decide) (Nat.le_add_left _ _) hst (Nat.le_of_ble_eq_true rfl) (Or.inl rfl)) rfl rfl hc
theorem dq_Model_serves_23 : decode (km_c mm_Model_serves) 23 = .ok (.iconst 1, 1) := by decide +kernel
theorem sq_Model_serves_23 : rn G mm_Model_serves 23 lv st S P ↔ rn G mm_Model_serves 24 lv (.int (nI 1) :: st) S P := rn_s dq_Model_serves_23 rfl rfl rfl
theorem dq_Model_serves_24 : decode (km_c mm_Model_serves) 24 = .ok (.if_icmp .gt 9, 3) := by decide +kernel
theorem sq_Model_serves_24 : rn G mm_Model_serves 24 lv (.int x2 :: .int x :: st) S P ↔ ((x2 < x → rn G mm_Model_serves 33 lv st S P) ∧ (¬ (x2 < x) → rn G mm_Model_serves 27 lv st S P)) := rn_b (off := 9) dq_Model_serves_24 rfl rfl rfl rfl
theorem dq_Model_serves_27 : decode (km_c mm_Model_serves) 27 = .ok (.iconst 1, 1) := by decide +kernel
theorem sq_Model_serves_27 : rn G mm_Model_serves 27 lv st S P ↔ rn G mm_Model_serves 28 lv (.int (nI 1) :: st) S P := rn_s dq_Model_serves_27 rfl rfl rfl
theorem dq_Model_serves_28 : decode (km_c mm_Model_serves) 28 = .ok (.iload_n 3, 1) := by decide +kernel
theorem sq_Model_serves_28 : rn G mm_Model_serves 28 [a0, a1, a2, some (.int x)] st S P ↔ rn G mm_Model_serves 29 [a0, a1, a2, some (.int x)] (.int x :: st) S P := rn_s dq_Model_serves_28 rfl rfl rfl
theorem dq_Model_serves_29 : decode (km_c mm_Model_serves) 29 = .ok (.ishl, 1) := by decide +kernel
theorem sq_Model_serves_29 : rn G mm_Model_serves 29 lv (.int x2 :: .int x :: st) S P ↔ rn G mm_Model_serves 30 lv (.int (x <<< (x2 &&& 31)) :: st) S P := rn_s dq_Model_serves_29 rfl rfl rfl
theorem dq_Model_serves_30 : decode (km_c mm_Model_serves) 30 = .ok (.goto 4, 3) := by decide +kernel
theorem sq_Model_serves_30 : rn G mm_Model_serves 30 lv st S P ↔ rn G mm_Model_serves 34 lv st S P := rn_s dq_Model_serves_30 rfl rfl rfl
theorem dq_Model_serves_33 : decode (km_c mm_Model_serves) 33 = .ok (.iconst 0, 1) := by decide +kernel
theorem sq_Model_serves_33 : rn G mm_Model_serves 33 lv st S P ↔ rn G mm_Model_serves 34 lv (.int (nI 0) :: st) S P := rn_s dq_Model_serves_33 rfl rfl rfl
theorem dq_Model_serves_34 : decode (km_c mm_Model_serves) 34 = .ok (.ior, 1) := by decide +kernel
theorem sq_Model_serves_34 : rn G mm_Model_serves 34 lv (.int x2 :: .int x :: st) S P ↔ rn G mm_Model_serves 35 lv (.int (x ||| x2) :: st) S P := rn_s dq_Model_serves_34 rfl rfl rfl
theorem dq_Model_serves_35 : decode (km_c mm_Model_serves) 35 = .ok (.istore_n 2, 1) := by decide +kernel
theorem sq_Model_serves_35n : rn G mm_Model_serves 35 [a0, none, a2, a3] (.int x :: st) S P ↔ rn G mm_Model_serves 36 [a0, none, some (.int x), a3] st S P := rn_s dq_Model_serves_35 rfl rfl rfl
theorem sq_Model_serves_35i : rn G mm_Model_serves 35 [a0, some (.int x2), a2, a3] (.int x :: st) S P ↔ rn G mm_Model_serves 36 [a0, some (.int x2), some (.int x), a3] st S P := rn_s dq_Model_serves_35 rfl rfl rfl
theorem sq_Model_serves_35r : rn G mm_Model_serves 35 [a0, some (.ref z2), a2, a3] (.int x :: st) S P ↔ rn G mm_Model_serves 36 [a0, some (.ref z2), some (.int x), a3] st S P := rn_s dq_Model_serves_35 rfl rfl rfl
theorem dq_Model_serves_36 : decode (km_c mm_Model_serves) 36 = .ok (.iinc 3 1, 3) := by decide +kernel
theorem sq_Model_serves_36n : rn G mm_Model_serves 36 [a0, a1, none, some (.int x)] st S P ↔ rn G mm_Model_serves 39 [a0, a1, none, some (.int (x + nI 1))] st S P := rn_s dq_Model_serves_36 rfl rfl rfl
theorem sq_Model_serves_36i : rn G mm_Model_serves 36 [a0, a1, some (.int x2), some (.int x)] st S P ↔ rn G mm_Model_serves 39 [a0, a1, some (.int x2), some (.int (x + nI 1))] st S P := rn_s dq_Model_serves_36 rfl rfl rfl
theorem sq_Model_serves_36r : rn G mm_Model_serves 36 [a0, a1, some (.ref z2), some (.int x)] st S P ↔ rn G mm_Model_serves 39 [a0, a1, some (.ref z2), some (.int (x + nI 1))] st S P := rn_s dq_Model_serves_36 rfl rfl rfl
theorem dq_Model_serves_39 : decode (km_c mm_Model_serves) 39 = .ok (.goto (-35), 3) := by decide +kernel
theorem sq_Model_serves_39 : rn G mm_Model_serves 39 lv st S P ↔ rn G mm_Model_serves 4 lv st S P := rn_s dq_Model_serves_39 rfl rfl rfl
theorem dq_Model_serves_42 : decode (km_c mm_Model_serves) 42 = .ok (.iload_n 2, 1) := by decide +kernel
theorem sq_Model_serves_42 : rn G mm_Model_serves 42 [a0, a1, some (.int x), a3] st S P ↔ rn G mm_Model_serves 43 [a0, a1, some (.int x), a3] (.int x :: st) S P := rn_s dq_Model_serves_42 rfl rfl rfl
theorem dq_Model_serves_43 : decode (km_c mm_Model_serves) 43 = .ok (.ireturn, 1) := by decide +kernel
theorem sq_Model_serves_43 : rn G mm_Model_serves 43 lv [.int x] S P ↔ P (some (.int x)) S := rn_ir dq_Model_serves_43 rfl
theorem dq_Model_away_0 : decode (km_c mm_Model_away) 0 = .ok (.iload_n 0, 1) := by decide +kernel
theorem sq_Model_away_0 : rn G mm_Model_away 0 [some (.int x), a1, a2, a3] st S P ↔ rn G mm_Model_away 1 [some (.int x), a1, a2, a3] (.int x :: st) S P := rn_s dq_Model_away_0 rfl rfl rfl
theorem dq_Model_away_1 : decode (km_c mm_Model_away) 1 = .ok (.bipush 7, 2) := by decide +kernel
theorem sq_Model_away_1 : rn G mm_Model_away 1 lv st S P ↔ rn G mm_Model_away 3 lv (.int (nI 7) :: st) S P := rn_s dq_Model_away_1 rfl rfl rfl
theorem dq_Model_away_3 : decode (km_c mm_Model_away) 3 = .ok (.idiv, 1) := by decide +kernel
theorem sq_Model_away_3 (hz : ¬ x2 = 0) : rn G mm_Model_away 3 lv (.int x2 :: .int x :: st) S P ↔ rn G mm_Model_away 4 lv (.int (x / x2) :: st) S P := rn_s dq_Model_away_3 rfl rfl (if_neg hz)
theorem dq_Model_away_4 : decode (km_c mm_Model_away) 4 = .ok (.iload_n 1, 1) := by decide +kernel
theorem sq_Model_away_4 : rn G mm_Model_away 4 [a0, some (.int x), a2, a3] st S P ↔ rn G mm_Model_away 5 [a0, some (.int x), a2, a3] (.int x :: st) S P := rn_s dq_Model_away_4 rfl rfl rfl
theorem dq_Model_away_5 : decode (km_c mm_Model_away) 5 = .ok (.bipush 7, 2) := by decide +kernel
theorem sq_Model_away_5 : rn G mm_Model_away 5 lv st S P ↔ rn G mm_Model_away 7 lv (.int (nI 7) :: st) S P := rn_s dq_Model_away_5 rfl rfl rfl
theorem dq_Model_away_7 : decode (km_c mm_Model_away) 7 = .ok (.idiv, 1) := by decide +kernel
theorem sq_Model_away_7 (hz : ¬ x2 = 0) : rn G mm_Model_away 7 lv (.int x2 :: .int x :: st) S P ↔ rn G mm_Model_away 8 lv (.int (x / x2) :: st) S P := rn_s dq_Model_away_7 rfl rfl (if_neg hz)
theorem dq_Model_away_8 : decode (km_c mm_Model_away) 8 = .ok (.isub, 1) := by decide +kernel
theorem sq_Model_away_8 : rn G mm_Model_away 8 lv (.int x2 :: .int x :: st) S P ↔ rn G mm_Model_away 9 lv (.int (x - x2) :: st) S P := rn_s dq_Model_away_8 rfl rfl rfl
theorem dq_Model_away_9 : decode (km_c mm_Model_away) 9 = .ok (.istore_n 2, 1) := by decide +kernel
theorem sq_Model_away_9n : rn G mm_Model_away 9 [a0, none, a2, a3] (.int x :: st) S P ↔ rn G mm_Model_away 10 [a0, none, some (.int x), a3] st S P := rn_s dq_Model_away_9 rfl rfl rfl
theorem sq_Model_away_9i : rn G mm_Model_away 9 [a0, some (.int x2), a2, a3] (.int x :: st) S P ↔ rn G mm_Model_away 10 [a0, some (.int x2), some (.int x), a3] st S P := rn_s dq_Model_away_9 rfl rfl rfl
theorem sq_Model_away_9r : rn G mm_Model_away 9 [a0, some (.ref z2), a2, a3] (.int x :: st) S P ↔ rn G mm_Model_away 10 [a0, some (.ref z2), some (.int x), a3] st S P := rn_s dq_Model_away_9 rfl rfl rfl
theorem dq_Model_away_10 : decode (km_c mm_Model_away) 10 = .ok (.iload_n 0, 1) := by decide +kernel
theorem sq_Model_away_10 : rn G mm_Model_away 10 [some (.int x), a1, a2, a3] st S P ↔ rn G mm_Model_away 11 [some (.int x), a1, a2, a3] (.int x :: st) S P := rn_s dq_Model_away_10 rfl rfl rfl
theorem dq_Model_away_11 : decode (km_c mm_Model_away) 11 = .ok (.bipush 7, 2) := by decide +kernel
theorem sq_Model_away_11 : rn G mm_Model_away 11 lv st S P ↔ rn G mm_Model_away 13 lv (.int (nI 7) :: st) S P := rn_s dq_Model_away_11 rfl rfl rfl
theorem dq_Model_away_13 : decode (km_c mm_Model_away) 13 = .ok (.irem, 1) := by decide +kernel
theorem sq_Model_away_13 (hz : ¬ x2 = 0) : rn G mm_Model_away 13 lv (.int x2 :: .int x :: st) S P ↔ rn G mm_Model_away 14 lv (.int (x - x / x2 * x2) :: st) S P := rn_s dq_Model_away_13 rfl rfl (if_neg hz)
theorem dq_Model_away_14 : decode (km_c mm_Model_away) 14 = .ok (.iload_n 1, 1) := by decide +kernel
theorem sq_Model_away_14 : rn G mm_Model_away 14 [a0, some (.int x), a2, a3] st S P ↔ rn G mm_Model_away 15 [a0, some (.int x), a2, a3] (.int x :: st) S P := rn_s dq_Model_away_14 rfl rfl rfl
theorem dq_Model_away_15 : decode (km_c mm_Model_away) 15 = .ok (.bipush 7, 2) := by decide +kernel
theorem sq_Model_away_15 : rn G mm_Model_away 15 lv st S P ↔ rn G mm_Model_away 17 lv (.int (nI 7) :: st) S P := rn_s dq_Model_away_15 rfl rfl rfl
theorem dq_Model_away_17 : decode (km_c mm_Model_away) 17 = .ok (.irem, 1) := by decide +kernel
theorem sq_Model_away_17 (hz : ¬ x2 = 0) : rn G mm_Model_away 17 lv (.int x2 :: .int x :: st) S P ↔ rn G mm_Model_away 18 lv (.int (x - x / x2 * x2) :: st) S P := rn_s dq_Model_away_17 rfl rfl (if_neg hz)
theorem dq_Model_away_18 : decode (km_c mm_Model_away) 18 = .ok (.isub, 1) := by decide +kernel
theorem sq_Model_away_18 : rn G mm_Model_away 18 lv (.int x2 :: .int x :: st) S P ↔ rn G mm_Model_away 19 lv (.int (x - x2) :: st) S P := rn_s dq_Model_away_18 rfl rfl rfl
theorem dq_Model_away_19 : decode (km_c mm_Model_away) 19 = .ok (.istore_n 3, 1) := by decide +kernel
theorem sq_Model_away_19n : rn G mm_Model_away 19 [a0, a1, none, a3] (.int x :: st) S P ↔ rn G mm_Model_away 20 [a0, a1, none, some (.int x)] st S P := rn_s dq_Model_away_19 rfl rfl rfl
theorem sq_Model_away_19i : rn G mm_Model_away 19 [a0, a1, some (.int x2), a3] (.int x :: st) S P ↔ rn G mm_Model_away 20 [a0, a1, some (.int x2), some (.int x)] st S P := rn_s dq_Model_away_19 rfl rfl rfl
theorem sq_Model_away_19r : rn G mm_Model_away 19 [a0, a1, some (.ref z2), a3] (.int x :: st) S P ↔ rn G mm_Model_away 20 [a0, a1, some (.ref z2), some (.int x)] st S P := rn_s dq_Model_away_19 rfl rfl rfl
theorem dq_Model_away_20 : decode (km_c mm_Model_away) 20 = .ok (.iload_n 2, 1) := by decide +kernel
theorem sq_Model_away_20 : rn G mm_Model_away 20 [a0, a1, some (.int x), a3] st S P ↔ rn G mm_Model_away 21 [a0, a1, some (.int x), a3] (.int x :: st) S P := rn_s dq_Model_away_20 rfl rfl rfl
theorem dq_Model_away_21 : decode (km_c mm_Model_away) 21 = .ok (.ifCond .ge 8, 3) := by decide +kernel
theorem sq_Model_away_21 : rn G mm_Model_away 21 lv (.int x :: st) S P ↔ ((0 ≤ x → rn G mm_Model_away 29 lv st S P) ∧ (¬ (0 ≤ x) → rn G mm_Model_away 24 lv st S P)) := rn_b (off := 8) dq_Model_away_21 rfl rfl rfl rfl
theorem dq_Model_away_24 : decode (km_c mm_Model_away) 24 = .ok (.iload_n 2, 1) := by decide +kernel
theorem sq_Model_away_24 : rn G mm_Model_away 24 [a0, a1, some (.int x), a3] st S P ↔ rn G mm_Model_away 25 [a0, a1, some (.int x), a3] (.int x :: st) S P := rn_s dq_Model_away_24 rfl rfl rfl
theorem dq_Model_away_25 : decode (km_c mm_Model_away) 25 = .ok (.ineg, 1) := by decide +kernel
theorem sq_Model_away_25 : rn G mm_Model_away 25 lv (.int x :: st) S P ↔ rn G mm_Model_away 26 lv (.int (-x) :: st) S P := rn_s dq_Model_away_25 rfl rfl rfl
theorem dq_Model_away_26 : decode (km_c mm_Model_away) 26 = .ok (.goto 4, 3) := by decide +kernel
theorem sq_Model_away_26 : rn G mm_Model_away 26 lv st S P ↔ rn G mm_Model_away 30 lv st S P := rn_s dq_Model_away_26 rfl rfl rfl
theorem dq_Model_away_29 : decode (km_c mm_Model_away) 29 = .ok (.iload_n 2, 1) := by decide +kernel
theorem sq_Model_away_29 : rn G mm_Model_away 29 [a0, a1, some (.int x), a3] st S P ↔ rn G mm_Model_away 30 [a0, a1, some (.int x), a3] (.int x :: st) S P := rn_s dq_Model_away_29 rfl rfl rfl
theorem dq_Model_away_30 : decode (km_c mm_Model_away) 30 = .ok (.istore_n 2, 1) := by decide +kernel
theorem sq_Model_away_30n : rn G mm_Model_away 30 [a0, none, a2, a3] (.int x :: st) S P ↔ rn G mm_Model_away 31 [a0, none, some (.int x), a3] st S P := rn_s dq_Model_away_30 rfl rfl rfl
theorem sq_Model_away_30i : rn G mm_Model_away 30 [a0, some (.int x2), a2, a3] (.int x :: st) S P ↔ rn G mm_Model_away 31 [a0, some (.int x2), some (.int x), a3] st S P := rn_s dq_Model_away_30 rfl rfl rfl
theorem sq_Model_away_30r : rn G mm_Model_away 30 [a0, some (.ref z2), a2, a3] (.int x :: st) S P ↔ rn G mm_Model_away 31 [a0, some (.ref z2), some (.int x), a3] st S P := rn_s dq_Model_away_30 rfl rfl rfl
theorem dq_Model_away_31 : decode (km_c mm_Model_away) 31 = .ok (.iload_n 3, 1) := by decide +kernel
theorem sq_Model_away_31 : rn G mm_Model_away 31 [a0, a1, a2, some (.int x)] st S P ↔ rn G mm_Model_away 32 [a0, a1, a2, some (.int x)] (.int x :: st) S P := rn_s dq_Model_away_31 rfl rfl rfl
theorem dq_Model_away_32 : decode (km_c mm_Model_away) 32 = .ok (.ifCond .ge 8, 3) := by decide +kernel
theorem sq_Model_away_32 : rn G mm_Model_away 32 lv (.int x :: st) S P ↔ ((0 ≤ x → rn G mm_Model_away 40 lv st S P) ∧ (¬ (0 ≤ x) → rn G mm_Model_away 35 lv st S P)) := rn_b (off := 8) dq_Model_away_32 rfl rfl rfl rfl
theorem dq_Model_away_35 : decode (km_c mm_Model_away) 35 = .ok (.iload_n 3, 1) := by decide +kernel
theorem sq_Model_away_35 : rn G mm_Model_away 35 [a0, a1, a2, some (.int x)] st S P ↔ rn G mm_Model_away 36 [a0, a1, a2, some (.int x)] (.int x :: st) S P := rn_s dq_Model_away_35 rfl rfl rfl
theorem dq_Model_away_36 : decode (km_c mm_Model_away) 36 = .ok (.ineg, 1) := by decide +kernel
theorem sq_Model_away_36 : rn G mm_Model_away 36 lv (.int x :: st) S P ↔ rn G mm_Model_away 37 lv (.int (-x) :: st) S P := rn_s dq_Model_away_36 rfl rfl rfl
theorem dq_Model_away_37 : decode (km_c mm_Model_away) 37 = .ok (.goto 4, 3) := by decide +kernel
theorem sq_Model_away_37 : rn G mm_Model_away 37 lv st S P ↔ rn G mm_Model_away 41 lv st S P := rn_s dq_Model_away_37 rfl rfl rfl
theorem dq_Model_away_40 : decode (km_c mm_Model_away) 40 = .ok (.iload_n 3, 1) := by decide +kernel
theorem sq_Model_away_40 : rn G mm_Model_away 40 [a0, a1, a2, some (.int x)] st S P ↔ rn G mm_Model_away 41 [a0, a1, a2, some (.int x)] (.int x :: st) S P := rn_s dq_Model_away_40 rfl rfl rfl
theorem dq_Model_away_41 : decode (km_c mm_Model_away) 41 = .ok (.istore_n 3, 1) := by decide +kernel
theorem sq_Model_away_41n : rn G mm_Model_away 41 [a0, a1, none, a3] (.int x :: st) S P ↔ rn G mm_Model_away 42 [a0, a1, none, some (.int x)] st S P := rn_s dq_Model_away_41 rfl rfl rfl
theorem sq_Model_away_41i : rn G mm_Model_away 41 [a0, a1, some (.int x2), a3] (.int x :: st) S P ↔ rn G mm_Model_away 42 [a0, a1, some (.int x2), some (.int x)] st S P := rn_s dq_Model_away_41 rfl rfl rfl
theorem sq_Model_away_41r : rn G mm_Model_away 41 [a0, a1, some (.ref z2), a3] (.int x :: st) S P ↔ rn G mm_Model_away 42 [a0, a1, some (.ref z2), some (.int x)] st S P := rn_s dq_Model_away_41 rfl rfl rfl
theorem dq_Model_away_42 : decode (km_c mm_Model_away) 42 = .ok (.iload_n 2, 1) := by decide +kernel
theorem sq_Model_away_42 : rn G mm_Model_away 42 [a0, a1, some (.int x), a3] st S P ↔ rn G mm_Model_away 43 [a0, a1, some (.int x), a3] (.int x :: st) S P := rn_s dq_Model_away_42 rfl rfl rfl
theorem dq_Model_away_43 : decode (km_c mm_Model_away) 43 = .ok (.iload_n 3, 1) := by decide +kernel
theorem sq_Model_away_43 : rn G mm_Model_away 43 [a0, a1, a2, some (.int x)] st S P ↔ rn G mm_Model_away 44 [a0, a1, a2, some (.int x)] (.int x :: st) S P := rn_s dq_Model_away_43 rfl rfl rfl
theorem dq_Model_away_44 : decode (km_c mm_Model_away) 44 = .ok (.if_icmp .le 7, 3) := by decide +kernel
theorem sq_Model_away_44 : rn G mm_Model_away 44 lv (.int x2 :: .int x :: st) S P ↔ ((x ≤ x2 → rn G mm_Model_away 51 lv st S P) ∧ (¬ (x ≤ x2) → rn G mm_Model_away 47 lv st S P)) := rn_b (off := 7) dq_Model_away_44 rfl rfl rfl rfl
theorem dq_Model_away_47 : decode (km_c mm_Model_away) 47 = .ok (.iload_n 2, 1) := by decide +kernel
theorem sq_Model_away_47 : rn G mm_Model_away 47 [a0, a1, some (.int x), a3] st S P ↔ rn G mm_Model_away 48 [a0, a1, some (.int x), a3] (.int x :: st) S P := rn_s dq_Model_away_47 rfl rfl rfl
theorem dq_Model_away_48 : decode (km_c mm_Model_away) 48 = .ok (.goto 4, 3) := by decide +kernel
theorem sq_Model_away_48 : rn G mm_Model_away 48 lv st S P ↔ rn G mm_Model_away 52 lv st S P := rn_s dq_Model_away_48 rfl rfl rfl
theorem dq_Model_away_51 : decode (km_c mm_Model_away) 51 = .ok (.iload_n 3, 1) := by decide +kernel
theorem sq_Model_away_51 : rn G mm_Model_away 51 [a0, a1, a2, some (.int x)] st S P ↔ rn G mm_Model_away 52 [a0, a1, a2, some (.int x)] (.int x :: st) S P := rn_s dq_Model_away_51 rfl rfl rfl
theorem dq_Model_away_52 : decode (km_c mm_Model_away) 52 = .ok (.ireturn, 1) := by decide +kernel
theorem sq_Model_away_52 : rn G mm_Model_away 52 lv [.int x] S P ↔ P (some (.int x)) S := rn_ir dq_Model_away_52 rfl
theorem dq_Model_findCome_0 : decode (km_c mm_Model_findCome) 0 = .ok (.iconst 0, 1) := by decide +kernel
theorem sq_Model_findCome_0 : rn G mm_Model_findCome 0 lv st S P ↔ rn G mm_Model_findCome 1 lv (.int (nI 0) :: st) S P := rn_s dq_Model_findCome_0 rfl rfl rfl
theorem dq_Model_findCome_1 : decode (km_c mm_Model_findCome) 1 = .ok (.istore_n 1, 1) := by decide +kernel
theorem sq_Model_findCome_1n : rn G mm_Model_findCome 1 [none, a1, a2, a3, a4, a5, a6] (.int x :: st) S P ↔ rn G mm_Model_findCome 2 [none, some (.int x), a2, a3, a4, a5, a6] st S P := rn_s dq_Model_findCome_1 rfl rfl rfl
theorem sq_Model_findCome_1i : rn G mm_Model_findCome 1 [some (.int x2), a1, a2, a3, a4, a5, a6] (.int x :: st) S P ↔ rn G mm_Model_findCome 2 [some (.int x2), some (.int x), a2, a3, a4, a5, a6] st S P := rn_s dq_Model_findCome_1 rfl rfl rfl
theorem sq_Model_findCome_1r : rn G mm_Model_findCome 1 [some (.ref z2), a1, a2, a3, a4, a5, a6] (.int x :: st) S P ↔ rn G mm_Model_findCome 2 [some (.ref z2), some (.int x), a2, a3, a4, a5, a6] st S P := rn_s dq_Model_findCome_1 rfl rfl rfl
theorem dq_Model_findCome_2 : decode (km_c mm_Model_findCome) 2 = .ok (.iload_n 1, 1) := by decide +kernel
theorem sq_Model_findCome_2 : rn G mm_Model_findCome 2 [a0, some (.int x), a2, a3, a4, a5, a6] st S P ↔ rn G mm_Model_findCome 3 [a0, some (.int x), a2, a3, a4, a5, a6] (.int x :: st) S P := rn_s dq_Model_findCome_2 rfl rfl rfl
theorem dq_Model_findCome_3 : decode (km_c mm_Model_findCome) 3 = .ok (.sipush 3136, 3) := by decide +kernel
theorem sq_Model_findCome_3 : rn G mm_Model_findCome 3 lv st S P ↔ rn G mm_Model_findCome 6 lv (.int (nI 3136) :: st) S P := rn_s dq_Model_findCome_3 rfl rfl rfl
theorem dq_Model_findCome_6 : decode (km_c mm_Model_findCome) 6 = .ok (.if_icmp .ge 17, 3) := by decide +kernel
theorem sq_Model_findCome_6 : rn G mm_Model_findCome 6 lv (.int x2 :: .int x :: st) S P ↔ ((x2 ≤ x → rn G mm_Model_findCome 23 lv st S P) ∧ (¬ (x2 ≤ x) → rn G mm_Model_findCome 9 lv st S P)) := rn_b (off := 17) dq_Model_findCome_6 rfl rfl rfl rfl
theorem dq_Model_findCome_9 : decode (km_c mm_Model_findCome) 9 = .ok (.aload_n 0, 1) := by decide +kernel
theorem sq_Model_findCome_9 : rn G mm_Model_findCome 9 [some (.ref z), a1, a2, a3, a4, a5, a6] st S P ↔ rn G mm_Model_findCome 10 [some (.ref z), a1, a2, a3, a4, a5, a6] (.ref z :: st) S P := rn_s dq_Model_findCome_9 rfl rfl rfl
theorem dq_Model_findCome_10 : decode (km_c mm_Model_findCome) 10 = .ok (.getfield 53, 3) := by decide +kernel
theorem sq_Model_findCome_10_45 (ho : sx_o o pl kp) : rn (lt_G o L) mm_Model_findCome 10 lv (.ref 45 :: st) (sx pl kp I A) P ↔ rn (lt_G o L) mm_Model_findCome 13 lv (.ref 58 :: st) (sx pl kp I A) P := rx_get (h := "") (ci := 10) (k := 22) dq_Model_findCome_10 (by decide +kernel) ho (up_b (by decide)) rfl rfl (fl_r (by decide) (by decide) (by decide) (by decide))
theorem dq_Model_findCome_13 : decode (km_c mm_Model_findCome) 13 = .ok (.iload_n 1, 1) := by decide +kernel
theorem sq_Model_findCome_13 : rn G mm_Model_findCome 13 [a0, some (.int x), a2, a3, a4, a5, a6] st S P ↔ rn G mm_Model_findCome 14 [a0, some (.int x), a2, a3, a4, a5, a6] (.int x :: st) S P := rn_s dq_Model_findCome_13 rfl rfl rfl
theorem dq_Model_findCome_14 : decode (km_c mm_Model_findCome) 14 = .ok (.ldc 195, 2) := by decide +kernel
theorem sq_Model_findCome_14 : rn G mm_Model_findCome 14 lv st S P ↔ rn G mm_Model_findCome 16 lv (.int (nI 1000000000) :: st) S P := rn_s dq_Model_findCome_14 rfl rfl rfl
theorem dq_Model_findCome_16 : decode (km_c mm_Model_findCome) 16 = .ok (.iastore, 1) := by decide +kernel
theorem sq_Model_findCome_16 (ho : sx_o o pl kp) (hk : ak L a = 0) (hu : sx_up pl kp a = true) (hc : c < ln L a) (hn : ln L a < 2 ^ 31) : rn (lt_G o L) mm_Model_findCome 16 lv (.int x :: .int (nI c) :: .ref a :: st) (sx pl kp I A) P ↔ rn (lt_G o L) mm_Model_findCome 17 lv st (sx pl kp I (u2 A a c x)) P := rx_ist dq_Model_findCome_16 ho hk hu hc hn
theorem dq_Model_findCome_17 : decode (km_c mm_Model_findCome) 17 = .ok (.iinc 1 1, 3) := by decide +kernel
theorem sq_Model_findCome_17n : rn G mm_Model_findCome 17 [none, some (.int x), a2, a3, a4, a5, a6] st S P ↔ rn G mm_Model_findCome 20 [none, some (.int (x + nI 1)), a2, a3, a4, a5, a6] st S P := rn_s dq_Model_findCome_17 rfl rfl rfl
theorem sq_Model_findCome_17i : rn G mm_Model_findCome 17 [some (.int x2), some (.int x), a2, a3, a4, a5, a6] st S P ↔ rn G mm_Model_findCome 20 [some (.int x2), some (.int (x + nI 1)), a2, a3, a4, a5, a6] st S P := rn_s dq_Model_findCome_17 rfl rfl rfl
theorem sq_Model_findCome_17r : rn G mm_Model_findCome 17 [some (.ref z2), some (.int x), a2, a3, a4, a5, a6] st S P ↔ rn G mm_Model_findCome 20 [some (.ref z2), some (.int (x + nI 1)), a2, a3, a4, a5, a6] st S P := rn_s dq_Model_findCome_17 rfl rfl rfl
theorem dq_Model_findCome_20 : decode (km_c mm_Model_findCome) 20 = .ok (.goto (-18), 3) := by decide +kernel
theorem sq_Model_findCome_20 : rn G mm_Model_findCome 20 lv st S P ↔ rn G mm_Model_findCome 2 lv st S P := rn_s dq_Model_findCome_20 rfl rfl rfl
theorem dq_Model_findCome_23 : decode (km_c mm_Model_findCome) 23 = .ok (.aload_n 0, 1) := by decide +kernel
theorem sq_Model_findCome_23 : rn G mm_Model_findCome 23 [some (.ref z), a1, a2, a3, a4, a5, a6] st S P ↔ rn G mm_Model_findCome 24 [some (.ref z), a1, a2, a3, a4, a5, a6] (.ref z :: st) S P := rn_s dq_Model_findCome_23 rfl rfl rfl
theorem dq_Model_findCome_24 : decode (km_c mm_Model_findCome) 24 = .ok (.getfield 53, 3) := by decide +kernel
theorem sq_Model_findCome_24_45 (ho : sx_o o pl kp) : rn (lt_G o L) mm_Model_findCome 24 lv (.ref 45 :: st) (sx pl kp I A) P ↔ rn (lt_G o L) mm_Model_findCome 27 lv (.ref 58 :: st) (sx pl kp I A) P := rx_get (h := "") (ci := 10) (k := 22) dq_Model_findCome_24 (by decide +kernel) ho (up_b (by decide)) rfl rfl (fl_r (by decide) (by decide) (by decide) (by decide))
theorem dq_Model_findCome_27 : decode (km_c mm_Model_findCome) 27 = .ok (.bipush 64, 2) := by decide +kernel
theorem sq_Model_findCome_27 : rn G mm_Model_findCome 27 lv st S P ↔ rn G mm_Model_findCome 29 lv (.int (nI 64) :: st) S P := rn_s dq_Model_findCome_27 rfl rfl rfl
theorem dq_Model_findCome_29 : decode (km_c mm_Model_findCome) 29 = .ok (.aload_n 0, 1) := by decide +kernel
theorem sq_Model_findCome_29 : rn G mm_Model_findCome 29 [some (.ref z), a1, a2, a3, a4, a5, a6] st S P ↔ rn G mm_Model_findCome 30 [some (.ref z), a1, a2, a3, a4, a5, a6] (.ref z :: st) S P := rn_s dq_Model_findCome_29 rfl rfl rfl
theorem dq_Model_findCome_30 : decode (km_c mm_Model_findCome) 30 = .ok (.getfield 186, 3) := by decide +kernel
theorem sq_Model_findCome_30_45 (ho : sx_o o pl kp) : rn (lt_G o L) mm_Model_findCome 30 lv (.ref 45 :: st) (sx pl kp I A) P ↔ rn (lt_G o L) mm_Model_findCome 33 lv (.int (I 45 5) :: st) (sx pl kp I A) P := rx_get (h := "") (ci := 10) (k := 5) dq_Model_findCome_30 (by decide +kernel) ho (up_b (by decide)) rfl rfl (fl_i (by decide))
theorem dq_Model_findCome_33 : decode (km_c mm_Model_findCome) 33 = .ok (.imul, 1) := by decide +kernel
theorem sq_Model_findCome_33 : rn G mm_Model_findCome 33 lv (.int x2 :: .int x :: st) S P ↔ rn G mm_Model_findCome 34 lv (.int (x * x2) :: st) S P := rn_s dq_Model_findCome_33 rfl rfl rfl
theorem dq_Model_findCome_34 : decode (km_c mm_Model_findCome) 34 = .ok (.aload_n 0, 1) := by decide +kernel
theorem sq_Model_findCome_34 : rn G mm_Model_findCome 34 [some (.ref z), a1, a2, a3, a4, a5, a6] st S P ↔ rn G mm_Model_findCome 35 [some (.ref z), a1, a2, a3, a4, a5, a6] (.ref z :: st) S P := rn_s dq_Model_findCome_34 rfl rfl rfl
theorem dq_Model_findCome_35 : decode (km_c mm_Model_findCome) 35 = .ok (.getfield 50, 3) := by decide +kernel
theorem sq_Model_findCome_35_45 (ho : sx_o o pl kp) : rn (lt_G o L) mm_Model_findCome 35 lv (.ref 45 :: st) (sx pl kp I A) P ↔ rn (lt_G o L) mm_Model_findCome 38 lv (.ref 57 :: st) (sx pl kp I A) P := rx_get (h := "") (ci := 10) (k := 21) dq_Model_findCome_35 (by decide +kernel) ho (up_b (by decide)) rfl rfl (fl_r (by decide) (by decide) (by decide) (by decide))
theorem dq_Model_findCome_38 : decode (km_c mm_Model_findCome) 38 = .ok (.aload_n 0, 1) := by decide +kernel
theorem sq_Model_findCome_38 : rn G mm_Model_findCome 38 [some (.ref z), a1, a2, a3, a4, a5, a6] st S P ↔ rn G mm_Model_findCome 39 [some (.ref z), a1, a2, a3, a4, a5, a6] (.ref z :: st) S P := rn_s dq_Model_findCome_38 rfl rfl rfl
theorem dq_Model_findCome_39 : decode (km_c mm_Model_findCome) 39 = .ok (.getfield 186, 3) := by decide +kernel
theorem sq_Model_findCome_39_45 (ho : sx_o o pl kp) : rn (lt_G o L) mm_Model_findCome 39 lv (.ref 45 :: st) (sx pl kp I A) P ↔ rn (lt_G o L) mm_Model_findCome 42 lv (.int (I 45 5) :: st) (sx pl kp I A) P := rx_get (h := "") (ci := 10) (k := 5) dq_Model_findCome_39 (by decide +kernel) ho (up_b (by decide)) rfl rfl (fl_i (by decide))
theorem dq_Model_findCome_42 : decode (km_c mm_Model_findCome) 42 = .ok (.iaload, 1) := by decide +kernel
theorem sq_Model_findCome_42 (ho : sx_o o pl kp) (hk : ak L a = 0) (hu : sx_up pl kp a = true ∨ 1000 ≤ a) (hc : c < ln L a) (hn : ln L a < 2 ^ 31) : rn (lt_G o L) mm_Model_findCome 42 lv (.int (nI c) :: .ref a :: st) (sx pl kp I A) P ↔ rn (lt_G o L) mm_Model_findCome 43 lv (.int (A a c) :: st) (sx pl kp I A) P := rx_ild dq_Model_findCome_42 ho hk hu hc hn
theorem dq_Model_findCome_43 : decode (km_c mm_Model_findCome) 43 = .ok (.iadd, 1) := by decide +kernel
theorem sq_Model_findCome_43 : rn G mm_Model_findCome 43 lv (.int x2 :: .int x :: st) S P ↔ rn G mm_Model_findCome 44 lv (.int (x + x2) :: st) S P := rn_s dq_Model_findCome_43 rfl rfl rfl
theorem dq_Model_findCome_44 : decode (km_c mm_Model_findCome) 44 = .ok (.aload_n 0, 1) := by decide +kernel
theorem sq_Model_findCome_44 : rn G mm_Model_findCome 44 [some (.ref z), a1, a2, a3, a4, a5, a6] st S P ↔ rn G mm_Model_findCome 45 [some (.ref z), a1, a2, a3, a4, a5, a6] (.ref z :: st) S P := rn_s dq_Model_findCome_44 rfl rfl rfl
theorem dq_Model_findCome_45 : decode (km_c mm_Model_findCome) 45 = .ok (.getfield 47, 3) := by decide +kernel
theorem sq_Model_findCome_45_45 (ho : sx_o o pl kp) : rn (lt_G o L) mm_Model_findCome 45 lv (.ref 45 :: st) (sx pl kp I A) P ↔ rn (lt_G o L) mm_Model_findCome 48 lv (.ref 56 :: st) (sx pl kp I A) P := rx_get (h := "") (ci := 10) (k := 20) dq_Model_findCome_45 (by decide +kernel) ho (up_b (by decide)) rfl rfl (fl_r (by decide) (by decide) (by decide) (by decide))
theorem dq_Model_findCome_48 : decode (km_c mm_Model_findCome) 48 = .ok (.aload_n 0, 1) := by decide +kernel
theorem sq_Model_findCome_48 : rn G mm_Model_findCome 48 [some (.ref z), a1, a2, a3, a4, a5, a6] st S P ↔ rn G mm_Model_findCome 49 [some (.ref z), a1, a2, a3, a4, a5, a6] (.ref z :: st) S P := rn_s dq_Model_findCome_48 rfl rfl rfl
theorem dq_Model_findCome_49 : decode (km_c mm_Model_findCome) 49 = .ok (.getfield 186, 3) := by decide +kernel
theorem sq_Model_findCome_49_45 (ho : sx_o o pl kp) : rn (lt_G o L) mm_Model_findCome 49 lv (.ref 45 :: st) (sx pl kp I A) P ↔ rn (lt_G o L) mm_Model_findCome 52 lv (.int (I 45 5) :: st) (sx pl kp I A) P := rx_get (h := "") (ci := 10) (k := 5) dq_Model_findCome_49 (by decide +kernel) ho (up_b (by decide)) rfl rfl (fl_i (by decide))
theorem dq_Model_findCome_52 : decode (km_c mm_Model_findCome) 52 = .ok (.iaload, 1) := by decide +kernel
theorem sq_Model_findCome_52 (ho : sx_o o pl kp) (hk : ak L a = 0) (hu : sx_up pl kp a = true ∨ 1000 ≤ a) (hc : c < ln L a) (hn : ln L a < 2 ^ 31) : rn (lt_G o L) mm_Model_findCome 52 lv (.int (nI c) :: .ref a :: st) (sx pl kp I A) P ↔ rn (lt_G o L) mm_Model_findCome 53 lv (.int (A a c) :: st) (sx pl kp I A) P := rx_ild dq_Model_findCome_52 ho hk hu hc hn
theorem dq_Model_findCome_53 : decode (km_c mm_Model_findCome) 53 = .ok (.iastore, 1) := by decide +kernel
theorem sq_Model_findCome_53 (ho : sx_o o pl kp) (hk : ak L a = 0) (hu : sx_up pl kp a = true) (hc : c < ln L a) (hn : ln L a < 2 ^ 31) : rn (lt_G o L) mm_Model_findCome 53 lv (.int x :: .int (nI c) :: .ref a :: st) (sx pl kp I A) P ↔ rn (lt_G o L) mm_Model_findCome 54 lv st (sx pl kp I (u2 A a c x)) P := rx_ist dq_Model_findCome_53 ho hk hu hc hn
theorem dq_Model_findCome_54 : decode (km_c mm_Model_findCome) 54 = .ok (.iconst 1, 1) := by decide +kernel
theorem sq_Model_findCome_54 : rn G mm_Model_findCome 54 lv st S P ↔ rn G mm_Model_findCome 55 lv (.int (nI 1) :: st) S P := rn_s dq_Model_findCome_54 rfl rfl rfl
theorem dq_Model_findCome_55 : decode (km_c mm_Model_findCome) 55 = .ok (.istore_n 1, 1) := by decide +kernel
theorem sq_Model_findCome_55n : rn G mm_Model_findCome 55 [none, a1, a2, a3, a4, a5, a6] (.int x :: st) S P ↔ rn G mm_Model_findCome 56 [none, some (.int x), a2, a3, a4, a5, a6] st S P := rn_s dq_Model_findCome_55 rfl rfl rfl
theorem sq_Model_findCome_55i : rn G mm_Model_findCome 55 [some (.int x2), a1, a2, a3, a4, a5, a6] (.int x :: st) S P ↔ rn G mm_Model_findCome 56 [some (.int x2), some (.int x), a2, a3, a4, a5, a6] st S P := rn_s dq_Model_findCome_55 rfl rfl rfl
theorem sq_Model_findCome_55r : rn G mm_Model_findCome 55 [some (.ref z2), a1, a2, a3, a4, a5, a6] (.int x :: st) S P ↔ rn G mm_Model_findCome 56 [some (.ref z2), some (.int x), a2, a3, a4, a5, a6] st S P := rn_s dq_Model_findCome_55 rfl rfl rfl
theorem dq_Model_findCome_56 : decode (km_c mm_Model_findCome) 56 = .ok (.iload_n 1, 1) := by decide +kernel
theorem sq_Model_findCome_56 : rn G mm_Model_findCome 56 [a0, some (.int x), a2, a3, a4, a5, a6] st S P ↔ rn G mm_Model_findCome 57 [a0, some (.int x), a2, a3, a4, a5, a6] (.int x :: st) S P := rn_s dq_Model_findCome_56 rfl rfl rfl
theorem dq_Model_findCome_57 : decode (km_c mm_Model_findCome) 57 = .ok (.ifCond .eq 135, 3) := by decide +kernel
theorem sq_Model_findCome_57 : rn G mm_Model_findCome 57 lv (.int x :: st) S P ↔ ((x = 0 → rn G mm_Model_findCome 192 lv st S P) ∧ (¬ (x = 0) → rn G mm_Model_findCome 60 lv st S P)) := rn_b (off := 135) dq_Model_findCome_57 rfl rfl rfl rfl
theorem dq_Model_findCome_60 : decode (km_c mm_Model_findCome) 60 = .ok (.iconst 0, 1) := by decide +kernel
theorem sq_Model_findCome_60 : rn G mm_Model_findCome 60 lv st S P ↔ rn G mm_Model_findCome 61 lv (.int (nI 0) :: st) S P := rn_s dq_Model_findCome_60 rfl rfl rfl
theorem dq_Model_findCome_61 : decode (km_c mm_Model_findCome) 61 = .ok (.istore_n 1, 1) := by decide +kernel
theorem sq_Model_findCome_61n : rn G mm_Model_findCome 61 [none, a1, a2, a3, a4, a5, a6] (.int x :: st) S P ↔ rn G mm_Model_findCome 62 [none, some (.int x), a2, a3, a4, a5, a6] st S P := rn_s dq_Model_findCome_61 rfl rfl rfl
theorem sq_Model_findCome_61i : rn G mm_Model_findCome 61 [some (.int x2), a1, a2, a3, a4, a5, a6] (.int x :: st) S P ↔ rn G mm_Model_findCome 62 [some (.int x2), some (.int x), a2, a3, a4, a5, a6] st S P := rn_s dq_Model_findCome_61 rfl rfl rfl
theorem sq_Model_findCome_61r : rn G mm_Model_findCome 61 [some (.ref z2), a1, a2, a3, a4, a5, a6] (.int x :: st) S P ↔ rn G mm_Model_findCome 62 [some (.ref z2), some (.int x), a2, a3, a4, a5, a6] st S P := rn_s dq_Model_findCome_61 rfl rfl rfl
theorem dq_Model_findCome_62 : decode (km_c mm_Model_findCome) 62 = .ok (.iconst 0, 1) := by decide +kernel
theorem sq_Model_findCome_62 : rn G mm_Model_findCome 62 lv st S P ↔ rn G mm_Model_findCome 63 lv (.int (nI 0) :: st) S P := rn_s dq_Model_findCome_62 rfl rfl rfl
theorem dq_Model_findCome_63 : decode (km_c mm_Model_findCome) 63 = .ok (.istore_n 2, 1) := by decide +kernel
theorem sq_Model_findCome_63n : rn G mm_Model_findCome 63 [a0, none, a2, a3, a4, a5, a6] (.int x :: st) S P ↔ rn G mm_Model_findCome 64 [a0, none, some (.int x), a3, a4, a5, a6] st S P := rn_s dq_Model_findCome_63 rfl rfl rfl
theorem sq_Model_findCome_63i : rn G mm_Model_findCome 63 [a0, some (.int x2), a2, a3, a4, a5, a6] (.int x :: st) S P ↔ rn G mm_Model_findCome 64 [a0, some (.int x2), some (.int x), a3, a4, a5, a6] st S P := rn_s dq_Model_findCome_63 rfl rfl rfl
theorem sq_Model_findCome_63r : rn G mm_Model_findCome 63 [a0, some (.ref z2), a2, a3, a4, a5, a6] (.int x :: st) S P ↔ rn G mm_Model_findCome 64 [a0, some (.ref z2), some (.int x), a3, a4, a5, a6] st S P := rn_s dq_Model_findCome_63 rfl rfl rfl
theorem dq_Model_findCome_64 : decode (km_c mm_Model_findCome) 64 = .ok (.iload_n 2, 1) := by decide +kernel
theorem sq_Model_findCome_64 : rn G mm_Model_findCome 64 [a0, a1, some (.int x), a3, a4, a5, a6] st S P ↔ rn G mm_Model_findCome 65 [a0, a1, some (.int x), a3, a4, a5, a6] (.int x :: st) S P := rn_s dq_Model_findCome_64 rfl rfl rfl
theorem dq_Model_findCome_65 : decode (km_c mm_Model_findCome) 65 = .ok (.sipush 3136, 3) := by decide +kernel
theorem sq_Model_findCome_65 : rn G mm_Model_findCome 65 lv st S P ↔ rn G mm_Model_findCome 68 lv (.int (nI 3136) :: st) S P := rn_s dq_Model_findCome_65 rfl rfl rfl
theorem dq_Model_findCome_68 : decode (km_c mm_Model_findCome) 68 = .ok (.if_icmp .ge 121, 3) := by decide +kernel
theorem sq_Model_findCome_68 : rn G mm_Model_findCome 68 lv (.int x2 :: .int x :: st) S P ↔ ((x2 ≤ x → rn G mm_Model_findCome 189 lv st S P) ∧ (¬ (x2 ≤ x) → rn G mm_Model_findCome 71 lv st S P)) := rn_b (off := 121) dq_Model_findCome_68 rfl rfl rfl rfl
theorem dq_Model_findCome_71 : decode (km_c mm_Model_findCome) 71 = .ok (.iconst 0, 1) := by decide +kernel
theorem sq_Model_findCome_71 : rn G mm_Model_findCome 71 lv st S P ↔ rn G mm_Model_findCome 72 lv (.int (nI 0) :: st) S P := rn_s dq_Model_findCome_71 rfl rfl rfl
theorem dq_Model_findCome_72 : decode (km_c mm_Model_findCome) 72 = .ok (.istore_n 3, 1) := by decide +kernel
theorem sq_Model_findCome_72n : rn G mm_Model_findCome 72 [a0, a1, none, a3, a4, a5, a6] (.int x :: st) S P ↔ rn G mm_Model_findCome 73 [a0, a1, none, some (.int x), a4, a5, a6] st S P := rn_s dq_Model_findCome_72 rfl rfl rfl
theorem sq_Model_findCome_72i : rn G mm_Model_findCome 72 [a0, a1, some (.int x2), a3, a4, a5, a6] (.int x :: st) S P ↔ rn G mm_Model_findCome 73 [a0, a1, some (.int x2), some (.int x), a4, a5, a6] st S P := rn_s dq_Model_findCome_72 rfl rfl rfl
theorem sq_Model_findCome_72r : rn G mm_Model_findCome 72 [a0, a1, some (.ref z2), a3, a4, a5, a6] (.int x :: st) S P ↔ rn G mm_Model_findCome 73 [a0, a1, some (.ref z2), some (.int x), a4, a5, a6] st S P := rn_s dq_Model_findCome_72 rfl rfl rfl
theorem dq_Model_findCome_73 : decode (km_c mm_Model_findCome) 73 = .ok (.iload_n 3, 1) := by decide +kernel
theorem sq_Model_findCome_73 : rn G mm_Model_findCome 73 [a0, a1, a2, some (.int x), a4, a5, a6] st S P ↔ rn G mm_Model_findCome 74 [a0, a1, a2, some (.int x), a4, a5, a6] (.int x :: st) S P := rn_s dq_Model_findCome_73 rfl rfl rfl
theorem dq_Model_findCome_74 : decode (km_c mm_Model_findCome) 74 = .ok (.iconst 4, 1) := by decide +kernel
theorem sq_Model_findCome_74 : rn G mm_Model_findCome 74 lv st S P ↔ rn G mm_Model_findCome 75 lv (.int (nI 4) :: st) S P := rn_s dq_Model_findCome_74 rfl rfl rfl
theorem dq_Model_findCome_75 : decode (km_c mm_Model_findCome) 75 = .ok (.if_icmp .ge 108, 3) := by decide +kernel
theorem sq_Model_findCome_75 : rn G mm_Model_findCome 75 lv (.int x2 :: .int x :: st) S P ↔ ((x2 ≤ x → rn G mm_Model_findCome 183 lv st S P) ∧ (¬ (x2 ≤ x) → rn G mm_Model_findCome 78 lv st S P)) := rn_b (off := 108) dq_Model_findCome_75 rfl rfl rfl rfl
theorem dq_Model_findCome_78 : decode (km_c mm_Model_findCome) 78 = .ok (.aload_n 0, 1) := by decide +kernel
theorem sq_Model_findCome_78 : rn G mm_Model_findCome 78 [some (.ref z), a1, a2, a3, a4, a5, a6] st S P ↔ rn G mm_Model_findCome 79 [some (.ref z), a1, a2, a3, a4, a5, a6] (.ref z :: st) S P := rn_s dq_Model_findCome_78 rfl rfl rfl
theorem dq_Model_findCome_79 : decode (km_c mm_Model_findCome) 79 = .ok (.getfield 53, 3) := by decide +kernel
theorem sq_Model_findCome_79_45 (ho : sx_o o pl kp) : rn (lt_G o L) mm_Model_findCome 79 lv (.ref 45 :: st) (sx pl kp I A) P ↔ rn (lt_G o L) mm_Model_findCome 82 lv (.ref 58 :: st) (sx pl kp I A) P := rx_get (h := "") (ci := 10) (k := 22) dq_Model_findCome_79 (by decide +kernel) ho (up_b (by decide)) rfl rfl (fl_r (by decide) (by decide) (by decide) (by decide))
theorem dq_Model_findCome_82 : decode (km_c mm_Model_findCome) 82 = .ok (.iload_n 2, 1) := by decide +kernel
theorem sq_Model_findCome_82 : rn G mm_Model_findCome 82 [a0, a1, some (.int x), a3, a4, a5, a6] st S P ↔ rn G mm_Model_findCome 83 [a0, a1, some (.int x), a3, a4, a5, a6] (.int x :: st) S P := rn_s dq_Model_findCome_82 rfl rfl rfl
theorem dq_Model_findCome_83 : decode (km_c mm_Model_findCome) 83 = .ok (.iaload, 1) := by decide +kernel
theorem sq_Model_findCome_83 (ho : sx_o o pl kp) (hk : ak L a = 0) (hu : sx_up pl kp a = true ∨ 1000 ≤ a) (hc : c < ln L a) (hn : ln L a < 2 ^ 31) : rn (lt_G o L) mm_Model_findCome 83 lv (.int (nI c) :: .ref a :: st) (sx pl kp I A) P ↔ rn (lt_G o L) mm_Model_findCome 84 lv (.int (A a c) :: st) (sx pl kp I A) P := rx_ild dq_Model_findCome_83 ho hk hu hc hn
theorem dq_Model_findCome_84 : decode (km_c mm_Model_findCome) 84 = .ok (.ldc 195, 2) := by decide +kernel
theorem sq_Model_findCome_84 : rn G mm_Model_findCome 84 lv st S P ↔ rn G mm_Model_findCome 86 lv (.int (nI 1000000000) :: st) S P := rn_s dq_Model_findCome_84 rfl rfl rfl
theorem dq_Model_findCome_86 : decode (km_c mm_Model_findCome) 86 = .ok (.if_icmp .ge 97, 3) := by decide +kernel
theorem sq_Model_findCome_86 : rn G mm_Model_findCome 86 lv (.int x2 :: .int x :: st) S P ↔ ((x2 ≤ x → rn G mm_Model_findCome 183 lv st S P) ∧ (¬ (x2 ≤ x) → rn G mm_Model_findCome 89 lv st S P)) := rn_b (off := 97) dq_Model_findCome_86 rfl rfl rfl rfl
theorem dq_Model_findCome_89 : decode (km_c mm_Model_findCome) 89 = .ok (.iload_n 2, 1) := by decide +kernel
theorem sq_Model_findCome_89 : rn G mm_Model_findCome 89 [a0, a1, some (.int x), a3, a4, a5, a6] st S P ↔ rn G mm_Model_findCome 90 [a0, a1, some (.int x), a3, a4, a5, a6] (.int x :: st) S P := rn_s dq_Model_findCome_89 rfl rfl rfl
theorem dq_Model_findCome_90 : decode (km_c mm_Model_findCome) 90 = .ok (.bipush 64, 2) := by decide +kernel
theorem sq_Model_findCome_90 : rn G mm_Model_findCome 90 lv st S P ↔ rn G mm_Model_findCome 92 lv (.int (nI 64) :: st) S P := rn_s dq_Model_findCome_90 rfl rfl rfl
theorem dq_Model_findCome_92 : decode (km_c mm_Model_findCome) 92 = .ok (.idiv, 1) := by decide +kernel
theorem sq_Model_findCome_92 (hz : ¬ x2 = 0) : rn G mm_Model_findCome 92 lv (.int x2 :: .int x :: st) S P ↔ rn G mm_Model_findCome 93 lv (.int (x / x2) :: st) S P := rn_s dq_Model_findCome_92 rfl rfl (if_neg hz)
theorem dq_Model_findCome_93 : decode (km_c mm_Model_findCome) 93 = .ok (.iload_n 3, 1) := by decide +kernel
theorem sq_Model_findCome_93 : rn G mm_Model_findCome 93 [a0, a1, a2, some (.int x), a4, a5, a6] st S P ↔ rn G mm_Model_findCome 94 [a0, a1, a2, some (.int x), a4, a5, a6] (.int x :: st) S P := rn_s dq_Model_findCome_93 rfl rfl rfl
theorem dq_Model_findCome_94 : decode (km_c mm_Model_findCome) 94 = .ok (.invokestatic 80, 3) := by decide +kernel
theorem sq_Model_findCome_94 {x1 : Int32} {x2 : Int32} {v : Option Value} {S2 : ks_S} (hc : ev G mm_Model_nextTo [.int x1, .int x2] S v S2) (hst : kx_cat st ≤ 8) : rn G mm_Model_findCome 94 lv (.int x2 :: .int x1 :: st) S P ↔ rn G mm_Model_findCome 97 lv (v.toList ++ st) S2 P := rn_cs (k := 1) (host := "") (E' := mm_Model_nextTo) dq_Model_findCome_94 (by decide) (by decide) rfl (ok_v rfl (by decide) (by decide) (Nat.le_add_left _ _) hst (Nat.le_of_ble_eq_true rfl) (Or.inl rfl)) rfl rfl hc
theorem dq_Model_findCome_97 : decode (km_c mm_Model_findCome) 97 = .ok (.istore 4, 2) := by decide +kernel
theorem sq_Model_findCome_97n : rn G mm_Model_findCome 97 [a0, a1, a2, none, a4, a5, a6] (.int x :: st) S P ↔ rn G mm_Model_findCome 99 [a0, a1, a2, none, some (.int x), a5, a6] st S P := rn_s dq_Model_findCome_97 rfl rfl rfl
theorem sq_Model_findCome_97i : rn G mm_Model_findCome 97 [a0, a1, a2, some (.int x2), a4, a5, a6] (.int x :: st) S P ↔ rn G mm_Model_findCome 99 [a0, a1, a2, some (.int x2), some (.int x), a5, a6] st S P := rn_s dq_Model_findCome_97 rfl rfl rfl
theorem sq_Model_findCome_97r : rn G mm_Model_findCome 97 [a0, a1, a2, some (.ref z2), a4, a5, a6] (.int x :: st) S P ↔ rn G mm_Model_findCome 99 [a0, a1, a2, some (.ref z2), some (.int x), a5, a6] st S P := rn_s dq_Model_findCome_97 rfl rfl rfl
theorem dq_Model_findCome_99 : decode (km_c mm_Model_findCome) 99 = .ok (.iload 4, 2) := by decide +kernel
theorem sq_Model_findCome_99 : rn G mm_Model_findCome 99 [a0, a1, a2, a3, some (.int x), a5, a6] st S P ↔ rn G mm_Model_findCome 101 [a0, a1, a2, a3, some (.int x), a5, a6] (.int x :: st) S P := rn_s dq_Model_findCome_99 rfl rfl rfl
theorem dq_Model_findCome_101 : decode (km_c mm_Model_findCome) 101 = .ok (.ifCond .ge 7, 3) := by decide +kernel
theorem sq_Model_findCome_101 : rn G mm_Model_findCome 101 lv (.int x :: st) S P ↔ ((0 ≤ x → rn G mm_Model_findCome 108 lv st S P) ∧ (¬ (0 ≤ x) → rn G mm_Model_findCome 104 lv st S P)) := rn_b (off := 7) dq_Model_findCome_101 rfl rfl rfl rfl
theorem dq_Model_findCome_104 : decode (km_c mm_Model_findCome) 104 = .ok (.iload_n 2, 1) := by decide +kernel
theorem sq_Model_findCome_104 : rn G mm_Model_findCome 104 [a0, a1, some (.int x), a3, a4, a5, a6] st S P ↔ rn G mm_Model_findCome 105 [a0, a1, some (.int x), a3, a4, a5, a6] (.int x :: st) S P := rn_s dq_Model_findCome_104 rfl rfl rfl
theorem dq_Model_findCome_105 : decode (km_c mm_Model_findCome) 105 = .ok (.goto 21, 3) := by decide +kernel
theorem sq_Model_findCome_105 : rn G mm_Model_findCome 105 lv st S P ↔ rn G mm_Model_findCome 126 lv st S P := rn_s dq_Model_findCome_105 rfl rfl rfl
theorem dq_Model_findCome_108 : decode (km_c mm_Model_findCome) 108 = .ok (.bipush 64, 2) := by decide +kernel
theorem sq_Model_findCome_108 : rn G mm_Model_findCome 108 lv st S P ↔ rn G mm_Model_findCome 110 lv (.int (nI 64) :: st) S P := rn_s dq_Model_findCome_108 rfl rfl rfl
theorem dq_Model_findCome_110 : decode (km_c mm_Model_findCome) 110 = .ok (.iload 4, 2) := by decide +kernel
theorem sq_Model_findCome_110 : rn G mm_Model_findCome 110 [a0, a1, a2, a3, some (.int x), a5, a6] st S P ↔ rn G mm_Model_findCome 112 [a0, a1, a2, a3, some (.int x), a5, a6] (.int x :: st) S P := rn_s dq_Model_findCome_110 rfl rfl rfl
theorem dq_Model_findCome_112 : decode (km_c mm_Model_findCome) 112 = .ok (.imul, 1) := by decide +kernel
theorem sq_Model_findCome_112 : rn G mm_Model_findCome 112 lv (.int x2 :: .int x :: st) S P ↔ rn G mm_Model_findCome 113 lv (.int (x * x2) :: st) S P := rn_s dq_Model_findCome_112 rfl rfl rfl
theorem dq_Model_findCome_113 : decode (km_c mm_Model_findCome) 113 = .ok (.iload_n 2, 1) := by decide +kernel
theorem sq_Model_findCome_113 : rn G mm_Model_findCome 113 [a0, a1, some (.int x), a3, a4, a5, a6] st S P ↔ rn G mm_Model_findCome 114 [a0, a1, some (.int x), a3, a4, a5, a6] (.int x :: st) S P := rn_s dq_Model_findCome_113 rfl rfl rfl
theorem dq_Model_findCome_114 : decode (km_c mm_Model_findCome) 114 = .ok (.bipush 64, 2) := by decide +kernel
theorem sq_Model_findCome_114 : rn G mm_Model_findCome 114 lv st S P ↔ rn G mm_Model_findCome 116 lv (.int (nI 64) :: st) S P := rn_s dq_Model_findCome_114 rfl rfl rfl
theorem dq_Model_findCome_116 : decode (km_c mm_Model_findCome) 116 = .ok (.irem, 1) := by decide +kernel
theorem sq_Model_findCome_116 (hz : ¬ x2 = 0) : rn G mm_Model_findCome 116 lv (.int x2 :: .int x :: st) S P ↔ rn G mm_Model_findCome 117 lv (.int (x - x / x2 * x2) :: st) S P := rn_s dq_Model_findCome_116 rfl rfl (if_neg hz)
theorem dq_Model_findCome_117 : decode (km_c mm_Model_findCome) 117 = .ok (.aload_n 0, 1) := by decide +kernel
theorem sq_Model_findCome_117 : rn G mm_Model_findCome 117 [some (.ref z), a1, a2, a3, a4, a5, a6] st S P ↔ rn G mm_Model_findCome 118 [some (.ref z), a1, a2, a3, a4, a5, a6] (.ref z :: st) S P := rn_s dq_Model_findCome_117 rfl rfl rfl
theorem dq_Model_findCome_118 : decode (km_c mm_Model_findCome) 118 = .ok (.getfield 50, 3) := by decide +kernel
theorem sq_Model_findCome_118_45 (ho : sx_o o pl kp) : rn (lt_G o L) mm_Model_findCome 118 lv (.ref 45 :: st) (sx pl kp I A) P ↔ rn (lt_G o L) mm_Model_findCome 121 lv (.ref 57 :: st) (sx pl kp I A) P := rx_get (h := "") (ci := 10) (k := 21) dq_Model_findCome_118 (by decide +kernel) ho (up_b (by decide)) rfl rfl (fl_r (by decide) (by decide) (by decide) (by decide))
theorem dq_Model_findCome_121 : decode (km_c mm_Model_findCome) 121 = .ok (.iload 4, 2) := by decide +kernel
theorem sq_Model_findCome_121 : rn G mm_Model_findCome 121 [a0, a1, a2, a3, some (.int x), a5, a6] st S P ↔ rn G mm_Model_findCome 123 [a0, a1, a2, a3, some (.int x), a5, a6] (.int x :: st) S P := rn_s dq_Model_findCome_121 rfl rfl rfl
theorem dq_Model_findCome_123 : decode (km_c mm_Model_findCome) 123 = .ok (.iaload, 1) := by decide +kernel
theorem sq_Model_findCome_123 (ho : sx_o o pl kp) (hk : ak L a = 0) (hu : sx_up pl kp a = true ∨ 1000 ≤ a) (hc : c < ln L a) (hn : ln L a < 2 ^ 31) : rn (lt_G o L) mm_Model_findCome 123 lv (.int (nI c) :: .ref a :: st) (sx pl kp I A) P ↔ rn (lt_G o L) mm_Model_findCome 124 lv (.int (A a c) :: st) (sx pl kp I A) P := rx_ild dq_Model_findCome_123 ho hk hu hc hn
theorem dq_Model_findCome_124 : decode (km_c mm_Model_findCome) 124 = .ok (.ior, 1) := by decide +kernel
theorem sq_Model_findCome_124 : rn G mm_Model_findCome 124 lv (.int x2 :: .int x :: st) S P ↔ rn G mm_Model_findCome 125 lv (.int (x ||| x2) :: st) S P := rn_s dq_Model_findCome_124 rfl rfl rfl
theorem dq_Model_findCome_125 : decode (km_c mm_Model_findCome) 125 = .ok (.iadd, 1) := by decide +kernel
theorem sq_Model_findCome_125 : rn G mm_Model_findCome 125 lv (.int x2 :: .int x :: st) S P ↔ rn G mm_Model_findCome 126 lv (.int (x + x2) :: st) S P := rn_s dq_Model_findCome_125 rfl rfl rfl
theorem dq_Model_findCome_126 : decode (km_c mm_Model_findCome) 126 = .ok (.istore 5, 2) := by decide +kernel
theorem sq_Model_findCome_126n : rn G mm_Model_findCome 126 [a0, a1, a2, a3, none, a5, a6] (.int x :: st) S P ↔ rn G mm_Model_findCome 128 [a0, a1, a2, a3, none, some (.int x), a6] st S P := rn_s dq_Model_findCome_126 rfl rfl rfl
theorem sq_Model_findCome_126i : rn G mm_Model_findCome 126 [a0, a1, a2, a3, some (.int x2), a5, a6] (.int x :: st) S P ↔ rn G mm_Model_findCome 128 [a0, a1, a2, a3, some (.int x2), some (.int x), a6] st S P := rn_s dq_Model_findCome_126 rfl rfl rfl
theorem sq_Model_findCome_126r : rn G mm_Model_findCome 126 [a0, a1, a2, a3, some (.ref z2), a5, a6] (.int x :: st) S P ↔ rn G mm_Model_findCome 128 [a0, a1, a2, a3, some (.ref z2), some (.int x), a6] st S P := rn_s dq_Model_findCome_126 rfl rfl rfl
theorem dq_Model_findCome_128 : decode (km_c mm_Model_findCome) 128 = .ok (.iload 4, 2) := by decide +kernel
theorem sq_Model_findCome_128 : rn G mm_Model_findCome 128 [a0, a1, a2, a3, some (.int x), a5, a6] st S P ↔ rn G mm_Model_findCome 130 [a0, a1, a2, a3, some (.int x), a5, a6] (.int x :: st) S P := rn_s dq_Model_findCome_128 rfl rfl rfl
theorem dq_Model_findCome_130 : decode (km_c mm_Model_findCome) 130 = .ok (.ifCond .ge 8, 3) := by decide +kernel
theorem sq_Model_findCome_130 : rn G mm_Model_findCome 130 lv (.int x :: st) S P ↔ ((0 ≤ x → rn G mm_Model_findCome 138 lv st S P) ∧ (¬ (0 ≤ x) → rn G mm_Model_findCome 133 lv st S P)) := rn_b (off := 8) dq_Model_findCome_130 rfl rfl rfl rfl
theorem dq_Model_findCome_133 : decode (km_c mm_Model_findCome) 133 = .ok (.ldc 195, 2) := by decide +kernel
theorem sq_Model_findCome_133 : rn G mm_Model_findCome 133 lv st S P ↔ rn G mm_Model_findCome 135 lv (.int (nI 1000000000) :: st) S P := rn_s dq_Model_findCome_133 rfl rfl rfl
theorem dq_Model_findCome_135 : decode (km_c mm_Model_findCome) 135 = .ok (.goto 17, 3) := by decide +kernel
theorem sq_Model_findCome_135 : rn G mm_Model_findCome 135 lv st S P ↔ rn G mm_Model_findCome 152 lv st S P := rn_s dq_Model_findCome_135 rfl rfl rfl
theorem dq_Model_findCome_138 : decode (km_c mm_Model_findCome) 138 = .ok (.aload_n 0, 1) := by decide +kernel
theorem sq_Model_findCome_138 : rn G mm_Model_findCome 138 [some (.ref z), a1, a2, a3, a4, a5, a6] st S P ↔ rn G mm_Model_findCome 139 [some (.ref z), a1, a2, a3, a4, a5, a6] (.ref z :: st) S P := rn_s dq_Model_findCome_138 rfl rfl rfl
theorem dq_Model_findCome_139 : decode (km_c mm_Model_findCome) 139 = .ok (.getfield 53, 3) := by decide +kernel
theorem sq_Model_findCome_139_45 (ho : sx_o o pl kp) : rn (lt_G o L) mm_Model_findCome 139 lv (.ref 45 :: st) (sx pl kp I A) P ↔ rn (lt_G o L) mm_Model_findCome 142 lv (.ref 58 :: st) (sx pl kp I A) P := rx_get (h := "") (ci := 10) (k := 22) dq_Model_findCome_139 (by decide +kernel) ho (up_b (by decide)) rfl rfl (fl_r (by decide) (by decide) (by decide) (by decide))
theorem dq_Model_findCome_142 : decode (km_c mm_Model_findCome) 142 = .ok (.iload_n 2, 1) := by decide +kernel
theorem sq_Model_findCome_142 : rn G mm_Model_findCome 142 [a0, a1, some (.int x), a3, a4, a5, a6] st S P ↔ rn G mm_Model_findCome 143 [a0, a1, some (.int x), a3, a4, a5, a6] (.int x :: st) S P := rn_s dq_Model_findCome_142 rfl rfl rfl
theorem dq_Model_findCome_143 : decode (km_c mm_Model_findCome) 143 = .ok (.iaload, 1) := by decide +kernel
theorem sq_Model_findCome_143 (ho : sx_o o pl kp) (hk : ak L a = 0) (hu : sx_up pl kp a = true ∨ 1000 ≤ a) (hc : c < ln L a) (hn : ln L a < 2 ^ 31) : rn (lt_G o L) mm_Model_findCome 143 lv (.int (nI c) :: .ref a :: st) (sx pl kp I A) P ↔ rn (lt_G o L) mm_Model_findCome 144 lv (.int (A a c) :: st) (sx pl kp I A) P := rx_ild dq_Model_findCome_143 ho hk hu hc hn
theorem dq_Model_findCome_144 : decode (km_c mm_Model_findCome) 144 = .ok (.aload_n 0, 1) := by decide +kernel
theorem sq_Model_findCome_144 : rn G mm_Model_findCome 144 [some (.ref z), a1, a2, a3, a4, a5, a6] st S P ↔ rn G mm_Model_findCome 145 [some (.ref z), a1, a2, a3, a4, a5, a6] (.ref z :: st) S P := rn_s dq_Model_findCome_144 rfl rfl rfl
theorem dq_Model_findCome_145 : decode (km_c mm_Model_findCome) 145 = .ok (.getfield 47, 3) := by decide +kernel
theorem sq_Model_findCome_145_45 (ho : sx_o o pl kp) : rn (lt_G o L) mm_Model_findCome 145 lv (.ref 45 :: st) (sx pl kp I A) P ↔ rn (lt_G o L) mm_Model_findCome 148 lv (.ref 56 :: st) (sx pl kp I A) P := rx_get (h := "") (ci := 10) (k := 20) dq_Model_findCome_145 (by decide +kernel) ho (up_b (by decide)) rfl rfl (fl_r (by decide) (by decide) (by decide) (by decide))
theorem dq_Model_findCome_148 : decode (km_c mm_Model_findCome) 148 = .ok (.iload 4, 2) := by decide +kernel
theorem sq_Model_findCome_148 : rn G mm_Model_findCome 148 [a0, a1, a2, a3, some (.int x), a5, a6] st S P ↔ rn G mm_Model_findCome 150 [a0, a1, a2, a3, some (.int x), a5, a6] (.int x :: st) S P := rn_s dq_Model_findCome_148 rfl rfl rfl
theorem dq_Model_findCome_150 : decode (km_c mm_Model_findCome) 150 = .ok (.iaload, 1) := by decide +kernel
theorem sq_Model_findCome_150 (ho : sx_o o pl kp) (hk : ak L a = 0) (hu : sx_up pl kp a = true ∨ 1000 ≤ a) (hc : c < ln L a) (hn : ln L a < 2 ^ 31) : rn (lt_G o L) mm_Model_findCome 150 lv (.int (nI c) :: .ref a :: st) (sx pl kp I A) P ↔ rn (lt_G o L) mm_Model_findCome 151 lv (.int (A a c) :: st) (sx pl kp I A) P := rx_ild dq_Model_findCome_150 ho hk hu hc hn
theorem dq_Model_findCome_151 : decode (km_c mm_Model_findCome) 151 = .ok (.iadd, 1) := by decide +kernel
theorem sq_Model_findCome_151 : rn G mm_Model_findCome 151 lv (.int x2 :: .int x :: st) S P ↔ rn G mm_Model_findCome 152 lv (.int (x + x2) :: st) S P := rn_s dq_Model_findCome_151 rfl rfl rfl
theorem dq_Model_findCome_152 : decode (km_c mm_Model_findCome) 152 = .ok (.istore 6, 2) := by decide +kernel
theorem sq_Model_findCome_152n : rn G mm_Model_findCome 152 [a0, a1, a2, a3, a4, none, a6] (.int x :: st) S P ↔ rn G mm_Model_findCome 154 [a0, a1, a2, a3, a4, none, some (.int x)] st S P := rn_s dq_Model_findCome_152 rfl rfl rfl
theorem sq_Model_findCome_152i : rn G mm_Model_findCome 152 [a0, a1, a2, a3, a4, some (.int x2), a6] (.int x :: st) S P ↔ rn G mm_Model_findCome 154 [a0, a1, a2, a3, a4, some (.int x2), some (.int x)] st S P := rn_s dq_Model_findCome_152 rfl rfl rfl
theorem sq_Model_findCome_152r : rn G mm_Model_findCome 152 [a0, a1, a2, a3, a4, some (.ref z2), a6] (.int x :: st) S P ↔ rn G mm_Model_findCome 154 [a0, a1, a2, a3, a4, some (.ref z2), some (.int x)] st S P := rn_s dq_Model_findCome_152 rfl rfl rfl
theorem dq_Model_findCome_154 : decode (km_c mm_Model_findCome) 154 = .ok (.iload 6, 2) := by decide +kernel
theorem sq_Model_findCome_154 : rn G mm_Model_findCome 154 [a0, a1, a2, a3, a4, a5, some (.int x)] st S P ↔ rn G mm_Model_findCome 156 [a0, a1, a2, a3, a4, a5, some (.int x)] (.int x :: st) S P := rn_s dq_Model_findCome_154 rfl rfl rfl
theorem dq_Model_findCome_156 : decode (km_c mm_Model_findCome) 156 = .ok (.aload_n 0, 1) := by decide +kernel
theorem sq_Model_findCome_156 : rn G mm_Model_findCome 156 [some (.ref z), a1, a2, a3, a4, a5, a6] st S P ↔ rn G mm_Model_findCome 157 [some (.ref z), a1, a2, a3, a4, a5, a6] (.ref z :: st) S P := rn_s dq_Model_findCome_156 rfl rfl rfl
theorem dq_Model_findCome_157 : decode (km_c mm_Model_findCome) 157 = .ok (.getfield 53, 3) := by decide +kernel
theorem sq_Model_findCome_157_45 (ho : sx_o o pl kp) : rn (lt_G o L) mm_Model_findCome 157 lv (.ref 45 :: st) (sx pl kp I A) P ↔ rn (lt_G o L) mm_Model_findCome 160 lv (.ref 58 :: st) (sx pl kp I A) P := rx_get (h := "") (ci := 10) (k := 22) dq_Model_findCome_157 (by decide +kernel) ho (up_b (by decide)) rfl rfl (fl_r (by decide) (by decide) (by decide) (by decide))
theorem dq_Model_findCome_160 : decode (km_c mm_Model_findCome) 160 = .ok (.iload 5, 2) := by decide +kernel
theorem sq_Model_findCome_160 : rn G mm_Model_findCome 160 [a0, a1, a2, a3, a4, some (.int x), a6] st S P ↔ rn G mm_Model_findCome 162 [a0, a1, a2, a3, a4, some (.int x), a6] (.int x :: st) S P := rn_s dq_Model_findCome_160 rfl rfl rfl
theorem dq_Model_findCome_162 : decode (km_c mm_Model_findCome) 162 = .ok (.iaload, 1) := by decide +kernel
theorem sq_Model_findCome_162 (ho : sx_o o pl kp) (hk : ak L a = 0) (hu : sx_up pl kp a = true ∨ 1000 ≤ a) (hc : c < ln L a) (hn : ln L a < 2 ^ 31) : rn (lt_G o L) mm_Model_findCome 162 lv (.int (nI c) :: .ref a :: st) (sx pl kp I A) P ↔ rn (lt_G o L) mm_Model_findCome 163 lv (.int (A a c) :: st) (sx pl kp I A) P := rx_ild dq_Model_findCome_162 ho hk hu hc hn
theorem dq_Model_findCome_163 : decode (km_c mm_Model_findCome) 163 = .ok (.if_icmp .ge 14, 3) := by decide +kernel
theorem sq_Model_findCome_163 : rn G mm_Model_findCome 163 lv (.int x2 :: .int x :: st) S P ↔ ((x2 ≤ x → rn G mm_Model_findCome 177 lv st S P) ∧ (¬ (x2 ≤ x) → rn G mm_Model_findCome 166 lv st S P)) := rn_b (off := 14) dq_Model_findCome_163 rfl rfl rfl rfl
theorem dq_Model_findCome_166 : decode (km_c mm_Model_findCome) 166 = .ok (.aload_n 0, 1) := by decide +kernel
theorem sq_Model_findCome_166 : rn G mm_Model_findCome 166 [some (.ref z), a1, a2, a3, a4, a5, a6] st S P ↔ rn G mm_Model_findCome 167 [some (.ref z), a1, a2, a3, a4, a5, a6] (.ref z :: st) S P := rn_s dq_Model_findCome_166 rfl rfl rfl
theorem dq_Model_findCome_167 : decode (km_c mm_Model_findCome) 167 = .ok (.getfield 53, 3) := by decide +kernel
theorem sq_Model_findCome_167_45 (ho : sx_o o pl kp) : rn (lt_G o L) mm_Model_findCome 167 lv (.ref 45 :: st) (sx pl kp I A) P ↔ rn (lt_G o L) mm_Model_findCome 170 lv (.ref 58 :: st) (sx pl kp I A) P := rx_get (h := "") (ci := 10) (k := 22) dq_Model_findCome_167 (by decide +kernel) ho (up_b (by decide)) rfl rfl (fl_r (by decide) (by decide) (by decide) (by decide))
theorem dq_Model_findCome_170 : decode (km_c mm_Model_findCome) 170 = .ok (.iload 5, 2) := by decide +kernel
theorem sq_Model_findCome_170 : rn G mm_Model_findCome 170 [a0, a1, a2, a3, a4, some (.int x), a6] st S P ↔ rn G mm_Model_findCome 172 [a0, a1, a2, a3, a4, some (.int x), a6] (.int x :: st) S P := rn_s dq_Model_findCome_170 rfl rfl rfl
theorem dq_Model_findCome_172 : decode (km_c mm_Model_findCome) 172 = .ok (.iload 6, 2) := by decide +kernel
theorem sq_Model_findCome_172 : rn G mm_Model_findCome 172 [a0, a1, a2, a3, a4, a5, some (.int x)] st S P ↔ rn G mm_Model_findCome 174 [a0, a1, a2, a3, a4, a5, some (.int x)] (.int x :: st) S P := rn_s dq_Model_findCome_172 rfl rfl rfl
theorem dq_Model_findCome_174 : decode (km_c mm_Model_findCome) 174 = .ok (.iastore, 1) := by decide +kernel
theorem sq_Model_findCome_174 (ho : sx_o o pl kp) (hk : ak L a = 0) (hu : sx_up pl kp a = true) (hc : c < ln L a) (hn : ln L a < 2 ^ 31) : rn (lt_G o L) mm_Model_findCome 174 lv (.int x :: .int (nI c) :: .ref a :: st) (sx pl kp I A) P ↔ rn (lt_G o L) mm_Model_findCome 175 lv st (sx pl kp I (u2 A a c x)) P := rx_ist dq_Model_findCome_174 ho hk hu hc hn
theorem dq_Model_findCome_175 : decode (km_c mm_Model_findCome) 175 = .ok (.iconst 1, 1) := by decide +kernel
theorem sq_Model_findCome_175 : rn G mm_Model_findCome 175 lv st S P ↔ rn G mm_Model_findCome 176 lv (.int (nI 1) :: st) S P := rn_s dq_Model_findCome_175 rfl rfl rfl
theorem dq_Model_findCome_176 : decode (km_c mm_Model_findCome) 176 = .ok (.istore_n 1, 1) := by decide +kernel
theorem sq_Model_findCome_176n : rn G mm_Model_findCome 176 [none, a1, a2, a3, a4, a5, a6] (.int x :: st) S P ↔ rn G mm_Model_findCome 177 [none, some (.int x), a2, a3, a4, a5, a6] st S P := rn_s dq_Model_findCome_176 rfl rfl rfl
theorem sq_Model_findCome_176i : rn G mm_Model_findCome 176 [some (.int x2), a1, a2, a3, a4, a5, a6] (.int x :: st) S P ↔ rn G mm_Model_findCome 177 [some (.int x2), some (.int x), a2, a3, a4, a5, a6] st S P := rn_s dq_Model_findCome_176 rfl rfl rfl
theorem sq_Model_findCome_176r : rn G mm_Model_findCome 176 [some (.ref z2), a1, a2, a3, a4, a5, a6] (.int x :: st) S P ↔ rn G mm_Model_findCome 177 [some (.ref z2), some (.int x), a2, a3, a4, a5, a6] st S P := rn_s dq_Model_findCome_176 rfl rfl rfl
theorem dq_Model_findCome_177 : decode (km_c mm_Model_findCome) 177 = .ok (.iinc 3 1, 3) := by decide +kernel
theorem sq_Model_findCome_177n : rn G mm_Model_findCome 177 [a0, a1, none, some (.int x), a4, a5, a6] st S P ↔ rn G mm_Model_findCome 180 [a0, a1, none, some (.int (x + nI 1)), a4, a5, a6] st S P := rn_s dq_Model_findCome_177 rfl rfl rfl
theorem sq_Model_findCome_177i : rn G mm_Model_findCome 177 [a0, a1, some (.int x2), some (.int x), a4, a5, a6] st S P ↔ rn G mm_Model_findCome 180 [a0, a1, some (.int x2), some (.int (x + nI 1)), a4, a5, a6] st S P := rn_s dq_Model_findCome_177 rfl rfl rfl
theorem sq_Model_findCome_177r : rn G mm_Model_findCome 177 [a0, a1, some (.ref z2), some (.int x), a4, a5, a6] st S P ↔ rn G mm_Model_findCome 180 [a0, a1, some (.ref z2), some (.int (x + nI 1)), a4, a5, a6] st S P := rn_s dq_Model_findCome_177 rfl rfl rfl
theorem dq_Model_findCome_180 : decode (km_c mm_Model_findCome) 180 = .ok (.goto (-107), 3) := by decide +kernel
theorem sq_Model_findCome_180 : rn G mm_Model_findCome 180 lv st S P ↔ rn G mm_Model_findCome 73 lv st S P := rn_s dq_Model_findCome_180 rfl rfl rfl
theorem dq_Model_findCome_183 : decode (km_c mm_Model_findCome) 183 = .ok (.iinc 2 1, 3) := by decide +kernel
theorem sq_Model_findCome_183n : rn G mm_Model_findCome 183 [a0, none, some (.int x), a3, a4, a5, a6] st S P ↔ rn G mm_Model_findCome 186 [a0, none, some (.int (x + nI 1)), a3, a4, a5, a6] st S P := rn_s dq_Model_findCome_183 rfl rfl rfl
theorem sq_Model_findCome_183i : rn G mm_Model_findCome 183 [a0, some (.int x2), some (.int x), a3, a4, a5, a6] st S P ↔ rn G mm_Model_findCome 186 [a0, some (.int x2), some (.int (x + nI 1)), a3, a4, a5, a6] st S P := rn_s dq_Model_findCome_183 rfl rfl rfl
theorem sq_Model_findCome_183r : rn G mm_Model_findCome 183 [a0, some (.ref z2), some (.int x), a3, a4, a5, a6] st S P ↔ rn G mm_Model_findCome 186 [a0, some (.ref z2), some (.int (x + nI 1)), a3, a4, a5, a6] st S P := rn_s dq_Model_findCome_183 rfl rfl rfl
theorem dq_Model_findCome_186 : decode (km_c mm_Model_findCome) 186 = .ok (.goto (-122), 3) := by decide +kernel
theorem sq_Model_findCome_186 : rn G mm_Model_findCome 186 lv st S P ↔ rn G mm_Model_findCome 64 lv st S P := rn_s dq_Model_findCome_186 rfl rfl rfl
theorem dq_Model_findCome_189 : decode (km_c mm_Model_findCome) 189 = .ok (.goto (-133), 3) := by decide +kernel
theorem sq_Model_findCome_189 : rn G mm_Model_findCome 189 lv st S P ↔ rn G mm_Model_findCome 56 lv st S P := rn_s dq_Model_findCome_189 rfl rfl rfl
theorem dq_Model_findCome_192 : decode (km_c mm_Model_findCome) 192 = .ok (.return_, 1) := by decide +kernel
theorem sq_Model_findCome_192 : rn G mm_Model_findCome 192 lv [] S P ↔ P none S := rn_vr dq_Model_findCome_192 rfl
theorem dq_Model_worth_0 : decode (km_c mm_Model_worth) 0 = .ok (.aload_n 0, 1) := by decide +kernel
theorem sq_Model_worth_0 : rn G mm_Model_worth 0 [some (.ref z), a1] st S P ↔ rn G mm_Model_worth 1 [some (.ref z), a1] (.ref z :: st) S P := rn_s dq_Model_worth_0 rfl rfl rfl
theorem dq_Model_worth_1 : decode (km_c mm_Model_worth) 1 = .ok (.iload_n 1, 1) := by decide +kernel
theorem sq_Model_worth_1 : rn G mm_Model_worth 1 [a0, some (.int x)] st S P ↔ rn G mm_Model_worth 2 [a0, some (.int x)] (.int x :: st) S P := rn_s dq_Model_worth_1 rfl rfl rfl
theorem dq_Model_worth_2 : decode (km_c mm_Model_worth) 2 = .ok (.invokevirtual 202, 3) := by decide +kernel
theorem sq_Model_worth_2_45 {x1 : Int32} {v : Option Value} {S2 : ks_S} (hc : ev (lt_G o L) mm_Model_isSet [.ref 45, .int x1] (sx pl kp I A) v S2) (ho : sx_o o pl kp) (hst : kx_cat st ≤ 8) : rn (lt_G o L) mm_Model_worth 2 lv (.int x1 :: .ref 45 :: st) (sx pl kp I A) P ↔ rn (lt_G o L) mm_Model_worth 5 lv (v.toList ++ st) S2 P := rn_cv (k := 0) (host := "") (E' := mm_Model_isSet) dq_Model_worth_2 rfl (ok_v rfl (by decide) (by decide) (Nat.le_add_left _ _) hst (Nat.le_of_ble_eq_true rfl) (Or.inr (rc_v ho (up_b (by decide)) rfl))) rfl rfl hc
theorem dq_Model_worth_5 : decode (km_c mm_Model_worth) 5 = .ok (.ifCond .ne 6, 3) := by decide +kernel
theorem sq_Model_worth_5 : rn G mm_Model_worth 5 lv (.int x :: st) S P ↔ ((¬ x = 0 → rn G mm_Model_worth 11 lv st S P) ∧ (¬ (¬ x = 0) → rn G mm_Model_worth 8 lv st S P)) := rn_b (off := 6) dq_Model_worth_5 rfl rfl rfl rfl
theorem dq_Model_worth_8 : decode (km_c mm_Model_worth) 8 = .ok (.ldc 212, 2) := by decide +kernel
theorem sq_Model_worth_8 : rn G mm_Model_worth 8 lv st S P ↔ rn G mm_Model_worth 10 lv (.int ((-100001)) :: st) S P := rn_s dq_Model_worth_8 rfl rfl rfl
theorem dq_Model_worth_10 : decode (km_c mm_Model_worth) 10 = .ok (.ireturn, 1) := by decide +kernel
theorem sq_Model_worth_10 : rn G mm_Model_worth 10 lv [.int x] S P ↔ P (some (.int x)) S := rn_ir dq_Model_worth_10 rfl
theorem dq_Model_worth_11 : decode (km_c mm_Model_worth) 11 = .ok (.aload_n 0, 1) := by decide +kernel
theorem sq_Model_worth_11 : rn G mm_Model_worth 11 [some (.ref z), a1] st S P ↔ rn G mm_Model_worth 12 [some (.ref z), a1] (.ref z :: st) S P := rn_s dq_Model_worth_11 rfl rfl rfl
theorem dq_Model_worth_12 : decode (km_c mm_Model_worth) 12 = .ok (.invokevirtual 205, 3) := by decide +kernel
theorem sq_Model_worth_12_45  {v : Option Value} {S2 : ks_S} (hc : ev (lt_G o L) mm_Model_findAll [.ref 45] (sx pl kp I A) v S2) (ho : sx_o o pl kp) (hst : kx_cat st ≤ 8) : rn (lt_G o L) mm_Model_worth 12 lv (.ref 45 :: st) (sx pl kp I A) P ↔ rn (lt_G o L) mm_Model_worth 15 lv (v.toList ++ st) S2 P := rn_cv (k := 0) (host := "") (E' := mm_Model_findAll) dq_Model_worth_12 rfl (ok_v rfl (by decide) (by decide) (Nat.le_add_left _ _) hst (Nat.le_of_ble_eq_true rfl) (Or.inr (rc_v ho (up_b (by decide)) rfl))) rfl rfl hc
theorem dq_Model_worth_15 : decode (km_c mm_Model_worth) 15 = .ok (.aload_n 0, 1) := by decide +kernel
theorem sq_Model_worth_15 : rn G mm_Model_worth 15 [some (.ref z), a1] st S P ↔ rn G mm_Model_worth 16 [some (.ref z), a1] (.ref z :: st) S P := rn_s dq_Model_worth_15 rfl rfl rfl
theorem dq_Model_worth_16 : decode (km_c mm_Model_worth) 16 = .ok (.iload_n 1, 1) := by decide +kernel
theorem sq_Model_worth_16 : rn G mm_Model_worth 16 [a0, some (.int x)] st S P ↔ rn G mm_Model_worth 17 [a0, some (.int x)] (.int x :: st) S P := rn_s dq_Model_worth_16 rfl rfl rfl
theorem dq_Model_worth_17 : decode (km_c mm_Model_worth) 17 = .ok (.invokevirtual 213, 3) := by decide +kernel
theorem sq_Model_worth_17_45 {x1 : Int32} {v : Option Value} {S2 : ks_S} (hc : ev (lt_G o L) mm_Model_loadsOf [.ref 45, .int x1] (sx pl kp I A) v S2) (ho : sx_o o pl kp) (hst : kx_cat st ≤ 8) : rn (lt_G o L) mm_Model_worth 17 lv (.int x1 :: .ref 45 :: st) (sx pl kp I A) P ↔ rn (lt_G o L) mm_Model_worth 20 lv (v.toList ++ st) S2 P := rn_cv (k := 0) (host := "") (E' := mm_Model_loadsOf) dq_Model_worth_17 rfl (ok_v rfl (by decide) (by decide) (Nat.le_add_left _ _) hst (Nat.le_of_ble_eq_true rfl) (Or.inr (rc_v ho (up_b (by decide)) rfl))) rfl rfl hc
theorem dq_Model_worth_20 : decode (km_c mm_Model_worth) 20 = .ok (.aload_n 0, 1) := by decide +kernel
theorem sq_Model_worth_20 : rn G mm_Model_worth 20 [some (.ref z), a1] st S P ↔ rn G mm_Model_worth 21 [some (.ref z), a1] (.ref z :: st) S P := rn_s dq_Model_worth_20 rfl rfl rfl
theorem dq_Model_worth_21 : decode (km_c mm_Model_worth) 21 = .ok (.getfield 56, 3) := by decide +kernel
theorem sq_Model_worth_21_45 (ho : sx_o o pl kp) : rn (lt_G o L) mm_Model_worth 21 lv (.ref 45 :: st) (sx pl kp I A) P ↔ rn (lt_G o L) mm_Model_worth 24 lv (.ref 59 :: st) (sx pl kp I A) P := rx_get (h := "") (ci := 10) (k := 23) dq_Model_worth_21 (by decide +kernel) ho (up_b (by decide)) rfl rfl (fl_r (by decide) (by decide) (by decide) (by decide))
theorem dq_Model_worth_24 : decode (km_c mm_Model_worth) 24 = .ok (.iload_n 1, 1) := by decide +kernel
theorem sq_Model_worth_24 : rn G mm_Model_worth 24 [a0, some (.int x)] st S P ↔ rn G mm_Model_worth 25 [a0, some (.int x)] (.int x :: st) S P := rn_s dq_Model_worth_24 rfl rfl rfl
theorem dq_Model_worth_25 : decode (km_c mm_Model_worth) 25 = .ok (.iaload, 1) := by decide +kernel
theorem sq_Model_worth_25 (ho : sx_o o pl kp) (hk : ak L a = 0) (hu : sx_up pl kp a = true ∨ 1000 ≤ a) (hc : c < ln L a) (hn : ln L a < 2 ^ 31) : rn (lt_G o L) mm_Model_worth 25 lv (.int (nI c) :: .ref a :: st) (sx pl kp I A) P ↔ rn (lt_G o L) mm_Model_worth 26 lv (.int (A a c) :: st) (sx pl kp I A) P := rx_ild dq_Model_worth_25 ho hk hu hc hn
theorem dq_Model_worth_26 : decode (km_c mm_Model_worth) 26 = .ok (.isub, 1) := by decide +kernel
theorem sq_Model_worth_26 : rn G mm_Model_worth 26 lv (.int x2 :: .int x :: st) S P ↔ rn G mm_Model_worth 27 lv (.int (x - x2) :: st) S P := rn_s dq_Model_worth_26 rfl rfl rfl
theorem dq_Model_worth_27 : decode (km_c mm_Model_worth) 27 = .ok (.ireturn, 1) := by decide +kernel
theorem sq_Model_worth_27 : rn G mm_Model_worth 27 lv [.int x] S P ↔ P (some (.int x)) S := rn_ir dq_Model_worth_27 rfl
theorem dq_Model_loadsOf_0 : decode (km_c mm_Model_loadsOf) 0 = .ok (.iconst 0, 1) := by decide +kernel
theorem sq_Model_loadsOf_0 : rn G mm_Model_loadsOf 0 lv st S P ↔ rn G mm_Model_loadsOf 1 lv (.int (nI 0) :: st) S P := rn_s dq_Model_loadsOf_0 rfl rfl rfl
theorem dq_Model_loadsOf_1 : decode (km_c mm_Model_loadsOf) 1 = .ok (.istore_n 2, 1) := by decide +kernel
theorem sq_Model_loadsOf_1n : rn G mm_Model_loadsOf 1 [a0, none, a2, a3] (.int x :: st) S P ↔ rn G mm_Model_loadsOf 2 [a0, none, some (.int x), a3] st S P := rn_s dq_Model_loadsOf_1 rfl rfl rfl
theorem sq_Model_loadsOf_1i : rn G mm_Model_loadsOf 1 [a0, some (.int x2), a2, a3] (.int x :: st) S P ↔ rn G mm_Model_loadsOf 2 [a0, some (.int x2), some (.int x), a3] st S P := rn_s dq_Model_loadsOf_1 rfl rfl rfl
theorem sq_Model_loadsOf_1r : rn G mm_Model_loadsOf 1 [a0, some (.ref z2), a2, a3] (.int x :: st) S P ↔ rn G mm_Model_loadsOf 2 [a0, some (.ref z2), some (.int x), a3] st S P := rn_s dq_Model_loadsOf_1 rfl rfl rfl
theorem dq_Model_loadsOf_2 : decode (km_c mm_Model_loadsOf) 2 = .ok (.iconst 0, 1) := by decide +kernel
theorem sq_Model_loadsOf_2 : rn G mm_Model_loadsOf 2 lv st S P ↔ rn G mm_Model_loadsOf 3 lv (.int (nI 0) :: st) S P := rn_s dq_Model_loadsOf_2 rfl rfl rfl
theorem dq_Model_loadsOf_3 : decode (km_c mm_Model_loadsOf) 3 = .ok (.istore_n 3, 1) := by decide +kernel
theorem sq_Model_loadsOf_3n : rn G mm_Model_loadsOf 3 [a0, a1, none, a3] (.int x :: st) S P ↔ rn G mm_Model_loadsOf 4 [a0, a1, none, some (.int x)] st S P := rn_s dq_Model_loadsOf_3 rfl rfl rfl
theorem sq_Model_loadsOf_3i : rn G mm_Model_loadsOf 3 [a0, a1, some (.int x2), a3] (.int x :: st) S P ↔ rn G mm_Model_loadsOf 4 [a0, a1, some (.int x2), some (.int x)] st S P := rn_s dq_Model_loadsOf_3 rfl rfl rfl
theorem sq_Model_loadsOf_3r : rn G mm_Model_loadsOf 3 [a0, a1, some (.ref z2), a3] (.int x :: st) S P ↔ rn G mm_Model_loadsOf 4 [a0, a1, some (.ref z2), some (.int x)] st S P := rn_s dq_Model_loadsOf_3 rfl rfl rfl
theorem dq_Model_loadsOf_4 : decode (km_c mm_Model_loadsOf) 4 = .ok (.iload_n 3, 1) := by decide +kernel
theorem sq_Model_loadsOf_4 : rn G mm_Model_loadsOf 4 [a0, a1, a2, some (.int x)] st S P ↔ rn G mm_Model_loadsOf 5 [a0, a1, a2, some (.int x)] (.int x :: st) S P := rn_s dq_Model_loadsOf_4 rfl rfl rfl
theorem dq_Model_loadsOf_5 : decode (km_c mm_Model_loadsOf) 5 = .ok (.aload_n 0, 1) := by decide +kernel
theorem sq_Model_loadsOf_5 : rn G mm_Model_loadsOf 5 [some (.ref z), a1, a2, a3] st S P ↔ rn G mm_Model_loadsOf 6 [some (.ref z), a1, a2, a3] (.ref z :: st) S P := rn_s dq_Model_loadsOf_5 rfl rfl rfl
theorem dq_Model_loadsOf_6 : decode (km_c mm_Model_loadsOf) 6 = .ok (.getfield 131, 3) := by decide +kernel
theorem sq_Model_loadsOf_6_45 (ho : sx_o o pl kp) : rn (lt_G o L) mm_Model_loadsOf 6 lv (.ref 45 :: st) (sx pl kp I A) P ↔ rn (lt_G o L) mm_Model_loadsOf 9 lv (.int (I 45 4) :: st) (sx pl kp I A) P := rx_get (h := "") (ci := 10) (k := 4) dq_Model_loadsOf_6 (by decide +kernel) ho (up_b (by decide)) rfl rfl (fl_i (by decide))
theorem dq_Model_loadsOf_9 : decode (km_c mm_Model_loadsOf) 9 = .ok (.if_icmp .ge 30, 3) := by decide +kernel
theorem sq_Model_loadsOf_9 : rn G mm_Model_loadsOf 9 lv (.int x2 :: .int x :: st) S P ↔ ((x2 ≤ x → rn G mm_Model_loadsOf 39 lv st S P) ∧ (¬ (x2 ≤ x) → rn G mm_Model_loadsOf 12 lv st S P)) := rn_b (off := 30) dq_Model_loadsOf_9 rfl rfl rfl rfl
theorem dq_Model_loadsOf_12 : decode (km_c mm_Model_loadsOf) 12 = .ok (.iload_n 2, 1) := by decide +kernel
theorem sq_Model_loadsOf_12 : rn G mm_Model_loadsOf 12 [a0, a1, some (.int x), a3] st S P ↔ rn G mm_Model_loadsOf 13 [a0, a1, some (.int x), a3] (.int x :: st) S P := rn_s dq_Model_loadsOf_12 rfl rfl rfl
theorem dq_Model_loadsOf_13 : decode (km_c mm_Model_loadsOf) 13 = .ok (.iload_n 1, 1) := by decide +kernel
theorem sq_Model_loadsOf_13 : rn G mm_Model_loadsOf 13 [a0, some (.int x), a2, a3] st S P ↔ rn G mm_Model_loadsOf 14 [a0, some (.int x), a2, a3] (.int x :: st) S P := rn_s dq_Model_loadsOf_13 rfl rfl rfl
theorem dq_Model_loadsOf_14 : decode (km_c mm_Model_loadsOf) 14 = .ok (.iload_n 3, 1) := by decide +kernel
theorem sq_Model_loadsOf_14 : rn G mm_Model_loadsOf 14 [a0, a1, a2, some (.int x)] st S P ↔ rn G mm_Model_loadsOf 15 [a0, a1, a2, some (.int x)] (.int x :: st) S P := rn_s dq_Model_loadsOf_14 rfl rfl rfl
theorem dq_Model_loadsOf_15 : decode (km_c mm_Model_loadsOf) 15 = .ok (.invokestatic 208, 3) := by decide +kernel
theorem sq_Model_loadsOf_15 {x1 : Int32} {x2 : Int32} {v : Option Value} {S2 : ks_S} (hc : ev G mm_Model_has [.int x1, .int x2] S v S2) (hst : kx_cat st ≤ 8) : rn G mm_Model_loadsOf 15 lv (.int x2 :: .int x1 :: st) S P ↔ rn G mm_Model_loadsOf 18 lv (v.toList ++ st) S2 P := rn_cs (k := 1) (host := "") (E' := mm_Model_has) dq_Model_loadsOf_15 (by decide) (by decide) rfl (ok_v rfl (by decide) (by decide) (Nat.le_add_left _ _) hst (Nat.le_of_ble_eq_true rfl) (Or.inl rfl)) rfl rfl hc
theorem dq_Model_loadsOf_18 : decode (km_c mm_Model_loadsOf) 18 = .ok (.ifCond .eq 12, 3) := by decide +kernel
theorem sq_Model_loadsOf_18 : rn G mm_Model_loadsOf 18 lv (.int x :: st) S P ↔ ((x = 0 → rn G mm_Model_loadsOf 30 lv st S P) ∧ (¬ (x = 0) → rn G mm_Model_loadsOf 21 lv st S P)) := rn_b (off := 12) dq_Model_loadsOf_18 rfl rfl rfl rfl
theorem dq_Model_loadsOf_21 : decode (km_c mm_Model_loadsOf) 21 = .ok (.aload_n 0, 1) := by decide +kernel
theorem sq_Model_loadsOf_21 : rn G mm_Model_loadsOf 21 [some (.ref z), a1, a2, a3] st S P ↔ rn G mm_Model_loadsOf 22 [some (.ref z), a1, a2, a3] (.ref z :: st) S P := rn_s dq_Model_loadsOf_21 rfl rfl rfl
theorem dq_Model_loadsOf_22 : decode (km_c mm_Model_loadsOf) 22 = .ok (.getfield 16, 3) := by decide +kernel
theorem sq_Model_loadsOf_22_45 (ho : sx_o o pl kp) : rn (lt_G o L) mm_Model_loadsOf 22 lv (.ref 45 :: st) (sx pl kp I A) P ↔ rn (lt_G o L) mm_Model_loadsOf 25 lv (.ref 48 :: st) (sx pl kp I A) P := rx_get (h := "") (ci := 10) (k := 3) dq_Model_loadsOf_22 (by decide +kernel) ho (up_b (by decide)) rfl rfl (fl_r (by decide) (by decide) (by decide) (by decide))
theorem dq_Model_loadsOf_25 : decode (km_c mm_Model_loadsOf) 25 = .ok (.iload_n 3, 1) := by decide +kernel
theorem sq_Model_loadsOf_25 : rn G mm_Model_loadsOf 25 [a0, a1, a2, some (.int x)] st S P ↔ rn G mm_Model_loadsOf 26 [a0, a1, a2, some (.int x)] (.int x :: st) S P := rn_s dq_Model_loadsOf_25 rfl rfl rfl
theorem dq_Model_loadsOf_26 : decode (km_c mm_Model_loadsOf) 26 = .ok (.iaload, 1) := by decide +kernel
theorem sq_Model_loadsOf_26 (ho : sx_o o pl kp) (hk : ak L a = 0) (hu : sx_up pl kp a = true ∨ 1000 ≤ a) (hc : c < ln L a) (hn : ln L a < 2 ^ 31) : rn (lt_G o L) mm_Model_loadsOf 26 lv (.int (nI c) :: .ref a :: st) (sx pl kp I A) P ↔ rn (lt_G o L) mm_Model_loadsOf 27 lv (.int (A a c) :: st) (sx pl kp I A) P := rx_ild dq_Model_loadsOf_26 ho hk hu hc hn
theorem dq_Model_loadsOf_27 : decode (km_c mm_Model_loadsOf) 27 = .ok (.goto 4, 3) := by decide +kernel
theorem sq_Model_loadsOf_27 : rn G mm_Model_loadsOf 27 lv st S P ↔ rn G mm_Model_loadsOf 31 lv st S P := rn_s dq_Model_loadsOf_27 rfl rfl rfl
theorem dq_Model_loadsOf_30 : decode (km_c mm_Model_loadsOf) 30 = .ok (.iconst 0, 1) := by decide +kernel
theorem sq_Model_loadsOf_30 : rn G mm_Model_loadsOf 30 lv st S P ↔ rn G mm_Model_loadsOf 31 lv (.int (nI 0) :: st) S P := rn_s dq_Model_loadsOf_30 rfl rfl rfl
theorem dq_Model_loadsOf_31 : decode (km_c mm_Model_loadsOf) 31 = .ok (.iadd, 1) := by decide +kernel
theorem sq_Model_loadsOf_31 : rn G mm_Model_loadsOf 31 lv (.int x2 :: .int x :: st) S P ↔ rn G mm_Model_loadsOf 32 lv (.int (x + x2) :: st) S P := rn_s dq_Model_loadsOf_31 rfl rfl rfl
theorem dq_Model_loadsOf_32 : decode (km_c mm_Model_loadsOf) 32 = .ok (.istore_n 2, 1) := by decide +kernel
theorem sq_Model_loadsOf_32n : rn G mm_Model_loadsOf 32 [a0, none, a2, a3] (.int x :: st) S P ↔ rn G mm_Model_loadsOf 33 [a0, none, some (.int x), a3] st S P := rn_s dq_Model_loadsOf_32 rfl rfl rfl
theorem sq_Model_loadsOf_32i : rn G mm_Model_loadsOf 32 [a0, some (.int x2), a2, a3] (.int x :: st) S P ↔ rn G mm_Model_loadsOf 33 [a0, some (.int x2), some (.int x), a3] st S P := rn_s dq_Model_loadsOf_32 rfl rfl rfl
theorem sq_Model_loadsOf_32r : rn G mm_Model_loadsOf 32 [a0, some (.ref z2), a2, a3] (.int x :: st) S P ↔ rn G mm_Model_loadsOf 33 [a0, some (.ref z2), some (.int x), a3] st S P := rn_s dq_Model_loadsOf_32 rfl rfl rfl
theorem dq_Model_loadsOf_33 : decode (km_c mm_Model_loadsOf) 33 = .ok (.iinc 3 1, 3) := by decide +kernel
theorem sq_Model_loadsOf_33n : rn G mm_Model_loadsOf 33 [a0, a1, none, some (.int x)] st S P ↔ rn G mm_Model_loadsOf 36 [a0, a1, none, some (.int (x + nI 1))] st S P := rn_s dq_Model_loadsOf_33 rfl rfl rfl
theorem sq_Model_loadsOf_33i : rn G mm_Model_loadsOf 33 [a0, a1, some (.int x2), some (.int x)] st S P ↔ rn G mm_Model_loadsOf 36 [a0, a1, some (.int x2), some (.int (x + nI 1))] st S P := rn_s dq_Model_loadsOf_33 rfl rfl rfl
theorem sq_Model_loadsOf_33r : rn G mm_Model_loadsOf 33 [a0, a1, some (.ref z2), some (.int x)] st S P ↔ rn G mm_Model_loadsOf 36 [a0, a1, some (.ref z2), some (.int (x + nI 1))] st S P := rn_s dq_Model_loadsOf_33 rfl rfl rfl
theorem dq_Model_loadsOf_36 : decode (km_c mm_Model_loadsOf) 36 = .ok (.goto (-32), 3) := by decide +kernel
theorem sq_Model_loadsOf_36 : rn G mm_Model_loadsOf 36 lv st S P ↔ rn G mm_Model_loadsOf 4 lv st S P := rn_s dq_Model_loadsOf_36 rfl rfl rfl
theorem dq_Model_loadsOf_39 : decode (km_c mm_Model_loadsOf) 39 = .ok (.iload_n 2, 1) := by decide +kernel
theorem sq_Model_loadsOf_39 : rn G mm_Model_loadsOf 39 [a0, a1, some (.int x), a3] st S P ↔ rn G mm_Model_loadsOf 40 [a0, a1, some (.int x), a3] (.int x :: st) S P := rn_s dq_Model_loadsOf_39 rfl rfl rfl
theorem dq_Model_loadsOf_40 : decode (km_c mm_Model_loadsOf) 40 = .ok (.ireturn, 1) := by decide +kernel
theorem sq_Model_loadsOf_40 : rn G mm_Model_loadsOf 40 lv [.int x] S P ↔ P (some (.int x)) S := rn_ir dq_Model_loadsOf_40 rfl
theorem dq_Model_has_0 : decode (km_c mm_Model_has) 0 = .ok (.iload_n 0, 1) := by decide +kernel
theorem sq_Model_has_0 : rn G mm_Model_has 0 [some (.int x), a1] st S P ↔ rn G mm_Model_has 1 [some (.int x), a1] (.int x :: st) S P := rn_s dq_Model_has_0 rfl rfl rfl
theorem dq_Model_has_1 : decode (km_c mm_Model_has) 1 = .ok (.iload_n 1, 1) := by decide +kernel
theorem sq_Model_has_1 : rn G mm_Model_has 1 [a0, some (.int x)] st S P ↔ rn G mm_Model_has 2 [a0, some (.int x)] (.int x :: st) S P := rn_s dq_Model_has_1 rfl rfl rfl
theorem dq_Model_has_2 : decode (km_c mm_Model_has) 2 = .ok (.ishr, 1) := by decide +kernel
theorem sq_Model_has_2 : rn G mm_Model_has 2 lv (.int x2 :: .int x :: st) S P ↔ rn G mm_Model_has 3 lv (.int (x >>> (x2 &&& 31)) :: st) S P := rn_s dq_Model_has_2 rfl rfl rfl
theorem dq_Model_has_3 : decode (km_c mm_Model_has) 3 = .ok (.iconst 1, 1) := by decide +kernel
theorem sq_Model_has_3 : rn G mm_Model_has 3 lv st S P ↔ rn G mm_Model_has 4 lv (.int (nI 1) :: st) S P := rn_s dq_Model_has_3 rfl rfl rfl
theorem dq_Model_has_4 : decode (km_c mm_Model_has) 4 = .ok (.iand, 1) := by decide +kernel
theorem sq_Model_has_4 : rn G mm_Model_has 4 lv (.int x2 :: .int x :: st) S P ↔ rn G mm_Model_has 5 lv (.int (x &&& x2) :: st) S P := rn_s dq_Model_has_4 rfl rfl rfl
theorem dq_Model_has_5 : decode (km_c mm_Model_has) 5 = .ok (.iconst 1, 1) := by decide +kernel
theorem sq_Model_has_5 : rn G mm_Model_has 5 lv st S P ↔ rn G mm_Model_has 6 lv (.int (nI 1) :: st) S P := rn_s dq_Model_has_5 rfl rfl rfl
theorem dq_Model_has_6 : decode (km_c mm_Model_has) 6 = .ok (.if_icmp .ne 7, 3) := by decide +kernel
theorem sq_Model_has_6 : rn G mm_Model_has 6 lv (.int x2 :: .int x :: st) S P ↔ ((¬ x = x2 → rn G mm_Model_has 13 lv st S P) ∧ (¬ (¬ x = x2) → rn G mm_Model_has 9 lv st S P)) := rn_b (off := 7) dq_Model_has_6 rfl rfl rfl rfl
theorem dq_Model_has_9 : decode (km_c mm_Model_has) 9 = .ok (.iconst 1, 1) := by decide +kernel
theorem sq_Model_has_9 : rn G mm_Model_has 9 lv st S P ↔ rn G mm_Model_has 10 lv (.int (nI 1) :: st) S P := rn_s dq_Model_has_9 rfl rfl rfl
theorem dq_Model_has_10 : decode (km_c mm_Model_has) 10 = .ok (.goto 4, 3) := by decide +kernel
theorem sq_Model_has_10 : rn G mm_Model_has 10 lv st S P ↔ rn G mm_Model_has 14 lv st S P := rn_s dq_Model_has_10 rfl rfl rfl
theorem dq_Model_has_13 : decode (km_c mm_Model_has) 13 = .ok (.iconst 0, 1) := by decide +kernel
theorem sq_Model_has_13 : rn G mm_Model_has 13 lv st S P ↔ rn G mm_Model_has 14 lv (.int (nI 0) :: st) S P := rn_s dq_Model_has_13 rfl rfl rfl
theorem dq_Model_has_14 : decode (km_c mm_Model_has) 14 = .ok (.ireturn, 1) := by decide +kernel
theorem sq_Model_has_14_0 : rn G mm_Model_has 14 lv [.int (nI 0)] S P ↔ P (some (.int (nI 0))) S := rn_ir dq_Model_has_14 (by decide)
theorem sq_Model_has_14_1 : rn G mm_Model_has 14 lv [.int (nI 1)] S P ↔ P (some (.int (nI 1))) S := rn_ir dq_Model_has_14 (by decide)
theorem dq_Model_vote_0 : decode (km_c mm_Model_vote) 0 = .ok (.aload_n 0, 1) := by decide +kernel
theorem sq_Model_vote_0 : rn G mm_Model_vote 0 [some (.ref z), a1, a2] st S P ↔ rn G mm_Model_vote 1 [some (.ref z), a1, a2] (.ref z :: st) S P := rn_s dq_Model_vote_0 rfl rfl rfl
theorem dq_Model_vote_1 : decode (km_c mm_Model_vote) 1 = .ok (.invokevirtual 205, 3) := by decide +kernel
theorem sq_Model_vote_1_45  {v : Option Value} {S2 : ks_S} (hc : ev (lt_G o L) mm_Model_findAll [.ref 45] (sx pl kp I A) v S2) (ho : sx_o o pl kp) (hst : kx_cat st ≤ 8) : rn (lt_G o L) mm_Model_vote 1 lv (.ref 45 :: st) (sx pl kp I A) P ↔ rn (lt_G o L) mm_Model_vote 4 lv (v.toList ++ st) S2 P := rn_cv (k := 0) (host := "") (E' := mm_Model_findAll) dq_Model_vote_1 rfl (ok_v rfl (by decide) (by decide) (Nat.le_add_left _ _) hst (Nat.le_of_ble_eq_true rfl) (Or.inr (rc_v ho (up_b (by decide)) rfl))) rfl rfl hc
theorem dq_Model_vote_4 : decode (km_c mm_Model_vote) 4 = .ok (.iconst 0, 1) := by decide +kernel
theorem sq_Model_vote_4 : rn G mm_Model_vote 4 lv st S P ↔ rn G mm_Model_vote 5 lv (.int (nI 0) :: st) S P := rn_s dq_Model_vote_4 rfl rfl rfl
theorem dq_Model_vote_5 : decode (km_c mm_Model_vote) 5 = .ok (.istore_n 1, 1) := by decide +kernel
theorem sq_Model_vote_5n : rn G mm_Model_vote 5 [none, a1, a2] (.int x :: st) S P ↔ rn G mm_Model_vote 6 [none, some (.int x), a2] st S P := rn_s dq_Model_vote_5 rfl rfl rfl
theorem sq_Model_vote_5i : rn G mm_Model_vote 5 [some (.int x2), a1, a2] (.int x :: st) S P ↔ rn G mm_Model_vote 6 [some (.int x2), some (.int x), a2] st S P := rn_s dq_Model_vote_5 rfl rfl rfl
theorem sq_Model_vote_5r : rn G mm_Model_vote 5 [some (.ref z2), a1, a2] (.int x :: st) S P ↔ rn G mm_Model_vote 6 [some (.ref z2), some (.int x), a2] st S P := rn_s dq_Model_vote_5 rfl rfl rfl
theorem dq_Model_vote_6 : decode (km_c mm_Model_vote) 6 = .ok (.iconst 1, 1) := by decide +kernel
theorem sq_Model_vote_6 : rn G mm_Model_vote 6 lv st S P ↔ rn G mm_Model_vote 7 lv (.int (nI 1) :: st) S P := rn_s dq_Model_vote_6 rfl rfl rfl
theorem dq_Model_vote_7 : decode (km_c mm_Model_vote) 7 = .ok (.istore_n 2, 1) := by decide +kernel
theorem sq_Model_vote_7n : rn G mm_Model_vote 7 [a0, none, a2] (.int x :: st) S P ↔ rn G mm_Model_vote 8 [a0, none, some (.int x)] st S P := rn_s dq_Model_vote_7 rfl rfl rfl
theorem sq_Model_vote_7i : rn G mm_Model_vote 7 [a0, some (.int x2), a2] (.int x :: st) S P ↔ rn G mm_Model_vote 8 [a0, some (.int x2), some (.int x)] st S P := rn_s dq_Model_vote_7 rfl rfl rfl
theorem sq_Model_vote_7r : rn G mm_Model_vote 7 [a0, some (.ref z2), a2] (.int x :: st) S P ↔ rn G mm_Model_vote 8 [a0, some (.ref z2), some (.int x)] st S P := rn_s dq_Model_vote_7 rfl rfl rfl
theorem dq_Model_vote_8 : decode (km_c mm_Model_vote) 8 = .ok (.iload_n 2, 1) := by decide +kernel
theorem sq_Model_vote_8 : rn G mm_Model_vote 8 [a0, a1, some (.int x)] st S P ↔ rn G mm_Model_vote 9 [a0, a1, some (.int x)] (.int x :: st) S P := rn_s dq_Model_vote_8 rfl rfl rfl
theorem dq_Model_vote_9 : decode (km_c mm_Model_vote) 9 = .ok (.iconst 1, 1) := by decide +kernel
theorem sq_Model_vote_9 : rn G mm_Model_vote 9 lv st S P ↔ rn G mm_Model_vote 10 lv (.int (nI 1) :: st) S P := rn_s dq_Model_vote_9 rfl rfl rfl
theorem dq_Model_vote_10 : decode (km_c mm_Model_vote) 10 = .ok (.aload_n 0, 1) := by decide +kernel
theorem sq_Model_vote_10 : rn G mm_Model_vote 10 [some (.ref z), a1, a2] st S P ↔ rn G mm_Model_vote 11 [some (.ref z), a1, a2] (.ref z :: st) S P := rn_s dq_Model_vote_10 rfl rfl rfl
theorem dq_Model_vote_11 : decode (km_c mm_Model_vote) 11 = .ok (.getfield 131, 3) := by decide +kernel
theorem sq_Model_vote_11_45 (ho : sx_o o pl kp) : rn (lt_G o L) mm_Model_vote 11 lv (.ref 45 :: st) (sx pl kp I A) P ↔ rn (lt_G o L) mm_Model_vote 14 lv (.int (I 45 4) :: st) (sx pl kp I A) P := rx_get (h := "") (ci := 10) (k := 4) dq_Model_vote_11 (by decide +kernel) ho (up_b (by decide)) rfl rfl (fl_i (by decide))
theorem dq_Model_vote_14 : decode (km_c mm_Model_vote) 14 = .ok (.ishl, 1) := by decide +kernel
theorem sq_Model_vote_14 : rn G mm_Model_vote 14 lv (.int x2 :: .int x :: st) S P ↔ rn G mm_Model_vote 15 lv (.int (x <<< (x2 &&& 31)) :: st) S P := rn_s dq_Model_vote_14 rfl rfl rfl
theorem dq_Model_vote_15 : decode (km_c mm_Model_vote) 15 = .ok (.if_icmp .ge 42, 3) := by decide +kernel
theorem sq_Model_vote_15 : rn G mm_Model_vote 15 lv (.int x2 :: .int x :: st) S P ↔ ((x2 ≤ x → rn G mm_Model_vote 57 lv st S P) ∧ (¬ (x2 ≤ x) → rn G mm_Model_vote 18 lv st S P)) := rn_b (off := 42) dq_Model_vote_15 rfl rfl rfl rfl
theorem dq_Model_vote_18 : decode (km_c mm_Model_vote) 18 = .ok (.aload_n 0, 1) := by decide +kernel
theorem sq_Model_vote_18 : rn G mm_Model_vote 18 [some (.ref z), a1, a2] st S P ↔ rn G mm_Model_vote 19 [some (.ref z), a1, a2] (.ref z :: st) S P := rn_s dq_Model_vote_18 rfl rfl rfl
theorem dq_Model_vote_19 : decode (km_c mm_Model_vote) 19 = .ok (.iload_n 2, 1) := by decide +kernel
theorem sq_Model_vote_19 : rn G mm_Model_vote 19 [a0, a1, some (.int x)] st S P ↔ rn G mm_Model_vote 20 [a0, a1, some (.int x)] (.int x :: st) S P := rn_s dq_Model_vote_19 rfl rfl rfl
theorem dq_Model_vote_20 : decode (km_c mm_Model_vote) 20 = .ok (.invokevirtual 213, 3) := by decide +kernel
theorem sq_Model_vote_20_45 {x1 : Int32} {v : Option Value} {S2 : ks_S} (hc : ev (lt_G o L) mm_Model_loadsOf [.ref 45, .int x1] (sx pl kp I A) v S2) (ho : sx_o o pl kp) (hst : kx_cat st ≤ 8) : rn (lt_G o L) mm_Model_vote 20 lv (.int x1 :: .ref 45 :: st) (sx pl kp I A) P ↔ rn (lt_G o L) mm_Model_vote 23 lv (v.toList ++ st) S2 P := rn_cv (k := 0) (host := "") (E' := mm_Model_loadsOf) dq_Model_vote_20 rfl (ok_v rfl (by decide) (by decide) (Nat.le_add_left _ _) hst (Nat.le_of_ble_eq_true rfl) (Or.inr (rc_v ho (up_b (by decide)) rfl))) rfl rfl hc
theorem dq_Model_vote_23 : decode (km_c mm_Model_vote) 23 = .ok (.aload_n 0, 1) := by decide +kernel
theorem sq_Model_vote_23 : rn G mm_Model_vote 23 [some (.ref z), a1, a2] st S P ↔ rn G mm_Model_vote 24 [some (.ref z), a1, a2] (.ref z :: st) S P := rn_s dq_Model_vote_23 rfl rfl rfl
theorem dq_Model_vote_24 : decode (km_c mm_Model_vote) 24 = .ok (.getfield 56, 3) := by decide +kernel
theorem sq_Model_vote_24_45 (ho : sx_o o pl kp) : rn (lt_G o L) mm_Model_vote 24 lv (.ref 45 :: st) (sx pl kp I A) P ↔ rn (lt_G o L) mm_Model_vote 27 lv (.ref 59 :: st) (sx pl kp I A) P := rx_get (h := "") (ci := 10) (k := 23) dq_Model_vote_24 (by decide +kernel) ho (up_b (by decide)) rfl rfl (fl_r (by decide) (by decide) (by decide) (by decide))
theorem dq_Model_vote_27 : decode (km_c mm_Model_vote) 27 = .ok (.iload_n 2, 1) := by decide +kernel
theorem sq_Model_vote_27 : rn G mm_Model_vote 27 [a0, a1, some (.int x)] st S P ↔ rn G mm_Model_vote 28 [a0, a1, some (.int x)] (.int x :: st) S P := rn_s dq_Model_vote_27 rfl rfl rfl
theorem dq_Model_vote_28 : decode (km_c mm_Model_vote) 28 = .ok (.iaload, 1) := by decide +kernel
theorem sq_Model_vote_28 (ho : sx_o o pl kp) (hk : ak L a = 0) (hu : sx_up pl kp a = true ∨ 1000 ≤ a) (hc : c < ln L a) (hn : ln L a < 2 ^ 31) : rn (lt_G o L) mm_Model_vote 28 lv (.int (nI c) :: .ref a :: st) (sx pl kp I A) P ↔ rn (lt_G o L) mm_Model_vote 29 lv (.int (A a c) :: st) (sx pl kp I A) P := rx_ild dq_Model_vote_28 ho hk hu hc hn
theorem dq_Model_vote_29 : decode (km_c mm_Model_vote) 29 = .ok (.isub, 1) := by decide +kernel
theorem sq_Model_vote_29 : rn G mm_Model_vote 29 lv (.int x2 :: .int x :: st) S P ↔ rn G mm_Model_vote 30 lv (.int (x - x2) :: st) S P := rn_s dq_Model_vote_29 rfl rfl rfl
theorem dq_Model_vote_30 : decode (km_c mm_Model_vote) 30 = .ok (.aload_n 0, 1) := by decide +kernel
theorem sq_Model_vote_30 : rn G mm_Model_vote 30 [some (.ref z), a1, a2] st S P ↔ rn G mm_Model_vote 31 [some (.ref z), a1, a2] (.ref z :: st) S P := rn_s dq_Model_vote_30 rfl rfl rfl
theorem dq_Model_vote_31 : decode (km_c mm_Model_vote) 31 = .ok (.iload_n 1, 1) := by decide +kernel
theorem sq_Model_vote_31 : rn G mm_Model_vote 31 [a0, some (.int x), a2] st S P ↔ rn G mm_Model_vote 32 [a0, some (.int x), a2] (.int x :: st) S P := rn_s dq_Model_vote_31 rfl rfl rfl
theorem dq_Model_vote_32 : decode (km_c mm_Model_vote) 32 = .ok (.invokevirtual 213, 3) := by decide +kernel
theorem sq_Model_vote_32_45 {x1 : Int32} {v : Option Value} {S2 : ks_S} (hc : ev (lt_G o L) mm_Model_loadsOf [.ref 45, .int x1] (sx pl kp I A) v S2) (ho : sx_o o pl kp) (hst : kx_cat st ≤ 8) : rn (lt_G o L) mm_Model_vote 32 lv (.int x1 :: .ref 45 :: st) (sx pl kp I A) P ↔ rn (lt_G o L) mm_Model_vote 35 lv (v.toList ++ st) S2 P := rn_cv (k := 0) (host := "") (E' := mm_Model_loadsOf) dq_Model_vote_32 rfl (ok_v rfl (by decide) (by decide) (Nat.le_add_left _ _) hst (Nat.le_of_ble_eq_true rfl) (Or.inr (rc_v ho (up_b (by decide)) rfl))) rfl rfl hc
theorem dq_Model_vote_35 : decode (km_c mm_Model_vote) 35 = .ok (.aload_n 0, 1) := by decide +kernel
theorem sq_Model_vote_35 : rn G mm_Model_vote 35 [some (.ref z), a1, a2] st S P ↔ rn G mm_Model_vote 36 [some (.ref z), a1, a2] (.ref z :: st) S P := rn_s dq_Model_vote_35 rfl rfl rfl
theorem dq_Model_vote_36 : decode (km_c mm_Model_vote) 36 = .ok (.getfield 56, 3) := by decide +kernel
theorem sq_Model_vote_36_45 (ho : sx_o o pl kp) : rn (lt_G o L) mm_Model_vote 36 lv (.ref 45 :: st) (sx pl kp I A) P ↔ rn (lt_G o L) mm_Model_vote 39 lv (.ref 59 :: st) (sx pl kp I A) P := rx_get (h := "") (ci := 10) (k := 23) dq_Model_vote_36 (by decide +kernel) ho (up_b (by decide)) rfl rfl (fl_r (by decide) (by decide) (by decide) (by decide))
theorem dq_Model_vote_39 : decode (km_c mm_Model_vote) 39 = .ok (.iload_n 1, 1) := by decide +kernel
theorem sq_Model_vote_39 : rn G mm_Model_vote 39 [a0, some (.int x), a2] st S P ↔ rn G mm_Model_vote 40 [a0, some (.int x), a2] (.int x :: st) S P := rn_s dq_Model_vote_39 rfl rfl rfl
theorem dq_Model_vote_40 : decode (km_c mm_Model_vote) 40 = .ok (.iaload, 1) := by decide +kernel
theorem sq_Model_vote_40 (ho : sx_o o pl kp) (hk : ak L a = 0) (hu : sx_up pl kp a = true ∨ 1000 ≤ a) (hc : c < ln L a) (hn : ln L a < 2 ^ 31) : rn (lt_G o L) mm_Model_vote 40 lv (.int (nI c) :: .ref a :: st) (sx pl kp I A) P ↔ rn (lt_G o L) mm_Model_vote 41 lv (.int (A a c) :: st) (sx pl kp I A) P := rx_ild dq_Model_vote_40 ho hk hu hc hn
theorem dq_Model_vote_41 : decode (km_c mm_Model_vote) 41 = .ok (.isub, 1) := by decide +kernel
theorem sq_Model_vote_41 : rn G mm_Model_vote 41 lv (.int x2 :: .int x :: st) S P ↔ rn G mm_Model_vote 42 lv (.int (x - x2) :: st) S P := rn_s dq_Model_vote_41 rfl rfl rfl
theorem dq_Model_vote_42 : decode (km_c mm_Model_vote) 42 = .ok (.if_icmp .le 7, 3) := by decide +kernel
theorem sq_Model_vote_42 : rn G mm_Model_vote 42 lv (.int x2 :: .int x :: st) S P ↔ ((x ≤ x2 → rn G mm_Model_vote 49 lv st S P) ∧ (¬ (x ≤ x2) → rn G mm_Model_vote 45 lv st S P)) := rn_b (off := 7) dq_Model_vote_42 rfl rfl rfl rfl
theorem dq_Model_vote_45 : decode (km_c mm_Model_vote) 45 = .ok (.iload_n 2, 1) := by decide +kernel
theorem sq_Model_vote_45 : rn G mm_Model_vote 45 [a0, a1, some (.int x)] st S P ↔ rn G mm_Model_vote 46 [a0, a1, some (.int x)] (.int x :: st) S P := rn_s dq_Model_vote_45 rfl rfl rfl
theorem dq_Model_vote_46 : decode (km_c mm_Model_vote) 46 = .ok (.goto 4, 3) := by decide +kernel
theorem sq_Model_vote_46 : rn G mm_Model_vote 46 lv st S P ↔ rn G mm_Model_vote 50 lv st S P := rn_s dq_Model_vote_46 rfl rfl rfl
theorem dq_Model_vote_49 : decode (km_c mm_Model_vote) 49 = .ok (.iload_n 1, 1) := by decide +kernel
theorem sq_Model_vote_49 : rn G mm_Model_vote 49 [a0, some (.int x), a2] st S P ↔ rn G mm_Model_vote 50 [a0, some (.int x), a2] (.int x :: st) S P := rn_s dq_Model_vote_49 rfl rfl rfl
theorem dq_Model_vote_50 : decode (km_c mm_Model_vote) 50 = .ok (.istore_n 1, 1) := by decide +kernel
theorem sq_Model_vote_50n : rn G mm_Model_vote 50 [none, a1, a2] (.int x :: st) S P ↔ rn G mm_Model_vote 51 [none, some (.int x), a2] st S P := rn_s dq_Model_vote_50 rfl rfl rfl
theorem sq_Model_vote_50i : rn G mm_Model_vote 50 [some (.int x2), a1, a2] (.int x :: st) S P ↔ rn G mm_Model_vote 51 [some (.int x2), some (.int x), a2] st S P := rn_s dq_Model_vote_50 rfl rfl rfl
theorem sq_Model_vote_50r : rn G mm_Model_vote 50 [some (.ref z2), a1, a2] (.int x :: st) S P ↔ rn G mm_Model_vote 51 [some (.ref z2), some (.int x), a2] st S P := rn_s dq_Model_vote_50 rfl rfl rfl
theorem dq_Model_vote_51 : decode (km_c mm_Model_vote) 51 = .ok (.iinc 2 1, 3) := by decide +kernel
theorem sq_Model_vote_51n : rn G mm_Model_vote 51 [a0, none, some (.int x)] st S P ↔ rn G mm_Model_vote 54 [a0, none, some (.int (x + nI 1))] st S P := rn_s dq_Model_vote_51 rfl rfl rfl
theorem sq_Model_vote_51i : rn G mm_Model_vote 51 [a0, some (.int x2), some (.int x)] st S P ↔ rn G mm_Model_vote 54 [a0, some (.int x2), some (.int (x + nI 1))] st S P := rn_s dq_Model_vote_51 rfl rfl rfl
theorem sq_Model_vote_51r : rn G mm_Model_vote 51 [a0, some (.ref z2), some (.int x)] st S P ↔ rn G mm_Model_vote 54 [a0, some (.ref z2), some (.int (x + nI 1))] st S P := rn_s dq_Model_vote_51 rfl rfl rfl
theorem dq_Model_vote_54 : decode (km_c mm_Model_vote) 54 = .ok (.goto (-46), 3) := by decide +kernel
theorem sq_Model_vote_54 : rn G mm_Model_vote 54 lv st S P ↔ rn G mm_Model_vote 8 lv st S P := rn_s dq_Model_vote_54 rfl rfl rfl
theorem dq_Model_vote_57 : decode (km_c mm_Model_vote) 57 = .ok (.iload_n 1, 1) := by decide +kernel
theorem sq_Model_vote_57 : rn G mm_Model_vote 57 [a0, some (.int x), a2] st S P ↔ rn G mm_Model_vote 58 [a0, some (.int x), a2] (.int x :: st) S P := rn_s dq_Model_vote_57 rfl rfl rfl
theorem dq_Model_vote_58 : decode (km_c mm_Model_vote) 58 = .ok (.ireturn, 1) := by decide +kernel
theorem sq_Model_vote_58 : rn G mm_Model_vote 58 lv [.int x] S P ↔ P (some (.int x)) S := rn_ir dq_Model_vote_58 rfl
theorem dq_Model_share_0 : decode (km_c mm_Model_share) 0 = .ok (.aload_n 0, 1) := by decide +kernel
theorem sq_Model_share_0 : rn G mm_Model_share 0 [some (.ref z), a1, a2, a3, a4, a5, a6, a7] st S P ↔ rn G mm_Model_share 1 [some (.ref z), a1, a2, a3, a4, a5, a6, a7] (.ref z :: st) S P := rn_s dq_Model_share_0 rfl rfl rfl
theorem dq_Model_share_1 : decode (km_c mm_Model_share) 1 = .ok (.iload_n 1, 1) := by decide +kernel
theorem sq_Model_share_1 : rn G mm_Model_share 1 [a0, some (.int x), a2, a3, a4, a5, a6, a7] st S P ↔ rn G mm_Model_share 2 [a0, some (.int x), a2, a3, a4, a5, a6, a7] (.int x :: st) S P := rn_s dq_Model_share_1 rfl rfl rfl
theorem dq_Model_share_2 : decode (km_c mm_Model_share) 2 = .ok (.invokevirtual 202, 3) := by decide +kernel
theorem sq_Model_share_2_45 {x1 : Int32} {v : Option Value} {S2 : ks_S} (hc : ev (lt_G o L) mm_Model_isSet [.ref 45, .int x1] (sx pl kp I A) v S2) (ho : sx_o o pl kp) (hst : kx_cat st ≤ 8) : rn (lt_G o L) mm_Model_share 2 lv (.int x1 :: .ref 45 :: st) (sx pl kp I A) P ↔ rn (lt_G o L) mm_Model_share 5 lv (v.toList ++ st) S2 P := rn_cv (k := 0) (host := "") (E' := mm_Model_isSet) dq_Model_share_2 rfl (ok_v rfl (by decide) (by decide) (Nat.le_add_left _ _) hst (Nat.le_of_ble_eq_true rfl) (Or.inr (rc_v ho (up_b (by decide)) rfl))) rfl rfl hc
theorem dq_Model_share_5 : decode (km_c mm_Model_share) 5 = .ok (.ifCond .eq 37, 3) := by decide +kernel
theorem sq_Model_share_5 : rn G mm_Model_share 5 lv (.int x :: st) S P ↔ ((x = 0 → rn G mm_Model_share 42 lv st S P) ∧ (¬ (x = 0) → rn G mm_Model_share 8 lv st S P)) := rn_b (off := 37) dq_Model_share_5 rfl rfl rfl rfl
theorem dq_Model_share_8 : decode (km_c mm_Model_share) 8 = .ok (.iload_n 2, 1) := by decide +kernel
theorem sq_Model_share_8 : rn G mm_Model_share 8 [a0, a1, some (.int x), a3, a4, a5, a6, a7] st S P ↔ rn G mm_Model_share 9 [a0, a1, some (.int x), a3, a4, a5, a6, a7] (.int x :: st) S P := rn_s dq_Model_share_8 rfl rfl rfl
theorem dq_Model_share_9 : decode (km_c mm_Model_share) 9 = .ok (.i2l, 1) := by decide +kernel
theorem sq_Model_share_9 : rn G mm_Model_share 9 lv (.int x :: st) S P ↔ rn G mm_Model_share 10 lv (.long x.toInt64 :: st) S P := rn_s dq_Model_share_9 rfl rfl rfl
theorem dq_Model_share_10 : decode (km_c mm_Model_share) 10 = .ok (.lconst 0, 1) := by decide +kernel
theorem sq_Model_share_10 : rn G mm_Model_share 10 lv st S P ↔ rn G mm_Model_share 11 lv (.long (0) :: st) S P := rn_s dq_Model_share_10 rfl rfl rfl
theorem dq_Model_share_11 : decode (km_c mm_Model_share) 11 = .ok (.aload_n 0, 1) := by decide +kernel
theorem sq_Model_share_11 : rn G mm_Model_share 11 [some (.ref z), a1, a2, a3, a4, a5, a6, a7] st S P ↔ rn G mm_Model_share 12 [some (.ref z), a1, a2, a3, a4, a5, a6, a7] (.ref z :: st) S P := rn_s dq_Model_share_11 rfl rfl rfl
theorem dq_Model_share_12 : decode (km_c mm_Model_share) 12 = .ok (.getfield 131, 3) := by decide +kernel
theorem sq_Model_share_12_45 (ho : sx_o o pl kp) : rn (lt_G o L) mm_Model_share 12 lv (.ref 45 :: st) (sx pl kp I A) P ↔ rn (lt_G o L) mm_Model_share 15 lv (.int (I 45 4) :: st) (sx pl kp I A) P := rx_get (h := "") (ci := 10) (k := 4) dq_Model_share_12 (by decide +kernel) ho (up_b (by decide)) rfl rfl (fl_i (by decide))
theorem dq_Model_share_15 : decode (km_c mm_Model_share) 15 = .ok (.iconst 1, 1) := by decide +kernel
theorem sq_Model_share_15 : rn G mm_Model_share 15 lv st S P ↔ rn G mm_Model_share 16 lv (.int (nI 1) :: st) S P := rn_s dq_Model_share_15 rfl rfl rfl
theorem dq_Model_share_16 : decode (km_c mm_Model_share) 16 = .ok (.isub, 1) := by decide +kernel
theorem sq_Model_share_16 : rn G mm_Model_share 16 lv (.int x2 :: .int x :: st) S P ↔ rn G mm_Model_share 17 lv (.int (x - x2) :: st) S P := rn_s dq_Model_share_16 rfl rfl rfl
theorem dq_Model_share_17 : decode (km_c mm_Model_share) 17 = .ok (.i2l, 1) := by decide +kernel
theorem sq_Model_share_17 : rn G mm_Model_share 17 lv (.int x :: st) S P ↔ rn G mm_Model_share 18 lv (.long x.toInt64 :: st) S P := rn_s dq_Model_share_17 rfl rfl rfl
theorem dq_Model_share_18 : decode (km_c mm_Model_share) 18 = .ok (.invokestatic 76, 3) := by decide +kernel
theorem sq_Model_share_18 {y1 : Int64} {y2 : Int64} {y3 : Int64} {v : Option Value} {S2 : ks_S} (hc : ev G mm_Model_in [.long y1, .long y2, .long y3] S v S2) (hst : kx_cat st ≤ 8) : rn G mm_Model_share 18 lv (.long y3 :: .long y2 :: .long y1 :: st) S P ↔ rn G mm_Model_share 21 lv (v.toList ++ st) S2 P := rn_cs (k := 1) (host := "") (E' := mm_Model_in) dq_Model_share_18 (by decide) (by decide) rfl (ok_v rfl (by decide) (by decide) (Nat.le_add_left _ _) hst (Nat.le_of_ble_eq_true rfl) (Or.inl rfl)) rfl rfl hc
theorem dq_Model_share_21 : decode (km_c mm_Model_share) 21 = .ok (.ifCond .eq 21, 3) := by decide +kernel
theorem sq_Model_share_21 : rn G mm_Model_share 21 lv (.int x :: st) S P ↔ ((x = 0 → rn G mm_Model_share 42 lv st S P) ∧ (¬ (x = 0) → rn G mm_Model_share 24 lv st S P)) := rn_b (off := 21) dq_Model_share_21 rfl rfl rfl rfl
theorem dq_Model_share_24 : decode (km_c mm_Model_share) 24 = .ok (.iload_n 1, 1) := by decide +kernel
theorem sq_Model_share_24 : rn G mm_Model_share 24 [a0, some (.int x), a2, a3, a4, a5, a6, a7] st S P ↔ rn G mm_Model_share 25 [a0, some (.int x), a2, a3, a4, a5, a6, a7] (.int x :: st) S P := rn_s dq_Model_share_24 rfl rfl rfl
theorem dq_Model_share_25 : decode (km_c mm_Model_share) 25 = .ok (.iload_n 2, 1) := by decide +kernel
theorem sq_Model_share_25 : rn G mm_Model_share 25 [a0, a1, some (.int x), a3, a4, a5, a6, a7] st S P ↔ rn G mm_Model_share 26 [a0, a1, some (.int x), a3, a4, a5, a6, a7] (.int x :: st) S P := rn_s dq_Model_share_25 rfl rfl rfl
theorem dq_Model_share_26 : decode (km_c mm_Model_share) 26 = .ok (.invokestatic 208, 3) := by decide +kernel
theorem sq_Model_share_26 {x1 : Int32} {x2 : Int32} {v : Option Value} {S2 : ks_S} (hc : ev G mm_Model_has [.int x1, .int x2] S v S2) (hst : kx_cat st ≤ 8) : rn G mm_Model_share 26 lv (.int x2 :: .int x1 :: st) S P ↔ rn G mm_Model_share 29 lv (v.toList ++ st) S2 P := rn_cs (k := 1) (host := "") (E' := mm_Model_has) dq_Model_share_26 (by decide) (by decide) rfl (ok_v rfl (by decide) (by decide) (Nat.le_add_left _ _) hst (Nat.le_of_ble_eq_true rfl) (Or.inl rfl)) rfl rfl hc
theorem dq_Model_share_29 : decode (km_c mm_Model_share) 29 = .ok (.ifCond .eq 13, 3) := by decide +kernel
theorem sq_Model_share_29 : rn G mm_Model_share 29 lv (.int x :: st) S P ↔ ((x = 0 → rn G mm_Model_share 42 lv st S P) ∧ (¬ (x = 0) → rn G mm_Model_share 32 lv st S P)) := rn_b (off := 13) dq_Model_share_29 rfl rfl rfl rfl
theorem dq_Model_share_32 : decode (km_c mm_Model_share) 32 = .ok (.iload_n 3, 1) := by decide +kernel
theorem sq_Model_share_32 : rn G mm_Model_share 32 [a0, a1, a2, some (.int x), a4, a5, a6, a7] st S P ↔ rn G mm_Model_share 33 [a0, a1, a2, some (.int x), a4, a5, a6, a7] (.int x :: st) S P := rn_s dq_Model_share_32 rfl rfl rfl
theorem dq_Model_share_33 : decode (km_c mm_Model_share) 33 = .ok (.i2l, 1) := by decide +kernel
theorem sq_Model_share_33 : rn G mm_Model_share 33 lv (.int x :: st) S P ↔ rn G mm_Model_share 34 lv (.long x.toInt64 :: st) S P := rn_s dq_Model_share_33 rfl rfl rfl
theorem dq_Model_share_34 : decode (km_c mm_Model_share) 34 = .ok (.lconst 0, 1) := by decide +kernel
theorem sq_Model_share_34 : rn G mm_Model_share 34 lv st S P ↔ rn G mm_Model_share 35 lv (.long (0) :: st) S P := rn_s dq_Model_share_34 rfl rfl rfl
theorem dq_Model_share_35 : decode (km_c mm_Model_share) 35 = .ok (.lconst 1, 1) := by decide +kernel
theorem sq_Model_share_35 : rn G mm_Model_share 35 lv st S P ↔ rn G mm_Model_share 36 lv (.long (1) :: st) S P := rn_s dq_Model_share_35 rfl rfl rfl
theorem dq_Model_share_36 : decode (km_c mm_Model_share) 36 = .ok (.invokestatic 76, 3) := by decide +kernel
theorem sq_Model_share_36 {y1 : Int64} {y2 : Int64} {y3 : Int64} {v : Option Value} {S2 : ks_S} (hc : ev G mm_Model_in [.long y1, .long y2, .long y3] S v S2) (hst : kx_cat st ≤ 8) : rn G mm_Model_share 36 lv (.long y3 :: .long y2 :: .long y1 :: st) S P ↔ rn G mm_Model_share 39 lv (v.toList ++ st) S2 P := rn_cs (k := 1) (host := "") (E' := mm_Model_in) dq_Model_share_36 (by decide) (by decide) rfl (ok_v rfl (by decide) (by decide) (Nat.le_add_left _ _) hst (Nat.le_of_ble_eq_true rfl) (Or.inl rfl)) rfl rfl hc
theorem dq_Model_share_39 : decode (km_c mm_Model_share) 39 = .ok (.ifCond .ne 5, 3) := by decide +kernel
theorem sq_Model_share_39 : rn G mm_Model_share 39 lv (.int x :: st) S P ↔ ((¬ x = 0 → rn G mm_Model_share 44 lv st S P) ∧ (¬ (¬ x = 0) → rn G mm_Model_share 42 lv st S P)) := rn_b (off := 5) dq_Model_share_39 rfl rfl rfl rfl
theorem dq_Model_share_42 : decode (km_c mm_Model_share) 42 = .ok (.iconst (-1), 1) := by decide +kernel
theorem sq_Model_share_42 : rn G mm_Model_share 42 lv st S P ↔ rn G mm_Model_share 43 lv (.int ((-1)) :: st) S P := rn_s dq_Model_share_42 rfl rfl rfl
theorem dq_Model_share_43 : decode (km_c mm_Model_share) 43 = .ok (.ireturn, 1) := by decide +kernel
theorem sq_Model_share_43 : rn G mm_Model_share 43 lv [.int x] S P ↔ P (some (.int x)) S := rn_ir dq_Model_share_43 rfl
theorem dq_Model_share_44 : decode (km_c mm_Model_share) 44 = .ok (.aload_n 0, 1) := by decide +kernel
theorem sq_Model_share_44 : rn G mm_Model_share 44 [some (.ref z), a1, a2, a3, a4, a5, a6, a7] st S P ↔ rn G mm_Model_share 45 [some (.ref z), a1, a2, a3, a4, a5, a6, a7] (.ref z :: st) S P := rn_s dq_Model_share_44 rfl rfl rfl
theorem dq_Model_share_45 : decode (km_c mm_Model_share) 45 = .ok (.invokevirtual 205, 3) := by decide +kernel
theorem sq_Model_share_45_45  {v : Option Value} {S2 : ks_S} (hc : ev (lt_G o L) mm_Model_findAll [.ref 45] (sx pl kp I A) v S2) (ho : sx_o o pl kp) (hst : kx_cat st ≤ 8) : rn (lt_G o L) mm_Model_share 45 lv (.ref 45 :: st) (sx pl kp I A) P ↔ rn (lt_G o L) mm_Model_share 48 lv (v.toList ++ st) S2 P := rn_cv (k := 0) (host := "") (E' := mm_Model_findAll) dq_Model_share_45 rfl (ok_v rfl (by decide) (by decide) (Nat.le_add_left _ _) hst (Nat.le_of_ble_eq_true rfl) (Or.inr (rc_v ho (up_b (by decide)) rfl))) rfl rfl hc
theorem dq_Model_share_48 : decode (km_c mm_Model_share) 48 = .ok (.aload_n 0, 1) := by decide +kernel
theorem sq_Model_share_48 : rn G mm_Model_share 48 [some (.ref z), a1, a2, a3, a4, a5, a6, a7] st S P ↔ rn G mm_Model_share 49 [some (.ref z), a1, a2, a3, a4, a5, a6, a7] (.ref z :: st) S P := rn_s dq_Model_share_48 rfl rfl rfl
theorem dq_Model_share_49 : decode (km_c mm_Model_share) 49 = .ok (.getfield 56, 3) := by decide +kernel
theorem sq_Model_share_49_45 (ho : sx_o o pl kp) : rn (lt_G o L) mm_Model_share 49 lv (.ref 45 :: st) (sx pl kp I A) P ↔ rn (lt_G o L) mm_Model_share 52 lv (.ref 59 :: st) (sx pl kp I A) P := rx_get (h := "") (ci := 10) (k := 23) dq_Model_share_49 (by decide +kernel) ho (up_b (by decide)) rfl rfl (fl_r (by decide) (by decide) (by decide) (by decide))
theorem dq_Model_share_52 : decode (km_c mm_Model_share) 52 = .ok (.iconst 0, 1) := by decide +kernel
theorem sq_Model_share_52 : rn G mm_Model_share 52 lv st S P ↔ rn G mm_Model_share 53 lv (.int (nI 0) :: st) S P := rn_s dq_Model_share_52 rfl rfl rfl
theorem dq_Model_share_53 : decode (km_c mm_Model_share) 53 = .ok (.iconst 0, 1) := by decide +kernel
theorem sq_Model_share_53 : rn G mm_Model_share 53 lv st S P ↔ rn G mm_Model_share 54 lv (.int (nI 0) :: st) S P := rn_s dq_Model_share_53 rfl rfl rfl
theorem dq_Model_share_54 : decode (km_c mm_Model_share) 54 = .ok (.iastore, 1) := by decide +kernel
theorem sq_Model_share_54 (ho : sx_o o pl kp) (hk : ak L a = 0) (hu : sx_up pl kp a = true) (hc : c < ln L a) (hn : ln L a < 2 ^ 31) : rn (lt_G o L) mm_Model_share 54 lv (.int x :: .int (nI c) :: .ref a :: st) (sx pl kp I A) P ↔ rn (lt_G o L) mm_Model_share 55 lv st (sx pl kp I (u2 A a c x)) P := rx_ist dq_Model_share_54 ho hk hu hc hn
theorem dq_Model_share_55 : decode (km_c mm_Model_share) 55 = .ok (.iload_n 1, 1) := by decide +kernel
theorem sq_Model_share_55 : rn G mm_Model_share 55 [a0, some (.int x), a2, a3, a4, a5, a6, a7] st S P ↔ rn G mm_Model_share 56 [a0, some (.int x), a2, a3, a4, a5, a6, a7] (.int x :: st) S P := rn_s dq_Model_share_55 rfl rfl rfl
theorem dq_Model_share_56 : decode (km_c mm_Model_share) 56 = .ok (.invokestatic 216, 3) := by decide +kernel
theorem sq_Model_share_56 {x1 : Int32} {v : Option Value} {S2 : ks_S} (hc : ev G mm_Model_ones [.int x1] S v S2) (hst : kx_cat st ≤ 8) : rn G mm_Model_share 56 lv (.int x1 :: st) S P ↔ rn G mm_Model_share 59 lv (v.toList ++ st) S2 P := rn_cs (k := 1) (host := "") (E' := mm_Model_ones) dq_Model_share_56 (by decide) (by decide) rfl (ok_v rfl (by decide) (by decide) (Nat.le_add_left _ _) hst (Nat.le_of_ble_eq_true rfl) (Or.inl rfl)) rfl rfl hc
theorem dq_Model_share_59 : decode (km_c mm_Model_share) 59 = .ok (.istore 4, 2) := by decide +kernel
theorem sq_Model_share_59n : rn G mm_Model_share 59 [a0, a1, a2, none, a4, a5, a6, a7] (.int x :: st) S P ↔ rn G mm_Model_share 61 [a0, a1, a2, none, some (.int x), a5, a6, a7] st S P := rn_s dq_Model_share_59 rfl rfl rfl
theorem sq_Model_share_59i : rn G mm_Model_share 59 [a0, a1, a2, some (.int x2), a4, a5, a6, a7] (.int x :: st) S P ↔ rn G mm_Model_share 61 [a0, a1, a2, some (.int x2), some (.int x), a5, a6, a7] st S P := rn_s dq_Model_share_59 rfl rfl rfl
theorem sq_Model_share_59r : rn G mm_Model_share 59 [a0, a1, a2, some (.ref z2), a4, a5, a6, a7] (.int x :: st) S P ↔ rn G mm_Model_share 61 [a0, a1, a2, some (.ref z2), some (.int x), a5, a6, a7] st S P := rn_s dq_Model_share_59 rfl rfl rfl
theorem dq_Model_share_61 : decode (km_c mm_Model_share) 61 = .ok (.iconst 0, 1) := by decide +kernel
theorem sq_Model_share_61 : rn G mm_Model_share 61 lv st S P ↔ rn G mm_Model_share 62 lv (.int (nI 0) :: st) S P := rn_s dq_Model_share_61 rfl rfl rfl
theorem dq_Model_share_62 : decode (km_c mm_Model_share) 62 = .ok (.istore 5, 2) := by decide +kernel
theorem sq_Model_share_62n : rn G mm_Model_share 62 [a0, a1, a2, a3, none, a5, a6, a7] (.int x :: st) S P ↔ rn G mm_Model_share 64 [a0, a1, a2, a3, none, some (.int x), a6, a7] st S P := rn_s dq_Model_share_62 rfl rfl rfl
theorem sq_Model_share_62i : rn G mm_Model_share 62 [a0, a1, a2, a3, some (.int x2), a5, a6, a7] (.int x :: st) S P ↔ rn G mm_Model_share 64 [a0, a1, a2, a3, some (.int x2), some (.int x), a6, a7] st S P := rn_s dq_Model_share_62 rfl rfl rfl
theorem sq_Model_share_62r : rn G mm_Model_share 62 [a0, a1, a2, a3, some (.ref z2), a5, a6, a7] (.int x :: st) S P ↔ rn G mm_Model_share 64 [a0, a1, a2, a3, some (.ref z2), some (.int x), a6, a7] st S P := rn_s dq_Model_share_62 rfl rfl rfl
theorem dq_Model_share_64 : decode (km_c mm_Model_share) 64 = .ok (.iconst 0, 1) := by decide +kernel
theorem sq_Model_share_64 : rn G mm_Model_share 64 lv st S P ↔ rn G mm_Model_share 65 lv (.int (nI 0) :: st) S P := rn_s dq_Model_share_64 rfl rfl rfl
theorem dq_Model_share_65 : decode (km_c mm_Model_share) 65 = .ok (.istore 6, 2) := by decide +kernel
theorem sq_Model_share_65n : rn G mm_Model_share 65 [a0, a1, a2, a3, a4, none, a6, a7] (.int x :: st) S P ↔ rn G mm_Model_share 67 [a0, a1, a2, a3, a4, none, some (.int x), a7] st S P := rn_s dq_Model_share_65 rfl rfl rfl
theorem sq_Model_share_65i : rn G mm_Model_share 65 [a0, a1, a2, a3, a4, some (.int x2), a6, a7] (.int x :: st) S P ↔ rn G mm_Model_share 67 [a0, a1, a2, a3, a4, some (.int x2), some (.int x), a7] st S P := rn_s dq_Model_share_65 rfl rfl rfl
theorem sq_Model_share_65r : rn G mm_Model_share 65 [a0, a1, a2, a3, a4, some (.ref z2), a6, a7] (.int x :: st) S P ↔ rn G mm_Model_share 67 [a0, a1, a2, a3, a4, some (.ref z2), some (.int x), a7] st S P := rn_s dq_Model_share_65 rfl rfl rfl
theorem dq_Model_share_67 : decode (km_c mm_Model_share) 67 = .ok (.iload 6, 2) := by decide +kernel
theorem sq_Model_share_67 : rn G mm_Model_share 67 [a0, a1, a2, a3, a4, a5, some (.int x), a7] st S P ↔ rn G mm_Model_share 69 [a0, a1, a2, a3, a4, a5, some (.int x), a7] (.int x :: st) S P := rn_s dq_Model_share_67 rfl rfl rfl
theorem dq_Model_share_69 : decode (km_c mm_Model_share) 69 = .ok (.iconst 1, 1) := by decide +kernel
theorem sq_Model_share_69 : rn G mm_Model_share 69 lv st S P ↔ rn G mm_Model_share 70 lv (.int (nI 1) :: st) S P := rn_s dq_Model_share_69 rfl rfl rfl
theorem dq_Model_share_70 : decode (km_c mm_Model_share) 70 = .ok (.aload_n 0, 1) := by decide +kernel
theorem sq_Model_share_70 : rn G mm_Model_share 70 [some (.ref z), a1, a2, a3, a4, a5, a6, a7] st S P ↔ rn G mm_Model_share 71 [some (.ref z), a1, a2, a3, a4, a5, a6, a7] (.ref z :: st) S P := rn_s dq_Model_share_70 rfl rfl rfl
theorem dq_Model_share_71 : decode (km_c mm_Model_share) 71 = .ok (.getfield 131, 3) := by decide +kernel
theorem sq_Model_share_71_45 (ho : sx_o o pl kp) : rn (lt_G o L) mm_Model_share 71 lv (.ref 45 :: st) (sx pl kp I A) P ↔ rn (lt_G o L) mm_Model_share 74 lv (.int (I 45 4) :: st) (sx pl kp I A) P := rx_get (h := "") (ci := 10) (k := 4) dq_Model_share_71 (by decide +kernel) ho (up_b (by decide)) rfl rfl (fl_i (by decide))
theorem dq_Model_share_74 : decode (km_c mm_Model_share) 74 = .ok (.ishl, 1) := by decide +kernel
theorem sq_Model_share_74 : rn G mm_Model_share 74 lv (.int x2 :: .int x :: st) S P ↔ rn G mm_Model_share 75 lv (.int (x <<< (x2 &&& 31)) :: st) S P := rn_s dq_Model_share_74 rfl rfl rfl
theorem dq_Model_share_75 : decode (km_c mm_Model_share) 75 = .ok (.if_icmp .ge 75, 3) := by decide +kernel
theorem sq_Model_share_75 : rn G mm_Model_share 75 lv (.int x2 :: .int x :: st) S P ↔ ((x2 ≤ x → rn G mm_Model_share 150 lv st S P) ∧ (¬ (x2 ≤ x) → rn G mm_Model_share 78 lv st S P)) := rn_b (off := 75) dq_Model_share_75 rfl rfl rfl rfl
theorem dq_Model_share_78 : decode (km_c mm_Model_share) 78 = .ok (.iload 6, 2) := by decide +kernel
theorem sq_Model_share_78 : rn G mm_Model_share 78 [a0, a1, a2, a3, a4, a5, some (.int x), a7] st S P ↔ rn G mm_Model_share 80 [a0, a1, a2, a3, a4, a5, some (.int x), a7] (.int x :: st) S P := rn_s dq_Model_share_78 rfl rfl rfl
theorem dq_Model_share_80 : decode (km_c mm_Model_share) 80 = .ok (.iload_n 1, 1) := by decide +kernel
theorem sq_Model_share_80 : rn G mm_Model_share 80 [a0, some (.int x), a2, a3, a4, a5, a6, a7] st S P ↔ rn G mm_Model_share 81 [a0, some (.int x), a2, a3, a4, a5, a6, a7] (.int x :: st) S P := rn_s dq_Model_share_80 rfl rfl rfl
theorem dq_Model_share_81 : decode (km_c mm_Model_share) 81 = .ok (.iconst (-1), 1) := by decide +kernel
theorem sq_Model_share_81 : rn G mm_Model_share 81 lv st S P ↔ rn G mm_Model_share 82 lv (.int ((-1)) :: st) S P := rn_s dq_Model_share_81 rfl rfl rfl
theorem dq_Model_share_82 : decode (km_c mm_Model_share) 82 = .ok (.ixor, 1) := by decide +kernel
theorem sq_Model_share_82 : rn G mm_Model_share 82 lv (.int x2 :: .int x :: st) S P ↔ rn G mm_Model_share 83 lv (.int (x ^^^ x2) :: st) S P := rn_s dq_Model_share_82 rfl rfl rfl
theorem dq_Model_share_83 : decode (km_c mm_Model_share) 83 = .ok (.iand, 1) := by decide +kernel
theorem sq_Model_share_83 : rn G mm_Model_share 83 lv (.int x2 :: .int x :: st) S P ↔ rn G mm_Model_share 84 lv (.int (x &&& x2) :: st) S P := rn_s dq_Model_share_83 rfl rfl rfl
theorem dq_Model_share_84 : decode (km_c mm_Model_share) 84 = .ok (.ifCond .ne 60, 3) := by decide +kernel
theorem sq_Model_share_84 : rn G mm_Model_share 84 lv (.int x :: st) S P ↔ ((¬ x = 0 → rn G mm_Model_share 144 lv st S P) ∧ (¬ (¬ x = 0) → rn G mm_Model_share 87 lv st S P)) := rn_b (off := 60) dq_Model_share_84 rfl rfl rfl rfl
theorem dq_Model_share_87 : decode (km_c mm_Model_share) 87 = .ok (.iload 6, 2) := by decide +kernel
theorem sq_Model_share_87 : rn G mm_Model_share 87 [a0, a1, a2, a3, a4, a5, some (.int x), a7] st S P ↔ rn G mm_Model_share 89 [a0, a1, a2, a3, a4, a5, some (.int x), a7] (.int x :: st) S P := rn_s dq_Model_share_87 rfl rfl rfl
theorem dq_Model_share_89 : decode (km_c mm_Model_share) 89 = .ok (.iload_n 2, 1) := by decide +kernel
theorem sq_Model_share_89 : rn G mm_Model_share 89 [a0, a1, some (.int x), a3, a4, a5, a6, a7] st S P ↔ rn G mm_Model_share 90 [a0, a1, some (.int x), a3, a4, a5, a6, a7] (.int x :: st) S P := rn_s dq_Model_share_89 rfl rfl rfl
theorem dq_Model_share_90 : decode (km_c mm_Model_share) 90 = .ok (.invokestatic 208, 3) := by decide +kernel
theorem sq_Model_share_90 {x1 : Int32} {x2 : Int32} {v : Option Value} {S2 : ks_S} (hc : ev G mm_Model_has [.int x1, .int x2] S v S2) (hst : kx_cat st ≤ 8) : rn G mm_Model_share 90 lv (.int x2 :: .int x1 :: st) S P ↔ rn G mm_Model_share 93 lv (v.toList ++ st) S2 P := rn_cs (k := 1) (host := "") (E' := mm_Model_has) dq_Model_share_90 (by decide) (by decide) rfl (ok_v rfl (by decide) (by decide) (Nat.le_add_left _ _) hst (Nat.le_of_ble_eq_true rfl) (Or.inl rfl)) rfl rfl hc
theorem dq_Model_share_93 : decode (km_c mm_Model_share) 93 = .ok (.ifCond .ne 51, 3) := by decide +kernel
theorem sq_Model_share_93 : rn G mm_Model_share 93 lv (.int x :: st) S P ↔ ((¬ x = 0 → rn G mm_Model_share 144 lv st S P) ∧ (¬ (¬ x = 0) → rn G mm_Model_share 96 lv st S P)) := rn_b (off := 51) dq_Model_share_93 rfl rfl rfl rfl
theorem dq_Model_share_96 : decode (km_c mm_Model_share) 96 = .ok (.iload 6, 2) := by decide +kernel
theorem sq_Model_share_96 : rn G mm_Model_share 96 [a0, a1, a2, a3, a4, a5, some (.int x), a7] st S P ↔ rn G mm_Model_share 98 [a0, a1, a2, a3, a4, a5, some (.int x), a7] (.int x :: st) S P := rn_s dq_Model_share_96 rfl rfl rfl
theorem dq_Model_share_98 : decode (km_c mm_Model_share) 98 = .ok (.invokestatic 216, 3) := by decide +kernel
theorem sq_Model_share_98 {x1 : Int32} {v : Option Value} {S2 : ks_S} (hc : ev G mm_Model_ones [.int x1] S v S2) (hst : kx_cat st ≤ 8) : rn G mm_Model_share 98 lv (.int x1 :: st) S P ↔ rn G mm_Model_share 101 lv (v.toList ++ st) S2 P := rn_cs (k := 1) (host := "") (E' := mm_Model_ones) dq_Model_share_98 (by decide) (by decide) rfl (ok_v rfl (by decide) (by decide) (Nat.le_add_left _ _) hst (Nat.le_of_ble_eq_true rfl) (Or.inl rfl)) rfl rfl hc
theorem dq_Model_share_101 : decode (km_c mm_Model_share) 101 = .ok (.istore 7, 2) := by decide +kernel
theorem sq_Model_share_101n : rn G mm_Model_share 101 [a0, a1, a2, a3, a4, a5, none, a7] (.int x :: st) S P ↔ rn G mm_Model_share 103 [a0, a1, a2, a3, a4, a5, none, some (.int x)] st S P := rn_s dq_Model_share_101 rfl rfl rfl
theorem sq_Model_share_101i : rn G mm_Model_share 101 [a0, a1, a2, a3, a4, a5, some (.int x2), a7] (.int x :: st) S P ↔ rn G mm_Model_share 103 [a0, a1, a2, a3, a4, a5, some (.int x2), some (.int x)] st S P := rn_s dq_Model_share_101 rfl rfl rfl
theorem sq_Model_share_101r : rn G mm_Model_share 101 [a0, a1, a2, a3, a4, a5, some (.ref z2), a7] (.int x :: st) S P ↔ rn G mm_Model_share 103 [a0, a1, a2, a3, a4, a5, some (.ref z2), some (.int x)] st S P := rn_s dq_Model_share_101 rfl rfl rfl
theorem dq_Model_share_103 : decode (km_c mm_Model_share) 103 = .ok (.iload 5, 2) := by decide +kernel
theorem sq_Model_share_103 : rn G mm_Model_share 103 [a0, a1, a2, a3, a4, some (.int x), a6, a7] st S P ↔ rn G mm_Model_share 105 [a0, a1, a2, a3, a4, some (.int x), a6, a7] (.int x :: st) S P := rn_s dq_Model_share_103 rfl rfl rfl
theorem dq_Model_share_105 : decode (km_c mm_Model_share) 105 = .ok (.iload 7, 2) := by decide +kernel
theorem sq_Model_share_105 : rn G mm_Model_share 105 [a0, a1, a2, a3, a4, a5, a6, some (.int x)] st S P ↔ rn G mm_Model_share 107 [a0, a1, a2, a3, a4, a5, a6, some (.int x)] (.int x :: st) S P := rn_s dq_Model_share_105 rfl rfl rfl
theorem dq_Model_share_107 : decode (km_c mm_Model_share) 107 = .ok (.invokestatic 219, 3) := by decide +kernel
theorem sq_Model_share_107 {x1 : Int32} {v : Option Value} {S2 : ks_S} (hc : ev G mm_Model_orders [.int x1] S v S2) (hst : kx_cat st ≤ 8) : rn G mm_Model_share 107 lv (.int x1 :: st) S P ↔ rn G mm_Model_share 110 lv (v.toList ++ st) S2 P := rn_cs (k := 1) (host := "") (E' := mm_Model_orders) dq_Model_share_107 (by decide) (by decide) rfl (ok_v rfl (by decide) (by decide) (Nat.le_add_left _ _) hst (Nat.le_of_ble_eq_true rfl) (Or.inl rfl)) rfl rfl hc
theorem dq_Model_share_110 : decode (km_c mm_Model_share) 110 = .ok (.iload 4, 2) := by decide +kernel
theorem sq_Model_share_110 : rn G mm_Model_share 110 [a0, a1, a2, a3, some (.int x), a5, a6, a7] st S P ↔ rn G mm_Model_share 112 [a0, a1, a2, a3, some (.int x), a5, a6, a7] (.int x :: st) S P := rn_s dq_Model_share_110 rfl rfl rfl
theorem dq_Model_share_112 : decode (km_c mm_Model_share) 112 = .ok (.iload 7, 2) := by decide +kernel
theorem sq_Model_share_112 : rn G mm_Model_share 112 [a0, a1, a2, a3, a4, a5, a6, some (.int x)] st S P ↔ rn G mm_Model_share 114 [a0, a1, a2, a3, a4, a5, a6, some (.int x)] (.int x :: st) S P := rn_s dq_Model_share_112 rfl rfl rfl
theorem dq_Model_share_114 : decode (km_c mm_Model_share) 114 = .ok (.isub, 1) := by decide +kernel
theorem sq_Model_share_114 : rn G mm_Model_share 114 lv (.int x2 :: .int x :: st) S P ↔ rn G mm_Model_share 115 lv (.int (x - x2) :: st) S P := rn_s dq_Model_share_114 rfl rfl rfl
theorem dq_Model_share_115 : decode (km_c mm_Model_share) 115 = .ok (.iconst 1, 1) := by decide +kernel
theorem sq_Model_share_115 : rn G mm_Model_share 115 lv st S P ↔ rn G mm_Model_share 116 lv (.int (nI 1) :: st) S P := rn_s dq_Model_share_115 rfl rfl rfl
theorem dq_Model_share_116 : decode (km_c mm_Model_share) 116 = .ok (.isub, 1) := by decide +kernel
theorem sq_Model_share_116 : rn G mm_Model_share 116 lv (.int x2 :: .int x :: st) S P ↔ rn G mm_Model_share 117 lv (.int (x - x2) :: st) S P := rn_s dq_Model_share_116 rfl rfl rfl
theorem dq_Model_share_117 : decode (km_c mm_Model_share) 117 = .ok (.invokestatic 219, 3) := by decide +kernel
theorem sq_Model_share_117 {x1 : Int32} {v : Option Value} {S2 : ks_S} (hc : ev G mm_Model_orders [.int x1] S v S2) (hst : kx_cat st ≤ 8) : rn G mm_Model_share 117 lv (.int x1 :: st) S P ↔ rn G mm_Model_share 120 lv (v.toList ++ st) S2 P := rn_cs (k := 1) (host := "") (E' := mm_Model_orders) dq_Model_share_117 (by decide) (by decide) rfl (ok_v rfl (by decide) (by decide) (Nat.le_add_left _ _) hst (Nat.le_of_ble_eq_true rfl) (Or.inl rfl)) rfl rfl hc
theorem dq_Model_share_120 : decode (km_c mm_Model_share) 120 = .ok (.imul, 1) := by decide +kernel
theorem sq_Model_share_120 : rn G mm_Model_share 120 lv (.int x2 :: .int x :: st) S P ↔ rn G mm_Model_share 121 lv (.int (x * x2) :: st) S P := rn_s dq_Model_share_120 rfl rfl rfl
theorem dq_Model_share_121 : decode (km_c mm_Model_share) 121 = .ok (.aload_n 0, 1) := by decide +kernel
theorem sq_Model_share_121 : rn G mm_Model_share 121 [some (.ref z), a1, a2, a3, a4, a5, a6, a7] st S P ↔ rn G mm_Model_share 122 [some (.ref z), a1, a2, a3, a4, a5, a6, a7] (.ref z :: st) S P := rn_s dq_Model_share_121 rfl rfl rfl
theorem dq_Model_share_122 : decode (km_c mm_Model_share) 122 = .ok (.getfield 56, 3) := by decide +kernel
theorem sq_Model_share_122_45 (ho : sx_o o pl kp) : rn (lt_G o L) mm_Model_share 122 lv (.ref 45 :: st) (sx pl kp I A) P ↔ rn (lt_G o L) mm_Model_share 125 lv (.ref 59 :: st) (sx pl kp I A) P := rx_get (h := "") (ci := 10) (k := 23) dq_Model_share_122 (by decide +kernel) ho (up_b (by decide)) rfl rfl (fl_r (by decide) (by decide) (by decide) (by decide))
theorem dq_Model_share_125 : decode (km_c mm_Model_share) 125 = .ok (.iload 6, 2) := by decide +kernel
theorem sq_Model_share_125 : rn G mm_Model_share 125 [a0, a1, a2, a3, a4, a5, some (.int x), a7] st S P ↔ rn G mm_Model_share 127 [a0, a1, a2, a3, a4, a5, some (.int x), a7] (.int x :: st) S P := rn_s dq_Model_share_125 rfl rfl rfl
theorem dq_Model_share_127 : decode (km_c mm_Model_share) 127 = .ok (.iconst 1, 1) := by decide +kernel
theorem sq_Model_share_127 : rn G mm_Model_share 127 lv st S P ↔ rn G mm_Model_share 128 lv (.int (nI 1) :: st) S P := rn_s dq_Model_share_127 rfl rfl rfl
theorem dq_Model_share_128 : decode (km_c mm_Model_share) 128 = .ok (.iload_n 2, 1) := by decide +kernel
theorem sq_Model_share_128 : rn G mm_Model_share 128 [a0, a1, some (.int x), a3, a4, a5, a6, a7] st S P ↔ rn G mm_Model_share 129 [a0, a1, some (.int x), a3, a4, a5, a6, a7] (.int x :: st) S P := rn_s dq_Model_share_128 rfl rfl rfl
theorem dq_Model_share_129 : decode (km_c mm_Model_share) 129 = .ok (.ishl, 1) := by decide +kernel
theorem sq_Model_share_129 : rn G mm_Model_share 129 lv (.int x2 :: .int x :: st) S P ↔ rn G mm_Model_share 130 lv (.int (x <<< (x2 &&& 31)) :: st) S P := rn_s dq_Model_share_129 rfl rfl rfl
theorem dq_Model_share_130 : decode (km_c mm_Model_share) 130 = .ok (.ior, 1) := by decide +kernel
theorem sq_Model_share_130 : rn G mm_Model_share 130 lv (.int x2 :: .int x :: st) S P ↔ rn G mm_Model_share 131 lv (.int (x ||| x2) :: st) S P := rn_s dq_Model_share_130 rfl rfl rfl
theorem dq_Model_share_131 : decode (km_c mm_Model_share) 131 = .ok (.iaload, 1) := by decide +kernel
theorem sq_Model_share_131 (ho : sx_o o pl kp) (hk : ak L a = 0) (hu : sx_up pl kp a = true ∨ 1000 ≤ a) (hc : c < ln L a) (hn : ln L a < 2 ^ 31) : rn (lt_G o L) mm_Model_share 131 lv (.int (nI c) :: .ref a :: st) (sx pl kp I A) P ↔ rn (lt_G o L) mm_Model_share 132 lv (.int (A a c) :: st) (sx pl kp I A) P := rx_ild dq_Model_share_131 ho hk hu hc hn
theorem dq_Model_share_132 : decode (km_c mm_Model_share) 132 = .ok (.aload_n 0, 1) := by decide +kernel
theorem sq_Model_share_132 : rn G mm_Model_share 132 [some (.ref z), a1, a2, a3, a4, a5, a6, a7] st S P ↔ rn G mm_Model_share 133 [some (.ref z), a1, a2, a3, a4, a5, a6, a7] (.ref z :: st) S P := rn_s dq_Model_share_132 rfl rfl rfl
theorem dq_Model_share_133 : decode (km_c mm_Model_share) 133 = .ok (.getfield 56, 3) := by decide +kernel
theorem sq_Model_share_133_45 (ho : sx_o o pl kp) : rn (lt_G o L) mm_Model_share 133 lv (.ref 45 :: st) (sx pl kp I A) P ↔ rn (lt_G o L) mm_Model_share 136 lv (.ref 59 :: st) (sx pl kp I A) P := rx_get (h := "") (ci := 10) (k := 23) dq_Model_share_133 (by decide +kernel) ho (up_b (by decide)) rfl rfl (fl_r (by decide) (by decide) (by decide) (by decide))
theorem dq_Model_share_136 : decode (km_c mm_Model_share) 136 = .ok (.iload 6, 2) := by decide +kernel
theorem sq_Model_share_136 : rn G mm_Model_share 136 [a0, a1, a2, a3, a4, a5, some (.int x), a7] st S P ↔ rn G mm_Model_share 138 [a0, a1, a2, a3, a4, a5, some (.int x), a7] (.int x :: st) S P := rn_s dq_Model_share_136 rfl rfl rfl
theorem dq_Model_share_138 : decode (km_c mm_Model_share) 138 = .ok (.iaload, 1) := by decide +kernel
theorem sq_Model_share_138 (ho : sx_o o pl kp) (hk : ak L a = 0) (hu : sx_up pl kp a = true ∨ 1000 ≤ a) (hc : c < ln L a) (hn : ln L a < 2 ^ 31) : rn (lt_G o L) mm_Model_share 138 lv (.int (nI c) :: .ref a :: st) (sx pl kp I A) P ↔ rn (lt_G o L) mm_Model_share 139 lv (.int (A a c) :: st) (sx pl kp I A) P := rx_ild dq_Model_share_138 ho hk hu hc hn
theorem dq_Model_share_139 : decode (km_c mm_Model_share) 139 = .ok (.isub, 1) := by decide +kernel
theorem sq_Model_share_139 : rn G mm_Model_share 139 lv (.int x2 :: .int x :: st) S P ↔ rn G mm_Model_share 140 lv (.int (x - x2) :: st) S P := rn_s dq_Model_share_139 rfl rfl rfl
theorem dq_Model_share_140 : decode (km_c mm_Model_share) 140 = .ok (.imul, 1) := by decide +kernel
theorem sq_Model_share_140 : rn G mm_Model_share 140 lv (.int x2 :: .int x :: st) S P ↔ rn G mm_Model_share 141 lv (.int (x * x2) :: st) S P := rn_s dq_Model_share_140 rfl rfl rfl
theorem dq_Model_share_141 : decode (km_c mm_Model_share) 141 = .ok (.iadd, 1) := by decide +kernel
theorem sq_Model_share_141 : rn G mm_Model_share 141 lv (.int x2 :: .int x :: st) S P ↔ rn G mm_Model_share 142 lv (.int (x + x2) :: st) S P := rn_s dq_Model_share_141 rfl rfl rfl
theorem dq_Model_share_142 : decode (km_c mm_Model_share) 142 = .ok (.istore 5, 2) := by decide +kernel
theorem sq_Model_share_142n : rn G mm_Model_share 142 [a0, a1, a2, a3, none, a5, a6, a7] (.int x :: st) S P ↔ rn G mm_Model_share 144 [a0, a1, a2, a3, none, some (.int x), a6, a7] st S P := rn_s dq_Model_share_142 rfl rfl rfl
theorem sq_Model_share_142i : rn G mm_Model_share 142 [a0, a1, a2, a3, some (.int x2), a5, a6, a7] (.int x :: st) S P ↔ rn G mm_Model_share 144 [a0, a1, a2, a3, some (.int x2), some (.int x), a6, a7] st S P := rn_s dq_Model_share_142 rfl rfl rfl
theorem sq_Model_share_142r : rn G mm_Model_share 142 [a0, a1, a2, a3, some (.ref z2), a5, a6, a7] (.int x :: st) S P ↔ rn G mm_Model_share 144 [a0, a1, a2, a3, some (.ref z2), some (.int x), a6, a7] st S P := rn_s dq_Model_share_142 rfl rfl rfl
theorem dq_Model_share_144 : decode (km_c mm_Model_share) 144 = .ok (.iinc 6 1, 3) := by decide +kernel
theorem sq_Model_share_144n : rn G mm_Model_share 144 [a0, a1, a2, a3, a4, none, some (.int x), a7] st S P ↔ rn G mm_Model_share 147 [a0, a1, a2, a3, a4, none, some (.int (x + nI 1)), a7] st S P := rn_s dq_Model_share_144 rfl rfl rfl
theorem sq_Model_share_144i : rn G mm_Model_share 144 [a0, a1, a2, a3, a4, some (.int x2), some (.int x), a7] st S P ↔ rn G mm_Model_share 147 [a0, a1, a2, a3, a4, some (.int x2), some (.int (x + nI 1)), a7] st S P := rn_s dq_Model_share_144 rfl rfl rfl
theorem sq_Model_share_144r : rn G mm_Model_share 144 [a0, a1, a2, a3, a4, some (.ref z2), some (.int x), a7] st S P ↔ rn G mm_Model_share 147 [a0, a1, a2, a3, a4, some (.ref z2), some (.int (x + nI 1)), a7] st S P := rn_s dq_Model_share_144 rfl rfl rfl
theorem dq_Model_share_147 : decode (km_c mm_Model_share) 147 = .ok (.goto (-80), 3) := by decide +kernel
theorem sq_Model_share_147 : rn G mm_Model_share 147 lv st S P ↔ rn G mm_Model_share 67 lv st S P := rn_s dq_Model_share_147 rfl rfl rfl
theorem dq_Model_share_150 : decode (km_c mm_Model_share) 150 = .ok (.iload 4, 2) := by decide +kernel
theorem sq_Model_share_150 : rn G mm_Model_share 150 [a0, a1, a2, a3, some (.int x), a5, a6, a7] st S P ↔ rn G mm_Model_share 152 [a0, a1, a2, a3, some (.int x), a5, a6, a7] (.int x :: st) S P := rn_s dq_Model_share_150 rfl rfl rfl
theorem dq_Model_share_152 : decode (km_c mm_Model_share) 152 = .ok (.invokestatic 219, 3) := by decide +kernel
theorem sq_Model_share_152 {x1 : Int32} {v : Option Value} {S2 : ks_S} (hc : ev G mm_Model_orders [.int x1] S v S2) (hst : kx_cat st ≤ 8) : rn G mm_Model_share 152 lv (.int x1 :: st) S P ↔ rn G mm_Model_share 155 lv (v.toList ++ st) S2 P := rn_cs (k := 1) (host := "") (E' := mm_Model_orders) dq_Model_share_152 (by decide) (by decide) rfl (ok_v rfl (by decide) (by decide) (Nat.le_add_left _ _) hst (Nat.le_of_ble_eq_true rfl) (Or.inl rfl)) rfl rfl hc
theorem dq_Model_share_155 : decode (km_c mm_Model_share) 155 = .ok (.istore 6, 2) := by decide +kernel
theorem sq_Model_share_155n : rn G mm_Model_share 155 [a0, a1, a2, a3, a4, none, a6, a7] (.int x :: st) S P ↔ rn G mm_Model_share 157 [a0, a1, a2, a3, a4, none, some (.int x), a7] st S P := rn_s dq_Model_share_155 rfl rfl rfl
theorem sq_Model_share_155i : rn G mm_Model_share 155 [a0, a1, a2, a3, a4, some (.int x2), a6, a7] (.int x :: st) S P ↔ rn G mm_Model_share 157 [a0, a1, a2, a3, a4, some (.int x2), some (.int x), a7] st S P := rn_s dq_Model_share_155 rfl rfl rfl
theorem sq_Model_share_155r : rn G mm_Model_share 155 [a0, a1, a2, a3, a4, some (.ref z2), a6, a7] (.int x :: st) S P ↔ rn G mm_Model_share 157 [a0, a1, a2, a3, a4, some (.ref z2), some (.int x), a7] st S P := rn_s dq_Model_share_155 rfl rfl rfl
theorem dq_Model_share_157 : decode (km_c mm_Model_share) 157 = .ok (.iload_n 3, 1) := by decide +kernel
theorem sq_Model_share_157 : rn G mm_Model_share 157 [a0, a1, a2, some (.int x), a4, a5, a6, a7] st S P ↔ rn G mm_Model_share 158 [a0, a1, a2, some (.int x), a4, a5, a6, a7] (.int x :: st) S P := rn_s dq_Model_share_157 rfl rfl rfl
theorem dq_Model_share_158 : decode (km_c mm_Model_share) 158 = .ok (.ifCond .ne 8, 3) := by decide +kernel
theorem sq_Model_share_158 : rn G mm_Model_share 158 lv (.int x :: st) S P ↔ ((¬ x = 0 → rn G mm_Model_share 166 lv st S P) ∧ (¬ (¬ x = 0) → rn G mm_Model_share 161 lv st S P)) := rn_b (off := 8) dq_Model_share_158 rfl rfl rfl rfl
theorem dq_Model_share_161 : decode (km_c mm_Model_share) 161 = .ok (.iload 5, 2) := by decide +kernel
theorem sq_Model_share_161 : rn G mm_Model_share 161 [a0, a1, a2, a3, a4, some (.int x), a6, a7] st S P ↔ rn G mm_Model_share 163 [a0, a1, a2, a3, a4, some (.int x), a6, a7] (.int x :: st) S P := rn_s dq_Model_share_161 rfl rfl rfl
theorem dq_Model_share_163 : decode (km_c mm_Model_share) 163 = .ok (.goto 5, 3) := by decide +kernel
theorem sq_Model_share_163 : rn G mm_Model_share 163 lv st S P ↔ rn G mm_Model_share 168 lv st S P := rn_s dq_Model_share_163 rfl rfl rfl
theorem dq_Model_share_166 : decode (km_c mm_Model_share) 166 = .ok (.iload 6, 2) := by decide +kernel
theorem sq_Model_share_166 : rn G mm_Model_share 166 [a0, a1, a2, a3, a4, a5, some (.int x), a7] st S P ↔ rn G mm_Model_share 168 [a0, a1, a2, a3, a4, a5, some (.int x), a7] (.int x :: st) S P := rn_s dq_Model_share_166 rfl rfl rfl
theorem dq_Model_share_168 : decode (km_c mm_Model_share) 168 = .ok (.iload 5, 2) := by decide +kernel
theorem sq_Model_share_168 : rn G mm_Model_share 168 [a0, a1, a2, a3, a4, some (.int x), a6, a7] st S P ↔ rn G mm_Model_share 170 [a0, a1, a2, a3, a4, some (.int x), a6, a7] (.int x :: st) S P := rn_s dq_Model_share_168 rfl rfl rfl
theorem dq_Model_share_170 : decode (km_c mm_Model_share) 170 = .ok (.iload 6, 2) := by decide +kernel
theorem sq_Model_share_170 : rn G mm_Model_share 170 [a0, a1, a2, a3, a4, a5, some (.int x), a7] st S P ↔ rn G mm_Model_share 172 [a0, a1, a2, a3, a4, a5, some (.int x), a7] (.int x :: st) S P := rn_s dq_Model_share_170 rfl rfl rfl
theorem dq_Model_share_172 : decode (km_c mm_Model_share) 172 = .ok (.invokestatic 222, 3) := by decide +kernel
theorem sq_Model_share_172 {x1 : Int32} {x2 : Int32} {v : Option Value} {S2 : ks_S} (hc : ev G mm_Model_common [.int x1, .int x2] S v S2) (hst : kx_cat st ≤ 8) : rn G mm_Model_share 172 lv (.int x2 :: .int x1 :: st) S P ↔ rn G mm_Model_share 175 lv (v.toList ++ st) S2 P := rn_cs (k := 1) (host := "") (E' := mm_Model_common) dq_Model_share_172 (by decide) (by decide) rfl (ok_v rfl (by decide) (by decide) (Nat.le_add_left _ _) hst (Nat.le_of_ble_eq_true rfl) (Or.inl rfl)) rfl rfl hc
theorem dq_Model_share_175 : decode (km_c mm_Model_share) 175 = .ok (.idiv, 1) := by decide +kernel
theorem sq_Model_share_175 (hz : ¬ x2 = 0) : rn G mm_Model_share 175 lv (.int x2 :: .int x :: st) S P ↔ rn G mm_Model_share 176 lv (.int (x / x2) :: st) S P := rn_s dq_Model_share_175 rfl rfl (if_neg hz)
theorem dq_Model_share_176 : decode (km_c mm_Model_share) 176 = .ok (.ireturn, 1) := by decide +kernel
theorem sq_Model_share_176 : rn G mm_Model_share 176 lv [.int x] S P ↔ P (some (.int x)) S := rn_ir dq_Model_share_176 rfl
theorem dq_Model_ones_0 : decode (km_c mm_Model_ones) 0 = .ok (.iconst 0, 1) := by decide +kernel
theorem sq_Model_ones_0 : rn G mm_Model_ones 0 lv st S P ↔ rn G mm_Model_ones 1 lv (.int (nI 0) :: st) S P := rn_s dq_Model_ones_0 rfl rfl rfl
theorem dq_Model_ones_1 : decode (km_c mm_Model_ones) 1 = .ok (.istore_n 1, 1) := by decide +kernel
theorem sq_Model_ones_1n : rn G mm_Model_ones 1 [none, a1, a2] (.int x :: st) S P ↔ rn G mm_Model_ones 2 [none, some (.int x), a2] st S P := rn_s dq_Model_ones_1 rfl rfl rfl
theorem sq_Model_ones_1i : rn G mm_Model_ones 1 [some (.int x2), a1, a2] (.int x :: st) S P ↔ rn G mm_Model_ones 2 [some (.int x2), some (.int x), a2] st S P := rn_s dq_Model_ones_1 rfl rfl rfl
theorem sq_Model_ones_1r : rn G mm_Model_ones 1 [some (.ref z2), a1, a2] (.int x :: st) S P ↔ rn G mm_Model_ones 2 [some (.ref z2), some (.int x), a2] st S P := rn_s dq_Model_ones_1 rfl rfl rfl
theorem dq_Model_ones_2 : decode (km_c mm_Model_ones) 2 = .ok (.iload_n 0, 1) := by decide +kernel
theorem sq_Model_ones_2 : rn G mm_Model_ones 2 [some (.int x), a1, a2] st S P ↔ rn G mm_Model_ones 3 [some (.int x), a1, a2] (.int x :: st) S P := rn_s dq_Model_ones_2 rfl rfl rfl
theorem dq_Model_ones_3 : decode (km_c mm_Model_ones) 3 = .ok (.istore_n 2, 1) := by decide +kernel
theorem sq_Model_ones_3n : rn G mm_Model_ones 3 [a0, none, a2] (.int x :: st) S P ↔ rn G mm_Model_ones 4 [a0, none, some (.int x)] st S P := rn_s dq_Model_ones_3 rfl rfl rfl
theorem sq_Model_ones_3i : rn G mm_Model_ones 3 [a0, some (.int x2), a2] (.int x :: st) S P ↔ rn G mm_Model_ones 4 [a0, some (.int x2), some (.int x)] st S P := rn_s dq_Model_ones_3 rfl rfl rfl
theorem sq_Model_ones_3r : rn G mm_Model_ones 3 [a0, some (.ref z2), a2] (.int x :: st) S P ↔ rn G mm_Model_ones 4 [a0, some (.ref z2), some (.int x)] st S P := rn_s dq_Model_ones_3 rfl rfl rfl
theorem dq_Model_ones_4 : decode (km_c mm_Model_ones) 4 = .ok (.iload_n 2, 1) := by decide +kernel
theorem sq_Model_ones_4 : rn G mm_Model_ones 4 [a0, a1, some (.int x)] st S P ↔ rn G mm_Model_ones 5 [a0, a1, some (.int x)] (.int x :: st) S P := rn_s dq_Model_ones_4 rfl rfl rfl
theorem dq_Model_ones_5 : decode (km_c mm_Model_ones) 5 = .ok (.ifCond .eq 15, 3) := by decide +kernel
theorem sq_Model_ones_5 : rn G mm_Model_ones 5 lv (.int x :: st) S P ↔ ((x = 0 → rn G mm_Model_ones 20 lv st S P) ∧ (¬ (x = 0) → rn G mm_Model_ones 8 lv st S P)) := rn_b (off := 15) dq_Model_ones_5 rfl rfl rfl rfl
theorem dq_Model_ones_8 : decode (km_c mm_Model_ones) 8 = .ok (.iinc 1 1, 3) := by decide +kernel
theorem sq_Model_ones_8n : rn G mm_Model_ones 8 [none, some (.int x), a2] st S P ↔ rn G mm_Model_ones 11 [none, some (.int (x + nI 1)), a2] st S P := rn_s dq_Model_ones_8 rfl rfl rfl
theorem sq_Model_ones_8i : rn G mm_Model_ones 8 [some (.int x2), some (.int x), a2] st S P ↔ rn G mm_Model_ones 11 [some (.int x2), some (.int (x + nI 1)), a2] st S P := rn_s dq_Model_ones_8 rfl rfl rfl
theorem sq_Model_ones_8r : rn G mm_Model_ones 8 [some (.ref z2), some (.int x), a2] st S P ↔ rn G mm_Model_ones 11 [some (.ref z2), some (.int (x + nI 1)), a2] st S P := rn_s dq_Model_ones_8 rfl rfl rfl
theorem dq_Model_ones_11 : decode (km_c mm_Model_ones) 11 = .ok (.iload_n 2, 1) := by decide +kernel
theorem sq_Model_ones_11 : rn G mm_Model_ones 11 [a0, a1, some (.int x)] st S P ↔ rn G mm_Model_ones 12 [a0, a1, some (.int x)] (.int x :: st) S P := rn_s dq_Model_ones_11 rfl rfl rfl
theorem dq_Model_ones_12 : decode (km_c mm_Model_ones) 12 = .ok (.iload_n 2, 1) := by decide +kernel
theorem sq_Model_ones_12 : rn G mm_Model_ones 12 [a0, a1, some (.int x)] st S P ↔ rn G mm_Model_ones 13 [a0, a1, some (.int x)] (.int x :: st) S P := rn_s dq_Model_ones_12 rfl rfl rfl
theorem dq_Model_ones_13 : decode (km_c mm_Model_ones) 13 = .ok (.iconst 1, 1) := by decide +kernel
theorem sq_Model_ones_13 : rn G mm_Model_ones 13 lv st S P ↔ rn G mm_Model_ones 14 lv (.int (nI 1) :: st) S P := rn_s dq_Model_ones_13 rfl rfl rfl
theorem dq_Model_ones_14 : decode (km_c mm_Model_ones) 14 = .ok (.isub, 1) := by decide +kernel
theorem sq_Model_ones_14 : rn G mm_Model_ones 14 lv (.int x2 :: .int x :: st) S P ↔ rn G mm_Model_ones 15 lv (.int (x - x2) :: st) S P := rn_s dq_Model_ones_14 rfl rfl rfl
theorem dq_Model_ones_15 : decode (km_c mm_Model_ones) 15 = .ok (.iand, 1) := by decide +kernel
theorem sq_Model_ones_15 : rn G mm_Model_ones 15 lv (.int x2 :: .int x :: st) S P ↔ rn G mm_Model_ones 16 lv (.int (x &&& x2) :: st) S P := rn_s dq_Model_ones_15 rfl rfl rfl
theorem dq_Model_ones_16 : decode (km_c mm_Model_ones) 16 = .ok (.istore_n 2, 1) := by decide +kernel
theorem sq_Model_ones_16n : rn G mm_Model_ones 16 [a0, none, a2] (.int x :: st) S P ↔ rn G mm_Model_ones 17 [a0, none, some (.int x)] st S P := rn_s dq_Model_ones_16 rfl rfl rfl
theorem sq_Model_ones_16i : rn G mm_Model_ones 16 [a0, some (.int x2), a2] (.int x :: st) S P ↔ rn G mm_Model_ones 17 [a0, some (.int x2), some (.int x)] st S P := rn_s dq_Model_ones_16 rfl rfl rfl
theorem sq_Model_ones_16r : rn G mm_Model_ones 16 [a0, some (.ref z2), a2] (.int x :: st) S P ↔ rn G mm_Model_ones 17 [a0, some (.ref z2), some (.int x)] st S P := rn_s dq_Model_ones_16 rfl rfl rfl
theorem dq_Model_ones_17 : decode (km_c mm_Model_ones) 17 = .ok (.goto (-13), 3) := by decide +kernel
theorem sq_Model_ones_17 : rn G mm_Model_ones 17 lv st S P ↔ rn G mm_Model_ones 4 lv st S P := rn_s dq_Model_ones_17 rfl rfl rfl
theorem dq_Model_ones_20 : decode (km_c mm_Model_ones) 20 = .ok (.iload_n 1, 1) := by decide +kernel
theorem sq_Model_ones_20 : rn G mm_Model_ones 20 [a0, some (.int x), a2] st S P ↔ rn G mm_Model_ones 21 [a0, some (.int x), a2] (.int x :: st) S P := rn_s dq_Model_ones_20 rfl rfl rfl
theorem dq_Model_ones_21 : decode (km_c mm_Model_ones) 21 = .ok (.ireturn, 1) := by decide +kernel
theorem sq_Model_ones_21 : rn G mm_Model_ones 21 lv [.int x] S P ↔ P (some (.int x)) S := rn_ir dq_Model_ones_21 rfl
theorem dq_Model_orders_0 : decode (km_c mm_Model_orders) 0 = .ok (.iconst 1, 1) := by decide +kernel
theorem sq_Model_orders_0 : rn G mm_Model_orders 0 lv st S P ↔ rn G mm_Model_orders 1 lv (.int (nI 1) :: st) S P := rn_s dq_Model_orders_0 rfl rfl rfl
theorem dq_Model_orders_1 : decode (km_c mm_Model_orders) 1 = .ok (.istore_n 1, 1) := by decide +kernel
theorem sq_Model_orders_1n : rn G mm_Model_orders 1 [none, a1, a2] (.int x :: st) S P ↔ rn G mm_Model_orders 2 [none, some (.int x), a2] st S P := rn_s dq_Model_orders_1 rfl rfl rfl
theorem sq_Model_orders_1i : rn G mm_Model_orders 1 [some (.int x2), a1, a2] (.int x :: st) S P ↔ rn G mm_Model_orders 2 [some (.int x2), some (.int x), a2] st S P := rn_s dq_Model_orders_1 rfl rfl rfl
theorem sq_Model_orders_1r : rn G mm_Model_orders 1 [some (.ref z2), a1, a2] (.int x :: st) S P ↔ rn G mm_Model_orders 2 [some (.ref z2), some (.int x), a2] st S P := rn_s dq_Model_orders_1 rfl rfl rfl
theorem dq_Model_orders_2 : decode (km_c mm_Model_orders) 2 = .ok (.iconst 2, 1) := by decide +kernel
theorem sq_Model_orders_2 : rn G mm_Model_orders 2 lv st S P ↔ rn G mm_Model_orders 3 lv (.int (nI 2) :: st) S P := rn_s dq_Model_orders_2 rfl rfl rfl
theorem dq_Model_orders_3 : decode (km_c mm_Model_orders) 3 = .ok (.istore_n 2, 1) := by decide +kernel
theorem sq_Model_orders_3n : rn G mm_Model_orders 3 [a0, none, a2] (.int x :: st) S P ↔ rn G mm_Model_orders 4 [a0, none, some (.int x)] st S P := rn_s dq_Model_orders_3 rfl rfl rfl
theorem sq_Model_orders_3i : rn G mm_Model_orders 3 [a0, some (.int x2), a2] (.int x :: st) S P ↔ rn G mm_Model_orders 4 [a0, some (.int x2), some (.int x)] st S P := rn_s dq_Model_orders_3 rfl rfl rfl
theorem sq_Model_orders_3r : rn G mm_Model_orders 3 [a0, some (.ref z2), a2] (.int x :: st) S P ↔ rn G mm_Model_orders 4 [a0, some (.ref z2), some (.int x)] st S P := rn_s dq_Model_orders_3 rfl rfl rfl
theorem dq_Model_orders_4 : decode (km_c mm_Model_orders) 4 = .ok (.iload_n 2, 1) := by decide +kernel
theorem sq_Model_orders_4 : rn G mm_Model_orders 4 [a0, a1, some (.int x)] st S P ↔ rn G mm_Model_orders 5 [a0, a1, some (.int x)] (.int x :: st) S P := rn_s dq_Model_orders_4 rfl rfl rfl
theorem dq_Model_orders_5 : decode (km_c mm_Model_orders) 5 = .ok (.iload_n 0, 1) := by decide +kernel
theorem sq_Model_orders_5 : rn G mm_Model_orders 5 [some (.int x), a1, a2] st S P ↔ rn G mm_Model_orders 6 [some (.int x), a1, a2] (.int x :: st) S P := rn_s dq_Model_orders_5 rfl rfl rfl
theorem dq_Model_orders_6 : decode (km_c mm_Model_orders) 6 = .ok (.if_icmp .gt 13, 3) := by decide +kernel
theorem sq_Model_orders_6 : rn G mm_Model_orders 6 lv (.int x2 :: .int x :: st) S P ↔ ((x2 < x → rn G mm_Model_orders 19 lv st S P) ∧ (¬ (x2 < x) → rn G mm_Model_orders 9 lv st S P)) := rn_b (off := 13) dq_Model_orders_6 rfl rfl rfl rfl
theorem dq_Model_orders_9 : decode (km_c mm_Model_orders) 9 = .ok (.iload_n 1, 1) := by decide +kernel
theorem sq_Model_orders_9 : rn G mm_Model_orders 9 [a0, some (.int x), a2] st S P ↔ rn G mm_Model_orders 10 [a0, some (.int x), a2] (.int x :: st) S P := rn_s dq_Model_orders_9 rfl rfl rfl
theorem dq_Model_orders_10 : decode (km_c mm_Model_orders) 10 = .ok (.iload_n 2, 1) := by decide +kernel
theorem sq_Model_orders_10 : rn G mm_Model_orders 10 [a0, a1, some (.int x)] st S P ↔ rn G mm_Model_orders 11 [a0, a1, some (.int x)] (.int x :: st) S P := rn_s dq_Model_orders_10 rfl rfl rfl
theorem dq_Model_orders_11 : decode (km_c mm_Model_orders) 11 = .ok (.imul, 1) := by decide +kernel
theorem sq_Model_orders_11 : rn G mm_Model_orders 11 lv (.int x2 :: .int x :: st) S P ↔ rn G mm_Model_orders 12 lv (.int (x * x2) :: st) S P := rn_s dq_Model_orders_11 rfl rfl rfl
theorem dq_Model_orders_12 : decode (km_c mm_Model_orders) 12 = .ok (.istore_n 1, 1) := by decide +kernel
theorem sq_Model_orders_12n : rn G mm_Model_orders 12 [none, a1, a2] (.int x :: st) S P ↔ rn G mm_Model_orders 13 [none, some (.int x), a2] st S P := rn_s dq_Model_orders_12 rfl rfl rfl
theorem sq_Model_orders_12i : rn G mm_Model_orders 12 [some (.int x2), a1, a2] (.int x :: st) S P ↔ rn G mm_Model_orders 13 [some (.int x2), some (.int x), a2] st S P := rn_s dq_Model_orders_12 rfl rfl rfl
theorem sq_Model_orders_12r : rn G mm_Model_orders 12 [some (.ref z2), a1, a2] (.int x :: st) S P ↔ rn G mm_Model_orders 13 [some (.ref z2), some (.int x), a2] st S P := rn_s dq_Model_orders_12 rfl rfl rfl
theorem dq_Model_orders_13 : decode (km_c mm_Model_orders) 13 = .ok (.iinc 2 1, 3) := by decide +kernel
theorem sq_Model_orders_13n : rn G mm_Model_orders 13 [a0, none, some (.int x)] st S P ↔ rn G mm_Model_orders 16 [a0, none, some (.int (x + nI 1))] st S P := rn_s dq_Model_orders_13 rfl rfl rfl
theorem sq_Model_orders_13i : rn G mm_Model_orders 13 [a0, some (.int x2), some (.int x)] st S P ↔ rn G mm_Model_orders 16 [a0, some (.int x2), some (.int (x + nI 1))] st S P := rn_s dq_Model_orders_13 rfl rfl rfl
theorem sq_Model_orders_13r : rn G mm_Model_orders 13 [a0, some (.ref z2), some (.int x)] st S P ↔ rn G mm_Model_orders 16 [a0, some (.ref z2), some (.int (x + nI 1))] st S P := rn_s dq_Model_orders_13 rfl rfl rfl
theorem dq_Model_orders_16 : decode (km_c mm_Model_orders) 16 = .ok (.goto (-12), 3) := by decide +kernel
theorem sq_Model_orders_16 : rn G mm_Model_orders 16 lv st S P ↔ rn G mm_Model_orders 4 lv st S P := rn_s dq_Model_orders_16 rfl rfl rfl
theorem dq_Model_orders_19 : decode (km_c mm_Model_orders) 19 = .ok (.iload_n 1, 1) := by decide +kernel
theorem sq_Model_orders_19 : rn G mm_Model_orders 19 [a0, some (.int x), a2] st S P ↔ rn G mm_Model_orders 20 [a0, some (.int x), a2] (.int x :: st) S P := rn_s dq_Model_orders_19 rfl rfl rfl
theorem dq_Model_orders_20 : decode (km_c mm_Model_orders) 20 = .ok (.ireturn, 1) := by decide +kernel
theorem sq_Model_orders_20 : rn G mm_Model_orders 20 lv [.int x] S P ↔ P (some (.int x)) S := rn_ir dq_Model_orders_20 rfl
theorem dq_Model_common_0 : decode (km_c mm_Model_common) 0 = .ok (.iload_n 0, 1) := by decide +kernel
theorem sq_Model_common_0 : rn G mm_Model_common 0 [some (.int x), a1, a2, a3, a4] st S P ↔ rn G mm_Model_common 1 [some (.int x), a1, a2, a3, a4] (.int x :: st) S P := rn_s dq_Model_common_0 rfl rfl rfl
theorem dq_Model_common_1 : decode (km_c mm_Model_common) 1 = .ok (.istore_n 2, 1) := by decide +kernel
theorem sq_Model_common_1n : rn G mm_Model_common 1 [a0, none, a2, a3, a4] (.int x :: st) S P ↔ rn G mm_Model_common 2 [a0, none, some (.int x), a3, a4] st S P := rn_s dq_Model_common_1 rfl rfl rfl
theorem sq_Model_common_1i : rn G mm_Model_common 1 [a0, some (.int x2), a2, a3, a4] (.int x :: st) S P ↔ rn G mm_Model_common 2 [a0, some (.int x2), some (.int x), a3, a4] st S P := rn_s dq_Model_common_1 rfl rfl rfl
theorem sq_Model_common_1r : rn G mm_Model_common 1 [a0, some (.ref z2), a2, a3, a4] (.int x :: st) S P ↔ rn G mm_Model_common 2 [a0, some (.ref z2), some (.int x), a3, a4] st S P := rn_s dq_Model_common_1 rfl rfl rfl
theorem dq_Model_common_2 : decode (km_c mm_Model_common) 2 = .ok (.iload_n 1, 1) := by decide +kernel
theorem sq_Model_common_2 : rn G mm_Model_common 2 [a0, some (.int x), a2, a3, a4] st S P ↔ rn G mm_Model_common 3 [a0, some (.int x), a2, a3, a4] (.int x :: st) S P := rn_s dq_Model_common_2 rfl rfl rfl
theorem dq_Model_common_3 : decode (km_c mm_Model_common) 3 = .ok (.istore_n 3, 1) := by decide +kernel
theorem sq_Model_common_3n : rn G mm_Model_common 3 [a0, a1, none, a3, a4] (.int x :: st) S P ↔ rn G mm_Model_common 4 [a0, a1, none, some (.int x), a4] st S P := rn_s dq_Model_common_3 rfl rfl rfl
theorem sq_Model_common_3i : rn G mm_Model_common 3 [a0, a1, some (.int x2), a3, a4] (.int x :: st) S P ↔ rn G mm_Model_common 4 [a0, a1, some (.int x2), some (.int x), a4] st S P := rn_s dq_Model_common_3 rfl rfl rfl
theorem sq_Model_common_3r : rn G mm_Model_common 3 [a0, a1, some (.ref z2), a3, a4] (.int x :: st) S P ↔ rn G mm_Model_common 4 [a0, a1, some (.ref z2), some (.int x), a4] st S P := rn_s dq_Model_common_3 rfl rfl rfl
theorem dq_Model_common_4 : decode (km_c mm_Model_common) 4 = .ok (.iload_n 3, 1) := by decide +kernel
theorem sq_Model_common_4 : rn G mm_Model_common 4 [a0, a1, a2, some (.int x), a4] st S P ↔ rn G mm_Model_common 5 [a0, a1, a2, some (.int x), a4] (.int x :: st) S P := rn_s dq_Model_common_4 rfl rfl rfl
theorem dq_Model_common_5 : decode (km_c mm_Model_common) 5 = .ok (.ifCond .eq 16, 3) := by decide +kernel
theorem sq_Model_common_5 : rn G mm_Model_common 5 lv (.int x :: st) S P ↔ ((x = 0 → rn G mm_Model_common 21 lv st S P) ∧ (¬ (x = 0) → rn G mm_Model_common 8 lv st S P)) := rn_b (off := 16) dq_Model_common_5 rfl rfl rfl rfl
theorem dq_Model_common_8 : decode (km_c mm_Model_common) 8 = .ok (.iload_n 2, 1) := by decide +kernel
theorem sq_Model_common_8 : rn G mm_Model_common 8 [a0, a1, some (.int x), a3, a4] st S P ↔ rn G mm_Model_common 9 [a0, a1, some (.int x), a3, a4] (.int x :: st) S P := rn_s dq_Model_common_8 rfl rfl rfl
theorem dq_Model_common_9 : decode (km_c mm_Model_common) 9 = .ok (.iload_n 3, 1) := by decide +kernel
theorem sq_Model_common_9 : rn G mm_Model_common 9 [a0, a1, a2, some (.int x), a4] st S P ↔ rn G mm_Model_common 10 [a0, a1, a2, some (.int x), a4] (.int x :: st) S P := rn_s dq_Model_common_9 rfl rfl rfl
theorem dq_Model_common_10 : decode (km_c mm_Model_common) 10 = .ok (.irem, 1) := by decide +kernel
theorem sq_Model_common_10 (hz : ¬ x2 = 0) : rn G mm_Model_common 10 lv (.int x2 :: .int x :: st) S P ↔ rn G mm_Model_common 11 lv (.int (x - x / x2 * x2) :: st) S P := rn_s dq_Model_common_10 rfl rfl (if_neg hz)
theorem dq_Model_common_11 : decode (km_c mm_Model_common) 11 = .ok (.istore 4, 2) := by decide +kernel
theorem sq_Model_common_11n : rn G mm_Model_common 11 [a0, a1, a2, none, a4] (.int x :: st) S P ↔ rn G mm_Model_common 13 [a0, a1, a2, none, some (.int x)] st S P := rn_s dq_Model_common_11 rfl rfl rfl
theorem sq_Model_common_11i : rn G mm_Model_common 11 [a0, a1, a2, some (.int x2), a4] (.int x :: st) S P ↔ rn G mm_Model_common 13 [a0, a1, a2, some (.int x2), some (.int x)] st S P := rn_s dq_Model_common_11 rfl rfl rfl
theorem sq_Model_common_11r : rn G mm_Model_common 11 [a0, a1, a2, some (.ref z2), a4] (.int x :: st) S P ↔ rn G mm_Model_common 13 [a0, a1, a2, some (.ref z2), some (.int x)] st S P := rn_s dq_Model_common_11 rfl rfl rfl
theorem dq_Model_common_13 : decode (km_c mm_Model_common) 13 = .ok (.iload_n 3, 1) := by decide +kernel
theorem sq_Model_common_13 : rn G mm_Model_common 13 [a0, a1, a2, some (.int x), a4] st S P ↔ rn G mm_Model_common 14 [a0, a1, a2, some (.int x), a4] (.int x :: st) S P := rn_s dq_Model_common_13 rfl rfl rfl
theorem dq_Model_common_14 : decode (km_c mm_Model_common) 14 = .ok (.istore_n 2, 1) := by decide +kernel
theorem sq_Model_common_14n : rn G mm_Model_common 14 [a0, none, a2, a3, a4] (.int x :: st) S P ↔ rn G mm_Model_common 15 [a0, none, some (.int x), a3, a4] st S P := rn_s dq_Model_common_14 rfl rfl rfl
theorem sq_Model_common_14i : rn G mm_Model_common 14 [a0, some (.int x2), a2, a3, a4] (.int x :: st) S P ↔ rn G mm_Model_common 15 [a0, some (.int x2), some (.int x), a3, a4] st S P := rn_s dq_Model_common_14 rfl rfl rfl
theorem sq_Model_common_14r : rn G mm_Model_common 14 [a0, some (.ref z2), a2, a3, a4] (.int x :: st) S P ↔ rn G mm_Model_common 15 [a0, some (.ref z2), some (.int x), a3, a4] st S P := rn_s dq_Model_common_14 rfl rfl rfl
theorem dq_Model_common_15 : decode (km_c mm_Model_common) 15 = .ok (.iload 4, 2) := by decide +kernel
theorem sq_Model_common_15 : rn G mm_Model_common 15 [a0, a1, a2, a3, some (.int x)] st S P ↔ rn G mm_Model_common 17 [a0, a1, a2, a3, some (.int x)] (.int x :: st) S P := rn_s dq_Model_common_15 rfl rfl rfl
theorem dq_Model_common_17 : decode (km_c mm_Model_common) 17 = .ok (.istore_n 3, 1) := by decide +kernel
theorem sq_Model_common_17n : rn G mm_Model_common 17 [a0, a1, none, a3, a4] (.int x :: st) S P ↔ rn G mm_Model_common 18 [a0, a1, none, some (.int x), a4] st S P := rn_s dq_Model_common_17 rfl rfl rfl
theorem sq_Model_common_17i : rn G mm_Model_common 17 [a0, a1, some (.int x2), a3, a4] (.int x :: st) S P ↔ rn G mm_Model_common 18 [a0, a1, some (.int x2), some (.int x), a4] st S P := rn_s dq_Model_common_17 rfl rfl rfl
theorem sq_Model_common_17r : rn G mm_Model_common 17 [a0, a1, some (.ref z2), a3, a4] (.int x :: st) S P ↔ rn G mm_Model_common 18 [a0, a1, some (.ref z2), some (.int x), a4] st S P := rn_s dq_Model_common_17 rfl rfl rfl
theorem dq_Model_common_18 : decode (km_c mm_Model_common) 18 = .ok (.goto (-14), 3) := by decide +kernel
theorem sq_Model_common_18 : rn G mm_Model_common 18 lv st S P ↔ rn G mm_Model_common 4 lv st S P := rn_s dq_Model_common_18 rfl rfl rfl
theorem dq_Model_common_21 : decode (km_c mm_Model_common) 21 = .ok (.iload_n 2, 1) := by decide +kernel
theorem sq_Model_common_21 : rn G mm_Model_common 21 [a0, a1, some (.int x), a3, a4] st S P ↔ rn G mm_Model_common 22 [a0, a1, some (.int x), a3, a4] (.int x :: st) S P := rn_s dq_Model_common_21 rfl rfl rfl
theorem dq_Model_common_22 : decode (km_c mm_Model_common) 22 = .ok (.ireturn, 1) := by decide +kernel
theorem sq_Model_common_22 : rn G mm_Model_common 22 lv [.int x] S P ↔ P (some (.int x)) S := rn_ir dq_Model_common_22 rfl
end SQ
