section SQ
variable {o pl kp : Bool} {L : Nat} {I A : Nat → Nat → Int32} {G : kg_G} {S : ks_S} {lv : List (Option Value)} {st : List Value} {P : Option Value → ks_S → Prop} {x x2 : Int32} {y y2 : Int64} {z z2 c a : Nat} {a0 a1 a2 a3 a4 a5 a6 a7 a8 a9 a10 a11 a12 a13 a14 a15 a16 a17 a18 a19 a20 a21 a22 a23 : Option Value}
theorem dq_Model_count_0 : decode (km_c mm_Model_count) 0 = .ok (.aload_n 0, 1) := by decide +kernel
theorem sq_Model_count_0 : rn G mm_Model_count 0 [some (.ref z), a1, a2, a3, a4] st S P ↔ rn G mm_Model_count 1 [some (.ref z), a1, a2, a3, a4] (.ref z :: st) S P := rn_s dq_Model_count_0 rfl rfl rfl
theorem dq_Model_count_1 : decode (km_c mm_Model_count) 1 = .ok (.aload_n 0, 1) := by decide +kernel
theorem sq_Model_count_1 : rn G mm_Model_count 1 [some (.ref z), a1, a2, a3, a4] st S P ↔ rn G mm_Model_count 2 [some (.ref z), a1, a2, a3, a4] (.ref z :: st) S P := rn_s dq_Model_count_1 rfl rfl rfl
theorem dq_Model_count_2 : decode (km_c mm_Model_count) 2 = .ok (.getfield 98, 3) := by decide +kernel
theorem sq_Model_count_2_45 (ho : sx_o o pl kp) : rn (lt_G o L) mm_Model_count 2 lv (.ref 45 :: st) (sx pl kp I A) P ↔ rn (lt_G o L) mm_Model_count 5 lv (.int (I 45 1) :: st) (sx pl kp I A) P := rx_get (h := "") (ci := 10) (k := 1) dq_Model_count_2 (by decide +kernel) ho (up_b (by decide)) rfl rfl (fl_i (by decide))
theorem dq_Model_count_5 : decode (km_c mm_Model_count) 5 = .ok (.invokevirtual 115, 3) := by decide +kernel
theorem sq_Model_count_5_45 {x1 : Int32} {v : Option Value} {S2 : ks_S} (hc : ev (lt_G o L) mm_Model_findWet [.ref 45, .int x1] (sx pl kp I A) v S2) (ho : sx_o o pl kp) (hst : kx_cat st ≤ 8) : rn (lt_G o L) mm_Model_count 5 lv (.int x1 :: .ref 45 :: st) (sx pl kp I A) P ↔ rn (lt_G o L) mm_Model_count 8 lv (v.toList ++ st) S2 P := rn_cv (k := 0) (host := "") (E' := mm_Model_findWet) dq_Model_count_5 rfl (ok_v rfl (by decide) (by decide) (Nat.le_add_left _ _) hst (Nat.le_of_ble_eq_true rfl) (Or.inr (rc_v ho (up_b (by decide)) rfl))) rfl rfl hc
theorem dq_Model_count_8 : decode (km_c mm_Model_count) 8 = .ok (.iconst 0, 1) := by decide +kernel
theorem sq_Model_count_8 : rn G mm_Model_count 8 lv st S P ↔ rn G mm_Model_count 9 lv (.int (nI 0) :: st) S P := rn_s dq_Model_count_8 rfl rfl rfl
theorem dq_Model_count_9 : decode (km_c mm_Model_count) 9 = .ok (.istore_n 2, 1) := by decide +kernel
theorem sq_Model_count_9n : rn G mm_Model_count 9 [a0, none, a2, a3, a4] (.int x :: st) S P ↔ rn G mm_Model_count 10 [a0, none, some (.int x), a3, a4] st S P := rn_s dq_Model_count_9 rfl rfl rfl
theorem sq_Model_count_9i : rn G mm_Model_count 9 [a0, some (.int x2), a2, a3, a4] (.int x :: st) S P ↔ rn G mm_Model_count 10 [a0, some (.int x2), some (.int x), a3, a4] st S P := rn_s dq_Model_count_9 rfl rfl rfl
theorem sq_Model_count_9r : rn G mm_Model_count 9 [a0, some (.ref z2), a2, a3, a4] (.int x :: st) S P ↔ rn G mm_Model_count 10 [a0, some (.ref z2), some (.int x), a3, a4] st S P := rn_s dq_Model_count_9 rfl rfl rfl
theorem dq_Model_count_10 : decode (km_c mm_Model_count) 10 = .ok (.iconst 0, 1) := by decide +kernel
theorem sq_Model_count_10 : rn G mm_Model_count 10 lv st S P ↔ rn G mm_Model_count 11 lv (.int (nI 0) :: st) S P := rn_s dq_Model_count_10 rfl rfl rfl
theorem dq_Model_count_11 : decode (km_c mm_Model_count) 11 = .ok (.istore_n 3, 1) := by decide +kernel
theorem sq_Model_count_11n : rn G mm_Model_count 11 [a0, a1, none, a3, a4] (.int x :: st) S P ↔ rn G mm_Model_count 12 [a0, a1, none, some (.int x), a4] st S P := rn_s dq_Model_count_11 rfl rfl rfl
theorem sq_Model_count_11i : rn G mm_Model_count 11 [a0, a1, some (.int x2), a3, a4] (.int x :: st) S P ↔ rn G mm_Model_count 12 [a0, a1, some (.int x2), some (.int x), a4] st S P := rn_s dq_Model_count_11 rfl rfl rfl
theorem sq_Model_count_11r : rn G mm_Model_count 11 [a0, a1, some (.ref z2), a3, a4] (.int x :: st) S P ↔ rn G mm_Model_count 12 [a0, a1, some (.ref z2), some (.int x), a4] st S P := rn_s dq_Model_count_11 rfl rfl rfl
theorem dq_Model_count_12 : decode (km_c mm_Model_count) 12 = .ok (.iconst 0, 1) := by decide +kernel
theorem sq_Model_count_12 : rn G mm_Model_count 12 lv st S P ↔ rn G mm_Model_count 13 lv (.int (nI 0) :: st) S P := rn_s dq_Model_count_12 rfl rfl rfl
theorem dq_Model_count_13 : decode (km_c mm_Model_count) 13 = .ok (.istore 4, 2) := by decide +kernel
theorem sq_Model_count_13n : rn G mm_Model_count 13 [a0, a1, a2, none, a4] (.int x :: st) S P ↔ rn G mm_Model_count 15 [a0, a1, a2, none, some (.int x)] st S P := rn_s dq_Model_count_13 rfl rfl rfl
theorem sq_Model_count_13i : rn G mm_Model_count 13 [a0, a1, a2, some (.int x2), a4] (.int x :: st) S P ↔ rn G mm_Model_count 15 [a0, a1, a2, some (.int x2), some (.int x)] st S P := rn_s dq_Model_count_13 rfl rfl rfl
theorem sq_Model_count_13r : rn G mm_Model_count 13 [a0, a1, a2, some (.ref z2), a4] (.int x :: st) S P ↔ rn G mm_Model_count 15 [a0, a1, a2, some (.ref z2), some (.int x)] st S P := rn_s dq_Model_count_13 rfl rfl rfl
theorem dq_Model_count_15 : decode (km_c mm_Model_count) 15 = .ok (.iload 4, 2) := by decide +kernel
theorem sq_Model_count_15 : rn G mm_Model_count 15 [a0, a1, a2, a3, some (.int x)] st S P ↔ rn G mm_Model_count 17 [a0, a1, a2, a3, some (.int x)] (.int x :: st) S P := rn_s dq_Model_count_15 rfl rfl rfl
theorem dq_Model_count_17 : decode (km_c mm_Model_count) 17 = .ok (.bipush 49, 2) := by decide +kernel
theorem sq_Model_count_17 : rn G mm_Model_count 17 lv st S P ↔ rn G mm_Model_count 19 lv (.int (nI 49) :: st) S P := rn_s dq_Model_count_17 rfl rfl rfl
theorem dq_Model_count_19 : decode (km_c mm_Model_count) 19 = .ok (.if_icmp .ge 36, 3) := by decide +kernel
theorem sq_Model_count_19 : rn G mm_Model_count 19 lv (.int x2 :: .int x :: st) S P ↔ ((x2 ≤ x → rn G mm_Model_count 55 lv st S P) ∧ (¬ (x2 ≤ x) → rn G mm_Model_count 22 lv st S P)) := rn_b (off := 36) dq_Model_count_19 rfl rfl rfl rfl
theorem dq_Model_count_22 : decode (km_c mm_Model_count) 22 = .ok (.iload_n 2, 1) := by decide +kernel
theorem sq_Model_count_22 : rn G mm_Model_count 22 [a0, a1, some (.int x), a3, a4] st S P ↔ rn G mm_Model_count 23 [a0, a1, some (.int x), a3, a4] (.int x :: st) S P := rn_s dq_Model_count_22 rfl rfl rfl
theorem dq_Model_count_23 : decode (km_c mm_Model_count) 23 = .ok (.aload_n 0, 1) := by decide +kernel
theorem sq_Model_count_23 : rn G mm_Model_count 23 [some (.ref z), a1, a2, a3, a4] st S P ↔ rn G mm_Model_count 24 [some (.ref z), a1, a2, a3, a4] (.ref z :: st) S P := rn_s dq_Model_count_23 rfl rfl rfl
theorem dq_Model_count_24 : decode (km_c mm_Model_count) 24 = .ok (.getfield 7, 3) := by decide +kernel
theorem sq_Model_count_24_45 (ho : sx_o o pl kp) : rn (lt_G o L) mm_Model_count 24 lv (.ref 45 :: st) (sx pl kp I A) P ↔ rn (lt_G o L) mm_Model_count 27 lv (.ref 46 :: st) (sx pl kp I A) P := rx_get (h := "") (ci := 10) (k := 0) dq_Model_count_24 (by decide +kernel) ho (up_b (by decide)) rfl rfl (fl_r (by decide) (by decide) (by decide) (by decide))
theorem dq_Model_count_27 : decode (km_c mm_Model_count) 27 = .ok (.bipush 49, 2) := by decide +kernel
theorem sq_Model_count_27 : rn G mm_Model_count 27 lv st S P ↔ rn G mm_Model_count 29 lv (.int (nI 49) :: st) S P := rn_s dq_Model_count_27 rfl rfl rfl
theorem dq_Model_count_29 : decode (km_c mm_Model_count) 29 = .ok (.iload 4, 2) := by decide +kernel
theorem sq_Model_count_29 : rn G mm_Model_count 29 [a0, a1, a2, a3, some (.int x)] st S P ↔ rn G mm_Model_count 31 [a0, a1, a2, a3, some (.int x)] (.int x :: st) S P := rn_s dq_Model_count_29 rfl rfl rfl
theorem dq_Model_count_31 : decode (km_c mm_Model_count) 31 = .ok (.iadd, 1) := by decide +kernel
theorem sq_Model_count_31 : rn G mm_Model_count 31 lv (.int x2 :: .int x :: st) S P ↔ rn G mm_Model_count 32 lv (.int (x + x2) :: st) S P := rn_s dq_Model_count_31 rfl rfl rfl
theorem dq_Model_count_32 : decode (km_c mm_Model_count) 32 = .ok (.iaload, 1) := by decide +kernel
theorem sq_Model_count_32 (ho : sx_o o pl kp) (hk : ak L a = 0) (hu : sx_up pl kp a = true ∨ 1000 ≤ a) (hc : c < ln L a) (hn : ln L a < 2 ^ 31) : rn (lt_G o L) mm_Model_count 32 lv (.int (nI c) :: .ref a :: st) (sx pl kp I A) P ↔ rn (lt_G o L) mm_Model_count 33 lv (.int (A a c) :: st) (sx pl kp I A) P := rx_ild dq_Model_count_32 ho hk hu hc hn
theorem dq_Model_count_33 : decode (km_c mm_Model_count) 33 = .ok (.iadd, 1) := by decide +kernel
theorem sq_Model_count_33 : rn G mm_Model_count 33 lv (.int x2 :: .int x :: st) S P ↔ rn G mm_Model_count 34 lv (.int (x + x2) :: st) S P := rn_s dq_Model_count_33 rfl rfl rfl
theorem dq_Model_count_34 : decode (km_c mm_Model_count) 34 = .ok (.istore_n 2, 1) := by decide +kernel
theorem sq_Model_count_34n : rn G mm_Model_count 34 [a0, none, a2, a3, a4] (.int x :: st) S P ↔ rn G mm_Model_count 35 [a0, none, some (.int x), a3, a4] st S P := rn_s dq_Model_count_34 rfl rfl rfl
theorem sq_Model_count_34i : rn G mm_Model_count 34 [a0, some (.int x2), a2, a3, a4] (.int x :: st) S P ↔ rn G mm_Model_count 35 [a0, some (.int x2), some (.int x), a3, a4] st S P := rn_s dq_Model_count_34 rfl rfl rfl
theorem sq_Model_count_34r : rn G mm_Model_count 34 [a0, some (.ref z2), a2, a3, a4] (.int x :: st) S P ↔ rn G mm_Model_count 35 [a0, some (.ref z2), some (.int x), a3, a4] st S P := rn_s dq_Model_count_34 rfl rfl rfl
theorem dq_Model_count_35 : decode (km_c mm_Model_count) 35 = .ok (.iload_n 3, 1) := by decide +kernel
theorem sq_Model_count_35 : rn G mm_Model_count 35 [a0, a1, a2, some (.int x), a4] st S P ↔ rn G mm_Model_count 36 [a0, a1, a2, some (.int x), a4] (.int x :: st) S P := rn_s dq_Model_count_35 rfl rfl rfl
theorem dq_Model_count_36 : decode (km_c mm_Model_count) 36 = .ok (.aload_n 0, 1) := by decide +kernel
theorem sq_Model_count_36 : rn G mm_Model_count 36 [some (.ref z), a1, a2, a3, a4] st S P ↔ rn G mm_Model_count 37 [some (.ref z), a1, a2, a3, a4] (.ref z :: st) S P := rn_s dq_Model_count_36 rfl rfl rfl
theorem dq_Model_count_37 : decode (km_c mm_Model_count) 37 = .ok (.getfield 7, 3) := by decide +kernel
theorem sq_Model_count_37_45 (ho : sx_o o pl kp) : rn (lt_G o L) mm_Model_count 37 lv (.ref 45 :: st) (sx pl kp I A) P ↔ rn (lt_G o L) mm_Model_count 40 lv (.ref 46 :: st) (sx pl kp I A) P := rx_get (h := "") (ci := 10) (k := 0) dq_Model_count_37 (by decide +kernel) ho (up_b (by decide)) rfl rfl (fl_r (by decide) (by decide) (by decide) (by decide))
theorem dq_Model_count_40 : decode (km_c mm_Model_count) 40 = .ok (.sipush 147, 3) := by decide +kernel
theorem sq_Model_count_40 : rn G mm_Model_count 40 lv st S P ↔ rn G mm_Model_count 43 lv (.int (nI 147) :: st) S P := rn_s dq_Model_count_40 rfl rfl rfl
theorem dq_Model_count_43 : decode (km_c mm_Model_count) 43 = .ok (.iload 4, 2) := by decide +kernel
theorem sq_Model_count_43 : rn G mm_Model_count 43 [a0, a1, a2, a3, some (.int x)] st S P ↔ rn G mm_Model_count 45 [a0, a1, a2, a3, some (.int x)] (.int x :: st) S P := rn_s dq_Model_count_43 rfl rfl rfl
theorem dq_Model_count_45 : decode (km_c mm_Model_count) 45 = .ok (.iadd, 1) := by decide +kernel
theorem sq_Model_count_45 : rn G mm_Model_count 45 lv (.int x2 :: .int x :: st) S P ↔ rn G mm_Model_count 46 lv (.int (x + x2) :: st) S P := rn_s dq_Model_count_45 rfl rfl rfl
theorem dq_Model_count_46 : decode (km_c mm_Model_count) 46 = .ok (.iaload, 1) := by decide +kernel
theorem sq_Model_count_46 (ho : sx_o o pl kp) (hk : ak L a = 0) (hu : sx_up pl kp a = true ∨ 1000 ≤ a) (hc : c < ln L a) (hn : ln L a < 2 ^ 31) : rn (lt_G o L) mm_Model_count 46 lv (.int (nI c) :: .ref a :: st) (sx pl kp I A) P ↔ rn (lt_G o L) mm_Model_count 47 lv (.int (A a c) :: st) (sx pl kp I A) P := rx_ild dq_Model_count_46 ho hk hu hc hn
theorem dq_Model_count_47 : decode (km_c mm_Model_count) 47 = .ok (.iadd, 1) := by decide +kernel
theorem sq_Model_count_47 : rn G mm_Model_count 47 lv (.int x2 :: .int x :: st) S P ↔ rn G mm_Model_count 48 lv (.int (x + x2) :: st) S P := rn_s dq_Model_count_47 rfl rfl rfl
theorem dq_Model_count_48 : decode (km_c mm_Model_count) 48 = .ok (.istore_n 3, 1) := by decide +kernel
theorem sq_Model_count_48n : rn G mm_Model_count 48 [a0, a1, none, a3, a4] (.int x :: st) S P ↔ rn G mm_Model_count 49 [a0, a1, none, some (.int x), a4] st S P := rn_s dq_Model_count_48 rfl rfl rfl
theorem sq_Model_count_48i : rn G mm_Model_count 48 [a0, a1, some (.int x2), a3, a4] (.int x :: st) S P ↔ rn G mm_Model_count 49 [a0, a1, some (.int x2), some (.int x), a4] st S P := rn_s dq_Model_count_48 rfl rfl rfl
theorem sq_Model_count_48r : rn G mm_Model_count 48 [a0, a1, some (.ref z2), a3, a4] (.int x :: st) S P ↔ rn G mm_Model_count 49 [a0, a1, some (.ref z2), some (.int x), a4] st S P := rn_s dq_Model_count_48 rfl rfl rfl
theorem dq_Model_count_49 : decode (km_c mm_Model_count) 49 = .ok (.iinc 4 1, 3) := by decide +kernel
theorem sq_Model_count_49n : rn G mm_Model_count 49 [a0, a1, a2, none, some (.int x)] st S P ↔ rn G mm_Model_count 52 [a0, a1, a2, none, some (.int (x + nI 1))] st S P := rn_s dq_Model_count_49 rfl rfl rfl
theorem sq_Model_count_49i : rn G mm_Model_count 49 [a0, a1, a2, some (.int x2), some (.int x)] st S P ↔ rn G mm_Model_count 52 [a0, a1, a2, some (.int x2), some (.int (x + nI 1))] st S P := rn_s dq_Model_count_49 rfl rfl rfl
theorem sq_Model_count_49r : rn G mm_Model_count 49 [a0, a1, a2, some (.ref z2), some (.int x)] st S P ↔ rn G mm_Model_count 52 [a0, a1, a2, some (.ref z2), some (.int (x + nI 1))] st S P := rn_s dq_Model_count_49 rfl rfl rfl
theorem dq_Model_count_52 : decode (km_c mm_Model_count) 52 = .ok (.goto (-37), 3) := by decide +kernel
theorem sq_Model_count_52 : rn G mm_Model_count 52 lv st S P ↔ rn G mm_Model_count 15 lv st S P := rn_s dq_Model_count_52 rfl rfl rfl
theorem dq_Model_count_55 : decode (km_c mm_Model_count) 55 = .ok (.iload_n 1, 1) := by decide +kernel
theorem sq_Model_count_55 : rn G mm_Model_count 55 [a0, some (.int x), a2, a3, a4] st S P ↔ rn G mm_Model_count 56 [a0, some (.int x), a2, a3, a4] (.int x :: st) S P := rn_s dq_Model_count_55 rfl rfl rfl
theorem dq_Model_count_56 : decode (km_c mm_Model_count) 56 = .ok (.tableswitch 73 0 6 #[44, 49, 54, 59, 61, 63, 68], 44) := by decide +kernel
theorem dq_Model_count_100 : decode (km_c mm_Model_count) 100 = .ok (.aload_n 0, 1) := by decide +kernel
theorem sq_Model_count_100 : rn G mm_Model_count 100 [some (.ref z), a1, a2, a3, a4] st S P ↔ rn G mm_Model_count 101 [some (.ref z), a1, a2, a3, a4] (.ref z :: st) S P := rn_s dq_Model_count_100 rfl rfl rfl
theorem dq_Model_count_101 : decode (km_c mm_Model_count) 101 = .ok (.getfield 131, 3) := by decide +kernel
theorem sq_Model_count_101_45 (ho : sx_o o pl kp) : rn (lt_G o L) mm_Model_count 101 lv (.ref 45 :: st) (sx pl kp I A) P ↔ rn (lt_G o L) mm_Model_count 104 lv (.int (I 45 4) :: st) (sx pl kp I A) P := rx_get (h := "") (ci := 10) (k := 4) dq_Model_count_101 (by decide +kernel) ho (up_b (by decide)) rfl rfl (fl_i (by decide))
theorem dq_Model_count_104 : decode (km_c mm_Model_count) 104 = .ok (.ireturn, 1) := by decide +kernel
theorem sq_Model_count_104 : rn G mm_Model_count 104 lv [.int x] S P ↔ P (some (.int x)) S := rn_ir dq_Model_count_104 rfl
theorem dq_Model_count_105 : decode (km_c mm_Model_count) 105 = .ok (.aload_n 0, 1) := by decide +kernel
theorem sq_Model_count_105 : rn G mm_Model_count 105 [some (.ref z), a1, a2, a3, a4] st S P ↔ rn G mm_Model_count 106 [some (.ref z), a1, a2, a3, a4] (.ref z :: st) S P := rn_s dq_Model_count_105 rfl rfl rfl
theorem dq_Model_count_106 : decode (km_c mm_Model_count) 106 = .ok (.getfield 134, 3) := by decide +kernel
theorem sq_Model_count_106_45 (ho : sx_o o pl kp) : rn (lt_G o L) mm_Model_count 106 lv (.ref 45 :: st) (sx pl kp I A) P ↔ rn (lt_G o L) mm_Model_count 109 lv (.int (I 45 8) :: st) (sx pl kp I A) P := rx_get (h := "") (ci := 10) (k := 8) dq_Model_count_106 (by decide +kernel) ho (up_b (by decide)) rfl rfl (fl_i (by decide))
theorem dq_Model_count_109 : decode (km_c mm_Model_count) 109 = .ok (.ireturn, 1) := by decide +kernel
theorem sq_Model_count_109 : rn G mm_Model_count 109 lv [.int x] S P ↔ P (some (.int x)) S := rn_ir dq_Model_count_109 rfl
theorem dq_Model_count_110 : decode (km_c mm_Model_count) 110 = .ok (.aload_n 0, 1) := by decide +kernel
theorem sq_Model_count_110 : rn G mm_Model_count 110 [some (.ref z), a1, a2, a3, a4] st S P ↔ rn G mm_Model_count 111 [some (.ref z), a1, a2, a3, a4] (.ref z :: st) S P := rn_s dq_Model_count_110 rfl rfl rfl
theorem dq_Model_count_111 : decode (km_c mm_Model_count) 111 = .ok (.getfield 88, 3) := by decide +kernel
theorem sq_Model_count_111_45 (ho : sx_o o pl kp) : rn (lt_G o L) mm_Model_count 111 lv (.ref 45 :: st) (sx pl kp I A) P ↔ rn (lt_G o L) mm_Model_count 114 lv (.int (I 45 13) :: st) (sx pl kp I A) P := rx_get (h := "") (ci := 10) (k := 13) dq_Model_count_111 (by decide +kernel) ho (up_b (by decide)) rfl rfl (fl_i (by decide))
theorem dq_Model_count_114 : decode (km_c mm_Model_count) 114 = .ok (.ireturn, 1) := by decide +kernel
theorem sq_Model_count_114 : rn G mm_Model_count 114 lv [.int x] S P ↔ P (some (.int x)) S := rn_ir dq_Model_count_114 rfl
theorem dq_Model_count_115 : decode (km_c mm_Model_count) 115 = .ok (.iload_n 2, 1) := by decide +kernel
theorem sq_Model_count_115 : rn G mm_Model_count 115 [a0, a1, some (.int x), a3, a4] st S P ↔ rn G mm_Model_count 116 [a0, a1, some (.int x), a3, a4] (.int x :: st) S P := rn_s dq_Model_count_115 rfl rfl rfl
theorem dq_Model_count_116 : decode (km_c mm_Model_count) 116 = .ok (.ireturn, 1) := by decide +kernel
theorem sq_Model_count_116 : rn G mm_Model_count 116 lv [.int x] S P ↔ P (some (.int x)) S := rn_ir dq_Model_count_116 rfl
theorem dq_Model_count_117 : decode (km_c mm_Model_count) 117 = .ok (.iload_n 3, 1) := by decide +kernel
theorem sq_Model_count_117 : rn G mm_Model_count 117 [a0, a1, a2, some (.int x), a4] st S P ↔ rn G mm_Model_count 118 [a0, a1, a2, some (.int x), a4] (.int x :: st) S P := rn_s dq_Model_count_117 rfl rfl rfl
theorem dq_Model_count_118 : decode (km_c mm_Model_count) 118 = .ok (.ireturn, 1) := by decide +kernel
theorem sq_Model_count_118 : rn G mm_Model_count 118 lv [.int x] S P ↔ P (some (.int x)) S := rn_ir dq_Model_count_118 rfl
theorem dq_Model_count_119 : decode (km_c mm_Model_count) 119 = .ok (.aload_n 0, 1) := by decide +kernel
theorem sq_Model_count_119 : rn G mm_Model_count 119 [some (.ref z), a1, a2, a3, a4] st S P ↔ rn G mm_Model_count 120 [some (.ref z), a1, a2, a3, a4] (.ref z :: st) S P := rn_s dq_Model_count_119 rfl rfl rfl
theorem dq_Model_count_120 : decode (km_c mm_Model_count) 120 = .ok (.invokevirtual 137, 3) := by decide +kernel
theorem sq_Model_count_120_45  {v : Option Value} {S2 : ks_S} (hc : ev (lt_G o L) mm_Model_allWeights [.ref 45] (sx pl kp I A) v S2) (ho : sx_o o pl kp) (hst : kx_cat st ≤ 8) : rn (lt_G o L) mm_Model_count 120 lv (.ref 45 :: st) (sx pl kp I A) P ↔ rn (lt_G o L) mm_Model_count 123 lv (v.toList ++ st) S2 P := rn_cv (k := 0) (host := "") (E' := mm_Model_allWeights) dq_Model_count_120 rfl (ok_v rfl (by decide) (by decide) (Nat.le_add_left _ _) hst (Nat.le_of_ble_eq_true rfl) (Or.inr (rc_v ho (up_b (by decide)) rfl))) rfl rfl hc
theorem dq_Model_count_123 : decode (km_c mm_Model_count) 123 = .ok (.ireturn, 1) := by decide +kernel
theorem sq_Model_count_123 : rn G mm_Model_count 123 lv [.int x] S P ↔ P (some (.int x)) S := rn_ir dq_Model_count_123 rfl
theorem dq_Model_count_124 : decode (km_c mm_Model_count) 124 = .ok (.aload_n 0, 1) := by decide +kernel
theorem sq_Model_count_124 : rn G mm_Model_count 124 [some (.ref z), a1, a2, a3, a4] st S P ↔ rn G mm_Model_count 125 [some (.ref z), a1, a2, a3, a4] (.ref z :: st) S P := rn_s dq_Model_count_124 rfl rfl rfl
theorem dq_Model_count_125 : decode (km_c mm_Model_count) 125 = .ok (.getfield 98, 3) := by decide +kernel
theorem sq_Model_count_125_45 (ho : sx_o o pl kp) : rn (lt_G o L) mm_Model_count 125 lv (.ref 45 :: st) (sx pl kp I A) P ↔ rn (lt_G o L) mm_Model_count 128 lv (.int (I 45 1) :: st) (sx pl kp I A) P := rx_get (h := "") (ci := 10) (k := 1) dq_Model_count_125 (by decide +kernel) ho (up_b (by decide)) rfl rfl (fl_i (by decide))
theorem dq_Model_count_128 : decode (km_c mm_Model_count) 128 = .ok (.ireturn, 1) := by decide +kernel
theorem sq_Model_count_128 : rn G mm_Model_count 128 lv [.int x] S P ↔ P (some (.int x)) S := rn_ir dq_Model_count_128 rfl
theorem dq_Model_count_129 : decode (km_c mm_Model_count) 129 = .ok (.iconst (-1), 1) := by decide +kernel
theorem sq_Model_count_129 : rn G mm_Model_count 129 lv st S P ↔ rn G mm_Model_count 130 lv (.int ((-1)) :: st) S P := rn_s dq_Model_count_129 rfl rfl rfl
theorem dq_Model_count_130 : decode (km_c mm_Model_count) 130 = .ok (.ireturn, 1) := by decide +kernel
theorem sq_Model_count_130 : rn G mm_Model_count 130 lv [.int x] S P ↔ P (some (.int x)) S := rn_ir dq_Model_count_130 rfl
theorem dq_Model_allWeights_0 : decode (km_c mm_Model_allWeights) 0 = .ok (.iconst 0, 1) := by decide +kernel
theorem sq_Model_allWeights_0 : rn G mm_Model_allWeights 0 lv st S P ↔ rn G mm_Model_allWeights 1 lv (.int (nI 0) :: st) S P := rn_s dq_Model_allWeights_0 rfl rfl rfl
theorem dq_Model_allWeights_1 : decode (km_c mm_Model_allWeights) 1 = .ok (.istore_n 1, 1) := by decide +kernel
theorem sq_Model_allWeights_1n : rn G mm_Model_allWeights 1 [none, a1, a2] (.int x :: st) S P ↔ rn G mm_Model_allWeights 2 [none, some (.int x), a2] st S P := rn_s dq_Model_allWeights_1 rfl rfl rfl
theorem sq_Model_allWeights_1i : rn G mm_Model_allWeights 1 [some (.int x2), a1, a2] (.int x :: st) S P ↔ rn G mm_Model_allWeights 2 [some (.int x2), some (.int x), a2] st S P := rn_s dq_Model_allWeights_1 rfl rfl rfl
theorem sq_Model_allWeights_1r : rn G mm_Model_allWeights 1 [some (.ref z2), a1, a2] (.int x :: st) S P ↔ rn G mm_Model_allWeights 2 [some (.ref z2), some (.int x), a2] st S P := rn_s dq_Model_allWeights_1 rfl rfl rfl
theorem dq_Model_allWeights_2 : decode (km_c mm_Model_allWeights) 2 = .ok (.iconst 0, 1) := by decide +kernel
theorem sq_Model_allWeights_2 : rn G mm_Model_allWeights 2 lv st S P ↔ rn G mm_Model_allWeights 3 lv (.int (nI 0) :: st) S P := rn_s dq_Model_allWeights_2 rfl rfl rfl
theorem dq_Model_allWeights_3 : decode (km_c mm_Model_allWeights) 3 = .ok (.istore_n 2, 1) := by decide +kernel
theorem sq_Model_allWeights_3n : rn G mm_Model_allWeights 3 [a0, none, a2] (.int x :: st) S P ↔ rn G mm_Model_allWeights 4 [a0, none, some (.int x)] st S P := rn_s dq_Model_allWeights_3 rfl rfl rfl
theorem sq_Model_allWeights_3i : rn G mm_Model_allWeights 3 [a0, some (.int x2), a2] (.int x :: st) S P ↔ rn G mm_Model_allWeights 4 [a0, some (.int x2), some (.int x)] st S P := rn_s dq_Model_allWeights_3 rfl rfl rfl
theorem sq_Model_allWeights_3r : rn G mm_Model_allWeights 3 [a0, some (.ref z2), a2] (.int x :: st) S P ↔ rn G mm_Model_allWeights 4 [a0, some (.ref z2), some (.int x)] st S P := rn_s dq_Model_allWeights_3 rfl rfl rfl
theorem dq_Model_allWeights_4 : decode (km_c mm_Model_allWeights) 4 = .ok (.iload_n 2, 1) := by decide +kernel
theorem sq_Model_allWeights_4 : rn G mm_Model_allWeights 4 [a0, a1, some (.int x)] st S P ↔ rn G mm_Model_allWeights 5 [a0, a1, some (.int x)] (.int x :: st) S P := rn_s dq_Model_allWeights_4 rfl rfl rfl
theorem dq_Model_allWeights_5 : decode (km_c mm_Model_allWeights) 5 = .ok (.bipush 40, 2) := by decide +kernel
theorem sq_Model_allWeights_5 : rn G mm_Model_allWeights 5 lv st S P ↔ rn G mm_Model_allWeights 7 lv (.int (nI 40) :: st) S P := rn_s dq_Model_allWeights_5 rfl rfl rfl
theorem dq_Model_allWeights_7 : decode (km_c mm_Model_allWeights) 7 = .ok (.if_icmp .gt 18, 3) := by decide +kernel
theorem sq_Model_allWeights_7 : rn G mm_Model_allWeights 7 lv (.int x2 :: .int x :: st) S P ↔ ((x2 < x → rn G mm_Model_allWeights 25 lv st S P) ∧ (¬ (x2 < x) → rn G mm_Model_allWeights 10 lv st S P)) := rn_b (off := 18) dq_Model_allWeights_7 rfl rfl rfl rfl
theorem dq_Model_allWeights_10 : decode (km_c mm_Model_allWeights) 10 = .ok (.iload_n 1, 1) := by decide +kernel
theorem sq_Model_allWeights_10 : rn G mm_Model_allWeights 10 [a0, some (.int x), a2] st S P ↔ rn G mm_Model_allWeights 11 [a0, some (.int x), a2] (.int x :: st) S P := rn_s dq_Model_allWeights_10 rfl rfl rfl
theorem dq_Model_allWeights_11 : decode (km_c mm_Model_allWeights) 11 = .ok (.aload_n 0, 1) := by decide +kernel
theorem sq_Model_allWeights_11 : rn G mm_Model_allWeights 11 [some (.ref z), a1, a2] st S P ↔ rn G mm_Model_allWeights 12 [some (.ref z), a1, a2] (.ref z :: st) S P := rn_s dq_Model_allWeights_11 rfl rfl rfl
theorem dq_Model_allWeights_12 : decode (km_c mm_Model_allWeights) 12 = .ok (.getfield 26, 3) := by decide +kernel
theorem sq_Model_allWeights_12_45 (ho : sx_o o pl kp) : rn (lt_G o L) mm_Model_allWeights 12 lv (.ref 45 :: st) (sx pl kp I A) P ↔ rn (lt_G o L) mm_Model_allWeights 15 lv (.ref 50 :: st) (sx pl kp I A) P := rx_get (h := "") (ci := 10) (k := 9) dq_Model_allWeights_12 (by decide +kernel) ho (up_b (by decide)) rfl rfl (fl_r (by decide) (by decide) (by decide) (by decide))
theorem dq_Model_allWeights_15 : decode (km_c mm_Model_allWeights) 15 = .ok (.iload_n 2, 1) := by decide +kernel
theorem sq_Model_allWeights_15 : rn G mm_Model_allWeights 15 [a0, a1, some (.int x)] st S P ↔ rn G mm_Model_allWeights 16 [a0, a1, some (.int x)] (.int x :: st) S P := rn_s dq_Model_allWeights_15 rfl rfl rfl
theorem dq_Model_allWeights_16 : decode (km_c mm_Model_allWeights) 16 = .ok (.iaload, 1) := by decide +kernel
theorem sq_Model_allWeights_16 (ho : sx_o o pl kp) (hk : ak L a = 0) (hu : sx_up pl kp a = true ∨ 1000 ≤ a) (hc : c < ln L a) (hn : ln L a < 2 ^ 31) : rn (lt_G o L) mm_Model_allWeights 16 lv (.int (nI c) :: .ref a :: st) (sx pl kp I A) P ↔ rn (lt_G o L) mm_Model_allWeights 17 lv (.int (A a c) :: st) (sx pl kp I A) P := rx_ild dq_Model_allWeights_16 ho hk hu hc hn
theorem dq_Model_allWeights_17 : decode (km_c mm_Model_allWeights) 17 = .ok (.iadd, 1) := by decide +kernel
theorem sq_Model_allWeights_17 : rn G mm_Model_allWeights 17 lv (.int x2 :: .int x :: st) S P ↔ rn G mm_Model_allWeights 18 lv (.int (x + x2) :: st) S P := rn_s dq_Model_allWeights_17 rfl rfl rfl
theorem dq_Model_allWeights_18 : decode (km_c mm_Model_allWeights) 18 = .ok (.istore_n 1, 1) := by decide +kernel
theorem sq_Model_allWeights_18n : rn G mm_Model_allWeights 18 [none, a1, a2] (.int x :: st) S P ↔ rn G mm_Model_allWeights 19 [none, some (.int x), a2] st S P := rn_s dq_Model_allWeights_18 rfl rfl rfl
theorem sq_Model_allWeights_18i : rn G mm_Model_allWeights 18 [some (.int x2), a1, a2] (.int x :: st) S P ↔ rn G mm_Model_allWeights 19 [some (.int x2), some (.int x), a2] st S P := rn_s dq_Model_allWeights_18 rfl rfl rfl
theorem sq_Model_allWeights_18r : rn G mm_Model_allWeights 18 [some (.ref z2), a1, a2] (.int x :: st) S P ↔ rn G mm_Model_allWeights 19 [some (.ref z2), some (.int x), a2] st S P := rn_s dq_Model_allWeights_18 rfl rfl rfl
theorem dq_Model_allWeights_19 : decode (km_c mm_Model_allWeights) 19 = .ok (.iinc 2 1, 3) := by decide +kernel
theorem sq_Model_allWeights_19n : rn G mm_Model_allWeights 19 [a0, none, some (.int x)] st S P ↔ rn G mm_Model_allWeights 22 [a0, none, some (.int (x + nI 1))] st S P := rn_s dq_Model_allWeights_19 rfl rfl rfl
theorem sq_Model_allWeights_19i : rn G mm_Model_allWeights 19 [a0, some (.int x2), some (.int x)] st S P ↔ rn G mm_Model_allWeights 22 [a0, some (.int x2), some (.int (x + nI 1))] st S P := rn_s dq_Model_allWeights_19 rfl rfl rfl
theorem sq_Model_allWeights_19r : rn G mm_Model_allWeights 19 [a0, some (.ref z2), some (.int x)] st S P ↔ rn G mm_Model_allWeights 22 [a0, some (.ref z2), some (.int (x + nI 1))] st S P := rn_s dq_Model_allWeights_19 rfl rfl rfl
theorem dq_Model_allWeights_22 : decode (km_c mm_Model_allWeights) 22 = .ok (.goto (-18), 3) := by decide +kernel
theorem sq_Model_allWeights_22 : rn G mm_Model_allWeights 22 lv st S P ↔ rn G mm_Model_allWeights 4 lv st S P := rn_s dq_Model_allWeights_22 rfl rfl rfl
theorem dq_Model_allWeights_25 : decode (km_c mm_Model_allWeights) 25 = .ok (.iload_n 1, 1) := by decide +kernel
theorem sq_Model_allWeights_25 : rn G mm_Model_allWeights 25 [a0, some (.int x), a2] st S P ↔ rn G mm_Model_allWeights 26 [a0, some (.int x), a2] (.int x :: st) S P := rn_s dq_Model_allWeights_25 rfl rfl rfl
theorem dq_Model_allWeights_26 : decode (km_c mm_Model_allWeights) 26 = .ok (.ireturn, 1) := by decide +kernel
theorem sq_Model_allWeights_26 : rn G mm_Model_allWeights 26 lv [.int x] S P ↔ P (some (.int x)) S := rn_ir dq_Model_allWeights_26 rfl
theorem dq_Model_type_0 : decode (km_c mm_Model_type) 0 = .ok (.iload_n 3, 1) := by decide +kernel
theorem sq_Model_type_0 : rn G mm_Model_type 0 [a0, a1, a2, some (.int x), a4] st S P ↔ rn G mm_Model_type 1 [a0, a1, a2, some (.int x), a4] (.int x :: st) S P := rn_s dq_Model_type_0 rfl rfl rfl
theorem dq_Model_type_1 : decode (km_c mm_Model_type) 1 = .ok (.i2l, 1) := by decide +kernel
theorem sq_Model_type_1 : rn G mm_Model_type 1 lv (.int x :: st) S P ↔ rn G mm_Model_type 2 lv (.long x.toInt64 :: st) S P := rn_s dq_Model_type_1 rfl rfl rfl
theorem dq_Model_type_2 : decode (km_c mm_Model_type) 2 = .ok (.lconst 1, 1) := by decide +kernel
theorem sq_Model_type_2 : rn G mm_Model_type 2 lv st S P ↔ rn G mm_Model_type 3 lv (.long (1) :: st) S P := rn_s dq_Model_type_2 rfl rfl rfl
theorem dq_Model_type_3 : decode (km_c mm_Model_type) 3 = .ok (.ldc2_w 140, 3) := by decide +kernel
theorem sq_Model_type_3 : rn G mm_Model_type 3 lv st S P ↔ rn G mm_Model_type 6 lv (.long (8) :: st) S P := rn_s dq_Model_type_3 rfl rfl rfl
theorem dq_Model_type_6 : decode (km_c mm_Model_type) 6 = .ok (.invokestatic 76, 3) := by decide +kernel
theorem sq_Model_type_6 {y1 : Int64} {y2 : Int64} {y3 : Int64} {v : Option Value} {S2 : ks_S} (hc : ev G mm_Model_in [.long y1, .long y2, .long y3] S v S2) (hst : kx_cat st ≤ 8) : rn G mm_Model_type 6 lv (.long y3 :: .long y2 :: .long y1 :: st) S P ↔ rn G mm_Model_type 9 lv (v.toList ++ st) S2 P := rn_cs (k := 1) (host := "") (E' := mm_Model_in) dq_Model_type_6 (by decide) (by decide) rfl (ok_v rfl (by decide) (by decide) (Nat.le_add_left _ _) hst (Nat.le_of_ble_eq_true rfl) (Or.inl rfl)) rfl rfl hc
theorem dq_Model_type_9 : decode (km_c mm_Model_type) 9 = .ok (.ifCond .ne 5, 3) := by decide +kernel
theorem sq_Model_type_9 : rn G mm_Model_type 9 lv (.int x :: st) S P ↔ ((¬ x = 0 → rn G mm_Model_type 14 lv st S P) ∧ (¬ (¬ x = 0) → rn G mm_Model_type 12 lv st S P)) := rn_b (off := 5) dq_Model_type_9 rfl rfl rfl rfl
theorem dq_Model_type_12 : decode (km_c mm_Model_type) 12 = .ok (.iconst (-1), 1) := by decide +kernel
theorem sq_Model_type_12 : rn G mm_Model_type 12 lv st S P ↔ rn G mm_Model_type 13 lv (.int ((-1)) :: st) S P := rn_s dq_Model_type_12 rfl rfl rfl
theorem dq_Model_type_13 : decode (km_c mm_Model_type) 13 = .ok (.ireturn, 1) := by decide +kernel
theorem sq_Model_type_13 : rn G mm_Model_type 13 lv [.int x] S P ↔ P (some (.int x)) S := rn_ir dq_Model_type_13 rfl
theorem dq_Model_type_14 : decode (km_c mm_Model_type) 14 = .ok (.iload_n 3, 1) := by decide +kernel
theorem sq_Model_type_14 : rn G mm_Model_type 14 [a0, a1, a2, some (.int x), a4] st S P ↔ rn G mm_Model_type 15 [a0, a1, a2, some (.int x), a4] (.int x :: st) S P := rn_s dq_Model_type_14 rfl rfl rfl
theorem dq_Model_type_15 : decode (km_c mm_Model_type) 15 = .ok (.iconst 1, 1) := by decide +kernel
theorem sq_Model_type_15 : rn G mm_Model_type 15 lv st S P ↔ rn G mm_Model_type 16 lv (.int (nI 1) :: st) S P := rn_s dq_Model_type_15 rfl rfl rfl
theorem dq_Model_type_16 : decode (km_c mm_Model_type) 16 = .ok (.isub, 1) := by decide +kernel
theorem sq_Model_type_16 : rn G mm_Model_type 16 lv (.int x2 :: .int x :: st) S P ↔ rn G mm_Model_type 17 lv (.int (x - x2) :: st) S P := rn_s dq_Model_type_16 rfl rfl rfl
theorem dq_Model_type_17 : decode (km_c mm_Model_type) 17 = .ok (.istore 4, 2) := by decide +kernel
theorem sq_Model_type_17n : rn G mm_Model_type 17 [a0, a1, a2, none, a4] (.int x :: st) S P ↔ rn G mm_Model_type 19 [a0, a1, a2, none, some (.int x)] st S P := rn_s dq_Model_type_17 rfl rfl rfl
theorem sq_Model_type_17i : rn G mm_Model_type 17 [a0, a1, a2, some (.int x2), a4] (.int x :: st) S P ↔ rn G mm_Model_type 19 [a0, a1, a2, some (.int x2), some (.int x)] st S P := rn_s dq_Model_type_17 rfl rfl rfl
theorem sq_Model_type_17r : rn G mm_Model_type 17 [a0, a1, a2, some (.ref z2), a4] (.int x :: st) S P ↔ rn G mm_Model_type 19 [a0, a1, a2, some (.ref z2), some (.int x)] st S P := rn_s dq_Model_type_17 rfl rfl rfl
theorem sq_Model_type_17l : rn G mm_Model_type 17 [a0, a1, a2, some (.long y2), a4] (.int x :: st) S P ↔ rn G mm_Model_type 19 [a0, a1, a2, none, some (.int x)] st S P := rn_s dq_Model_type_17 rfl rfl rfl
theorem dq_Model_type_19 : decode (km_c mm_Model_type) 19 = .ok (.iload 4, 2) := by decide +kernel
theorem sq_Model_type_19 : rn G mm_Model_type 19 [a0, a1, a2, a3, some (.int x)] st S P ↔ rn G mm_Model_type 21 [a0, a1, a2, a3, some (.int x)] (.int x :: st) S P := rn_s dq_Model_type_19 rfl rfl rfl
theorem dq_Model_type_21 : decode (km_c mm_Model_type) 21 = .ok (.ifCond .lt 34, 3) := by decide +kernel
theorem sq_Model_type_21 : rn G mm_Model_type 21 lv (.int x :: st) S P ↔ ((x < 0 → rn G mm_Model_type 55 lv st S P) ∧ (¬ (x < 0) → rn G mm_Model_type 24 lv st S P)) := rn_b (off := 34) dq_Model_type_21 rfl rfl rfl rfl
theorem dq_Model_type_24 : decode (km_c mm_Model_type) 24 = .ok (.lload_n 1, 1) := by decide +kernel
theorem sq_Model_type_24 : rn G mm_Model_type 24 [a0, some (.long y), a2, a3, a4] st S P ↔ rn G mm_Model_type 25 [a0, some (.long y), a2, a3, a4] (.long y :: st) S P := rn_s dq_Model_type_24 rfl rfl rfl
theorem dq_Model_type_25 : decode (km_c mm_Model_type) 25 = .ok (.bipush 8, 2) := by decide +kernel
theorem sq_Model_type_25 : rn G mm_Model_type 25 lv st S P ↔ rn G mm_Model_type 27 lv (.int (nI 8) :: st) S P := rn_s dq_Model_type_25 rfl rfl rfl
theorem dq_Model_type_27 : decode (km_c mm_Model_type) 27 = .ok (.iload 4, 2) := by decide +kernel
theorem sq_Model_type_27 : rn G mm_Model_type 27 [a0, a1, a2, a3, some (.int x)] st S P ↔ rn G mm_Model_type 29 [a0, a1, a2, a3, some (.int x)] (.int x :: st) S P := rn_s dq_Model_type_27 rfl rfl rfl
theorem dq_Model_type_29 : decode (km_c mm_Model_type) 29 = .ok (.imul, 1) := by decide +kernel
theorem sq_Model_type_29 : rn G mm_Model_type 29 lv (.int x2 :: .int x :: st) S P ↔ rn G mm_Model_type 30 lv (.int (x * x2) :: st) S P := rn_s dq_Model_type_29 rfl rfl rfl
theorem dq_Model_type_30 : decode (km_c mm_Model_type) 30 = .ok (.lshr, 1) := by decide +kernel
theorem sq_Model_type_30 : rn G mm_Model_type 30 lv (.int x :: .long y :: st) S P ↔ rn G mm_Model_type 31 lv (.long (y >>> (x.toInt64 &&& 63)) :: st) S P := rn_s dq_Model_type_30 rfl rfl rfl
theorem dq_Model_type_31 : decode (km_c mm_Model_type) 31 = .ok (.ldc2_w 142, 3) := by decide +kernel
theorem sq_Model_type_31 : rn G mm_Model_type 31 lv st S P ↔ rn G mm_Model_type 34 lv (.long (255) :: st) S P := rn_s dq_Model_type_31 rfl rfl rfl
theorem dq_Model_type_34 : decode (km_c mm_Model_type) 34 = .ok (.land, 1) := by decide +kernel
theorem sq_Model_type_34 : rn G mm_Model_type 34 lv (.long y2 :: .long y :: st) S P ↔ rn G mm_Model_type 35 lv (.long (y &&& y2) :: st) S P := rn_s dq_Model_type_34 rfl rfl rfl
theorem dq_Model_type_35 : decode (km_c mm_Model_type) 35 = .ok (.ldc2_w 144, 3) := by decide +kernel
theorem sq_Model_type_35 : rn G mm_Model_type 35 lv st S P ↔ rn G mm_Model_type 38 lv (.long (32) :: st) S P := rn_s dq_Model_type_35 rfl rfl rfl
theorem dq_Model_type_38 : decode (km_c mm_Model_type) 38 = .ok (.ldc2_w 146, 3) := by decide +kernel
theorem sq_Model_type_38 : rn G mm_Model_type 38 lv st S P ↔ rn G mm_Model_type 41 lv (.long (126) :: st) S P := rn_s dq_Model_type_38 rfl rfl rfl
theorem dq_Model_type_41 : decode (km_c mm_Model_type) 41 = .ok (.invokestatic 76, 3) := by decide +kernel
theorem sq_Model_type_41 {y1 : Int64} {y2 : Int64} {y3 : Int64} {v : Option Value} {S2 : ks_S} (hc : ev G mm_Model_in [.long y1, .long y2, .long y3] S v S2) (hst : kx_cat st ≤ 8) : rn G mm_Model_type 41 lv (.long y3 :: .long y2 :: .long y1 :: st) S P ↔ rn G mm_Model_type 44 lv (v.toList ++ st) S2 P := rn_cs (k := 1) (host := "") (E' := mm_Model_in) dq_Model_type_41 (by decide) (by decide) rfl (ok_v rfl (by decide) (by decide) (Nat.le_add_left _ _) hst (Nat.le_of_ble_eq_true rfl) (Or.inl rfl)) rfl rfl hc
theorem dq_Model_type_44 : decode (km_c mm_Model_type) 44 = .ok (.ifCond .ne 5, 3) := by decide +kernel
theorem sq_Model_type_44 : rn G mm_Model_type 44 lv (.int x :: st) S P ↔ ((¬ x = 0 → rn G mm_Model_type 49 lv st S P) ∧ (¬ (¬ x = 0) → rn G mm_Model_type 47 lv st S P)) := rn_b (off := 5) dq_Model_type_44 rfl rfl rfl rfl
theorem dq_Model_type_47 : decode (km_c mm_Model_type) 47 = .ok (.iconst (-1), 1) := by decide +kernel
theorem sq_Model_type_47 : rn G mm_Model_type 47 lv st S P ↔ rn G mm_Model_type 48 lv (.int ((-1)) :: st) S P := rn_s dq_Model_type_47 rfl rfl rfl
theorem dq_Model_type_48 : decode (km_c mm_Model_type) 48 = .ok (.ireturn, 1) := by decide +kernel
theorem sq_Model_type_48 : rn G mm_Model_type 48 lv [.int x] S P ↔ P (some (.int x)) S := rn_ir dq_Model_type_48 rfl
theorem dq_Model_type_49 : decode (km_c mm_Model_type) 49 = .ok (.iinc 4 (-1), 3) := by decide +kernel
theorem sq_Model_type_49n : rn G mm_Model_type 49 [a0, a1, a2, none, some (.int x)] st S P ↔ rn G mm_Model_type 52 [a0, a1, a2, none, some (.int (x + (-1)))] st S P := rn_s dq_Model_type_49 rfl rfl rfl
theorem sq_Model_type_49i : rn G mm_Model_type 49 [a0, a1, a2, some (.int x2), some (.int x)] st S P ↔ rn G mm_Model_type 52 [a0, a1, a2, some (.int x2), some (.int (x + (-1)))] st S P := rn_s dq_Model_type_49 rfl rfl rfl
theorem sq_Model_type_49r : rn G mm_Model_type 49 [a0, a1, a2, some (.ref z2), some (.int x)] st S P ↔ rn G mm_Model_type 52 [a0, a1, a2, some (.ref z2), some (.int (x + (-1)))] st S P := rn_s dq_Model_type_49 rfl rfl rfl
theorem sq_Model_type_49l : rn G mm_Model_type 49 [a0, a1, a2, some (.long y2), some (.int x)] st S P ↔ rn G mm_Model_type 52 [a0, a1, a2, none, some (.int (x + (-1)))] st S P := rn_s dq_Model_type_49 rfl rfl rfl
theorem dq_Model_type_52 : decode (km_c mm_Model_type) 52 = .ok (.goto (-33), 3) := by decide +kernel
theorem sq_Model_type_52 : rn G mm_Model_type 52 lv st S P ↔ rn G mm_Model_type 19 lv st S P := rn_s dq_Model_type_52 rfl rfl rfl
theorem dq_Model_type_55 : decode (km_c mm_Model_type) 55 = .ok (.aload_n 0, 1) := by decide +kernel
theorem sq_Model_type_55 : rn G mm_Model_type 55 [some (.ref z), a1, a2, a3, a4] st S P ↔ rn G mm_Model_type 56 [some (.ref z), a1, a2, a3, a4] (.ref z :: st) S P := rn_s dq_Model_type_55 rfl rfl rfl
theorem dq_Model_type_56 : decode (km_c mm_Model_type) 56 = .ok (.getfield 148, 3) := by decide +kernel
theorem sq_Model_type_56_45 (ho : sx_o o pl kp) : rn (lt_G o L) mm_Model_type 56 lv (.ref 45 :: st) (sx pl kp I A) P ↔ rn (lt_G o L) mm_Model_type 59 lv (.int (I 45 16) :: st) (sx pl kp I A) P := rx_get (h := "") (ci := 10) (k := 16) dq_Model_type_56 (by decide +kernel) ho (up_b (by decide)) rfl rfl (fl_i (by decide))
theorem dq_Model_type_59 : decode (km_c mm_Model_type) 59 = .ok (.iload_n 3, 1) := by decide +kernel
theorem sq_Model_type_59 : rn G mm_Model_type 59 [a0, a1, a2, some (.int x), a4] st S P ↔ rn G mm_Model_type 60 [a0, a1, a2, some (.int x), a4] (.int x :: st) S P := rn_s dq_Model_type_59 rfl rfl rfl
theorem dq_Model_type_60 : decode (km_c mm_Model_type) 60 = .ok (.iadd, 1) := by decide +kernel
theorem sq_Model_type_60 : rn G mm_Model_type 60 lv (.int x2 :: .int x :: st) S P ↔ rn G mm_Model_type 61 lv (.int (x + x2) :: st) S P := rn_s dq_Model_type_60 rfl rfl rfl
theorem dq_Model_type_61 : decode (km_c mm_Model_type) 61 = .ok (.sipush 140, 3) := by decide +kernel
theorem sq_Model_type_61 : rn G mm_Model_type 61 lv st S P ↔ rn G mm_Model_type 64 lv (.int (nI 140) :: st) S P := rn_s dq_Model_type_61 rfl rfl rfl
theorem dq_Model_type_64 : decode (km_c mm_Model_type) 64 = .ok (.if_icmp .le 6, 3) := by decide +kernel
theorem sq_Model_type_64 : rn G mm_Model_type 64 lv (.int x2 :: .int x :: st) S P ↔ ((x ≤ x2 → rn G mm_Model_type 70 lv st S P) ∧ (¬ (x ≤ x2) → rn G mm_Model_type 67 lv st S P)) := rn_b (off := 6) dq_Model_type_64 rfl rfl rfl rfl
theorem dq_Model_type_67 : decode (km_c mm_Model_type) 67 = .ok (.bipush (-3), 2) := by decide +kernel
theorem sq_Model_type_67 : rn G mm_Model_type 67 lv st S P ↔ rn G mm_Model_type 69 lv (.int ((-3)) :: st) S P := rn_s dq_Model_type_67 rfl rfl rfl
theorem dq_Model_type_69 : decode (km_c mm_Model_type) 69 = .ok (.ireturn, 1) := by decide +kernel
theorem sq_Model_type_69 : rn G mm_Model_type 69 lv [.int x] S P ↔ P (some (.int x)) S := rn_ir dq_Model_type_69 rfl
theorem dq_Model_type_70 : decode (km_c mm_Model_type) 70 = .ok (.iload_n 3, 1) := by decide +kernel
theorem sq_Model_type_70 : rn G mm_Model_type 70 [a0, a1, a2, some (.int x), a4] st S P ↔ rn G mm_Model_type 71 [a0, a1, a2, some (.int x), a4] (.int x :: st) S P := rn_s dq_Model_type_70 rfl rfl rfl
theorem dq_Model_type_71 : decode (km_c mm_Model_type) 71 = .ok (.iconst 1, 1) := by decide +kernel
theorem sq_Model_type_71 : rn G mm_Model_type 71 lv st S P ↔ rn G mm_Model_type 72 lv (.int (nI 1) :: st) S P := rn_s dq_Model_type_71 rfl rfl rfl
theorem dq_Model_type_72 : decode (km_c mm_Model_type) 72 = .ok (.isub, 1) := by decide +kernel
theorem sq_Model_type_72 : rn G mm_Model_type 72 lv (.int x2 :: .int x :: st) S P ↔ rn G mm_Model_type 73 lv (.int (x - x2) :: st) S P := rn_s dq_Model_type_72 rfl rfl rfl
theorem dq_Model_type_73 : decode (km_c mm_Model_type) 73 = .ok (.istore 4, 2) := by decide +kernel
theorem sq_Model_type_73n : rn G mm_Model_type 73 [a0, a1, a2, none, a4] (.int x :: st) S P ↔ rn G mm_Model_type 75 [a0, a1, a2, none, some (.int x)] st S P := rn_s dq_Model_type_73 rfl rfl rfl
theorem sq_Model_type_73i : rn G mm_Model_type 73 [a0, a1, a2, some (.int x2), a4] (.int x :: st) S P ↔ rn G mm_Model_type 75 [a0, a1, a2, some (.int x2), some (.int x)] st S P := rn_s dq_Model_type_73 rfl rfl rfl
theorem sq_Model_type_73r : rn G mm_Model_type 73 [a0, a1, a2, some (.ref z2), a4] (.int x :: st) S P ↔ rn G mm_Model_type 75 [a0, a1, a2, some (.ref z2), some (.int x)] st S P := rn_s dq_Model_type_73 rfl rfl rfl
theorem sq_Model_type_73l : rn G mm_Model_type 73 [a0, a1, a2, some (.long y2), a4] (.int x :: st) S P ↔ rn G mm_Model_type 75 [a0, a1, a2, none, some (.int x)] st S P := rn_s dq_Model_type_73 rfl rfl rfl
theorem dq_Model_type_75 : decode (km_c mm_Model_type) 75 = .ok (.iload 4, 2) := by decide +kernel
theorem sq_Model_type_75 : rn G mm_Model_type 75 [a0, a1, a2, a3, some (.int x)] st S P ↔ rn G mm_Model_type 77 [a0, a1, a2, a3, some (.int x)] (.int x :: st) S P := rn_s dq_Model_type_75 rfl rfl rfl
theorem dq_Model_type_77 : decode (km_c mm_Model_type) 77 = .ok (.ifCond .lt 40, 3) := by decide +kernel
theorem sq_Model_type_77 : rn G mm_Model_type 77 lv (.int x :: st) S P ↔ ((x < 0 → rn G mm_Model_type 117 lv st S P) ∧ (¬ (x < 0) → rn G mm_Model_type 80 lv st S P)) := rn_b (off := 40) dq_Model_type_77 rfl rfl rfl rfl
theorem dq_Model_type_80 : decode (km_c mm_Model_type) 80 = .ok (.aload_n 0, 1) := by decide +kernel
theorem sq_Model_type_80 : rn G mm_Model_type 80 [some (.ref z), a1, a2, a3, a4] st S P ↔ rn G mm_Model_type 81 [some (.ref z), a1, a2, a3, a4] (.ref z :: st) S P := rn_s dq_Model_type_80 rfl rfl rfl
theorem dq_Model_type_81 : decode (km_c mm_Model_type) 81 = .ok (.getfield 41, 3) := by decide +kernel
theorem sq_Model_type_81_45 (ho : sx_o o pl kp) : rn (lt_G o L) mm_Model_type 81 lv (.ref 45 :: st) (sx pl kp I A) P ↔ rn (lt_G o L) mm_Model_type 84 lv (.ref 54 :: st) (sx pl kp I A) P := rx_get (h := "") (ci := 10) (k := 15) dq_Model_type_81 (by decide +kernel) ho (up_b (by decide)) rfl rfl (fl_r (by decide) (by decide) (by decide) (by decide))
theorem dq_Model_type_84 : decode (km_c mm_Model_type) 84 = .ok (.aload_n 0, 1) := by decide +kernel
theorem sq_Model_type_84 : rn G mm_Model_type 84 [some (.ref z), a1, a2, a3, a4] st S P ↔ rn G mm_Model_type 85 [some (.ref z), a1, a2, a3, a4] (.ref z :: st) S P := rn_s dq_Model_type_84 rfl rfl rfl
theorem dq_Model_type_85 : decode (km_c mm_Model_type) 85 = .ok (.getfield 148, 3) := by decide +kernel
theorem sq_Model_type_85_45 (ho : sx_o o pl kp) : rn (lt_G o L) mm_Model_type 85 lv (.ref 45 :: st) (sx pl kp I A) P ↔ rn (lt_G o L) mm_Model_type 88 lv (.int (I 45 16) :: st) (sx pl kp I A) P := rx_get (h := "") (ci := 10) (k := 16) dq_Model_type_85 (by decide +kernel) ho (up_b (by decide)) rfl rfl (fl_i (by decide))
theorem dq_Model_type_88 : decode (km_c mm_Model_type) 88 = .ok (.lload_n 1, 1) := by decide +kernel
theorem sq_Model_type_88 : rn G mm_Model_type 88 [a0, some (.long y), a2, a3, a4] st S P ↔ rn G mm_Model_type 89 [a0, some (.long y), a2, a3, a4] (.long y :: st) S P := rn_s dq_Model_type_88 rfl rfl rfl
theorem dq_Model_type_89 : decode (km_c mm_Model_type) 89 = .ok (.bipush 8, 2) := by decide +kernel
theorem sq_Model_type_89 : rn G mm_Model_type 89 lv st S P ↔ rn G mm_Model_type 91 lv (.int (nI 8) :: st) S P := rn_s dq_Model_type_89 rfl rfl rfl
theorem dq_Model_type_91 : decode (km_c mm_Model_type) 91 = .ok (.iload 4, 2) := by decide +kernel
theorem sq_Model_type_91 : rn G mm_Model_type 91 [a0, a1, a2, a3, some (.int x)] st S P ↔ rn G mm_Model_type 93 [a0, a1, a2, a3, some (.int x)] (.int x :: st) S P := rn_s dq_Model_type_91 rfl rfl rfl
theorem dq_Model_type_93 : decode (km_c mm_Model_type) 93 = .ok (.imul, 1) := by decide +kernel
theorem sq_Model_type_93 : rn G mm_Model_type 93 lv (.int x2 :: .int x :: st) S P ↔ rn G mm_Model_type 94 lv (.int (x * x2) :: st) S P := rn_s dq_Model_type_93 rfl rfl rfl
theorem dq_Model_type_94 : decode (km_c mm_Model_type) 94 = .ok (.lshr, 1) := by decide +kernel
theorem sq_Model_type_94 : rn G mm_Model_type 94 lv (.int x :: .long y :: st) S P ↔ rn G mm_Model_type 95 lv (.long (y >>> (x.toInt64 &&& 63)) :: st) S P := rn_s dq_Model_type_94 rfl rfl rfl
theorem dq_Model_type_95 : decode (km_c mm_Model_type) 95 = .ok (.ldc2_w 142, 3) := by decide +kernel
theorem sq_Model_type_95 : rn G mm_Model_type 95 lv st S P ↔ rn G mm_Model_type 98 lv (.long (255) :: st) S P := rn_s dq_Model_type_95 rfl rfl rfl
theorem dq_Model_type_98 : decode (km_c mm_Model_type) 98 = .ok (.land, 1) := by decide +kernel
theorem sq_Model_type_98 : rn G mm_Model_type 98 lv (.long y2 :: .long y :: st) S P ↔ rn G mm_Model_type 99 lv (.long (y &&& y2) :: st) S P := rn_s dq_Model_type_98 rfl rfl rfl
theorem dq_Model_type_99 : decode (km_c mm_Model_type) 99 = .ok (.l2i, 1) := by decide +kernel
theorem sq_Model_type_99 : rn G mm_Model_type 99 lv (.long y :: st) S P ↔ rn G mm_Model_type 100 lv (.int y.toInt32 :: st) S P := rn_s dq_Model_type_99 rfl rfl rfl
theorem dq_Model_type_100 : decode (km_c mm_Model_type) 100 = .ok (.iastore, 1) := by decide +kernel
theorem sq_Model_type_100 (ho : sx_o o pl kp) (hk : ak L a = 0) (hu : sx_up pl kp a = true) (hc : c < ln L a) (hn : ln L a < 2 ^ 31) : rn (lt_G o L) mm_Model_type 100 lv (.int x :: .int (nI c) :: .ref a :: st) (sx pl kp I A) P ↔ rn (lt_G o L) mm_Model_type 101 lv st (sx pl kp I (u2 A a c x)) P := rx_ist dq_Model_type_100 ho hk hu hc hn
theorem dq_Model_type_101 : decode (km_c mm_Model_type) 101 = .ok (.aload_n 0, 1) := by decide +kernel
theorem sq_Model_type_101 : rn G mm_Model_type 101 [some (.ref z), a1, a2, a3, a4] st S P ↔ rn G mm_Model_type 102 [some (.ref z), a1, a2, a3, a4] (.ref z :: st) S P := rn_s dq_Model_type_101 rfl rfl rfl
theorem dq_Model_type_102 : decode (km_c mm_Model_type) 102 = .ok (.dup, 1) := by decide +kernel
theorem sq_Model_type_102i : rn G mm_Model_type 102 lv (.int x :: st) S P ↔ rn G mm_Model_type 103 lv (.int x :: .int x :: st) S P := rn_s dq_Model_type_102 rfl rfl rfl
theorem sq_Model_type_102r : rn G mm_Model_type 102 lv (.ref z :: st) S P ↔ rn G mm_Model_type 103 lv (.ref z :: .ref z :: st) S P := rn_s dq_Model_type_102 rfl rfl rfl
theorem dq_Model_type_103 : decode (km_c mm_Model_type) 103 = .ok (.getfield 148, 3) := by decide +kernel
theorem sq_Model_type_103_45 (ho : sx_o o pl kp) : rn (lt_G o L) mm_Model_type 103 lv (.ref 45 :: st) (sx pl kp I A) P ↔ rn (lt_G o L) mm_Model_type 106 lv (.int (I 45 16) :: st) (sx pl kp I A) P := rx_get (h := "") (ci := 10) (k := 16) dq_Model_type_103 (by decide +kernel) ho (up_b (by decide)) rfl rfl (fl_i (by decide))
theorem dq_Model_type_106 : decode (km_c mm_Model_type) 106 = .ok (.iconst 1, 1) := by decide +kernel
theorem sq_Model_type_106 : rn G mm_Model_type 106 lv st S P ↔ rn G mm_Model_type 107 lv (.int (nI 1) :: st) S P := rn_s dq_Model_type_106 rfl rfl rfl
theorem dq_Model_type_107 : decode (km_c mm_Model_type) 107 = .ok (.iadd, 1) := by decide +kernel
theorem sq_Model_type_107 : rn G mm_Model_type 107 lv (.int x2 :: .int x :: st) S P ↔ rn G mm_Model_type 108 lv (.int (x + x2) :: st) S P := rn_s dq_Model_type_107 rfl rfl rfl
theorem dq_Model_type_108 : decode (km_c mm_Model_type) 108 = .ok (.putfield 148, 3) := by decide +kernel
theorem sq_Model_type_108_45 (ho : sx_o o pl kp) : rn (lt_G o L) mm_Model_type 108 lv (.int x :: .ref 45 :: st) (sx pl kp I A) P ↔ rn (lt_G o L) mm_Model_type 111 lv st (sx pl kp (u2 I 45 16 x) A) P := rx_put (h := "") (ci := 10) (k := 16) dq_Model_type_108 (by decide +kernel) ho (up_b (by decide)) rfl rfl (by decide) (by decide)
theorem dq_Model_type_111 : decode (km_c mm_Model_type) 111 = .ok (.iinc 4 (-1), 3) := by decide +kernel
theorem sq_Model_type_111n : rn G mm_Model_type 111 [a0, a1, a2, none, some (.int x)] st S P ↔ rn G mm_Model_type 114 [a0, a1, a2, none, some (.int (x + (-1)))] st S P := rn_s dq_Model_type_111 rfl rfl rfl
theorem sq_Model_type_111i : rn G mm_Model_type 111 [a0, a1, a2, some (.int x2), some (.int x)] st S P ↔ rn G mm_Model_type 114 [a0, a1, a2, some (.int x2), some (.int (x + (-1)))] st S P := rn_s dq_Model_type_111 rfl rfl rfl
theorem sq_Model_type_111r : rn G mm_Model_type 111 [a0, a1, a2, some (.ref z2), some (.int x)] st S P ↔ rn G mm_Model_type 114 [a0, a1, a2, some (.ref z2), some (.int (x + (-1)))] st S P := rn_s dq_Model_type_111 rfl rfl rfl
theorem sq_Model_type_111l : rn G mm_Model_type 111 [a0, a1, a2, some (.long y2), some (.int x)] st S P ↔ rn G mm_Model_type 114 [a0, a1, a2, none, some (.int (x + (-1)))] st S P := rn_s dq_Model_type_111 rfl rfl rfl
theorem dq_Model_type_114 : decode (km_c mm_Model_type) 114 = .ok (.goto (-39), 3) := by decide +kernel
theorem sq_Model_type_114 : rn G mm_Model_type 114 lv st S P ↔ rn G mm_Model_type 75 lv st S P := rn_s dq_Model_type_114 rfl rfl rfl
theorem dq_Model_type_117 : decode (km_c mm_Model_type) 117 = .ok (.aload_n 0, 1) := by decide +kernel
theorem sq_Model_type_117 : rn G mm_Model_type 117 [some (.ref z), a1, a2, a3, a4] st S P ↔ rn G mm_Model_type 118 [some (.ref z), a1, a2, a3, a4] (.ref z :: st) S P := rn_s dq_Model_type_117 rfl rfl rfl
theorem dq_Model_type_118 : decode (km_c mm_Model_type) 118 = .ok (.getfield 148, 3) := by decide +kernel
theorem sq_Model_type_118_45 (ho : sx_o o pl kp) : rn (lt_G o L) mm_Model_type 118 lv (.ref 45 :: st) (sx pl kp I A) P ↔ rn (lt_G o L) mm_Model_type 121 lv (.int (I 45 16) :: st) (sx pl kp I A) P := rx_get (h := "") (ci := 10) (k := 16) dq_Model_type_118 (by decide +kernel) ho (up_b (by decide)) rfl rfl (fl_i (by decide))
theorem dq_Model_type_121 : decode (km_c mm_Model_type) 121 = .ok (.ireturn, 1) := by decide +kernel
theorem sq_Model_type_121 : rn G mm_Model_type 121 lv [.int x] S P ↔ P (some (.int x)) S := rn_ir dq_Model_type_121 rfl
theorem dq_Model_delta_0 : decode (km_c mm_Model_delta) 0 = .ok (.aload_n 0, 1) := by decide +kernel
theorem sq_Model_delta_0 : rn G mm_Model_delta 0 [some (.ref z), a1, a2] st S P ↔ rn G mm_Model_delta 1 [some (.ref z), a1, a2] (.ref z :: st) S P := rn_s dq_Model_delta_0 rfl rfl rfl
theorem dq_Model_delta_1 : decode (km_c mm_Model_delta) 1 = .ok (.invokevirtual 171, 3) := by decide +kernel
theorem sq_Model_delta_1_45  {v : Option Value} {S2 : ks_S} (hc : ev (lt_G o L) mm_Model_readDelta [.ref 45] (sx pl kp I A) v S2) (ho : sx_o o pl kp) (hst : kx_cat st ≤ 8) : rn (lt_G o L) mm_Model_delta 1 lv (.ref 45 :: st) (sx pl kp I A) P ↔ rn (lt_G o L) mm_Model_delta 4 lv (v.toList ++ st) S2 P := rn_cv (k := 0) (host := "") (E' := mm_Model_readDelta) dq_Model_delta_1 rfl (ok_v rfl (by decide) (by decide) (Nat.le_add_left _ _) hst (Nat.le_of_ble_eq_true rfl) (Or.inr (rc_v ho (up_b (by decide)) rfl))) rfl rfl hc
theorem dq_Model_delta_4 : decode (km_c mm_Model_delta) 4 = .ok (.istore_n 1, 1) := by decide +kernel
theorem sq_Model_delta_4n : rn G mm_Model_delta 4 [none, a1, a2] (.int x :: st) S P ↔ rn G mm_Model_delta 5 [none, some (.int x), a2] st S P := rn_s dq_Model_delta_4 rfl rfl rfl
theorem sq_Model_delta_4i : rn G mm_Model_delta 4 [some (.int x2), a1, a2] (.int x :: st) S P ↔ rn G mm_Model_delta 5 [some (.int x2), some (.int x), a2] st S P := rn_s dq_Model_delta_4 rfl rfl rfl
theorem sq_Model_delta_4r : rn G mm_Model_delta 4 [some (.ref z2), a1, a2] (.int x :: st) S P ↔ rn G mm_Model_delta 5 [some (.ref z2), some (.int x), a2] st S P := rn_s dq_Model_delta_4 rfl rfl rfl
theorem dq_Model_delta_5 : decode (km_c mm_Model_delta) 5 = .ok (.iload_n 1, 1) := by decide +kernel
theorem sq_Model_delta_5 : rn G mm_Model_delta 5 [a0, some (.int x), a2] st S P ↔ rn G mm_Model_delta 6 [a0, some (.int x), a2] (.int x :: st) S P := rn_s dq_Model_delta_5 rfl rfl rfl
theorem dq_Model_delta_6 : decode (km_c mm_Model_delta) 6 = .ok (.ifCond .ne 8, 3) := by decide +kernel
theorem sq_Model_delta_6 : rn G mm_Model_delta 6 lv (.int x :: st) S P ↔ ((¬ x = 0 → rn G mm_Model_delta 14 lv st S P) ∧ (¬ (¬ x = 0) → rn G mm_Model_delta 9 lv st S P)) := rn_b (off := 8) dq_Model_delta_6 rfl rfl rfl rfl
theorem dq_Model_delta_9 : decode (km_c mm_Model_delta) 9 = .ok (.aload_n 0, 1) := by decide +kernel
theorem sq_Model_delta_9 : rn G mm_Model_delta 9 [some (.ref z), a1, a2] st S P ↔ rn G mm_Model_delta 10 [some (.ref z), a1, a2] (.ref z :: st) S P := rn_s dq_Model_delta_9 rfl rfl rfl
theorem dq_Model_delta_10 : decode (km_c mm_Model_delta) 10 = .ok (.invokevirtual 154, 3) := by decide +kernel
theorem sq_Model_delta_10_45  {v : Option Value} {S2 : ks_S} (hc : ev (lt_G o L) mm_Model_nextByte [.ref 45] (sx pl kp I A) v S2) (ho : sx_o o pl kp) (hst : kx_cat st ≤ 8) : rn (lt_G o L) mm_Model_delta 10 lv (.ref 45 :: st) (sx pl kp I A) P ↔ rn (lt_G o L) mm_Model_delta 13 lv (v.toList ++ st) S2 P := rn_cv (k := 0) (host := "") (E' := mm_Model_nextByte) dq_Model_delta_10 rfl (ok_v rfl (by decide) (by decide) (Nat.le_add_left _ _) hst (Nat.le_of_ble_eq_true rfl) (Or.inr (rc_v ho (up_b (by decide)) rfl))) rfl rfl hc
theorem dq_Model_delta_13 : decode (km_c mm_Model_delta) 13 = .ok (.pop, 1) := by decide +kernel
theorem sq_Model_delta_13i : rn G mm_Model_delta 13 lv (.int x :: st) S P ↔ rn G mm_Model_delta 14 lv st S P := rn_s dq_Model_delta_13 rfl rfl rfl
theorem dq_Model_delta_14 : decode (km_c mm_Model_delta) 14 = .ok (.aload_n 0, 1) := by decide +kernel
theorem sq_Model_delta_14 : rn G mm_Model_delta 14 [some (.ref z), a1, a2] st S P ↔ rn G mm_Model_delta 15 [some (.ref z), a1, a2] (.ref z :: st) S P := rn_s dq_Model_delta_14 rfl rfl rfl
theorem dq_Model_delta_15 : decode (km_c mm_Model_delta) 15 = .ok (.iconst 0, 1) := by decide +kernel
theorem sq_Model_delta_15 : rn G mm_Model_delta 15 lv st S P ↔ rn G mm_Model_delta 16 lv (.int (nI 0) :: st) S P := rn_s dq_Model_delta_15 rfl rfl rfl
theorem dq_Model_delta_16 : decode (km_c mm_Model_delta) 16 = .ok (.putfield 148, 3) := by decide +kernel
theorem sq_Model_delta_16_45 (ho : sx_o o pl kp) : rn (lt_G o L) mm_Model_delta 16 lv (.int x :: .ref 45 :: st) (sx pl kp I A) P ↔ rn (lt_G o L) mm_Model_delta 19 lv st (sx pl kp (u2 I 45 16 x) A) P := rx_put (h := "") (ci := 10) (k := 16) dq_Model_delta_16 (by decide +kernel) ho (up_b (by decide)) rfl rfl (by decide) (by decide)
theorem dq_Model_delta_19 : decode (km_c mm_Model_delta) 19 = .ok (.iload_n 1, 1) := by decide +kernel
theorem sq_Model_delta_19 : rn G mm_Model_delta 19 [a0, some (.int x), a2] st S P ↔ rn G mm_Model_delta 20 [a0, some (.int x), a2] (.int x :: st) S P := rn_s dq_Model_delta_19 rfl rfl rfl
theorem dq_Model_delta_20 : decode (km_c mm_Model_delta) 20 = .ok (.ifCond .ne 11, 3) := by decide +kernel
theorem sq_Model_delta_20 : rn G mm_Model_delta 20 lv (.int x :: st) S P ↔ ((¬ x = 0 → rn G mm_Model_delta 31 lv st S P) ∧ (¬ (¬ x = 0) → rn G mm_Model_delta 23 lv st S P)) := rn_b (off := 11) dq_Model_delta_20 rfl rfl rfl rfl
theorem dq_Model_delta_23 : decode (km_c mm_Model_delta) 23 = .ok (.bipush (-20), 2) := by decide +kernel
theorem sq_Model_delta_23 : rn G mm_Model_delta 23 lv st S P ↔ rn G mm_Model_delta 25 lv (.int ((-20)) :: st) S P := rn_s dq_Model_delta_23 rfl rfl rfl
theorem dq_Model_delta_25 : decode (km_c mm_Model_delta) 25 = .ok (.aload_n 0, 1) := by decide +kernel
theorem sq_Model_delta_25 : rn G mm_Model_delta 25 [some (.ref z), a1, a2] st S P ↔ rn G mm_Model_delta 26 [some (.ref z), a1, a2] (.ref z :: st) S P := rn_s dq_Model_delta_25 rfl rfl rfl
theorem dq_Model_delta_26 : decode (km_c mm_Model_delta) 26 = .ok (.getfield 151, 3) := by decide +kernel
theorem sq_Model_delta_26_45 (ho : sx_o o pl kp) : rn (lt_G o L) mm_Model_delta 26 lv (.ref 45 :: st) (sx pl kp I A) P ↔ rn (lt_G o L) mm_Model_delta 29 lv (.int (I 45 17) :: st) (sx pl kp I A) P := rx_get (h := "") (ci := 10) (k := 17) dq_Model_delta_26 (by decide +kernel) ho (up_b (by decide)) rfl rfl (fl_i (by decide))
theorem dq_Model_delta_29 : decode (km_c mm_Model_delta) 29 = .ok (.isub, 1) := by decide +kernel
theorem sq_Model_delta_29 : rn G mm_Model_delta 29 lv (.int x2 :: .int x :: st) S P ↔ rn G mm_Model_delta 30 lv (.int (x - x2) :: st) S P := rn_s dq_Model_delta_29 rfl rfl rfl
theorem dq_Model_delta_30 : decode (km_c mm_Model_delta) 30 = .ok (.ireturn, 1) := by decide +kernel
theorem sq_Model_delta_30 : rn G mm_Model_delta 30 lv [.int x] S P ↔ P (some (.int x)) S := rn_ir dq_Model_delta_30 rfl
theorem dq_Model_delta_31 : decode (km_c mm_Model_delta) 31 = .ok (.iconst 0, 1) := by decide +kernel
theorem sq_Model_delta_31 : rn G mm_Model_delta 31 lv st S P ↔ rn G mm_Model_delta 32 lv (.int (nI 0) :: st) S P := rn_s dq_Model_delta_31 rfl rfl rfl
theorem dq_Model_delta_32 : decode (km_c mm_Model_delta) 32 = .ok (.istore_n 2, 1) := by decide +kernel
theorem sq_Model_delta_32n : rn G mm_Model_delta 32 [a0, none, a2] (.int x :: st) S P ↔ rn G mm_Model_delta 33 [a0, none, some (.int x)] st S P := rn_s dq_Model_delta_32 rfl rfl rfl
theorem sq_Model_delta_32i : rn G mm_Model_delta 32 [a0, some (.int x2), a2] (.int x :: st) S P ↔ rn G mm_Model_delta 33 [a0, some (.int x2), some (.int x)] st S P := rn_s dq_Model_delta_32 rfl rfl rfl
theorem sq_Model_delta_32r : rn G mm_Model_delta 32 [a0, some (.ref z2), a2] (.int x :: st) S P ↔ rn G mm_Model_delta 33 [a0, some (.ref z2), some (.int x)] st S P := rn_s dq_Model_delta_32 rfl rfl rfl
theorem dq_Model_delta_33 : decode (km_c mm_Model_delta) 33 = .ok (.iload_n 2, 1) := by decide +kernel
theorem sq_Model_delta_33 : rn G mm_Model_delta 33 [a0, a1, some (.int x)] st S P ↔ rn G mm_Model_delta 34 [a0, a1, some (.int x)] (.int x :: st) S P := rn_s dq_Model_delta_33 rfl rfl rfl
theorem dq_Model_delta_34 : decode (km_c mm_Model_delta) 34 = .ok (.bipush 49, 2) := by decide +kernel
theorem sq_Model_delta_34 : rn G mm_Model_delta 34 lv st S P ↔ rn G mm_Model_delta 36 lv (.int (nI 49) :: st) S P := rn_s dq_Model_delta_34 rfl rfl rfl
theorem dq_Model_delta_36 : decode (km_c mm_Model_delta) 36 = .ok (.if_icmp .ge 100, 3) := by decide +kernel
theorem sq_Model_delta_36 : rn G mm_Model_delta 36 lv (.int x2 :: .int x :: st) S P ↔ ((x2 ≤ x → rn G mm_Model_delta 136 lv st S P) ∧ (¬ (x2 ≤ x) → rn G mm_Model_delta 39 lv st S P)) := rn_b (off := 100) dq_Model_delta_36 rfl rfl rfl rfl
theorem dq_Model_delta_39 : decode (km_c mm_Model_delta) 39 = .ok (.aload_n 0, 1) := by decide +kernel
theorem sq_Model_delta_39 : rn G mm_Model_delta 39 [some (.ref z), a1, a2] st S P ↔ rn G mm_Model_delta 40 [some (.ref z), a1, a2] (.ref z :: st) S P := rn_s dq_Model_delta_39 rfl rfl rfl
theorem dq_Model_delta_40 : decode (km_c mm_Model_delta) 40 = .ok (.getfield 44, 3) := by decide +kernel
theorem sq_Model_delta_40_45 (ho : sx_o o pl kp) : rn (lt_G o L) mm_Model_delta 40 lv (.ref 45 :: st) (sx pl kp I A) P ↔ rn (lt_G o L) mm_Model_delta 43 lv (.ref 55 :: st) (sx pl kp I A) P := rx_get (h := "") (ci := 10) (k := 19) dq_Model_delta_40 (by decide +kernel) ho (up_b (by decide)) rfl rfl (fl_r (by decide) (by decide) (by decide) (by decide))
theorem dq_Model_delta_43 : decode (km_c mm_Model_delta) 43 = .ok (.iload_n 2, 1) := by decide +kernel
theorem sq_Model_delta_43 : rn G mm_Model_delta 43 [a0, a1, some (.int x)] st S P ↔ rn G mm_Model_delta 44 [a0, a1, some (.int x)] (.int x :: st) S P := rn_s dq_Model_delta_43 rfl rfl rfl
theorem dq_Model_delta_44 : decode (km_c mm_Model_delta) 44 = .ok (.iaload, 1) := by decide +kernel
theorem sq_Model_delta_44 (ho : sx_o o pl kp) (hk : ak L a = 0) (hu : sx_up pl kp a = true ∨ 1000 ≤ a) (hc : c < ln L a) (hn : ln L a < 2 ^ 31) : rn (lt_G o L) mm_Model_delta 44 lv (.int (nI c) :: .ref a :: st) (sx pl kp I A) P ↔ rn (lt_G o L) mm_Model_delta 45 lv (.int (A a c) :: st) (sx pl kp I A) P := rx_ild dq_Model_delta_44 ho hk hu hc hn
theorem dq_Model_delta_45 : decode (km_c mm_Model_delta) 45 = .ok (.ifCond .lt 85, 3) := by decide +kernel
theorem sq_Model_delta_45 : rn G mm_Model_delta 45 lv (.int x :: st) S P ↔ ((x < 0 → rn G mm_Model_delta 130 lv st S P) ∧ (¬ (x < 0) → rn G mm_Model_delta 48 lv st S P)) := rn_b (off := 85) dq_Model_delta_45 rfl rfl rfl rfl
theorem dq_Model_delta_48 : decode (km_c mm_Model_delta) 48 = .ok (.aload_n 0, 1) := by decide +kernel
theorem sq_Model_delta_48 : rn G mm_Model_delta 48 [some (.ref z), a1, a2] st S P ↔ rn G mm_Model_delta 49 [some (.ref z), a1, a2] (.ref z :: st) S P := rn_s dq_Model_delta_48 rfl rfl rfl
theorem dq_Model_delta_49 : decode (km_c mm_Model_delta) 49 = .ok (.getfield 7, 3) := by decide +kernel
theorem sq_Model_delta_49_45 (ho : sx_o o pl kp) : rn (lt_G o L) mm_Model_delta 49 lv (.ref 45 :: st) (sx pl kp I A) P ↔ rn (lt_G o L) mm_Model_delta 52 lv (.ref 46 :: st) (sx pl kp I A) P := rx_get (h := "") (ci := 10) (k := 0) dq_Model_delta_49 (by decide +kernel) ho (up_b (by decide)) rfl rfl (fl_r (by decide) (by decide) (by decide) (by decide))
theorem dq_Model_delta_52 : decode (km_c mm_Model_delta) 52 = .ok (.iload_n 2, 1) := by decide +kernel
theorem sq_Model_delta_52 : rn G mm_Model_delta 52 [a0, a1, some (.int x)] st S P ↔ rn G mm_Model_delta 53 [a0, a1, some (.int x)] (.int x :: st) S P := rn_s dq_Model_delta_52 rfl rfl rfl
theorem dq_Model_delta_53 : decode (km_c mm_Model_delta) 53 = .ok (.aload_n 0, 1) := by decide +kernel
theorem sq_Model_delta_53 : rn G mm_Model_delta 53 [some (.ref z), a1, a2] st S P ↔ rn G mm_Model_delta 54 [some (.ref z), a1, a2] (.ref z :: st) S P := rn_s dq_Model_delta_53 rfl rfl rfl
theorem dq_Model_delta_54 : decode (km_c mm_Model_delta) 54 = .ok (.getfield 44, 3) := by decide +kernel
theorem sq_Model_delta_54_45 (ho : sx_o o pl kp) : rn (lt_G o L) mm_Model_delta 54 lv (.ref 45 :: st) (sx pl kp I A) P ↔ rn (lt_G o L) mm_Model_delta 57 lv (.ref 55 :: st) (sx pl kp I A) P := rx_get (h := "") (ci := 10) (k := 19) dq_Model_delta_54 (by decide +kernel) ho (up_b (by decide)) rfl rfl (fl_r (by decide) (by decide) (by decide) (by decide))
theorem dq_Model_delta_57 : decode (km_c mm_Model_delta) 57 = .ok (.iload_n 2, 1) := by decide +kernel
theorem sq_Model_delta_57 : rn G mm_Model_delta 57 [a0, a1, some (.int x)] st S P ↔ rn G mm_Model_delta 58 [a0, a1, some (.int x)] (.int x :: st) S P := rn_s dq_Model_delta_57 rfl rfl rfl
theorem dq_Model_delta_58 : decode (km_c mm_Model_delta) 58 = .ok (.iaload, 1) := by decide +kernel
theorem sq_Model_delta_58 (ho : sx_o o pl kp) (hk : ak L a = 0) (hu : sx_up pl kp a = true ∨ 1000 ≤ a) (hc : c < ln L a) (hn : ln L a < 2 ^ 31) : rn (lt_G o L) mm_Model_delta 58 lv (.int (nI c) :: .ref a :: st) (sx pl kp I A) P ↔ rn (lt_G o L) mm_Model_delta 59 lv (.int (A a c) :: st) (sx pl kp I A) P := rx_ild dq_Model_delta_58 ho hk hu hc hn
theorem dq_Model_delta_59 : decode (km_c mm_Model_delta) 59 = .ok (.bipush 16, 2) := by decide +kernel
theorem sq_Model_delta_59 : rn G mm_Model_delta 59 lv st S P ↔ rn G mm_Model_delta 61 lv (.int (nI 16) :: st) S P := rn_s dq_Model_delta_59 rfl rfl rfl
theorem dq_Model_delta_61 : decode (km_c mm_Model_delta) 61 = .ok (.idiv, 1) := by decide +kernel
theorem sq_Model_delta_61 (hz : ¬ x2 = 0) : rn G mm_Model_delta 61 lv (.int x2 :: .int x :: st) S P ↔ rn G mm_Model_delta 62 lv (.int (x / x2) :: st) S P := rn_s dq_Model_delta_61 rfl rfl (if_neg hz)
theorem dq_Model_delta_62 : decode (km_c mm_Model_delta) 62 = .ok (.iastore, 1) := by decide +kernel
theorem sq_Model_delta_62 (ho : sx_o o pl kp) (hk : ak L a = 0) (hu : sx_up pl kp a = true) (hc : c < ln L a) (hn : ln L a < 2 ^ 31) : rn (lt_G o L) mm_Model_delta 62 lv (.int x :: .int (nI c) :: .ref a :: st) (sx pl kp I A) P ↔ rn (lt_G o L) mm_Model_delta 63 lv st (sx pl kp I (u2 A a c x)) P := rx_ist dq_Model_delta_62 ho hk hu hc hn
theorem dq_Model_delta_63 : decode (km_c mm_Model_delta) 63 = .ok (.aload_n 0, 1) := by decide +kernel
theorem sq_Model_delta_63 : rn G mm_Model_delta 63 [some (.ref z), a1, a2] st S P ↔ rn G mm_Model_delta 64 [some (.ref z), a1, a2] (.ref z :: st) S P := rn_s dq_Model_delta_63 rfl rfl rfl
theorem dq_Model_delta_64 : decode (km_c mm_Model_delta) 64 = .ok (.getfield 7, 3) := by decide +kernel
theorem sq_Model_delta_64_45 (ho : sx_o o pl kp) : rn (lt_G o L) mm_Model_delta 64 lv (.ref 45 :: st) (sx pl kp I A) P ↔ rn (lt_G o L) mm_Model_delta 67 lv (.ref 46 :: st) (sx pl kp I A) P := rx_get (h := "") (ci := 10) (k := 0) dq_Model_delta_64 (by decide +kernel) ho (up_b (by decide)) rfl rfl (fl_r (by decide) (by decide) (by decide) (by decide))
theorem dq_Model_delta_67 : decode (km_c mm_Model_delta) 67 = .ok (.bipush 49, 2) := by decide +kernel
theorem sq_Model_delta_67 : rn G mm_Model_delta 67 lv st S P ↔ rn G mm_Model_delta 69 lv (.int (nI 49) :: st) S P := rn_s dq_Model_delta_67 rfl rfl rfl
theorem dq_Model_delta_69 : decode (km_c mm_Model_delta) 69 = .ok (.iload_n 2, 1) := by decide +kernel
theorem sq_Model_delta_69 : rn G mm_Model_delta 69 [a0, a1, some (.int x)] st S P ↔ rn G mm_Model_delta 70 [a0, a1, some (.int x)] (.int x :: st) S P := rn_s dq_Model_delta_69 rfl rfl rfl
theorem dq_Model_delta_70 : decode (km_c mm_Model_delta) 70 = .ok (.iadd, 1) := by decide +kernel
theorem sq_Model_delta_70 : rn G mm_Model_delta 70 lv (.int x2 :: .int x :: st) S P ↔ rn G mm_Model_delta 71 lv (.int (x + x2) :: st) S P := rn_s dq_Model_delta_70 rfl rfl rfl
theorem dq_Model_delta_71 : decode (km_c mm_Model_delta) 71 = .ok (.iconst 0, 1) := by decide +kernel
theorem sq_Model_delta_71 : rn G mm_Model_delta 71 lv st S P ↔ rn G mm_Model_delta 72 lv (.int (nI 0) :: st) S P := rn_s dq_Model_delta_71 rfl rfl rfl
theorem dq_Model_delta_72 : decode (km_c mm_Model_delta) 72 = .ok (.iastore, 1) := by decide +kernel
theorem sq_Model_delta_72 (ho : sx_o o pl kp) (hk : ak L a = 0) (hu : sx_up pl kp a = true) (hc : c < ln L a) (hn : ln L a < 2 ^ 31) : rn (lt_G o L) mm_Model_delta 72 lv (.int x :: .int (nI c) :: .ref a :: st) (sx pl kp I A) P ↔ rn (lt_G o L) mm_Model_delta 73 lv st (sx pl kp I (u2 A a c x)) P := rx_ist dq_Model_delta_72 ho hk hu hc hn
theorem dq_Model_delta_73 : decode (km_c mm_Model_delta) 73 = .ok (.aload_n 0, 1) := by decide +kernel
theorem sq_Model_delta_73 : rn G mm_Model_delta 73 [some (.ref z), a1, a2] st S P ↔ rn G mm_Model_delta 74 [some (.ref z), a1, a2] (.ref z :: st) S P := rn_s dq_Model_delta_73 rfl rfl rfl
theorem dq_Model_delta_74 : decode (km_c mm_Model_delta) 74 = .ok (.getfield 7, 3) := by decide +kernel
theorem sq_Model_delta_74_45 (ho : sx_o o pl kp) : rn (lt_G o L) mm_Model_delta 74 lv (.ref 45 :: st) (sx pl kp I A) P ↔ rn (lt_G o L) mm_Model_delta 77 lv (.ref 46 :: st) (sx pl kp I A) P := rx_get (h := "") (ci := 10) (k := 0) dq_Model_delta_74 (by decide +kernel) ho (up_b (by decide)) rfl rfl (fl_r (by decide) (by decide) (by decide) (by decide))
theorem dq_Model_delta_77 : decode (km_c mm_Model_delta) 77 = .ok (.bipush 98, 2) := by decide +kernel
theorem sq_Model_delta_77 : rn G mm_Model_delta 77 lv st S P ↔ rn G mm_Model_delta 79 lv (.int (nI 98) :: st) S P := rn_s dq_Model_delta_77 rfl rfl rfl
theorem dq_Model_delta_79 : decode (km_c mm_Model_delta) 79 = .ok (.iload_n 2, 1) := by decide +kernel
theorem sq_Model_delta_79 : rn G mm_Model_delta 79 [a0, a1, some (.int x)] st S P ↔ rn G mm_Model_delta 80 [a0, a1, some (.int x)] (.int x :: st) S P := rn_s dq_Model_delta_79 rfl rfl rfl
theorem dq_Model_delta_80 : decode (km_c mm_Model_delta) 80 = .ok (.iadd, 1) := by decide +kernel
theorem sq_Model_delta_80 : rn G mm_Model_delta 80 lv (.int x2 :: .int x :: st) S P ↔ rn G mm_Model_delta 81 lv (.int (x + x2) :: st) S P := rn_s dq_Model_delta_80 rfl rfl rfl
theorem dq_Model_delta_81 : decode (km_c mm_Model_delta) 81 = .ok (.aload_n 0, 1) := by decide +kernel
theorem sq_Model_delta_81 : rn G mm_Model_delta 81 [some (.ref z), a1, a2] st S P ↔ rn G mm_Model_delta 82 [some (.ref z), a1, a2] (.ref z :: st) S P := rn_s dq_Model_delta_81 rfl rfl rfl
theorem dq_Model_delta_82 : decode (km_c mm_Model_delta) 82 = .ok (.getfield 44, 3) := by decide +kernel
theorem sq_Model_delta_82_45 (ho : sx_o o pl kp) : rn (lt_G o L) mm_Model_delta 82 lv (.ref 45 :: st) (sx pl kp I A) P ↔ rn (lt_G o L) mm_Model_delta 85 lv (.ref 55 :: st) (sx pl kp I A) P := rx_get (h := "") (ci := 10) (k := 19) dq_Model_delta_82 (by decide +kernel) ho (up_b (by decide)) rfl rfl (fl_r (by decide) (by decide) (by decide) (by decide))
theorem dq_Model_delta_85 : decode (km_c mm_Model_delta) 85 = .ok (.iload_n 2, 1) := by decide +kernel
theorem sq_Model_delta_85 : rn G mm_Model_delta 85 [a0, a1, some (.int x)] st S P ↔ rn G mm_Model_delta 86 [a0, a1, some (.int x)] (.int x :: st) S P := rn_s dq_Model_delta_85 rfl rfl rfl
theorem dq_Model_delta_86 : decode (km_c mm_Model_delta) 86 = .ok (.iaload, 1) := by decide +kernel
theorem sq_Model_delta_86 (ho : sx_o o pl kp) (hk : ak L a = 0) (hu : sx_up pl kp a = true ∨ 1000 ≤ a) (hc : c < ln L a) (hn : ln L a < 2 ^ 31) : rn (lt_G o L) mm_Model_delta 86 lv (.int (nI c) :: .ref a :: st) (sx pl kp I A) P ↔ rn (lt_G o L) mm_Model_delta 87 lv (.int (A a c) :: st) (sx pl kp I A) P := rx_ild dq_Model_delta_86 ho hk hu hc hn
theorem dq_Model_delta_87 : decode (km_c mm_Model_delta) 87 = .ok (.iconst 4, 1) := by decide +kernel
theorem sq_Model_delta_87 : rn G mm_Model_delta 87 lv st S P ↔ rn G mm_Model_delta 88 lv (.int (nI 4) :: st) S P := rn_s dq_Model_delta_87 rfl rfl rfl
theorem dq_Model_delta_88 : decode (km_c mm_Model_delta) 88 = .ok (.idiv, 1) := by decide +kernel
theorem sq_Model_delta_88 (hz : ¬ x2 = 0) : rn G mm_Model_delta 88 lv (.int x2 :: .int x :: st) S P ↔ rn G mm_Model_delta 89 lv (.int (x / x2) :: st) S P := rn_s dq_Model_delta_88 rfl rfl (if_neg hz)
theorem dq_Model_delta_89 : decode (km_c mm_Model_delta) 89 = .ok (.iconst 4, 1) := by decide +kernel
theorem sq_Model_delta_89 : rn G mm_Model_delta 89 lv st S P ↔ rn G mm_Model_delta 90 lv (.int (nI 4) :: st) S P := rn_s dq_Model_delta_89 rfl rfl rfl
theorem dq_Model_delta_90 : decode (km_c mm_Model_delta) 90 = .ok (.irem, 1) := by decide +kernel
theorem sq_Model_delta_90 (hz : ¬ x2 = 0) : rn G mm_Model_delta 90 lv (.int x2 :: .int x :: st) S P ↔ rn G mm_Model_delta 91 lv (.int (x - x / x2 * x2) :: st) S P := rn_s dq_Model_delta_90 rfl rfl (if_neg hz)
theorem dq_Model_delta_91 : decode (km_c mm_Model_delta) 91 = .ok (.iastore, 1) := by decide +kernel
theorem sq_Model_delta_91 (ho : sx_o o pl kp) (hk : ak L a = 0) (hu : sx_up pl kp a = true) (hc : c < ln L a) (hn : ln L a < 2 ^ 31) : rn (lt_G o L) mm_Model_delta 91 lv (.int x :: .int (nI c) :: .ref a :: st) (sx pl kp I A) P ↔ rn (lt_G o L) mm_Model_delta 92 lv st (sx pl kp I (u2 A a c x)) P := rx_ist dq_Model_delta_91 ho hk hu hc hn
theorem dq_Model_delta_92 : decode (km_c mm_Model_delta) 92 = .ok (.aload_n 0, 1) := by decide +kernel
theorem sq_Model_delta_92 : rn G mm_Model_delta 92 [some (.ref z), a1, a2] st S P ↔ rn G mm_Model_delta 93 [some (.ref z), a1, a2] (.ref z :: st) S P := rn_s dq_Model_delta_92 rfl rfl rfl
theorem dq_Model_delta_93 : decode (km_c mm_Model_delta) 93 = .ok (.getfield 7, 3) := by decide +kernel
theorem sq_Model_delta_93_45 (ho : sx_o o pl kp) : rn (lt_G o L) mm_Model_delta 93 lv (.ref 45 :: st) (sx pl kp I A) P ↔ rn (lt_G o L) mm_Model_delta 96 lv (.ref 46 :: st) (sx pl kp I A) P := rx_get (h := "") (ci := 10) (k := 0) dq_Model_delta_93 (by decide +kernel) ho (up_b (by decide)) rfl rfl (fl_r (by decide) (by decide) (by decide) (by decide))
theorem dq_Model_delta_96 : decode (km_c mm_Model_delta) 96 = .ok (.sipush 147, 3) := by decide +kernel
theorem sq_Model_delta_96 : rn G mm_Model_delta 96 lv st S P ↔ rn G mm_Model_delta 99 lv (.int (nI 147) :: st) S P := rn_s dq_Model_delta_96 rfl rfl rfl
theorem dq_Model_delta_99 : decode (km_c mm_Model_delta) 99 = .ok (.iload_n 2, 1) := by decide +kernel
theorem sq_Model_delta_99 : rn G mm_Model_delta 99 [a0, a1, some (.int x)] st S P ↔ rn G mm_Model_delta 100 [a0, a1, some (.int x)] (.int x :: st) S P := rn_s dq_Model_delta_99 rfl rfl rfl
theorem dq_Model_delta_100 : decode (km_c mm_Model_delta) 100 = .ok (.iadd, 1) := by decide +kernel
theorem sq_Model_delta_100 : rn G mm_Model_delta 100 lv (.int x2 :: .int x :: st) S P ↔ rn G mm_Model_delta 101 lv (.int (x + x2) :: st) S P := rn_s dq_Model_delta_100 rfl rfl rfl
theorem dq_Model_delta_101 : decode (km_c mm_Model_delta) 101 = .ok (.aload_n 0, 1) := by decide +kernel
theorem sq_Model_delta_101 : rn G mm_Model_delta 101 [some (.ref z), a1, a2] st S P ↔ rn G mm_Model_delta 102 [some (.ref z), a1, a2] (.ref z :: st) S P := rn_s dq_Model_delta_101 rfl rfl rfl
theorem dq_Model_delta_102 : decode (km_c mm_Model_delta) 102 = .ok (.getfield 44, 3) := by decide +kernel
theorem sq_Model_delta_102_45 (ho : sx_o o pl kp) : rn (lt_G o L) mm_Model_delta 102 lv (.ref 45 :: st) (sx pl kp I A) P ↔ rn (lt_G o L) mm_Model_delta 105 lv (.ref 55 :: st) (sx pl kp I A) P := rx_get (h := "") (ci := 10) (k := 19) dq_Model_delta_102 (by decide +kernel) ho (up_b (by decide)) rfl rfl (fl_r (by decide) (by decide) (by decide) (by decide))
theorem dq_Model_delta_105 : decode (km_c mm_Model_delta) 105 = .ok (.iload_n 2, 1) := by decide +kernel
theorem sq_Model_delta_105 : rn G mm_Model_delta 105 [a0, a1, some (.int x)] st S P ↔ rn G mm_Model_delta 106 [a0, a1, some (.int x)] (.int x :: st) S P := rn_s dq_Model_delta_105 rfl rfl rfl
theorem dq_Model_delta_106 : decode (km_c mm_Model_delta) 106 = .ok (.iaload, 1) := by decide +kernel
theorem sq_Model_delta_106 (ho : sx_o o pl kp) (hk : ak L a = 0) (hu : sx_up pl kp a = true ∨ 1000 ≤ a) (hc : c < ln L a) (hn : ln L a < 2 ^ 31) : rn (lt_G o L) mm_Model_delta 106 lv (.int (nI c) :: .ref a :: st) (sx pl kp I A) P ↔ rn (lt_G o L) mm_Model_delta 107 lv (.int (A a c) :: st) (sx pl kp I A) P := rx_ild dq_Model_delta_106 ho hk hu hc hn
theorem dq_Model_delta_107 : decode (km_c mm_Model_delta) 107 = .ok (.iconst 2, 1) := by decide +kernel
theorem sq_Model_delta_107 : rn G mm_Model_delta 107 lv st S P ↔ rn G mm_Model_delta 108 lv (.int (nI 2) :: st) S P := rn_s dq_Model_delta_107 rfl rfl rfl
theorem dq_Model_delta_108 : decode (km_c mm_Model_delta) 108 = .ok (.idiv, 1) := by decide +kernel
theorem sq_Model_delta_108 (hz : ¬ x2 = 0) : rn G mm_Model_delta 108 lv (.int x2 :: .int x :: st) S P ↔ rn G mm_Model_delta 109 lv (.int (x / x2) :: st) S P := rn_s dq_Model_delta_108 rfl rfl (if_neg hz)
theorem dq_Model_delta_109 : decode (km_c mm_Model_delta) 109 = .ok (.iconst 2, 1) := by decide +kernel
theorem sq_Model_delta_109 : rn G mm_Model_delta 109 lv st S P ↔ rn G mm_Model_delta 110 lv (.int (nI 2) :: st) S P := rn_s dq_Model_delta_109 rfl rfl rfl
theorem dq_Model_delta_110 : decode (km_c mm_Model_delta) 110 = .ok (.irem, 1) := by decide +kernel
theorem sq_Model_delta_110 (hz : ¬ x2 = 0) : rn G mm_Model_delta 110 lv (.int x2 :: .int x :: st) S P ↔ rn G mm_Model_delta 111 lv (.int (x - x / x2 * x2) :: st) S P := rn_s dq_Model_delta_110 rfl rfl (if_neg hz)
theorem dq_Model_delta_111 : decode (km_c mm_Model_delta) 111 = .ok (.iastore, 1) := by decide +kernel
theorem sq_Model_delta_111 (ho : sx_o o pl kp) (hk : ak L a = 0) (hu : sx_up pl kp a = true) (hc : c < ln L a) (hn : ln L a < 2 ^ 31) : rn (lt_G o L) mm_Model_delta 111 lv (.int x :: .int (nI c) :: .ref a :: st) (sx pl kp I A) P ↔ rn (lt_G o L) mm_Model_delta 112 lv st (sx pl kp I (u2 A a c x)) P := rx_ist dq_Model_delta_111 ho hk hu hc hn
theorem dq_Model_delta_112 : decode (km_c mm_Model_delta) 112 = .ok (.aload_n 0, 1) := by decide +kernel
theorem sq_Model_delta_112 : rn G mm_Model_delta 112 [some (.ref z), a1, a2] st S P ↔ rn G mm_Model_delta 113 [some (.ref z), a1, a2] (.ref z :: st) S P := rn_s dq_Model_delta_112 rfl rfl rfl
theorem dq_Model_delta_113 : decode (km_c mm_Model_delta) 113 = .ok (.getfield 7, 3) := by decide +kernel
theorem sq_Model_delta_113_45 (ho : sx_o o pl kp) : rn (lt_G o L) mm_Model_delta 113 lv (.ref 45 :: st) (sx pl kp I A) P ↔ rn (lt_G o L) mm_Model_delta 116 lv (.ref 46 :: st) (sx pl kp I A) P := rx_get (h := "") (ci := 10) (k := 0) dq_Model_delta_113 (by decide +kernel) ho (up_b (by decide)) rfl rfl (fl_r (by decide) (by decide) (by decide) (by decide))
theorem dq_Model_delta_116 : decode (km_c mm_Model_delta) 116 = .ok (.sipush 196, 3) := by decide +kernel
theorem sq_Model_delta_116 : rn G mm_Model_delta 116 lv st S P ↔ rn G mm_Model_delta 119 lv (.int (nI 196) :: st) S P := rn_s dq_Model_delta_116 rfl rfl rfl
theorem dq_Model_delta_119 : decode (km_c mm_Model_delta) 119 = .ok (.iload_n 2, 1) := by decide +kernel
theorem sq_Model_delta_119 : rn G mm_Model_delta 119 [a0, a1, some (.int x)] st S P ↔ rn G mm_Model_delta 120 [a0, a1, some (.int x)] (.int x :: st) S P := rn_s dq_Model_delta_119 rfl rfl rfl
theorem dq_Model_delta_120 : decode (km_c mm_Model_delta) 120 = .ok (.iadd, 1) := by decide +kernel
theorem sq_Model_delta_120 : rn G mm_Model_delta 120 lv (.int x2 :: .int x :: st) S P ↔ rn G mm_Model_delta 121 lv (.int (x + x2) :: st) S P := rn_s dq_Model_delta_120 rfl rfl rfl
theorem dq_Model_delta_121 : decode (km_c mm_Model_delta) 121 = .ok (.aload_n 0, 1) := by decide +kernel
theorem sq_Model_delta_121 : rn G mm_Model_delta 121 [some (.ref z), a1, a2] st S P ↔ rn G mm_Model_delta 122 [some (.ref z), a1, a2] (.ref z :: st) S P := rn_s dq_Model_delta_121 rfl rfl rfl
theorem dq_Model_delta_122 : decode (km_c mm_Model_delta) 122 = .ok (.getfield 44, 3) := by decide +kernel
theorem sq_Model_delta_122_45 (ho : sx_o o pl kp) : rn (lt_G o L) mm_Model_delta 122 lv (.ref 45 :: st) (sx pl kp I A) P ↔ rn (lt_G o L) mm_Model_delta 125 lv (.ref 55 :: st) (sx pl kp I A) P := rx_get (h := "") (ci := 10) (k := 19) dq_Model_delta_122 (by decide +kernel) ho (up_b (by decide)) rfl rfl (fl_r (by decide) (by decide) (by decide) (by decide))
theorem dq_Model_delta_125 : decode (km_c mm_Model_delta) 125 = .ok (.iload_n 2, 1) := by decide +kernel
theorem sq_Model_delta_125 : rn G mm_Model_delta 125 [a0, a1, some (.int x)] st S P ↔ rn G mm_Model_delta 126 [a0, a1, some (.int x)] (.int x :: st) S P := rn_s dq_Model_delta_125 rfl rfl rfl
theorem dq_Model_delta_126 : decode (km_c mm_Model_delta) 126 = .ok (.iaload, 1) := by decide +kernel
theorem sq_Model_delta_126 (ho : sx_o o pl kp) (hk : ak L a = 0) (hu : sx_up pl kp a = true ∨ 1000 ≤ a) (hc : c < ln L a) (hn : ln L a < 2 ^ 31) : rn (lt_G o L) mm_Model_delta 126 lv (.int (nI c) :: .ref a :: st) (sx pl kp I A) P ↔ rn (lt_G o L) mm_Model_delta 127 lv (.int (A a c) :: st) (sx pl kp I A) P := rx_ild dq_Model_delta_126 ho hk hu hc hn
theorem dq_Model_delta_127 : decode (km_c mm_Model_delta) 127 = .ok (.iconst 2, 1) := by decide +kernel
theorem sq_Model_delta_127 : rn G mm_Model_delta 127 lv st S P ↔ rn G mm_Model_delta 128 lv (.int (nI 2) :: st) S P := rn_s dq_Model_delta_127 rfl rfl rfl
theorem dq_Model_delta_128 : decode (km_c mm_Model_delta) 128 = .ok (.irem, 1) := by decide +kernel
theorem sq_Model_delta_128 (hz : ¬ x2 = 0) : rn G mm_Model_delta 128 lv (.int x2 :: .int x :: st) S P ↔ rn G mm_Model_delta 129 lv (.int (x - x / x2 * x2) :: st) S P := rn_s dq_Model_delta_128 rfl rfl (if_neg hz)
theorem dq_Model_delta_129 : decode (km_c mm_Model_delta) 129 = .ok (.iastore, 1) := by decide +kernel
theorem sq_Model_delta_129 (ho : sx_o o pl kp) (hk : ak L a = 0) (hu : sx_up pl kp a = true) (hc : c < ln L a) (hn : ln L a < 2 ^ 31) : rn (lt_G o L) mm_Model_delta 129 lv (.int x :: .int (nI c) :: .ref a :: st) (sx pl kp I A) P ↔ rn (lt_G o L) mm_Model_delta 130 lv st (sx pl kp I (u2 A a c x)) P := rx_ist dq_Model_delta_129 ho hk hu hc hn
theorem dq_Model_delta_130 : decode (km_c mm_Model_delta) 130 = .ok (.iinc 2 1, 3) := by decide +kernel
theorem sq_Model_delta_130n : rn G mm_Model_delta 130 [a0, none, some (.int x)] st S P ↔ rn G mm_Model_delta 133 [a0, none, some (.int (x + nI 1))] st S P := rn_s dq_Model_delta_130 rfl rfl rfl
theorem sq_Model_delta_130i : rn G mm_Model_delta 130 [a0, some (.int x2), some (.int x)] st S P ↔ rn G mm_Model_delta 133 [a0, some (.int x2), some (.int (x + nI 1))] st S P := rn_s dq_Model_delta_130 rfl rfl rfl
theorem sq_Model_delta_130r : rn G mm_Model_delta 130 [a0, some (.ref z2), some (.int x)] st S P ↔ rn G mm_Model_delta 133 [a0, some (.ref z2), some (.int (x + nI 1))] st S P := rn_s dq_Model_delta_130 rfl rfl rfl
theorem dq_Model_delta_133 : decode (km_c mm_Model_delta) 133 = .ok (.goto (-100), 3) := by decide +kernel
theorem sq_Model_delta_133 : rn G mm_Model_delta 133 lv st S P ↔ rn G mm_Model_delta 33 lv st S P := rn_s dq_Model_delta_133 rfl rfl rfl
theorem dq_Model_delta_136 : decode (km_c mm_Model_delta) 136 = .ok (.aload_n 0, 1) := by decide +kernel
theorem sq_Model_delta_136 : rn G mm_Model_delta 136 [some (.ref z), a1, a2] st S P ↔ rn G mm_Model_delta 137 [some (.ref z), a1, a2] (.ref z :: st) S P := rn_s dq_Model_delta_136 rfl rfl rfl
theorem dq_Model_delta_137 : decode (km_c mm_Model_delta) 137 = .ok (.getfield 165, 3) := by decide +kernel
theorem sq_Model_delta_137_45 (ho : sx_o o pl kp) : rn (lt_G o L) mm_Model_delta 137 lv (.ref 45 :: st) (sx pl kp I A) P ↔ rn (lt_G o L) mm_Model_delta 140 lv (.int (I 45 18) :: st) (sx pl kp I A) P := rx_get (h := "") (ci := 10) (k := 18) dq_Model_delta_137 (by decide +kernel) ho (up_b (by decide)) rfl rfl (fl_i (by decide))
theorem dq_Model_delta_140 : decode (km_c mm_Model_delta) 140 = .ok (.ireturn, 1) := by decide +kernel
theorem sq_Model_delta_140 : rn G mm_Model_delta 140 lv [.int x] S P ↔ P (some (.int x)) S := rn_ir dq_Model_delta_140 rfl
theorem dq_Model_readDelta_0 : decode (km_c mm_Model_readDelta) 0 = .ok (.aload_n 0, 1) := by decide +kernel
theorem sq_Model_readDelta_0 : rn G mm_Model_readDelta 0 [some (.ref z), a1, a2, a3] st S P ↔ rn G mm_Model_readDelta 1 [some (.ref z), a1, a2, a3] (.ref z :: st) S P := rn_s dq_Model_readDelta_0 rfl rfl rfl
theorem dq_Model_readDelta_1 : decode (km_c mm_Model_readDelta) 1 = .ok (.iconst 0, 1) := by decide +kernel
theorem sq_Model_readDelta_1 : rn G mm_Model_readDelta 1 lv st S P ↔ rn G mm_Model_readDelta 2 lv (.int (nI 0) :: st) S P := rn_s dq_Model_readDelta_1 rfl rfl rfl
theorem dq_Model_readDelta_2 : decode (km_c mm_Model_readDelta) 2 = .ok (.putfield 151, 3) := by decide +kernel
theorem sq_Model_readDelta_2_45 (ho : sx_o o pl kp) : rn (lt_G o L) mm_Model_readDelta 2 lv (.int x :: .ref 45 :: st) (sx pl kp I A) P ↔ rn (lt_G o L) mm_Model_readDelta 5 lv st (sx pl kp (u2 I 45 17 x) A) P := rx_put (h := "") (ci := 10) (k := 17) dq_Model_readDelta_2 (by decide +kernel) ho (up_b (by decide)) rfl rfl (by decide) (by decide)
theorem dq_Model_readDelta_5 : decode (km_c mm_Model_readDelta) 5 = .ok (.aload_n 0, 1) := by decide +kernel
theorem sq_Model_readDelta_5 : rn G mm_Model_readDelta 5 [some (.ref z), a1, a2, a3] st S P ↔ rn G mm_Model_readDelta 6 [some (.ref z), a1, a2, a3] (.ref z :: st) S P := rn_s dq_Model_readDelta_5 rfl rfl rfl
theorem dq_Model_readDelta_6 : decode (km_c mm_Model_readDelta) 6 = .ok (.iconst 0, 1) := by decide +kernel
theorem sq_Model_readDelta_6 : rn G mm_Model_readDelta 6 lv st S P ↔ rn G mm_Model_readDelta 7 lv (.int (nI 0) :: st) S P := rn_s dq_Model_readDelta_6 rfl rfl rfl
theorem dq_Model_readDelta_7 : decode (km_c mm_Model_readDelta) 7 = .ok (.putfield 165, 3) := by decide +kernel
theorem sq_Model_readDelta_7_45 (ho : sx_o o pl kp) : rn (lt_G o L) mm_Model_readDelta 7 lv (.int x :: .ref 45 :: st) (sx pl kp I A) P ↔ rn (lt_G o L) mm_Model_readDelta 10 lv st (sx pl kp (u2 I 45 18 x) A) P := rx_put (h := "") (ci := 10) (k := 18) dq_Model_readDelta_7 (by decide +kernel) ho (up_b (by decide)) rfl rfl (by decide) (by decide)
theorem dq_Model_readDelta_10 : decode (km_c mm_Model_readDelta) 10 = .ok (.iconst 0, 1) := by decide +kernel
theorem sq_Model_readDelta_10 : rn G mm_Model_readDelta 10 lv st S P ↔ rn G mm_Model_readDelta 11 lv (.int (nI 0) :: st) S P := rn_s dq_Model_readDelta_10 rfl rfl rfl
theorem dq_Model_readDelta_11 : decode (km_c mm_Model_readDelta) 11 = .ok (.istore_n 1, 1) := by decide +kernel
theorem sq_Model_readDelta_11n : rn G mm_Model_readDelta 11 [none, a1, a2, a3] (.int x :: st) S P ↔ rn G mm_Model_readDelta 12 [none, some (.int x), a2, a3] st S P := rn_s dq_Model_readDelta_11 rfl rfl rfl
theorem sq_Model_readDelta_11i : rn G mm_Model_readDelta 11 [some (.int x2), a1, a2, a3] (.int x :: st) S P ↔ rn G mm_Model_readDelta 12 [some (.int x2), some (.int x), a2, a3] st S P := rn_s dq_Model_readDelta_11 rfl rfl rfl
theorem sq_Model_readDelta_11r : rn G mm_Model_readDelta 11 [some (.ref z2), a1, a2, a3] (.int x :: st) S P ↔ rn G mm_Model_readDelta 12 [some (.ref z2), some (.int x), a2, a3] st S P := rn_s dq_Model_readDelta_11 rfl rfl rfl
theorem dq_Model_readDelta_12 : decode (km_c mm_Model_readDelta) 12 = .ok (.iload_n 1, 1) := by decide +kernel
theorem sq_Model_readDelta_12 : rn G mm_Model_readDelta 12 [a0, some (.int x), a2, a3] st S P ↔ rn G mm_Model_readDelta 13 [a0, some (.int x), a2, a3] (.int x :: st) S P := rn_s dq_Model_readDelta_12 rfl rfl rfl
theorem dq_Model_readDelta_13 : decode (km_c mm_Model_readDelta) 13 = .ok (.bipush 49, 2) := by decide +kernel
theorem sq_Model_readDelta_13 : rn G mm_Model_readDelta 13 lv st S P ↔ rn G mm_Model_readDelta 15 lv (.int (nI 49) :: st) S P := rn_s dq_Model_readDelta_13 rfl rfl rfl
theorem dq_Model_readDelta_15 : decode (km_c mm_Model_readDelta) 15 = .ok (.if_icmp .ge 16, 3) := by decide +kernel
theorem sq_Model_readDelta_15 : rn G mm_Model_readDelta 15 lv (.int x2 :: .int x :: st) S P ↔ ((x2 ≤ x → rn G mm_Model_readDelta 31 lv st S P) ∧ (¬ (x2 ≤ x) → rn G mm_Model_readDelta 18 lv st S P)) := rn_b (off := 16) dq_Model_readDelta_15 rfl rfl rfl rfl
theorem dq_Model_readDelta_18 : decode (km_c mm_Model_readDelta) 18 = .ok (.aload_n 0, 1) := by decide +kernel
theorem sq_Model_readDelta_18 : rn G mm_Model_readDelta 18 [some (.ref z), a1, a2, a3] st S P ↔ rn G mm_Model_readDelta 19 [some (.ref z), a1, a2, a3] (.ref z :: st) S P := rn_s dq_Model_readDelta_18 rfl rfl rfl
theorem dq_Model_readDelta_19 : decode (km_c mm_Model_readDelta) 19 = .ok (.getfield 44, 3) := by decide +kernel
theorem sq_Model_readDelta_19_45 (ho : sx_o o pl kp) : rn (lt_G o L) mm_Model_readDelta 19 lv (.ref 45 :: st) (sx pl kp I A) P ↔ rn (lt_G o L) mm_Model_readDelta 22 lv (.ref 55 :: st) (sx pl kp I A) P := rx_get (h := "") (ci := 10) (k := 19) dq_Model_readDelta_19 (by decide +kernel) ho (up_b (by decide)) rfl rfl (fl_r (by decide) (by decide) (by decide) (by decide))
theorem dq_Model_readDelta_22 : decode (km_c mm_Model_readDelta) 22 = .ok (.iload_n 1, 1) := by decide +kernel
theorem sq_Model_readDelta_22 : rn G mm_Model_readDelta 22 [a0, some (.int x), a2, a3] st S P ↔ rn G mm_Model_readDelta 23 [a0, some (.int x), a2, a3] (.int x :: st) S P := rn_s dq_Model_readDelta_22 rfl rfl rfl
theorem dq_Model_readDelta_23 : decode (km_c mm_Model_readDelta) 23 = .ok (.iconst (-1), 1) := by decide +kernel
theorem sq_Model_readDelta_23 : rn G mm_Model_readDelta 23 lv st S P ↔ rn G mm_Model_readDelta 24 lv (.int ((-1)) :: st) S P := rn_s dq_Model_readDelta_23 rfl rfl rfl
theorem dq_Model_readDelta_24 : decode (km_c mm_Model_readDelta) 24 = .ok (.iastore, 1) := by decide +kernel
theorem sq_Model_readDelta_24 (ho : sx_o o pl kp) (hk : ak L a = 0) (hu : sx_up pl kp a = true) (hc : c < ln L a) (hn : ln L a < 2 ^ 31) : rn (lt_G o L) mm_Model_readDelta 24 lv (.int x :: .int (nI c) :: .ref a :: st) (sx pl kp I A) P ↔ rn (lt_G o L) mm_Model_readDelta 25 lv st (sx pl kp I (u2 A a c x)) P := rx_ist dq_Model_readDelta_24 ho hk hu hc hn
theorem dq_Model_readDelta_25 : decode (km_c mm_Model_readDelta) 25 = .ok (.iinc 1 1, 3) := by decide +kernel
theorem sq_Model_readDelta_25n : rn G mm_Model_readDelta 25 [none, some (.int x), a2, a3] st S P ↔ rn G mm_Model_readDelta 28 [none, some (.int (x + nI 1)), a2, a3] st S P := rn_s dq_Model_readDelta_25 rfl rfl rfl
theorem sq_Model_readDelta_25i : rn G mm_Model_readDelta 25 [some (.int x2), some (.int x), a2, a3] st S P ↔ rn G mm_Model_readDelta 28 [some (.int x2), some (.int (x + nI 1)), a2, a3] st S P := rn_s dq_Model_readDelta_25 rfl rfl rfl
theorem sq_Model_readDelta_25r : rn G mm_Model_readDelta 25 [some (.ref z2), some (.int x), a2, a3] st S P ↔ rn G mm_Model_readDelta 28 [some (.ref z2), some (.int (x + nI 1)), a2, a3] st S P := rn_s dq_Model_readDelta_25 rfl rfl rfl
theorem dq_Model_readDelta_28 : decode (km_c mm_Model_readDelta) 28 = .ok (.goto (-16), 3) := by decide +kernel
theorem sq_Model_readDelta_28 : rn G mm_Model_readDelta 28 lv st S P ↔ rn G mm_Model_readDelta 12 lv st S P := rn_s dq_Model_readDelta_28 rfl rfl rfl
theorem dq_Model_readDelta_31 : decode (km_c mm_Model_readDelta) 31 = .ok (.iconst 0, 1) := by decide +kernel
theorem sq_Model_readDelta_31 : rn G mm_Model_readDelta 31 lv st S P ↔ rn G mm_Model_readDelta 32 lv (.int (nI 0) :: st) S P := rn_s dq_Model_readDelta_31 rfl rfl rfl
theorem dq_Model_readDelta_32 : decode (km_c mm_Model_readDelta) 32 = .ok (.istore_n 1, 1) := by decide +kernel
theorem sq_Model_readDelta_32n : rn G mm_Model_readDelta 32 [none, a1, a2, a3] (.int x :: st) S P ↔ rn G mm_Model_readDelta 33 [none, some (.int x), a2, a3] st S P := rn_s dq_Model_readDelta_32 rfl rfl rfl
theorem sq_Model_readDelta_32i : rn G mm_Model_readDelta 32 [some (.int x2), a1, a2, a3] (.int x :: st) S P ↔ rn G mm_Model_readDelta 33 [some (.int x2), some (.int x), a2, a3] st S P := rn_s dq_Model_readDelta_32 rfl rfl rfl
theorem sq_Model_readDelta_32r : rn G mm_Model_readDelta 32 [some (.ref z2), a1, a2, a3] (.int x :: st) S P ↔ rn G mm_Model_readDelta 33 [some (.ref z2), some (.int x), a2, a3] st S P := rn_s dq_Model_readDelta_32 rfl rfl rfl
theorem dq_Model_readDelta_33 : decode (km_c mm_Model_readDelta) 33 = .ok (.iload_n 1, 1) := by decide +kernel
theorem sq_Model_readDelta_33 : rn G mm_Model_readDelta 33 [a0, some (.int x), a2, a3] st S P ↔ rn G mm_Model_readDelta 34 [a0, some (.int x), a2, a3] (.int x :: st) S P := rn_s dq_Model_readDelta_33 rfl rfl rfl
theorem dq_Model_readDelta_34 : decode (km_c mm_Model_readDelta) 34 = .ok (.bipush 7, 2) := by decide +kernel
theorem sq_Model_readDelta_34 : rn G mm_Model_readDelta 34 lv st S P ↔ rn G mm_Model_readDelta 36 lv (.int (nI 7) :: st) S P := rn_s dq_Model_readDelta_34 rfl rfl rfl
theorem dq_Model_readDelta_36 : decode (km_c mm_Model_readDelta) 36 = .ok (.if_icmp .ge 66, 3) := by decide +kernel
theorem sq_Model_readDelta_36 : rn G mm_Model_readDelta 36 lv (.int x2 :: .int x :: st) S P ↔ ((x2 ≤ x → rn G mm_Model_readDelta 102 lv st S P) ∧ (¬ (x2 ≤ x) → rn G mm_Model_readDelta 39 lv st S P)) := rn_b (off := 66) dq_Model_readDelta_36 rfl rfl rfl rfl
theorem dq_Model_readDelta_39 : decode (km_c mm_Model_readDelta) 39 = .ok (.aload_n 0, 1) := by decide +kernel
theorem sq_Model_readDelta_39 : rn G mm_Model_readDelta 39 [some (.ref z), a1, a2, a3] st S P ↔ rn G mm_Model_readDelta 40 [some (.ref z), a1, a2, a3] (.ref z :: st) S P := rn_s dq_Model_readDelta_39 rfl rfl rfl
theorem dq_Model_readDelta_40 : decode (km_c mm_Model_readDelta) 40 = .ok (.iload_n 1, 1) := by decide +kernel
theorem sq_Model_readDelta_40 : rn G mm_Model_readDelta 40 [a0, some (.int x), a2, a3] st S P ↔ rn G mm_Model_readDelta 41 [a0, some (.int x), a2, a3] (.int x :: st) S P := rn_s dq_Model_readDelta_40 rfl rfl rfl
theorem dq_Model_readDelta_41 : decode (km_c mm_Model_readDelta) 41 = .ok (.invokevirtual 168, 3) := by decide +kernel
theorem sq_Model_readDelta_41_45 {x1 : Int32} {v : Option Value} {S2 : ks_S} (hc : ev (lt_G o L) mm_Model_readRow [.ref 45, .int x1] (sx pl kp I A) v S2) (ho : sx_o o pl kp) (hst : kx_cat st ≤ 8) : rn (lt_G o L) mm_Model_readDelta 41 lv (.int x1 :: .ref 45 :: st) (sx pl kp I A) P ↔ rn (lt_G o L) mm_Model_readDelta 44 lv (v.toList ++ st) S2 P := rn_cv (k := 0) (host := "") (E' := mm_Model_readRow) dq_Model_readDelta_41 rfl (ok_v rfl (by decide) (by decide) (Nat.le_add_left _ _) hst (Nat.le_of_ble_eq_true rfl) (Or.inr (rc_v ho (up_b (by decide)) rfl))) rfl rfl hc
theorem dq_Model_readDelta_44 : decode (km_c mm_Model_readDelta) 44 = .ok (.istore_n 2, 1) := by decide +kernel
theorem sq_Model_readDelta_44n : rn G mm_Model_readDelta 44 [a0, none, a2, a3] (.int x :: st) S P ↔ rn G mm_Model_readDelta 45 [a0, none, some (.int x), a3] st S P := rn_s dq_Model_readDelta_44 rfl rfl rfl
theorem sq_Model_readDelta_44i : rn G mm_Model_readDelta 44 [a0, some (.int x2), a2, a3] (.int x :: st) S P ↔ rn G mm_Model_readDelta 45 [a0, some (.int x2), some (.int x), a3] st S P := rn_s dq_Model_readDelta_44 rfl rfl rfl
theorem sq_Model_readDelta_44r : rn G mm_Model_readDelta 44 [a0, some (.ref z2), a2, a3] (.int x :: st) S P ↔ rn G mm_Model_readDelta 45 [a0, some (.ref z2), some (.int x), a3] st S P := rn_s dq_Model_readDelta_44 rfl rfl rfl
theorem dq_Model_readDelta_45 : decode (km_c mm_Model_readDelta) 45 = .ok (.aload_n 0, 1) := by decide +kernel
theorem sq_Model_readDelta_45 : rn G mm_Model_readDelta 45 [some (.ref z), a1, a2, a3] st S P ↔ rn G mm_Model_readDelta 46 [some (.ref z), a1, a2, a3] (.ref z :: st) S P := rn_s dq_Model_readDelta_45 rfl rfl rfl
theorem dq_Model_readDelta_46 : decode (km_c mm_Model_readDelta) 46 = .ok (.dup, 1) := by decide +kernel
theorem sq_Model_readDelta_46i : rn G mm_Model_readDelta 46 lv (.int x :: st) S P ↔ rn G mm_Model_readDelta 47 lv (.int x :: .int x :: st) S P := rn_s dq_Model_readDelta_46 rfl rfl rfl
theorem sq_Model_readDelta_46r : rn G mm_Model_readDelta 46 lv (.ref z :: st) S P ↔ rn G mm_Model_readDelta 47 lv (.ref z :: .ref z :: st) S P := rn_s dq_Model_readDelta_46 rfl rfl rfl
theorem dq_Model_readDelta_47 : decode (km_c mm_Model_readDelta) 47 = .ok (.getfield 165, 3) := by decide +kernel
theorem sq_Model_readDelta_47_45 (ho : sx_o o pl kp) : rn (lt_G o L) mm_Model_readDelta 47 lv (.ref 45 :: st) (sx pl kp I A) P ↔ rn (lt_G o L) mm_Model_readDelta 50 lv (.int (I 45 18) :: st) (sx pl kp I A) P := rx_get (h := "") (ci := 10) (k := 18) dq_Model_readDelta_47 (by decide +kernel) ho (up_b (by decide)) rfl rfl (fl_i (by decide))
theorem dq_Model_readDelta_50 : decode (km_c mm_Model_readDelta) 50 = .ok (.iload_n 2, 1) := by decide +kernel
theorem sq_Model_readDelta_50 : rn G mm_Model_readDelta 50 [a0, a1, some (.int x), a3] st S P ↔ rn G mm_Model_readDelta 51 [a0, a1, some (.int x), a3] (.int x :: st) S P := rn_s dq_Model_readDelta_50 rfl rfl rfl
theorem dq_Model_readDelta_51 : decode (km_c mm_Model_readDelta) 51 = .ok (.iadd, 1) := by decide +kernel
theorem sq_Model_readDelta_51 : rn G mm_Model_readDelta 51 lv (.int x2 :: .int x :: st) S P ↔ rn G mm_Model_readDelta 52 lv (.int (x + x2) :: st) S P := rn_s dq_Model_readDelta_51 rfl rfl rfl
theorem dq_Model_readDelta_52 : decode (km_c mm_Model_readDelta) 52 = .ok (.putfield 165, 3) := by decide +kernel
theorem sq_Model_readDelta_52_45 (ho : sx_o o pl kp) : rn (lt_G o L) mm_Model_readDelta 52 lv (.int x :: .ref 45 :: st) (sx pl kp I A) P ↔ rn (lt_G o L) mm_Model_readDelta 55 lv st (sx pl kp (u2 I 45 18 x) A) P := rx_put (h := "") (ci := 10) (k := 18) dq_Model_readDelta_52 (by decide +kernel) ho (up_b (by decide)) rfl rfl (by decide) (by decide)
theorem dq_Model_readDelta_55 : decode (km_c mm_Model_readDelta) 55 = .ok (.iload_n 2, 1) := by decide +kernel
theorem sq_Model_readDelta_55 : rn G mm_Model_readDelta 55 [a0, a1, some (.int x), a3] st S P ↔ rn G mm_Model_readDelta 56 [a0, a1, some (.int x), a3] (.int x :: st) S P := rn_s dq_Model_readDelta_55 rfl rfl rfl
theorem dq_Model_readDelta_56 : decode (km_c mm_Model_readDelta) 56 = .ok (.ifCond .ne 5, 3) := by decide +kernel
theorem sq_Model_readDelta_56 : rn G mm_Model_readDelta 56 lv (.int x :: st) S P ↔ ((¬ x = 0 → rn G mm_Model_readDelta 61 lv st S P) ∧ (¬ (¬ x = 0) → rn G mm_Model_readDelta 59 lv st S P)) := rn_b (off := 5) dq_Model_readDelta_56 rfl rfl rfl rfl
theorem dq_Model_readDelta_59 : decode (km_c mm_Model_readDelta) 59 = .ok (.iconst 0, 1) := by decide +kernel
theorem sq_Model_readDelta_59 : rn G mm_Model_readDelta 59 lv st S P ↔ rn G mm_Model_readDelta 60 lv (.int (nI 0) :: st) S P := rn_s dq_Model_readDelta_59 rfl rfl rfl
theorem dq_Model_readDelta_60 : decode (km_c mm_Model_readDelta) 60 = .ok (.ireturn, 1) := by decide +kernel
theorem sq_Model_readDelta_60_0 : rn G mm_Model_readDelta 60 lv [.int (nI 0)] S P ↔ P (some (.int (nI 0))) S := rn_ir dq_Model_readDelta_60 (by decide)
theorem sq_Model_readDelta_60_1 : rn G mm_Model_readDelta 60 lv [.int (nI 1)] S P ↔ P (some (.int (nI 1))) S := rn_ir dq_Model_readDelta_60 (by decide)
theorem dq_Model_readDelta_61 : decode (km_c mm_Model_readDelta) 61 = .ok (.aload_n 0, 1) := by decide +kernel
theorem sq_Model_readDelta_61 : rn G mm_Model_readDelta 61 [some (.ref z), a1, a2, a3] st S P ↔ rn G mm_Model_readDelta 62 [some (.ref z), a1, a2, a3] (.ref z :: st) S P := rn_s dq_Model_readDelta_61 rfl rfl rfl
theorem dq_Model_readDelta_62 : decode (km_c mm_Model_readDelta) 62 = .ok (.invokevirtual 154, 3) := by decide +kernel
theorem sq_Model_readDelta_62_45  {v : Option Value} {S2 : ks_S} (hc : ev (lt_G o L) mm_Model_nextByte [.ref 45] (sx pl kp I A) v S2) (ho : sx_o o pl kp) (hst : kx_cat st ≤ 8) : rn (lt_G o L) mm_Model_readDelta 62 lv (.ref 45 :: st) (sx pl kp I A) P ↔ rn (lt_G o L) mm_Model_readDelta 65 lv (v.toList ++ st) S2 P := rn_cv (k := 0) (host := "") (E' := mm_Model_nextByte) dq_Model_readDelta_62 rfl (ok_v rfl (by decide) (by decide) (Nat.le_add_left _ _) hst (Nat.le_of_ble_eq_true rfl) (Or.inr (rc_v ho (up_b (by decide)) rfl))) rfl rfl hc
theorem dq_Model_readDelta_65 : decode (km_c mm_Model_readDelta) 65 = .ok (.istore_n 3, 1) := by decide +kernel
theorem sq_Model_readDelta_65n : rn G mm_Model_readDelta 65 [a0, a1, none, a3] (.int x :: st) S P ↔ rn G mm_Model_readDelta 66 [a0, a1, none, some (.int x)] st S P := rn_s dq_Model_readDelta_65 rfl rfl rfl
theorem sq_Model_readDelta_65i : rn G mm_Model_readDelta 65 [a0, a1, some (.int x2), a3] (.int x :: st) S P ↔ rn G mm_Model_readDelta 66 [a0, a1, some (.int x2), some (.int x)] st S P := rn_s dq_Model_readDelta_65 rfl rfl rfl
theorem sq_Model_readDelta_65r : rn G mm_Model_readDelta 65 [a0, a1, some (.ref z2), a3] (.int x :: st) S P ↔ rn G mm_Model_readDelta 66 [a0, a1, some (.ref z2), some (.int x)] st S P := rn_s dq_Model_readDelta_65 rfl rfl rfl
theorem dq_Model_readDelta_66 : decode (km_c mm_Model_readDelta) 66 = .ok (.iload_n 3, 1) := by decide +kernel
theorem sq_Model_readDelta_66 : rn G mm_Model_readDelta 66 [a0, a1, a2, some (.int x)] st S P ↔ rn G mm_Model_readDelta 67 [a0, a1, a2, some (.int x)] (.int x :: st) S P := rn_s dq_Model_readDelta_66 rfl rfl rfl
theorem dq_Model_readDelta_67 : decode (km_c mm_Model_readDelta) 67 = .ok (.ifCond .ge 5, 3) := by decide +kernel
theorem sq_Model_readDelta_67 : rn G mm_Model_readDelta 67 lv (.int x :: st) S P ↔ ((0 ≤ x → rn G mm_Model_readDelta 72 lv st S P) ∧ (¬ (0 ≤ x) → rn G mm_Model_readDelta 70 lv st S P)) := rn_b (off := 5) dq_Model_readDelta_67 rfl rfl rfl rfl
theorem dq_Model_readDelta_70 : decode (km_c mm_Model_readDelta) 70 = .ok (.iconst 1, 1) := by decide +kernel
theorem sq_Model_readDelta_70 : rn G mm_Model_readDelta 70 lv st S P ↔ rn G mm_Model_readDelta 71 lv (.int (nI 1) :: st) S P := rn_s dq_Model_readDelta_70 rfl rfl rfl
theorem dq_Model_readDelta_71 : decode (km_c mm_Model_readDelta) 71 = .ok (.ireturn, 1) := by decide +kernel
theorem sq_Model_readDelta_71_0 : rn G mm_Model_readDelta 71 lv [.int (nI 0)] S P ↔ P (some (.int (nI 0))) S := rn_ir dq_Model_readDelta_71 (by decide)
theorem sq_Model_readDelta_71_1 : rn G mm_Model_readDelta 71 lv [.int (nI 1)] S P ↔ P (some (.int (nI 1))) S := rn_ir dq_Model_readDelta_71 (by decide)
theorem dq_Model_readDelta_72 : decode (km_c mm_Model_readDelta) 72 = .ok (.iload_n 3, 1) := by decide +kernel
theorem sq_Model_readDelta_72 : rn G mm_Model_readDelta 72 [a0, a1, a2, some (.int x)] st S P ↔ rn G mm_Model_readDelta 73 [a0, a1, a2, some (.int x)] (.int x :: st) S P := rn_s dq_Model_readDelta_72 rfl rfl rfl
theorem dq_Model_readDelta_73 : decode (km_c mm_Model_readDelta) 73 = .ok (.bipush 47, 2) := by decide +kernel
theorem sq_Model_readDelta_73 : rn G mm_Model_readDelta 73 lv st S P ↔ rn G mm_Model_readDelta 75 lv (.int (nI 47) :: st) S P := rn_s dq_Model_readDelta_73 rfl rfl rfl
theorem dq_Model_readDelta_75 : decode (km_c mm_Model_readDelta) 75 = .ok (.if_icmp .ne 9, 3) := by decide +kernel
theorem sq_Model_readDelta_75 : rn G mm_Model_readDelta 75 lv (.int x2 :: .int x :: st) S P ↔ ((¬ x = x2 → rn G mm_Model_readDelta 84 lv st S P) ∧ (¬ (¬ x = x2) → rn G mm_Model_readDelta 78 lv st S P)) := rn_b (off := 9) dq_Model_readDelta_75 rfl rfl rfl rfl
theorem dq_Model_readDelta_78 : decode (km_c mm_Model_readDelta) 78 = .ok (.iload_n 1, 1) := by decide +kernel
theorem sq_Model_readDelta_78 : rn G mm_Model_readDelta 78 [a0, some (.int x), a2, a3] st S P ↔ rn G mm_Model_readDelta 79 [a0, some (.int x), a2, a3] (.int x :: st) S P := rn_s dq_Model_readDelta_78 rfl rfl rfl
theorem dq_Model_readDelta_79 : decode (km_c mm_Model_readDelta) 79 = .ok (.bipush 6, 2) := by decide +kernel
theorem sq_Model_readDelta_79 : rn G mm_Model_readDelta 79 lv st S P ↔ rn G mm_Model_readDelta 81 lv (.int (nI 6) :: st) S P := rn_s dq_Model_readDelta_79 rfl rfl rfl
theorem dq_Model_readDelta_81 : decode (km_c mm_Model_readDelta) 81 = .ok (.if_icmp .ne 5, 3) := by decide +kernel
theorem sq_Model_readDelta_81 : rn G mm_Model_readDelta 81 lv (.int x2 :: .int x :: st) S P ↔ ((¬ x = x2 → rn G mm_Model_readDelta 86 lv st S P) ∧ (¬ (¬ x = x2) → rn G mm_Model_readDelta 84 lv st S P)) := rn_b (off := 5) dq_Model_readDelta_81 rfl rfl rfl rfl
theorem dq_Model_readDelta_84 : decode (km_c mm_Model_readDelta) 84 = .ok (.iconst 0, 1) := by decide +kernel
theorem sq_Model_readDelta_84 : rn G mm_Model_readDelta 84 lv st S P ↔ rn G mm_Model_readDelta 85 lv (.int (nI 0) :: st) S P := rn_s dq_Model_readDelta_84 rfl rfl rfl
theorem dq_Model_readDelta_85 : decode (km_c mm_Model_readDelta) 85 = .ok (.ireturn, 1) := by decide +kernel
theorem sq_Model_readDelta_85_0 : rn G mm_Model_readDelta 85 lv [.int (nI 0)] S P ↔ P (some (.int (nI 0))) S := rn_ir dq_Model_readDelta_85 (by decide)
theorem sq_Model_readDelta_85_1 : rn G mm_Model_readDelta 85 lv [.int (nI 1)] S P ↔ P (some (.int (nI 1))) S := rn_ir dq_Model_readDelta_85 (by decide)
theorem dq_Model_readDelta_86 : decode (km_c mm_Model_readDelta) 86 = .ok (.aload_n 0, 1) := by decide +kernel
theorem sq_Model_readDelta_86 : rn G mm_Model_readDelta 86 [some (.ref z), a1, a2, a3] st S P ↔ rn G mm_Model_readDelta 87 [some (.ref z), a1, a2, a3] (.ref z :: st) S P := rn_s dq_Model_readDelta_86 rfl rfl rfl
theorem dq_Model_readDelta_87 : decode (km_c mm_Model_readDelta) 87 = .ok (.dup, 1) := by decide +kernel
theorem sq_Model_readDelta_87i : rn G mm_Model_readDelta 87 lv (.int x :: st) S P ↔ rn G mm_Model_readDelta 88 lv (.int x :: .int x :: st) S P := rn_s dq_Model_readDelta_87 rfl rfl rfl
theorem sq_Model_readDelta_87r : rn G mm_Model_readDelta 87 lv (.ref z :: st) S P ↔ rn G mm_Model_readDelta 88 lv (.ref z :: .ref z :: st) S P := rn_s dq_Model_readDelta_87 rfl rfl rfl
theorem dq_Model_readDelta_88 : decode (km_c mm_Model_readDelta) 88 = .ok (.getfield 151, 3) := by decide +kernel
theorem sq_Model_readDelta_88_45 (ho : sx_o o pl kp) : rn (lt_G o L) mm_Model_readDelta 88 lv (.ref 45 :: st) (sx pl kp I A) P ↔ rn (lt_G o L) mm_Model_readDelta 91 lv (.int (I 45 17) :: st) (sx pl kp I A) P := rx_get (h := "") (ci := 10) (k := 17) dq_Model_readDelta_88 (by decide +kernel) ho (up_b (by decide)) rfl rfl (fl_i (by decide))
theorem dq_Model_readDelta_91 : decode (km_c mm_Model_readDelta) 91 = .ok (.iconst 1, 1) := by decide +kernel
theorem sq_Model_readDelta_91 : rn G mm_Model_readDelta 91 lv st S P ↔ rn G mm_Model_readDelta 92 lv (.int (nI 1) :: st) S P := rn_s dq_Model_readDelta_91 rfl rfl rfl
theorem dq_Model_readDelta_92 : decode (km_c mm_Model_readDelta) 92 = .ok (.iadd, 1) := by decide +kernel
theorem sq_Model_readDelta_92 : rn G mm_Model_readDelta 92 lv (.int x2 :: .int x :: st) S P ↔ rn G mm_Model_readDelta 93 lv (.int (x + x2) :: st) S P := rn_s dq_Model_readDelta_92 rfl rfl rfl
theorem dq_Model_readDelta_93 : decode (km_c mm_Model_readDelta) 93 = .ok (.putfield 151, 3) := by decide +kernel
theorem sq_Model_readDelta_93_45 (ho : sx_o o pl kp) : rn (lt_G o L) mm_Model_readDelta 93 lv (.int x :: .ref 45 :: st) (sx pl kp I A) P ↔ rn (lt_G o L) mm_Model_readDelta 96 lv st (sx pl kp (u2 I 45 17 x) A) P := rx_put (h := "") (ci := 10) (k := 17) dq_Model_readDelta_93 (by decide +kernel) ho (up_b (by decide)) rfl rfl (by decide) (by decide)
theorem dq_Model_readDelta_96 : decode (km_c mm_Model_readDelta) 96 = .ok (.iinc 1 1, 3) := by decide +kernel
theorem sq_Model_readDelta_96n : rn G mm_Model_readDelta 96 [none, some (.int x), a2, a3] st S P ↔ rn G mm_Model_readDelta 99 [none, some (.int (x + nI 1)), a2, a3] st S P := rn_s dq_Model_readDelta_96 rfl rfl rfl
theorem sq_Model_readDelta_96i : rn G mm_Model_readDelta 96 [some (.int x2), some (.int x), a2, a3] st S P ↔ rn G mm_Model_readDelta 99 [some (.int x2), some (.int (x + nI 1)), a2, a3] st S P := rn_s dq_Model_readDelta_96 rfl rfl rfl
theorem sq_Model_readDelta_96r : rn G mm_Model_readDelta 96 [some (.ref z2), some (.int x), a2, a3] st S P ↔ rn G mm_Model_readDelta 99 [some (.ref z2), some (.int (x + nI 1)), a2, a3] st S P := rn_s dq_Model_readDelta_96 rfl rfl rfl
theorem dq_Model_readDelta_99 : decode (km_c mm_Model_readDelta) 99 = .ok (.goto (-66), 3) := by decide +kernel
theorem sq_Model_readDelta_99 : rn G mm_Model_readDelta 99 lv st S P ↔ rn G mm_Model_readDelta 33 lv st S P := rn_s dq_Model_readDelta_99 rfl rfl rfl
theorem dq_Model_readDelta_102 : decode (km_c mm_Model_readDelta) 102 = .ok (.iconst 0, 1) := by decide +kernel
theorem sq_Model_readDelta_102 : rn G mm_Model_readDelta 102 lv st S P ↔ rn G mm_Model_readDelta 103 lv (.int (nI 0) :: st) S P := rn_s dq_Model_readDelta_102 rfl rfl rfl
theorem dq_Model_readDelta_103 : decode (km_c mm_Model_readDelta) 103 = .ok (.ireturn, 1) := by decide +kernel
theorem sq_Model_readDelta_103_0 : rn G mm_Model_readDelta 103 lv [.int (nI 0)] S P ↔ P (some (.int (nI 0))) S := rn_ir dq_Model_readDelta_103 (by decide)
theorem sq_Model_readDelta_103_1 : rn G mm_Model_readDelta 103 lv [.int (nI 1)] S P ↔ P (some (.int (nI 1))) S := rn_ir dq_Model_readDelta_103 (by decide)
theorem dq_Model_readRow_0 : decode (km_c mm_Model_readRow) 0 = .ok (.iconst 0, 1) := by decide +kernel
theorem sq_Model_readRow_0 : rn G mm_Model_readRow 0 lv st S P ↔ rn G mm_Model_readRow 1 lv (.int (nI 0) :: st) S P := rn_s dq_Model_readRow_0 rfl rfl rfl
theorem dq_Model_readRow_1 : decode (km_c mm_Model_readRow) 1 = .ok (.istore_n 2, 1) := by decide +kernel
theorem sq_Model_readRow_1n : rn G mm_Model_readRow 1 [a0, none, a2, a3, a4, a5, a6] (.int x :: st) S P ↔ rn G mm_Model_readRow 2 [a0, none, some (.int x), a3, a4, a5, a6] st S P := rn_s dq_Model_readRow_1 rfl rfl rfl
theorem sq_Model_readRow_1i : rn G mm_Model_readRow 1 [a0, some (.int x2), a2, a3, a4, a5, a6] (.int x :: st) S P ↔ rn G mm_Model_readRow 2 [a0, some (.int x2), some (.int x), a3, a4, a5, a6] st S P := rn_s dq_Model_readRow_1 rfl rfl rfl
theorem sq_Model_readRow_1r : rn G mm_Model_readRow 1 [a0, some (.ref z2), a2, a3, a4, a5, a6] (.int x :: st) S P ↔ rn G mm_Model_readRow 2 [a0, some (.ref z2), some (.int x), a3, a4, a5, a6] st S P := rn_s dq_Model_readRow_1 rfl rfl rfl
theorem dq_Model_readRow_2 : decode (km_c mm_Model_readRow) 2 = .ok (.iload_n 2, 1) := by decide +kernel
theorem sq_Model_readRow_2 : rn G mm_Model_readRow 2 [a0, a1, some (.int x), a3, a4, a5, a6] st S P ↔ rn G mm_Model_readRow 3 [a0, a1, some (.int x), a3, a4, a5, a6] (.int x :: st) S P := rn_s dq_Model_readRow_2 rfl rfl rfl
theorem dq_Model_readRow_3 : decode (km_c mm_Model_readRow) 3 = .ok (.bipush 7, 2) := by decide +kernel
theorem sq_Model_readRow_3 : rn G mm_Model_readRow 3 lv st S P ↔ rn G mm_Model_readRow 5 lv (.int (nI 7) :: st) S P := rn_s dq_Model_readRow_3 rfl rfl rfl
theorem dq_Model_readRow_5 : decode (km_c mm_Model_readRow) 5 = .ok (.if_icmp .ge 137, 3) := by decide +kernel
theorem sq_Model_readRow_5 : rn G mm_Model_readRow 5 lv (.int x2 :: .int x :: st) S P ↔ ((x2 ≤ x → rn G mm_Model_readRow 142 lv st S P) ∧ (¬ (x2 ≤ x) → rn G mm_Model_readRow 8 lv st S P)) := rn_b (off := 137) dq_Model_readRow_5 rfl rfl rfl rfl
theorem dq_Model_readRow_8 : decode (km_c mm_Model_readRow) 8 = .ok (.aload_n 0, 1) := by decide +kernel
theorem sq_Model_readRow_8 : rn G mm_Model_readRow 8 [some (.ref z), a1, a2, a3, a4, a5, a6] st S P ↔ rn G mm_Model_readRow 9 [some (.ref z), a1, a2, a3, a4, a5, a6] (.ref z :: st) S P := rn_s dq_Model_readRow_8 rfl rfl rfl
theorem dq_Model_readRow_9 : decode (km_c mm_Model_readRow) 9 = .ok (.invokevirtual 154, 3) := by decide +kernel
theorem sq_Model_readRow_9_45  {v : Option Value} {S2 : ks_S} (hc : ev (lt_G o L) mm_Model_nextByte [.ref 45] (sx pl kp I A) v S2) (ho : sx_o o pl kp) (hst : kx_cat st ≤ 8) : rn (lt_G o L) mm_Model_readRow 9 lv (.ref 45 :: st) (sx pl kp I A) P ↔ rn (lt_G o L) mm_Model_readRow 12 lv (v.toList ++ st) S2 P := rn_cv (k := 0) (host := "") (E' := mm_Model_nextByte) dq_Model_readRow_9 rfl (ok_v rfl (by decide) (by decide) (Nat.le_add_left _ _) hst (Nat.le_of_ble_eq_true rfl) (Or.inr (rc_v ho (up_b (by decide)) rfl))) rfl rfl hc
theorem dq_Model_readRow_12 : decode (km_c mm_Model_readRow) 12 = .ok (.i2l, 1) := by decide +kernel
theorem sq_Model_readRow_12 : rn G mm_Model_readRow 12 lv (.int x :: st) S P ↔ rn G mm_Model_readRow 13 lv (.long x.toInt64 :: st) S P := rn_s dq_Model_readRow_12 rfl rfl rfl
theorem dq_Model_readRow_13 : decode (km_c mm_Model_readRow) 13 = .ok (.ldc2_w 74, 3) := by decide +kernel
theorem sq_Model_readRow_13 : rn G mm_Model_readRow 13 lv st S P ↔ rn G mm_Model_readRow 16 lv (.long (48) :: st) S P := rn_s dq_Model_readRow_13 rfl rfl rfl
theorem dq_Model_readRow_16 : decode (km_c mm_Model_readRow) 16 = .ok (.ldc2_w 157, 3) := by decide +kernel
theorem sq_Model_readRow_16 : rn G mm_Model_readRow 16 lv st S P ↔ rn G mm_Model_readRow 19 lv (.long (57) :: st) S P := rn_s dq_Model_readRow_16 rfl rfl rfl
theorem dq_Model_readRow_19 : decode (km_c mm_Model_readRow) 19 = .ok (.invokestatic 76, 3) := by decide +kernel
theorem sq_Model_readRow_19 {y1 : Int64} {y2 : Int64} {y3 : Int64} {v : Option Value} {S2 : ks_S} (hc : ev G mm_Model_in [.long y1, .long y2, .long y3] S v S2) (hst : kx_cat st ≤ 8) : rn G mm_Model_readRow 19 lv (.long y3 :: .long y2 :: .long y1 :: st) S P ↔ rn G mm_Model_readRow 22 lv (v.toList ++ st) S2 P := rn_cs (k := 1) (host := "") (E' := mm_Model_in) dq_Model_readRow_19 (by decide) (by decide) rfl (ok_v rfl (by decide) (by decide) (Nat.le_add_left _ _) hst (Nat.le_of_ble_eq_true rfl) (Or.inl rfl)) rfl rfl hc
theorem dq_Model_readRow_22 : decode (km_c mm_Model_readRow) 22 = .ok (.ifCond .eq 120, 3) := by decide +kernel
theorem sq_Model_readRow_22 : rn G mm_Model_readRow 22 lv (.int x :: st) S P ↔ ((x = 0 → rn G mm_Model_readRow 142 lv st S P) ∧ (¬ (x = 0) → rn G mm_Model_readRow 25 lv st S P)) := rn_b (off := 120) dq_Model_readRow_22 rfl rfl rfl rfl
theorem dq_Model_readRow_25 : decode (km_c mm_Model_readRow) 25 = .ok (.iconst 2, 1) := by decide +kernel
theorem sq_Model_readRow_25 : rn G mm_Model_readRow 25 lv st S P ↔ rn G mm_Model_readRow 26 lv (.int (nI 2) :: st) S P := rn_s dq_Model_readRow_25 rfl rfl rfl
theorem dq_Model_readRow_26 : decode (km_c mm_Model_readRow) 26 = .ok (.aload_n 0, 1) := by decide +kernel
theorem sq_Model_readRow_26 : rn G mm_Model_readRow 26 [some (.ref z), a1, a2, a3, a4, a5, a6] st S P ↔ rn G mm_Model_readRow 27 [some (.ref z), a1, a2, a3, a4, a5, a6] (.ref z :: st) S P := rn_s dq_Model_readRow_26 rfl rfl rfl
theorem dq_Model_readRow_27 : decode (km_c mm_Model_readRow) 27 = .ok (.bipush 9, 2) := by decide +kernel
theorem sq_Model_readRow_27 : rn G mm_Model_readRow 27 lv st S P ↔ rn G mm_Model_readRow 29 lv (.int (nI 9) :: st) S P := rn_s dq_Model_readRow_27 rfl rfl rfl
theorem dq_Model_readRow_29 : decode (km_c mm_Model_readRow) 29 = .ok (.invokevirtual 159, 3) := by decide +kernel
theorem sq_Model_readRow_29_45 {x1 : Int32} {v : Option Value} {S2 : ks_S} (hc : ev (lt_G o L) mm_Model_readDigit [.ref 45, .int x1] (sx pl kp I A) v S2) (ho : sx_o o pl kp) (hst : kx_cat st ≤ 8) : rn (lt_G o L) mm_Model_readRow 29 lv (.int x1 :: .ref 45 :: st) (sx pl kp I A) P ↔ rn (lt_G o L) mm_Model_readRow 32 lv (v.toList ++ st) S2 P := rn_cv (k := 0) (host := "") (E' := mm_Model_readDigit) dq_Model_readRow_29 rfl (ok_v rfl (by decide) (by decide) (Nat.le_add_left _ _) hst (Nat.le_of_ble_eq_true rfl) (Or.inr (rc_v ho (up_b (by decide)) rfl))) rfl rfl hc
theorem dq_Model_readRow_32 : decode (km_c mm_Model_readRow) 32 = .ok (.imul, 1) := by decide +kernel
theorem sq_Model_readRow_32 : rn G mm_Model_readRow 32 lv (.int x2 :: .int x :: st) S P ↔ rn G mm_Model_readRow 33 lv (.int (x * x2) :: st) S P := rn_s dq_Model_readRow_32 rfl rfl rfl
theorem dq_Model_readRow_33 : decode (km_c mm_Model_readRow) 33 = .ok (.istore_n 3, 1) := by decide +kernel
theorem sq_Model_readRow_33n : rn G mm_Model_readRow 33 [a0, a1, none, a3, a4, a5, a6] (.int x :: st) S P ↔ rn G mm_Model_readRow 34 [a0, a1, none, some (.int x), a4, a5, a6] st S P := rn_s dq_Model_readRow_33 rfl rfl rfl
theorem sq_Model_readRow_33i : rn G mm_Model_readRow 33 [a0, a1, some (.int x2), a3, a4, a5, a6] (.int x :: st) S P ↔ rn G mm_Model_readRow 34 [a0, a1, some (.int x2), some (.int x), a4, a5, a6] st S P := rn_s dq_Model_readRow_33 rfl rfl rfl
theorem sq_Model_readRow_33r : rn G mm_Model_readRow 33 [a0, a1, some (.ref z2), a3, a4, a5, a6] (.int x :: st) S P ↔ rn G mm_Model_readRow 34 [a0, a1, some (.ref z2), some (.int x), a4, a5, a6] st S P := rn_s dq_Model_readRow_33 rfl rfl rfl
theorem dq_Model_readRow_34 : decode (km_c mm_Model_readRow) 34 = .ok (.aload_n 0, 1) := by decide +kernel
theorem sq_Model_readRow_34 : rn G mm_Model_readRow 34 [some (.ref z), a1, a2, a3, a4, a5, a6] st S P ↔ rn G mm_Model_readRow 35 [some (.ref z), a1, a2, a3, a4, a5, a6] (.ref z :: st) S P := rn_s dq_Model_readRow_34 rfl rfl rfl
theorem dq_Model_readRow_35 : decode (km_c mm_Model_readRow) 35 = .ok (.bipush 109, 2) := by decide +kernel
theorem sq_Model_readRow_35 : rn G mm_Model_readRow 35 lv st S P ↔ rn G mm_Model_readRow 37 lv (.int (nI 109) :: st) S P := rn_s dq_Model_readRow_35 rfl rfl rfl
theorem dq_Model_readRow_37 : decode (km_c mm_Model_readRow) 37 = .ok (.invokevirtual 162, 3) := by decide +kernel
theorem sq_Model_readRow_37_45 {x1 : Int32} {v : Option Value} {S2 : ks_S} (hc : ev (lt_G o L) mm_Model_takes [.ref 45, .int x1] (sx pl kp I A) v S2) (ho : sx_o o pl kp) (hst : kx_cat st ≤ 8) : rn (lt_G o L) mm_Model_readRow 37 lv (.int x1 :: .ref 45 :: st) (sx pl kp I A) P ↔ rn (lt_G o L) mm_Model_readRow 40 lv (v.toList ++ st) S2 P := rn_cv (k := 0) (host := "") (E' := mm_Model_takes) dq_Model_readRow_37 rfl (ok_v rfl (by decide) (by decide) (Nat.le_add_left _ _) hst (Nat.le_of_ble_eq_true rfl) (Or.inr (rc_v ho (up_b (by decide)) rfl))) rfl rfl hc
theorem dq_Model_readRow_40 : decode (km_c mm_Model_readRow) 40 = .ok (.ifCond .eq 7, 3) := by decide +kernel
theorem sq_Model_readRow_40 : rn G mm_Model_readRow 40 lv (.int x :: st) S P ↔ ((x = 0 → rn G mm_Model_readRow 47 lv st S P) ∧ (¬ (x = 0) → rn G mm_Model_readRow 43 lv st S P)) := rn_b (off := 7) dq_Model_readRow_40 rfl rfl rfl rfl
theorem dq_Model_readRow_43 : decode (km_c mm_Model_readRow) 43 = .ok (.iconst 1, 1) := by decide +kernel
theorem sq_Model_readRow_43 : rn G mm_Model_readRow 43 lv st S P ↔ rn G mm_Model_readRow 44 lv (.int (nI 1) :: st) S P := rn_s dq_Model_readRow_43 rfl rfl rfl
theorem dq_Model_readRow_44 : decode (km_c mm_Model_readRow) 44 = .ok (.goto 30, 3) := by decide +kernel
theorem sq_Model_readRow_44 : rn G mm_Model_readRow 44 lv st S P ↔ rn G mm_Model_readRow 74 lv st S P := rn_s dq_Model_readRow_44 rfl rfl rfl
theorem dq_Model_readRow_47 : decode (km_c mm_Model_readRow) 47 = .ok (.aload_n 0, 1) := by decide +kernel
theorem sq_Model_readRow_47 : rn G mm_Model_readRow 47 [some (.ref z), a1, a2, a3, a4, a5, a6] st S P ↔ rn G mm_Model_readRow 48 [some (.ref z), a1, a2, a3, a4, a5, a6] (.ref z :: st) S P := rn_s dq_Model_readRow_47 rfl rfl rfl
theorem dq_Model_readRow_48 : decode (km_c mm_Model_readRow) 48 = .ok (.bipush 114, 2) := by decide +kernel
theorem sq_Model_readRow_48 : rn G mm_Model_readRow 48 lv st S P ↔ rn G mm_Model_readRow 50 lv (.int (nI 114) :: st) S P := rn_s dq_Model_readRow_48 rfl rfl rfl
theorem dq_Model_readRow_50 : decode (km_c mm_Model_readRow) 50 = .ok (.invokevirtual 162, 3) := by decide +kernel
theorem sq_Model_readRow_50_45 {x1 : Int32} {v : Option Value} {S2 : ks_S} (hc : ev (lt_G o L) mm_Model_takes [.ref 45, .int x1] (sx pl kp I A) v S2) (ho : sx_o o pl kp) (hst : kx_cat st ≤ 8) : rn (lt_G o L) mm_Model_readRow 50 lv (.int x1 :: .ref 45 :: st) (sx pl kp I A) P ↔ rn (lt_G o L) mm_Model_readRow 53 lv (v.toList ++ st) S2 P := rn_cv (k := 0) (host := "") (E' := mm_Model_takes) dq_Model_readRow_50 rfl (ok_v rfl (by decide) (by decide) (Nat.le_add_left _ _) hst (Nat.le_of_ble_eq_true rfl) (Or.inr (rc_v ho (up_b (by decide)) rfl))) rfl rfl hc
theorem dq_Model_readRow_53 : decode (km_c mm_Model_readRow) 53 = .ok (.ifCond .eq 7, 3) := by decide +kernel
theorem sq_Model_readRow_53 : rn G mm_Model_readRow 53 lv (.int x :: st) S P ↔ ((x = 0 → rn G mm_Model_readRow 60 lv st S P) ∧ (¬ (x = 0) → rn G mm_Model_readRow 56 lv st S P)) := rn_b (off := 7) dq_Model_readRow_53 rfl rfl rfl rfl
theorem dq_Model_readRow_56 : decode (km_c mm_Model_readRow) 56 = .ok (.iconst 2, 1) := by decide +kernel
theorem sq_Model_readRow_56 : rn G mm_Model_readRow 56 lv st S P ↔ rn G mm_Model_readRow 57 lv (.int (nI 2) :: st) S P := rn_s dq_Model_readRow_56 rfl rfl rfl
theorem dq_Model_readRow_57 : decode (km_c mm_Model_readRow) 57 = .ok (.goto 17, 3) := by decide +kernel
theorem sq_Model_readRow_57 : rn G mm_Model_readRow 57 lv st S P ↔ rn G mm_Model_readRow 74 lv st S P := rn_s dq_Model_readRow_57 rfl rfl rfl
theorem dq_Model_readRow_60 : decode (km_c mm_Model_readRow) 60 = .ok (.aload_n 0, 1) := by decide +kernel
theorem sq_Model_readRow_60 : rn G mm_Model_readRow 60 [some (.ref z), a1, a2, a3, a4, a5, a6] st S P ↔ rn G mm_Model_readRow 61 [some (.ref z), a1, a2, a3, a4, a5, a6] (.ref z :: st) S P := rn_s dq_Model_readRow_60 rfl rfl rfl
theorem dq_Model_readRow_61 : decode (km_c mm_Model_readRow) 61 = .ok (.bipush 99, 2) := by decide +kernel
theorem sq_Model_readRow_61 : rn G mm_Model_readRow 61 lv st S P ↔ rn G mm_Model_readRow 63 lv (.int (nI 99) :: st) S P := rn_s dq_Model_readRow_61 rfl rfl rfl
theorem dq_Model_readRow_63 : decode (km_c mm_Model_readRow) 63 = .ok (.invokevirtual 162, 3) := by decide +kernel
theorem sq_Model_readRow_63_45 {x1 : Int32} {v : Option Value} {S2 : ks_S} (hc : ev (lt_G o L) mm_Model_takes [.ref 45, .int x1] (sx pl kp I A) v S2) (ho : sx_o o pl kp) (hst : kx_cat st ≤ 8) : rn (lt_G o L) mm_Model_readRow 63 lv (.int x1 :: .ref 45 :: st) (sx pl kp I A) P ↔ rn (lt_G o L) mm_Model_readRow 66 lv (v.toList ++ st) S2 P := rn_cv (k := 0) (host := "") (E' := mm_Model_takes) dq_Model_readRow_63 rfl (ok_v rfl (by decide) (by decide) (Nat.le_add_left _ _) hst (Nat.le_of_ble_eq_true rfl) (Or.inr (rc_v ho (up_b (by decide)) rfl))) rfl rfl hc
theorem dq_Model_readRow_66 : decode (km_c mm_Model_readRow) 66 = .ok (.ifCond .eq 7, 3) := by decide +kernel
theorem sq_Model_readRow_66 : rn G mm_Model_readRow 66 lv (.int x :: st) S P ↔ ((x = 0 → rn G mm_Model_readRow 73 lv st S P) ∧ (¬ (x = 0) → rn G mm_Model_readRow 69 lv st S P)) := rn_b (off := 7) dq_Model_readRow_66 rfl rfl rfl rfl
theorem dq_Model_readRow_69 : decode (km_c mm_Model_readRow) 69 = .ok (.iconst 3, 1) := by decide +kernel
theorem sq_Model_readRow_69 : rn G mm_Model_readRow 69 lv st S P ↔ rn G mm_Model_readRow 70 lv (.int (nI 3) :: st) S P := rn_s dq_Model_readRow_69 rfl rfl rfl
theorem dq_Model_readRow_70 : decode (km_c mm_Model_readRow) 70 = .ok (.goto 4, 3) := by decide +kernel
theorem sq_Model_readRow_70 : rn G mm_Model_readRow 70 lv st S P ↔ rn G mm_Model_readRow 74 lv st S P := rn_s dq_Model_readRow_70 rfl rfl rfl
theorem dq_Model_readRow_73 : decode (km_c mm_Model_readRow) 73 = .ok (.iconst 0, 1) := by decide +kernel
theorem sq_Model_readRow_73 : rn G mm_Model_readRow 73 lv st S P ↔ rn G mm_Model_readRow 74 lv (.int (nI 0) :: st) S P := rn_s dq_Model_readRow_73 rfl rfl rfl
theorem dq_Model_readRow_74 : decode (km_c mm_Model_readRow) 74 = .ok (.istore 4, 2) := by decide +kernel
theorem sq_Model_readRow_74n : rn G mm_Model_readRow 74 [a0, a1, a2, none, a4, a5, a6] (.int x :: st) S P ↔ rn G mm_Model_readRow 76 [a0, a1, a2, none, some (.int x), a5, a6] st S P := rn_s dq_Model_readRow_74 rfl rfl rfl
theorem sq_Model_readRow_74i : rn G mm_Model_readRow 74 [a0, a1, a2, some (.int x2), a4, a5, a6] (.int x :: st) S P ↔ rn G mm_Model_readRow 76 [a0, a1, a2, some (.int x2), some (.int x), a5, a6] st S P := rn_s dq_Model_readRow_74 rfl rfl rfl
theorem sq_Model_readRow_74r : rn G mm_Model_readRow 74 [a0, a1, a2, some (.ref z2), a4, a5, a6] (.int x :: st) S P ↔ rn G mm_Model_readRow 76 [a0, a1, a2, some (.ref z2), some (.int x), a5, a6] st S P := rn_s dq_Model_readRow_74 rfl rfl rfl
theorem dq_Model_readRow_76 : decode (km_c mm_Model_readRow) 76 = .ok (.aload_n 0, 1) := by decide +kernel
theorem sq_Model_readRow_76 : rn G mm_Model_readRow 76 [some (.ref z), a1, a2, a3, a4, a5, a6] st S P ↔ rn G mm_Model_readRow 77 [some (.ref z), a1, a2, a3, a4, a5, a6] (.ref z :: st) S P := rn_s dq_Model_readRow_76 rfl rfl rfl
theorem dq_Model_readRow_77 : decode (km_c mm_Model_readRow) 77 = .ok (.bipush 98, 2) := by decide +kernel
theorem sq_Model_readRow_77 : rn G mm_Model_readRow 77 lv st S P ↔ rn G mm_Model_readRow 79 lv (.int (nI 98) :: st) S P := rn_s dq_Model_readRow_77 rfl rfl rfl
theorem dq_Model_readRow_79 : decode (km_c mm_Model_readRow) 79 = .ok (.invokevirtual 162, 3) := by decide +kernel
theorem sq_Model_readRow_79_45 {x1 : Int32} {v : Option Value} {S2 : ks_S} (hc : ev (lt_G o L) mm_Model_takes [.ref 45, .int x1] (sx pl kp I A) v S2) (ho : sx_o o pl kp) (hst : kx_cat st ≤ 8) : rn (lt_G o L) mm_Model_readRow 79 lv (.int x1 :: .ref 45 :: st) (sx pl kp I A) P ↔ rn (lt_G o L) mm_Model_readRow 82 lv (v.toList ++ st) S2 P := rn_cv (k := 0) (host := "") (E' := mm_Model_takes) dq_Model_readRow_79 rfl (ok_v rfl (by decide) (by decide) (Nat.le_add_left _ _) hst (Nat.le_of_ble_eq_true rfl) (Or.inr (rc_v ho (up_b (by decide)) rfl))) rfl rfl hc
theorem dq_Model_readRow_82 : decode (km_c mm_Model_readRow) 82 = .ok (.ifCond .eq 7, 3) := by decide +kernel
theorem sq_Model_readRow_82 : rn G mm_Model_readRow 82 lv (.int x :: st) S P ↔ ((x = 0 → rn G mm_Model_readRow 89 lv st S P) ∧ (¬ (x = 0) → rn G mm_Model_readRow 85 lv st S P)) := rn_b (off := 7) dq_Model_readRow_82 rfl rfl rfl rfl
theorem dq_Model_readRow_85 : decode (km_c mm_Model_readRow) 85 = .ok (.iconst 1, 1) := by decide +kernel
theorem sq_Model_readRow_85 : rn G mm_Model_readRow 85 lv st S P ↔ rn G mm_Model_readRow 86 lv (.int (nI 1) :: st) S P := rn_s dq_Model_readRow_85 rfl rfl rfl
theorem dq_Model_readRow_86 : decode (km_c mm_Model_readRow) 86 = .ok (.goto 4, 3) := by decide +kernel
theorem sq_Model_readRow_86 : rn G mm_Model_readRow 86 lv st S P ↔ rn G mm_Model_readRow 90 lv st S P := rn_s dq_Model_readRow_86 rfl rfl rfl
theorem dq_Model_readRow_89 : decode (km_c mm_Model_readRow) 89 = .ok (.iconst 0, 1) := by decide +kernel
theorem sq_Model_readRow_89 : rn G mm_Model_readRow 89 lv st S P ↔ rn G mm_Model_readRow 90 lv (.int (nI 0) :: st) S P := rn_s dq_Model_readRow_89 rfl rfl rfl
theorem dq_Model_readRow_90 : decode (km_c mm_Model_readRow) 90 = .ok (.istore 5, 2) := by decide +kernel
theorem sq_Model_readRow_90n : rn G mm_Model_readRow 90 [a0, a1, a2, a3, none, a5, a6] (.int x :: st) S P ↔ rn G mm_Model_readRow 92 [a0, a1, a2, a3, none, some (.int x), a6] st S P := rn_s dq_Model_readRow_90 rfl rfl rfl
theorem sq_Model_readRow_90i : rn G mm_Model_readRow 90 [a0, a1, a2, a3, some (.int x2), a5, a6] (.int x :: st) S P ↔ rn G mm_Model_readRow 92 [a0, a1, a2, a3, some (.int x2), some (.int x), a6] st S P := rn_s dq_Model_readRow_90 rfl rfl rfl
theorem sq_Model_readRow_90r : rn G mm_Model_readRow 90 [a0, a1, a2, a3, some (.ref z2), a5, a6] (.int x :: st) S P ↔ rn G mm_Model_readRow 92 [a0, a1, a2, a3, some (.ref z2), some (.int x), a6] st S P := rn_s dq_Model_readRow_90 rfl rfl rfl
theorem dq_Model_readRow_92 : decode (km_c mm_Model_readRow) 92 = .ok (.aload_n 0, 1) := by decide +kernel
theorem sq_Model_readRow_92 : rn G mm_Model_readRow 92 [some (.ref z), a1, a2, a3, a4, a5, a6] st S P ↔ rn G mm_Model_readRow 93 [some (.ref z), a1, a2, a3, a4, a5, a6] (.ref z :: st) S P := rn_s dq_Model_readRow_92 rfl rfl rfl
theorem dq_Model_readRow_93 : decode (km_c mm_Model_readRow) 93 = .ok (.bipush 115, 2) := by decide +kernel
theorem sq_Model_readRow_93 : rn G mm_Model_readRow 93 lv st S P ↔ rn G mm_Model_readRow 95 lv (.int (nI 115) :: st) S P := rn_s dq_Model_readRow_93 rfl rfl rfl
theorem dq_Model_readRow_95 : decode (km_c mm_Model_readRow) 95 = .ok (.invokevirtual 162, 3) := by decide +kernel
theorem sq_Model_readRow_95_45 {x1 : Int32} {v : Option Value} {S2 : ks_S} (hc : ev (lt_G o L) mm_Model_takes [.ref 45, .int x1] (sx pl kp I A) v S2) (ho : sx_o o pl kp) (hst : kx_cat st ≤ 8) : rn (lt_G o L) mm_Model_readRow 95 lv (.int x1 :: .ref 45 :: st) (sx pl kp I A) P ↔ rn (lt_G o L) mm_Model_readRow 98 lv (v.toList ++ st) S2 P := rn_cv (k := 0) (host := "") (E' := mm_Model_takes) dq_Model_readRow_95 rfl (ok_v rfl (by decide) (by decide) (Nat.le_add_left _ _) hst (Nat.le_of_ble_eq_true rfl) (Or.inr (rc_v ho (up_b (by decide)) rfl))) rfl rfl hc
theorem dq_Model_readRow_98 : decode (km_c mm_Model_readRow) 98 = .ok (.ifCond .eq 7, 3) := by decide +kernel
theorem sq_Model_readRow_98 : rn G mm_Model_readRow 98 lv (.int x :: st) S P ↔ ((x = 0 → rn G mm_Model_readRow 105 lv st S P) ∧ (¬ (x = 0) → rn G mm_Model_readRow 101 lv st S P)) := rn_b (off := 7) dq_Model_readRow_98 rfl rfl rfl rfl
theorem dq_Model_readRow_101 : decode (km_c mm_Model_readRow) 101 = .ok (.iconst 1, 1) := by decide +kernel
theorem sq_Model_readRow_101 : rn G mm_Model_readRow 101 lv st S P ↔ rn G mm_Model_readRow 102 lv (.int (nI 1) :: st) S P := rn_s dq_Model_readRow_101 rfl rfl rfl
theorem dq_Model_readRow_102 : decode (km_c mm_Model_readRow) 102 = .ok (.goto 4, 3) := by decide +kernel
theorem sq_Model_readRow_102 : rn G mm_Model_readRow 102 lv st S P ↔ rn G mm_Model_readRow 106 lv st S P := rn_s dq_Model_readRow_102 rfl rfl rfl
theorem dq_Model_readRow_105 : decode (km_c mm_Model_readRow) 105 = .ok (.iconst 0, 1) := by decide +kernel
theorem sq_Model_readRow_105 : rn G mm_Model_readRow 105 lv st S P ↔ rn G mm_Model_readRow 106 lv (.int (nI 0) :: st) S P := rn_s dq_Model_readRow_105 rfl rfl rfl
theorem dq_Model_readRow_106 : decode (km_c mm_Model_readRow) 106 = .ok (.istore 6, 2) := by decide +kernel
theorem sq_Model_readRow_106n : rn G mm_Model_readRow 106 [a0, a1, a2, a3, a4, none, a6] (.int x :: st) S P ↔ rn G mm_Model_readRow 108 [a0, a1, a2, a3, a4, none, some (.int x)] st S P := rn_s dq_Model_readRow_106 rfl rfl rfl
theorem sq_Model_readRow_106i : rn G mm_Model_readRow 106 [a0, a1, a2, a3, a4, some (.int x2), a6] (.int x :: st) S P ↔ rn G mm_Model_readRow 108 [a0, a1, a2, a3, a4, some (.int x2), some (.int x)] st S P := rn_s dq_Model_readRow_106 rfl rfl rfl
theorem sq_Model_readRow_106r : rn G mm_Model_readRow 106 [a0, a1, a2, a3, a4, some (.ref z2), a6] (.int x :: st) S P ↔ rn G mm_Model_readRow 108 [a0, a1, a2, a3, a4, some (.ref z2), some (.int x)] st S P := rn_s dq_Model_readRow_106 rfl rfl rfl
theorem dq_Model_readRow_108 : decode (km_c mm_Model_readRow) 108 = .ok (.aload_n 0, 1) := by decide +kernel
theorem sq_Model_readRow_108 : rn G mm_Model_readRow 108 [some (.ref z), a1, a2, a3, a4, a5, a6] st S P ↔ rn G mm_Model_readRow 109 [some (.ref z), a1, a2, a3, a4, a5, a6] (.ref z :: st) S P := rn_s dq_Model_readRow_108 rfl rfl rfl
theorem dq_Model_readRow_109 : decode (km_c mm_Model_readRow) 109 = .ok (.getfield 44, 3) := by decide +kernel
theorem sq_Model_readRow_109_45 (ho : sx_o o pl kp) : rn (lt_G o L) mm_Model_readRow 109 lv (.ref 45 :: st) (sx pl kp I A) P ↔ rn (lt_G o L) mm_Model_readRow 112 lv (.ref 55 :: st) (sx pl kp I A) P := rx_get (h := "") (ci := 10) (k := 19) dq_Model_readRow_109 (by decide +kernel) ho (up_b (by decide)) rfl rfl (fl_r (by decide) (by decide) (by decide) (by decide))
theorem dq_Model_readRow_112 : decode (km_c mm_Model_readRow) 112 = .ok (.bipush 7, 2) := by decide +kernel
theorem sq_Model_readRow_112 : rn G mm_Model_readRow 112 lv st S P ↔ rn G mm_Model_readRow 114 lv (.int (nI 7) :: st) S P := rn_s dq_Model_readRow_112 rfl rfl rfl
theorem dq_Model_readRow_114 : decode (km_c mm_Model_readRow) 114 = .ok (.iload_n 1, 1) := by decide +kernel
theorem sq_Model_readRow_114 : rn G mm_Model_readRow 114 [a0, some (.int x), a2, a3, a4, a5, a6] st S P ↔ rn G mm_Model_readRow 115 [a0, some (.int x), a2, a3, a4, a5, a6] (.int x :: st) S P := rn_s dq_Model_readRow_114 rfl rfl rfl
theorem dq_Model_readRow_115 : decode (km_c mm_Model_readRow) 115 = .ok (.imul, 1) := by decide +kernel
theorem sq_Model_readRow_115 : rn G mm_Model_readRow 115 lv (.int x2 :: .int x :: st) S P ↔ rn G mm_Model_readRow 116 lv (.int (x * x2) :: st) S P := rn_s dq_Model_readRow_115 rfl rfl rfl
theorem dq_Model_readRow_116 : decode (km_c mm_Model_readRow) 116 = .ok (.iload_n 2, 1) := by decide +kernel
theorem sq_Model_readRow_116 : rn G mm_Model_readRow 116 [a0, a1, some (.int x), a3, a4, a5, a6] st S P ↔ rn G mm_Model_readRow 117 [a0, a1, some (.int x), a3, a4, a5, a6] (.int x :: st) S P := rn_s dq_Model_readRow_116 rfl rfl rfl
theorem dq_Model_readRow_117 : decode (km_c mm_Model_readRow) 117 = .ok (.iadd, 1) := by decide +kernel
theorem sq_Model_readRow_117 : rn G mm_Model_readRow 117 lv (.int x2 :: .int x :: st) S P ↔ rn G mm_Model_readRow 118 lv (.int (x + x2) :: st) S P := rn_s dq_Model_readRow_117 rfl rfl rfl
theorem dq_Model_readRow_118 : decode (km_c mm_Model_readRow) 118 = .ok (.bipush 16, 2) := by decide +kernel
theorem sq_Model_readRow_118 : rn G mm_Model_readRow 118 lv st S P ↔ rn G mm_Model_readRow 120 lv (.int (nI 16) :: st) S P := rn_s dq_Model_readRow_118 rfl rfl rfl
theorem dq_Model_readRow_120 : decode (km_c mm_Model_readRow) 120 = .ok (.iload_n 3, 1) := by decide +kernel
theorem sq_Model_readRow_120 : rn G mm_Model_readRow 120 [a0, a1, a2, some (.int x), a4, a5, a6] st S P ↔ rn G mm_Model_readRow 121 [a0, a1, a2, some (.int x), a4, a5, a6] (.int x :: st) S P := rn_s dq_Model_readRow_120 rfl rfl rfl
theorem dq_Model_readRow_121 : decode (km_c mm_Model_readRow) 121 = .ok (.imul, 1) := by decide +kernel
theorem sq_Model_readRow_121 : rn G mm_Model_readRow 121 lv (.int x2 :: .int x :: st) S P ↔ rn G mm_Model_readRow 122 lv (.int (x * x2) :: st) S P := rn_s dq_Model_readRow_121 rfl rfl rfl
theorem dq_Model_readRow_122 : decode (km_c mm_Model_readRow) 122 = .ok (.iconst 4, 1) := by decide +kernel
theorem sq_Model_readRow_122 : rn G mm_Model_readRow 122 lv st S P ↔ rn G mm_Model_readRow 123 lv (.int (nI 4) :: st) S P := rn_s dq_Model_readRow_122 rfl rfl rfl
theorem dq_Model_readRow_123 : decode (km_c mm_Model_readRow) 123 = .ok (.iload 4, 2) := by decide +kernel
theorem sq_Model_readRow_123 : rn G mm_Model_readRow 123 [a0, a1, a2, a3, some (.int x), a5, a6] st S P ↔ rn G mm_Model_readRow 125 [a0, a1, a2, a3, some (.int x), a5, a6] (.int x :: st) S P := rn_s dq_Model_readRow_123 rfl rfl rfl
theorem dq_Model_readRow_125 : decode (km_c mm_Model_readRow) 125 = .ok (.imul, 1) := by decide +kernel
theorem sq_Model_readRow_125 : rn G mm_Model_readRow 125 lv (.int x2 :: .int x :: st) S P ↔ rn G mm_Model_readRow 126 lv (.int (x * x2) :: st) S P := rn_s dq_Model_readRow_125 rfl rfl rfl
theorem dq_Model_readRow_126 : decode (km_c mm_Model_readRow) 126 = .ok (.iadd, 1) := by decide +kernel
theorem sq_Model_readRow_126 : rn G mm_Model_readRow 126 lv (.int x2 :: .int x :: st) S P ↔ rn G mm_Model_readRow 127 lv (.int (x + x2) :: st) S P := rn_s dq_Model_readRow_126 rfl rfl rfl
theorem dq_Model_readRow_127 : decode (km_c mm_Model_readRow) 127 = .ok (.iconst 2, 1) := by decide +kernel
theorem sq_Model_readRow_127 : rn G mm_Model_readRow 127 lv st S P ↔ rn G mm_Model_readRow 128 lv (.int (nI 2) :: st) S P := rn_s dq_Model_readRow_127 rfl rfl rfl
theorem dq_Model_readRow_128 : decode (km_c mm_Model_readRow) 128 = .ok (.iload 5, 2) := by decide +kernel
theorem sq_Model_readRow_128 : rn G mm_Model_readRow 128 [a0, a1, a2, a3, a4, some (.int x), a6] st S P ↔ rn G mm_Model_readRow 130 [a0, a1, a2, a3, a4, some (.int x), a6] (.int x :: st) S P := rn_s dq_Model_readRow_128 rfl rfl rfl
theorem dq_Model_readRow_130 : decode (km_c mm_Model_readRow) 130 = .ok (.imul, 1) := by decide +kernel
theorem sq_Model_readRow_130 : rn G mm_Model_readRow 130 lv (.int x2 :: .int x :: st) S P ↔ rn G mm_Model_readRow 131 lv (.int (x * x2) :: st) S P := rn_s dq_Model_readRow_130 rfl rfl rfl
theorem dq_Model_readRow_131 : decode (km_c mm_Model_readRow) 131 = .ok (.iadd, 1) := by decide +kernel
theorem sq_Model_readRow_131 : rn G mm_Model_readRow 131 lv (.int x2 :: .int x :: st) S P ↔ rn G mm_Model_readRow 132 lv (.int (x + x2) :: st) S P := rn_s dq_Model_readRow_131 rfl rfl rfl
theorem dq_Model_readRow_132 : decode (km_c mm_Model_readRow) 132 = .ok (.iload 6, 2) := by decide +kernel
theorem sq_Model_readRow_132 : rn G mm_Model_readRow 132 [a0, a1, a2, a3, a4, a5, some (.int x)] st S P ↔ rn G mm_Model_readRow 134 [a0, a1, a2, a3, a4, a5, some (.int x)] (.int x :: st) S P := rn_s dq_Model_readRow_132 rfl rfl rfl
theorem dq_Model_readRow_134 : decode (km_c mm_Model_readRow) 134 = .ok (.iadd, 1) := by decide +kernel
theorem sq_Model_readRow_134 : rn G mm_Model_readRow 134 lv (.int x2 :: .int x :: st) S P ↔ rn G mm_Model_readRow 135 lv (.int (x + x2) :: st) S P := rn_s dq_Model_readRow_134 rfl rfl rfl
theorem dq_Model_readRow_135 : decode (km_c mm_Model_readRow) 135 = .ok (.iastore, 1) := by decide +kernel
theorem sq_Model_readRow_135 (ho : sx_o o pl kp) (hk : ak L a = 0) (hu : sx_up pl kp a = true) (hc : c < ln L a) (hn : ln L a < 2 ^ 31) : rn (lt_G o L) mm_Model_readRow 135 lv (.int x :: .int (nI c) :: .ref a :: st) (sx pl kp I A) P ↔ rn (lt_G o L) mm_Model_readRow 136 lv st (sx pl kp I (u2 A a c x)) P := rx_ist dq_Model_readRow_135 ho hk hu hc hn
theorem dq_Model_readRow_136 : decode (km_c mm_Model_readRow) 136 = .ok (.iinc 2 1, 3) := by decide +kernel
theorem sq_Model_readRow_136n : rn G mm_Model_readRow 136 [a0, none, some (.int x), a3, a4, a5, a6] st S P ↔ rn G mm_Model_readRow 139 [a0, none, some (.int (x + nI 1)), a3, a4, a5, a6] st S P := rn_s dq_Model_readRow_136 rfl rfl rfl
theorem sq_Model_readRow_136i : rn G mm_Model_readRow 136 [a0, some (.int x2), some (.int x), a3, a4, a5, a6] st S P ↔ rn G mm_Model_readRow 139 [a0, some (.int x2), some (.int (x + nI 1)), a3, a4, a5, a6] st S P := rn_s dq_Model_readRow_136 rfl rfl rfl
theorem sq_Model_readRow_136r : rn G mm_Model_readRow 136 [a0, some (.ref z2), some (.int x), a3, a4, a5, a6] st S P ↔ rn G mm_Model_readRow 139 [a0, some (.ref z2), some (.int (x + nI 1)), a3, a4, a5, a6] st S P := rn_s dq_Model_readRow_136 rfl rfl rfl
theorem dq_Model_readRow_139 : decode (km_c mm_Model_readRow) 139 = .ok (.goto (-137), 3) := by decide +kernel
theorem sq_Model_readRow_139 : rn G mm_Model_readRow 139 lv st S P ↔ rn G mm_Model_readRow 2 lv st S P := rn_s dq_Model_readRow_139 rfl rfl rfl
theorem dq_Model_readRow_142 : decode (km_c mm_Model_readRow) 142 = .ok (.iload_n 2, 1) := by decide +kernel
theorem sq_Model_readRow_142 : rn G mm_Model_readRow 142 [a0, a1, some (.int x), a3, a4, a5, a6] st S P ↔ rn G mm_Model_readRow 143 [a0, a1, some (.int x), a3, a4, a5, a6] (.int x :: st) S P := rn_s dq_Model_readRow_142 rfl rfl rfl
theorem dq_Model_readRow_143 : decode (km_c mm_Model_readRow) 143 = .ok (.ireturn, 1) := by decide +kernel
theorem sq_Model_readRow_143 : rn G mm_Model_readRow 143 lv [.int x] S P ↔ P (some (.int x)) S := rn_ir dq_Model_readRow_143 rfl
theorem dq_Model_nextByte_0 : decode (km_c mm_Model_nextByte) 0 = .ok (.aload_n 0, 1) := by decide +kernel
theorem sq_Model_nextByte_0 : rn G mm_Model_nextByte 0 [some (.ref z)] st S P ↔ rn G mm_Model_nextByte 1 [some (.ref z)] (.ref z :: st) S P := rn_s dq_Model_nextByte_0 rfl rfl rfl
theorem dq_Model_nextByte_1 : decode (km_c mm_Model_nextByte) 1 = .ok (.getfield 151, 3) := by decide +kernel
theorem sq_Model_nextByte_1_45 (ho : sx_o o pl kp) : rn (lt_G o L) mm_Model_nextByte 1 lv (.ref 45 :: st) (sx pl kp I A) P ↔ rn (lt_G o L) mm_Model_nextByte 4 lv (.int (I 45 17) :: st) (sx pl kp I A) P := rx_get (h := "") (ci := 10) (k := 17) dq_Model_nextByte_1 (by decide +kernel) ho (up_b (by decide)) rfl rfl (fl_i (by decide))
theorem dq_Model_nextByte_4 : decode (km_c mm_Model_nextByte) 4 = .ok (.aload_n 0, 1) := by decide +kernel
theorem sq_Model_nextByte_4 : rn G mm_Model_nextByte 4 [some (.ref z)] st S P ↔ rn G mm_Model_nextByte 5 [some (.ref z)] (.ref z :: st) S P := rn_s dq_Model_nextByte_4 rfl rfl rfl
theorem dq_Model_nextByte_5 : decode (km_c mm_Model_nextByte) 5 = .ok (.getfield 148, 3) := by decide +kernel
theorem sq_Model_nextByte_5_45 (ho : sx_o o pl kp) : rn (lt_G o L) mm_Model_nextByte 5 lv (.ref 45 :: st) (sx pl kp I A) P ↔ rn (lt_G o L) mm_Model_nextByte 8 lv (.int (I 45 16) :: st) (sx pl kp I A) P := rx_get (h := "") (ci := 10) (k := 16) dq_Model_nextByte_5 (by decide +kernel) ho (up_b (by decide)) rfl rfl (fl_i (by decide))
theorem dq_Model_nextByte_8 : decode (km_c mm_Model_nextByte) 8 = .ok (.if_icmp .ge 30, 3) := by decide +kernel
theorem sq_Model_nextByte_8 : rn G mm_Model_nextByte 8 lv (.int x2 :: .int x :: st) S P ↔ ((x2 ≤ x → rn G mm_Model_nextByte 38 lv st S P) ∧ (¬ (x2 ≤ x) → rn G mm_Model_nextByte 11 lv st S P)) := rn_b (off := 30) dq_Model_nextByte_8 rfl rfl rfl rfl
theorem dq_Model_nextByte_11 : decode (km_c mm_Model_nextByte) 11 = .ok (.aload_n 0, 1) := by decide +kernel
theorem sq_Model_nextByte_11 : rn G mm_Model_nextByte 11 [some (.ref z)] st S P ↔ rn G mm_Model_nextByte 12 [some (.ref z)] (.ref z :: st) S P := rn_s dq_Model_nextByte_11 rfl rfl rfl
theorem dq_Model_nextByte_12 : decode (km_c mm_Model_nextByte) 12 = .ok (.getfield 41, 3) := by decide +kernel
theorem sq_Model_nextByte_12_45 (ho : sx_o o pl kp) : rn (lt_G o L) mm_Model_nextByte 12 lv (.ref 45 :: st) (sx pl kp I A) P ↔ rn (lt_G o L) mm_Model_nextByte 15 lv (.ref 54 :: st) (sx pl kp I A) P := rx_get (h := "") (ci := 10) (k := 15) dq_Model_nextByte_12 (by decide +kernel) ho (up_b (by decide)) rfl rfl (fl_r (by decide) (by decide) (by decide) (by decide))
theorem dq_Model_nextByte_15 : decode (km_c mm_Model_nextByte) 15 = .ok (.aload_n 0, 1) := by decide +kernel
theorem sq_Model_nextByte_15 : rn G mm_Model_nextByte 15 [some (.ref z)] st S P ↔ rn G mm_Model_nextByte 16 [some (.ref z)] (.ref z :: st) S P := rn_s dq_Model_nextByte_15 rfl rfl rfl
theorem dq_Model_nextByte_16 : decode (km_c mm_Model_nextByte) 16 = .ok (.getfield 151, 3) := by decide +kernel
theorem sq_Model_nextByte_16_45 (ho : sx_o o pl kp) : rn (lt_G o L) mm_Model_nextByte 16 lv (.ref 45 :: st) (sx pl kp I A) P ↔ rn (lt_G o L) mm_Model_nextByte 19 lv (.int (I 45 17) :: st) (sx pl kp I A) P := rx_get (h := "") (ci := 10) (k := 17) dq_Model_nextByte_16 (by decide +kernel) ho (up_b (by decide)) rfl rfl (fl_i (by decide))
theorem dq_Model_nextByte_19 : decode (km_c mm_Model_nextByte) 19 = .ok (.iaload, 1) := by decide +kernel
theorem sq_Model_nextByte_19 (ho : sx_o o pl kp) (hk : ak L a = 0) (hu : sx_up pl kp a = true ∨ 1000 ≤ a) (hc : c < ln L a) (hn : ln L a < 2 ^ 31) : rn (lt_G o L) mm_Model_nextByte 19 lv (.int (nI c) :: .ref a :: st) (sx pl kp I A) P ↔ rn (lt_G o L) mm_Model_nextByte 20 lv (.int (A a c) :: st) (sx pl kp I A) P := rx_ild dq_Model_nextByte_19 ho hk hu hc hn
theorem dq_Model_nextByte_20 : decode (km_c mm_Model_nextByte) 20 = .ok (.bipush 32, 2) := by decide +kernel
theorem sq_Model_nextByte_20 : rn G mm_Model_nextByte 20 lv st S P ↔ rn G mm_Model_nextByte 22 lv (.int (nI 32) :: st) S P := rn_s dq_Model_nextByte_20 rfl rfl rfl
theorem dq_Model_nextByte_22 : decode (km_c mm_Model_nextByte) 22 = .ok (.if_icmp .ne 16, 3) := by decide +kernel
theorem sq_Model_nextByte_22 : rn G mm_Model_nextByte 22 lv (.int x2 :: .int x :: st) S P ↔ ((¬ x = x2 → rn G mm_Model_nextByte 38 lv st S P) ∧ (¬ (¬ x = x2) → rn G mm_Model_nextByte 25 lv st S P)) := rn_b (off := 16) dq_Model_nextByte_22 rfl rfl rfl rfl
theorem dq_Model_nextByte_25 : decode (km_c mm_Model_nextByte) 25 = .ok (.aload_n 0, 1) := by decide +kernel
theorem sq_Model_nextByte_25 : rn G mm_Model_nextByte 25 [some (.ref z)] st S P ↔ rn G mm_Model_nextByte 26 [some (.ref z)] (.ref z :: st) S P := rn_s dq_Model_nextByte_25 rfl rfl rfl
theorem dq_Model_nextByte_26 : decode (km_c mm_Model_nextByte) 26 = .ok (.dup, 1) := by decide +kernel
theorem sq_Model_nextByte_26i : rn G mm_Model_nextByte 26 lv (.int x :: st) S P ↔ rn G mm_Model_nextByte 27 lv (.int x :: .int x :: st) S P := rn_s dq_Model_nextByte_26 rfl rfl rfl
theorem sq_Model_nextByte_26r : rn G mm_Model_nextByte 26 lv (.ref z :: st) S P ↔ rn G mm_Model_nextByte 27 lv (.ref z :: .ref z :: st) S P := rn_s dq_Model_nextByte_26 rfl rfl rfl
theorem dq_Model_nextByte_27 : decode (km_c mm_Model_nextByte) 27 = .ok (.getfield 151, 3) := by decide +kernel
theorem sq_Model_nextByte_27_45 (ho : sx_o o pl kp) : rn (lt_G o L) mm_Model_nextByte 27 lv (.ref 45 :: st) (sx pl kp I A) P ↔ rn (lt_G o L) mm_Model_nextByte 30 lv (.int (I 45 17) :: st) (sx pl kp I A) P := rx_get (h := "") (ci := 10) (k := 17) dq_Model_nextByte_27 (by decide +kernel) ho (up_b (by decide)) rfl rfl (fl_i (by decide))
theorem dq_Model_nextByte_30 : decode (km_c mm_Model_nextByte) 30 = .ok (.iconst 1, 1) := by decide +kernel
theorem sq_Model_nextByte_30 : rn G mm_Model_nextByte 30 lv st S P ↔ rn G mm_Model_nextByte 31 lv (.int (nI 1) :: st) S P := rn_s dq_Model_nextByte_30 rfl rfl rfl
theorem dq_Model_nextByte_31 : decode (km_c mm_Model_nextByte) 31 = .ok (.iadd, 1) := by decide +kernel
theorem sq_Model_nextByte_31 : rn G mm_Model_nextByte 31 lv (.int x2 :: .int x :: st) S P ↔ rn G mm_Model_nextByte 32 lv (.int (x + x2) :: st) S P := rn_s dq_Model_nextByte_31 rfl rfl rfl
theorem dq_Model_nextByte_32 : decode (km_c mm_Model_nextByte) 32 = .ok (.putfield 151, 3) := by decide +kernel
theorem sq_Model_nextByte_32_45 (ho : sx_o o pl kp) : rn (lt_G o L) mm_Model_nextByte 32 lv (.int x :: .ref 45 :: st) (sx pl kp I A) P ↔ rn (lt_G o L) mm_Model_nextByte 35 lv st (sx pl kp (u2 I 45 17 x) A) P := rx_put (h := "") (ci := 10) (k := 17) dq_Model_nextByte_32 (by decide +kernel) ho (up_b (by decide)) rfl rfl (by decide) (by decide)
theorem dq_Model_nextByte_35 : decode (km_c mm_Model_nextByte) 35 = .ok (.goto (-35), 3) := by decide +kernel
theorem sq_Model_nextByte_35 : rn G mm_Model_nextByte 35 lv st S P ↔ rn G mm_Model_nextByte 0 lv st S P := rn_s dq_Model_nextByte_35 rfl rfl rfl
theorem dq_Model_nextByte_38 : decode (km_c mm_Model_nextByte) 38 = .ok (.aload_n 0, 1) := by decide +kernel
theorem sq_Model_nextByte_38 : rn G mm_Model_nextByte 38 [some (.ref z)] st S P ↔ rn G mm_Model_nextByte 39 [some (.ref z)] (.ref z :: st) S P := rn_s dq_Model_nextByte_38 rfl rfl rfl
theorem dq_Model_nextByte_39 : decode (km_c mm_Model_nextByte) 39 = .ok (.getfield 151, 3) := by decide +kernel
theorem sq_Model_nextByte_39_45 (ho : sx_o o pl kp) : rn (lt_G o L) mm_Model_nextByte 39 lv (.ref 45 :: st) (sx pl kp I A) P ↔ rn (lt_G o L) mm_Model_nextByte 42 lv (.int (I 45 17) :: st) (sx pl kp I A) P := rx_get (h := "") (ci := 10) (k := 17) dq_Model_nextByte_39 (by decide +kernel) ho (up_b (by decide)) rfl rfl (fl_i (by decide))
theorem dq_Model_nextByte_42 : decode (km_c mm_Model_nextByte) 42 = .ok (.aload_n 0, 1) := by decide +kernel
theorem sq_Model_nextByte_42 : rn G mm_Model_nextByte 42 [some (.ref z)] st S P ↔ rn G mm_Model_nextByte 43 [some (.ref z)] (.ref z :: st) S P := rn_s dq_Model_nextByte_42 rfl rfl rfl
theorem dq_Model_nextByte_43 : decode (km_c mm_Model_nextByte) 43 = .ok (.getfield 148, 3) := by decide +kernel
theorem sq_Model_nextByte_43_45 (ho : sx_o o pl kp) : rn (lt_G o L) mm_Model_nextByte 43 lv (.ref 45 :: st) (sx pl kp I A) P ↔ rn (lt_G o L) mm_Model_nextByte 46 lv (.int (I 45 16) :: st) (sx pl kp I A) P := rx_get (h := "") (ci := 10) (k := 16) dq_Model_nextByte_43 (by decide +kernel) ho (up_b (by decide)) rfl rfl (fl_i (by decide))
theorem dq_Model_nextByte_46 : decode (km_c mm_Model_nextByte) 46 = .ok (.if_icmp .ge 15, 3) := by decide +kernel
theorem sq_Model_nextByte_46 : rn G mm_Model_nextByte 46 lv (.int x2 :: .int x :: st) S P ↔ ((x2 ≤ x → rn G mm_Model_nextByte 61 lv st S P) ∧ (¬ (x2 ≤ x) → rn G mm_Model_nextByte 49 lv st S P)) := rn_b (off := 15) dq_Model_nextByte_46 rfl rfl rfl rfl
theorem dq_Model_nextByte_49 : decode (km_c mm_Model_nextByte) 49 = .ok (.aload_n 0, 1) := by decide +kernel
theorem sq_Model_nextByte_49 : rn G mm_Model_nextByte 49 [some (.ref z)] st S P ↔ rn G mm_Model_nextByte 50 [some (.ref z)] (.ref z :: st) S P := rn_s dq_Model_nextByte_49 rfl rfl rfl
theorem dq_Model_nextByte_50 : decode (km_c mm_Model_nextByte) 50 = .ok (.getfield 41, 3) := by decide +kernel
theorem sq_Model_nextByte_50_45 (ho : sx_o o pl kp) : rn (lt_G o L) mm_Model_nextByte 50 lv (.ref 45 :: st) (sx pl kp I A) P ↔ rn (lt_G o L) mm_Model_nextByte 53 lv (.ref 54 :: st) (sx pl kp I A) P := rx_get (h := "") (ci := 10) (k := 15) dq_Model_nextByte_50 (by decide +kernel) ho (up_b (by decide)) rfl rfl (fl_r (by decide) (by decide) (by decide) (by decide))
theorem dq_Model_nextByte_53 : decode (km_c mm_Model_nextByte) 53 = .ok (.aload_n 0, 1) := by decide +kernel
theorem sq_Model_nextByte_53 : rn G mm_Model_nextByte 53 [some (.ref z)] st S P ↔ rn G mm_Model_nextByte 54 [some (.ref z)] (.ref z :: st) S P := rn_s dq_Model_nextByte_53 rfl rfl rfl
theorem dq_Model_nextByte_54 : decode (km_c mm_Model_nextByte) 54 = .ok (.getfield 151, 3) := by decide +kernel
theorem sq_Model_nextByte_54_45 (ho : sx_o o pl kp) : rn (lt_G o L) mm_Model_nextByte 54 lv (.ref 45 :: st) (sx pl kp I A) P ↔ rn (lt_G o L) mm_Model_nextByte 57 lv (.int (I 45 17) :: st) (sx pl kp I A) P := rx_get (h := "") (ci := 10) (k := 17) dq_Model_nextByte_54 (by decide +kernel) ho (up_b (by decide)) rfl rfl (fl_i (by decide))
theorem dq_Model_nextByte_57 : decode (km_c mm_Model_nextByte) 57 = .ok (.iaload, 1) := by decide +kernel
theorem sq_Model_nextByte_57 (ho : sx_o o pl kp) (hk : ak L a = 0) (hu : sx_up pl kp a = true ∨ 1000 ≤ a) (hc : c < ln L a) (hn : ln L a < 2 ^ 31) : rn (lt_G o L) mm_Model_nextByte 57 lv (.int (nI c) :: .ref a :: st) (sx pl kp I A) P ↔ rn (lt_G o L) mm_Model_nextByte 58 lv (.int (A a c) :: st) (sx pl kp I A) P := rx_ild dq_Model_nextByte_57 ho hk hu hc hn
theorem dq_Model_nextByte_58 : decode (km_c mm_Model_nextByte) 58 = .ok (.goto 4, 3) := by decide +kernel
theorem sq_Model_nextByte_58 : rn G mm_Model_nextByte 58 lv st S P ↔ rn G mm_Model_nextByte 62 lv st S P := rn_s dq_Model_nextByte_58 rfl rfl rfl
theorem dq_Model_nextByte_61 : decode (km_c mm_Model_nextByte) 61 = .ok (.iconst (-1), 1) := by decide +kernel
theorem sq_Model_nextByte_61 : rn G mm_Model_nextByte 61 lv st S P ↔ rn G mm_Model_nextByte 62 lv (.int ((-1)) :: st) S P := rn_s dq_Model_nextByte_61 rfl rfl rfl
theorem dq_Model_nextByte_62 : decode (km_c mm_Model_nextByte) 62 = .ok (.ireturn, 1) := by decide +kernel
theorem sq_Model_nextByte_62 : rn G mm_Model_nextByte 62 lv [.int x] S P ↔ P (some (.int x)) S := rn_ir dq_Model_nextByte_62 rfl
theorem dq_Model_readDigit_0 : decode (km_c mm_Model_readDigit) 0 = .ok (.aload_n 0, 1) := by decide +kernel
theorem sq_Model_readDigit_0 : rn G mm_Model_readDigit 0 [some (.ref z), a1, a2] st S P ↔ rn G mm_Model_readDigit 1 [some (.ref z), a1, a2] (.ref z :: st) S P := rn_s dq_Model_readDigit_0 rfl rfl rfl
theorem dq_Model_readDigit_1 : decode (km_c mm_Model_readDigit) 1 = .ok (.invokevirtual 154, 3) := by decide +kernel
theorem sq_Model_readDigit_1_45  {v : Option Value} {S2 : ks_S} (hc : ev (lt_G o L) mm_Model_nextByte [.ref 45] (sx pl kp I A) v S2) (ho : sx_o o pl kp) (hst : kx_cat st ≤ 8) : rn (lt_G o L) mm_Model_readDigit 1 lv (.ref 45 :: st) (sx pl kp I A) P ↔ rn (lt_G o L) mm_Model_readDigit 4 lv (v.toList ++ st) S2 P := rn_cv (k := 0) (host := "") (E' := mm_Model_nextByte) dq_Model_readDigit_1 rfl (ok_v rfl (by decide) (by decide) (Nat.le_add_left _ _) hst (Nat.le_of_ble_eq_true rfl) (Or.inr (rc_v ho (up_b (by decide)) rfl))) rfl rfl hc
theorem dq_Model_readDigit_4 : decode (km_c mm_Model_readDigit) 4 = .ok (.bipush 48, 2) := by decide +kernel
theorem sq_Model_readDigit_4 : rn G mm_Model_readDigit 4 lv st S P ↔ rn G mm_Model_readDigit 6 lv (.int (nI 48) :: st) S P := rn_s dq_Model_readDigit_4 rfl rfl rfl
theorem dq_Model_readDigit_6 : decode (km_c mm_Model_readDigit) 6 = .ok (.isub, 1) := by decide +kernel
theorem sq_Model_readDigit_6 : rn G mm_Model_readDigit 6 lv (.int x2 :: .int x :: st) S P ↔ rn G mm_Model_readDigit 7 lv (.int (x - x2) :: st) S P := rn_s dq_Model_readDigit_6 rfl rfl rfl
theorem dq_Model_readDigit_7 : decode (km_c mm_Model_readDigit) 7 = .ok (.istore_n 2, 1) := by decide +kernel
theorem sq_Model_readDigit_7n : rn G mm_Model_readDigit 7 [a0, none, a2] (.int x :: st) S P ↔ rn G mm_Model_readDigit 8 [a0, none, some (.int x)] st S P := rn_s dq_Model_readDigit_7 rfl rfl rfl
theorem sq_Model_readDigit_7i : rn G mm_Model_readDigit 7 [a0, some (.int x2), a2] (.int x :: st) S P ↔ rn G mm_Model_readDigit 8 [a0, some (.int x2), some (.int x)] st S P := rn_s dq_Model_readDigit_7 rfl rfl rfl
theorem sq_Model_readDigit_7r : rn G mm_Model_readDigit 7 [a0, some (.ref z2), a2] (.int x :: st) S P ↔ rn G mm_Model_readDigit 8 [a0, some (.ref z2), some (.int x)] st S P := rn_s dq_Model_readDigit_7 rfl rfl rfl
theorem dq_Model_readDigit_8 : decode (km_c mm_Model_readDigit) 8 = .ok (.iload_n 2, 1) := by decide +kernel
theorem sq_Model_readDigit_8 : rn G mm_Model_readDigit 8 [a0, a1, some (.int x)] st S P ↔ rn G mm_Model_readDigit 9 [a0, a1, some (.int x)] (.int x :: st) S P := rn_s dq_Model_readDigit_8 rfl rfl rfl
theorem dq_Model_readDigit_9 : decode (km_c mm_Model_readDigit) 9 = .ok (.i2l, 1) := by decide +kernel
theorem sq_Model_readDigit_9 : rn G mm_Model_readDigit 9 lv (.int x :: st) S P ↔ rn G mm_Model_readDigit 10 lv (.long x.toInt64 :: st) S P := rn_s dq_Model_readDigit_9 rfl rfl rfl
theorem dq_Model_readDigit_10 : decode (km_c mm_Model_readDigit) 10 = .ok (.lconst 0, 1) := by decide +kernel
theorem sq_Model_readDigit_10 : rn G mm_Model_readDigit 10 lv st S P ↔ rn G mm_Model_readDigit 11 lv (.long (0) :: st) S P := rn_s dq_Model_readDigit_10 rfl rfl rfl
theorem dq_Model_readDigit_11 : decode (km_c mm_Model_readDigit) 11 = .ok (.iload_n 1, 1) := by decide +kernel
theorem sq_Model_readDigit_11 : rn G mm_Model_readDigit 11 [a0, some (.int x), a2] st S P ↔ rn G mm_Model_readDigit 12 [a0, some (.int x), a2] (.int x :: st) S P := rn_s dq_Model_readDigit_11 rfl rfl rfl
theorem dq_Model_readDigit_12 : decode (km_c mm_Model_readDigit) 12 = .ok (.i2l, 1) := by decide +kernel
theorem sq_Model_readDigit_12 : rn G mm_Model_readDigit 12 lv (.int x :: st) S P ↔ rn G mm_Model_readDigit 13 lv (.long x.toInt64 :: st) S P := rn_s dq_Model_readDigit_12 rfl rfl rfl
theorem dq_Model_readDigit_13 : decode (km_c mm_Model_readDigit) 13 = .ok (.invokestatic 76, 3) := by decide +kernel
theorem sq_Model_readDigit_13 {y1 : Int64} {y2 : Int64} {y3 : Int64} {v : Option Value} {S2 : ks_S} (hc : ev G mm_Model_in [.long y1, .long y2, .long y3] S v S2) (hst : kx_cat st ≤ 8) : rn G mm_Model_readDigit 13 lv (.long y3 :: .long y2 :: .long y1 :: st) S P ↔ rn G mm_Model_readDigit 16 lv (v.toList ++ st) S2 P := rn_cs (k := 1) (host := "") (E' := mm_Model_in) dq_Model_readDigit_13 (by decide) (by decide) rfl (ok_v rfl (by decide) (by decide) (Nat.le_add_left _ _) hst (Nat.le_of_ble_eq_true rfl) (Or.inl rfl)) rfl rfl hc
theorem dq_Model_readDigit_16 : decode (km_c mm_Model_readDigit) 16 = .ok (.ifCond .ne 5, 3) := by decide +kernel
theorem sq_Model_readDigit_16 : rn G mm_Model_readDigit 16 lv (.int x :: st) S P ↔ ((¬ x = 0 → rn G mm_Model_readDigit 21 lv st S P) ∧ (¬ (¬ x = 0) → rn G mm_Model_readDigit 19 lv st S P)) := rn_b (off := 5) dq_Model_readDigit_16 rfl rfl rfl rfl
theorem dq_Model_readDigit_19 : decode (km_c mm_Model_readDigit) 19 = .ok (.iconst (-1), 1) := by decide +kernel
theorem sq_Model_readDigit_19 : rn G mm_Model_readDigit 19 lv st S P ↔ rn G mm_Model_readDigit 20 lv (.int ((-1)) :: st) S P := rn_s dq_Model_readDigit_19 rfl rfl rfl
theorem dq_Model_readDigit_20 : decode (km_c mm_Model_readDigit) 20 = .ok (.ireturn, 1) := by decide +kernel
theorem sq_Model_readDigit_20 : rn G mm_Model_readDigit 20 lv [.int x] S P ↔ P (some (.int x)) S := rn_ir dq_Model_readDigit_20 rfl
theorem dq_Model_readDigit_21 : decode (km_c mm_Model_readDigit) 21 = .ok (.aload_n 0, 1) := by decide +kernel
theorem sq_Model_readDigit_21 : rn G mm_Model_readDigit 21 [some (.ref z), a1, a2] st S P ↔ rn G mm_Model_readDigit 22 [some (.ref z), a1, a2] (.ref z :: st) S P := rn_s dq_Model_readDigit_21 rfl rfl rfl
theorem dq_Model_readDigit_22 : decode (km_c mm_Model_readDigit) 22 = .ok (.dup, 1) := by decide +kernel
theorem sq_Model_readDigit_22i : rn G mm_Model_readDigit 22 lv (.int x :: st) S P ↔ rn G mm_Model_readDigit 23 lv (.int x :: .int x :: st) S P := rn_s dq_Model_readDigit_22 rfl rfl rfl
theorem sq_Model_readDigit_22r : rn G mm_Model_readDigit 22 lv (.ref z :: st) S P ↔ rn G mm_Model_readDigit 23 lv (.ref z :: .ref z :: st) S P := rn_s dq_Model_readDigit_22 rfl rfl rfl
theorem dq_Model_readDigit_23 : decode (km_c mm_Model_readDigit) 23 = .ok (.getfield 151, 3) := by decide +kernel
theorem sq_Model_readDigit_23_45 (ho : sx_o o pl kp) : rn (lt_G o L) mm_Model_readDigit 23 lv (.ref 45 :: st) (sx pl kp I A) P ↔ rn (lt_G o L) mm_Model_readDigit 26 lv (.int (I 45 17) :: st) (sx pl kp I A) P := rx_get (h := "") (ci := 10) (k := 17) dq_Model_readDigit_23 (by decide +kernel) ho (up_b (by decide)) rfl rfl (fl_i (by decide))
theorem dq_Model_readDigit_26 : decode (km_c mm_Model_readDigit) 26 = .ok (.iconst 1, 1) := by decide +kernel
theorem sq_Model_readDigit_26 : rn G mm_Model_readDigit 26 lv st S P ↔ rn G mm_Model_readDigit 27 lv (.int (nI 1) :: st) S P := rn_s dq_Model_readDigit_26 rfl rfl rfl
theorem dq_Model_readDigit_27 : decode (km_c mm_Model_readDigit) 27 = .ok (.iadd, 1) := by decide +kernel
theorem sq_Model_readDigit_27 : rn G mm_Model_readDigit 27 lv (.int x2 :: .int x :: st) S P ↔ rn G mm_Model_readDigit 28 lv (.int (x + x2) :: st) S P := rn_s dq_Model_readDigit_27 rfl rfl rfl
theorem dq_Model_readDigit_28 : decode (km_c mm_Model_readDigit) 28 = .ok (.putfield 151, 3) := by decide +kernel
theorem sq_Model_readDigit_28_45 (ho : sx_o o pl kp) : rn (lt_G o L) mm_Model_readDigit 28 lv (.int x :: .ref 45 :: st) (sx pl kp I A) P ↔ rn (lt_G o L) mm_Model_readDigit 31 lv st (sx pl kp (u2 I 45 17 x) A) P := rx_put (h := "") (ci := 10) (k := 17) dq_Model_readDigit_28 (by decide +kernel) ho (up_b (by decide)) rfl rfl (by decide) (by decide)
theorem dq_Model_readDigit_31 : decode (km_c mm_Model_readDigit) 31 = .ok (.iload_n 2, 1) := by decide +kernel
theorem sq_Model_readDigit_31 : rn G mm_Model_readDigit 31 [a0, a1, some (.int x)] st S P ↔ rn G mm_Model_readDigit 32 [a0, a1, some (.int x)] (.int x :: st) S P := rn_s dq_Model_readDigit_31 rfl rfl rfl
theorem dq_Model_readDigit_32 : decode (km_c mm_Model_readDigit) 32 = .ok (.ireturn, 1) := by decide +kernel
theorem sq_Model_readDigit_32 : rn G mm_Model_readDigit 32 lv [.int x] S P ↔ P (some (.int x)) S := rn_ir dq_Model_readDigit_32 rfl
theorem dq_Model_takes_0 : decode (km_c mm_Model_takes) 0 = .ok (.aload_n 0, 1) := by decide +kernel
theorem sq_Model_takes_0 : rn G mm_Model_takes 0 [some (.ref z), a1, a2] st S P ↔ rn G mm_Model_takes 1 [some (.ref z), a1, a2] (.ref z :: st) S P := rn_s dq_Model_takes_0 rfl rfl rfl
theorem dq_Model_takes_1 : decode (km_c mm_Model_takes) 1 = .ok (.invokevirtual 154, 3) := by decide +kernel
theorem sq_Model_takes_1_45  {v : Option Value} {S2 : ks_S} (hc : ev (lt_G o L) mm_Model_nextByte [.ref 45] (sx pl kp I A) v S2) (ho : sx_o o pl kp) (hst : kx_cat st ≤ 8) : rn (lt_G o L) mm_Model_takes 1 lv (.ref 45 :: st) (sx pl kp I A) P ↔ rn (lt_G o L) mm_Model_takes 4 lv (v.toList ++ st) S2 P := rn_cv (k := 0) (host := "") (E' := mm_Model_nextByte) dq_Model_takes_1 rfl (ok_v rfl (by decide) (by decide) (Nat.le_add_left _ _) hst (Nat.le_of_ble_eq_true rfl) (Or.inr (rc_v ho (up_b (by decide)) rfl))) rfl rfl hc
theorem dq_Model_takes_4 : decode (km_c mm_Model_takes) 4 = .ok (.iload_n 1, 1) := by decide +kernel
theorem sq_Model_takes_4 : rn G mm_Model_takes 4 [a0, some (.int x), a2] st S P ↔ rn G mm_Model_takes 5 [a0, some (.int x), a2] (.int x :: st) S P := rn_s dq_Model_takes_4 rfl rfl rfl
theorem dq_Model_takes_5 : decode (km_c mm_Model_takes) 5 = .ok (.if_icmp .ne 7, 3) := by decide +kernel
theorem sq_Model_takes_5 : rn G mm_Model_takes 5 lv (.int x2 :: .int x :: st) S P ↔ ((¬ x = x2 → rn G mm_Model_takes 12 lv st S P) ∧ (¬ (¬ x = x2) → rn G mm_Model_takes 8 lv st S P)) := rn_b (off := 7) dq_Model_takes_5 rfl rfl rfl rfl
theorem dq_Model_takes_8 : decode (km_c mm_Model_takes) 8 = .ok (.iconst 1, 1) := by decide +kernel
theorem sq_Model_takes_8 : rn G mm_Model_takes 8 lv st S P ↔ rn G mm_Model_takes 9 lv (.int (nI 1) :: st) S P := rn_s dq_Model_takes_8 rfl rfl rfl
theorem dq_Model_takes_9 : decode (km_c mm_Model_takes) 9 = .ok (.goto 4, 3) := by decide +kernel
theorem sq_Model_takes_9 : rn G mm_Model_takes 9 lv st S P ↔ rn G mm_Model_takes 13 lv st S P := rn_s dq_Model_takes_9 rfl rfl rfl
theorem dq_Model_takes_12 : decode (km_c mm_Model_takes) 12 = .ok (.iconst 0, 1) := by decide +kernel
theorem sq_Model_takes_12 : rn G mm_Model_takes 12 lv st S P ↔ rn G mm_Model_takes 13 lv (.int (nI 0) :: st) S P := rn_s dq_Model_takes_12 rfl rfl rfl
theorem dq_Model_takes_13 : decode (km_c mm_Model_takes) 13 = .ok (.istore_n 2, 1) := by decide +kernel
theorem sq_Model_takes_13n : rn G mm_Model_takes 13 [a0, none, a2] (.int x :: st) S P ↔ rn G mm_Model_takes 14 [a0, none, some (.int x)] st S P := rn_s dq_Model_takes_13 rfl rfl rfl
theorem sq_Model_takes_13i : rn G mm_Model_takes 13 [a0, some (.int x2), a2] (.int x :: st) S P ↔ rn G mm_Model_takes 14 [a0, some (.int x2), some (.int x)] st S P := rn_s dq_Model_takes_13 rfl rfl rfl
theorem sq_Model_takes_13r : rn G mm_Model_takes 13 [a0, some (.ref z2), a2] (.int x :: st) S P ↔ rn G mm_Model_takes 14 [a0, some (.ref z2), some (.int x)] st S P := rn_s dq_Model_takes_13 rfl rfl rfl
theorem dq_Model_takes_14 : decode (km_c mm_Model_takes) 14 = .ok (.aload_n 0, 1) := by decide +kernel
theorem sq_Model_takes_14 : rn G mm_Model_takes 14 [some (.ref z), a1, a2] st S P ↔ rn G mm_Model_takes 15 [some (.ref z), a1, a2] (.ref z :: st) S P := rn_s dq_Model_takes_14 rfl rfl rfl
theorem dq_Model_takes_15 : decode (km_c mm_Model_takes) 15 = .ok (.dup, 1) := by decide +kernel
theorem sq_Model_takes_15i : rn G mm_Model_takes 15 lv (.int x :: st) S P ↔ rn G mm_Model_takes 16 lv (.int x :: .int x :: st) S P := rn_s dq_Model_takes_15 rfl rfl rfl
theorem sq_Model_takes_15r : rn G mm_Model_takes 15 lv (.ref z :: st) S P ↔ rn G mm_Model_takes 16 lv (.ref z :: .ref z :: st) S P := rn_s dq_Model_takes_15 rfl rfl rfl
theorem dq_Model_takes_16 : decode (km_c mm_Model_takes) 16 = .ok (.getfield 151, 3) := by decide +kernel
theorem sq_Model_takes_16_45 (ho : sx_o o pl kp) : rn (lt_G o L) mm_Model_takes 16 lv (.ref 45 :: st) (sx pl kp I A) P ↔ rn (lt_G o L) mm_Model_takes 19 lv (.int (I 45 17) :: st) (sx pl kp I A) P := rx_get (h := "") (ci := 10) (k := 17) dq_Model_takes_16 (by decide +kernel) ho (up_b (by decide)) rfl rfl (fl_i (by decide))
theorem dq_Model_takes_19 : decode (km_c mm_Model_takes) 19 = .ok (.iload_n 2, 1) := by decide +kernel
theorem sq_Model_takes_19 : rn G mm_Model_takes 19 [a0, a1, some (.int x)] st S P ↔ rn G mm_Model_takes 20 [a0, a1, some (.int x)] (.int x :: st) S P := rn_s dq_Model_takes_19 rfl rfl rfl
theorem dq_Model_takes_20 : decode (km_c mm_Model_takes) 20 = .ok (.ifCond .eq 7, 3) := by decide +kernel
theorem sq_Model_takes_20 : rn G mm_Model_takes 20 lv (.int x :: st) S P ↔ ((x = 0 → rn G mm_Model_takes 27 lv st S P) ∧ (¬ (x = 0) → rn G mm_Model_takes 23 lv st S P)) := rn_b (off := 7) dq_Model_takes_20 rfl rfl rfl rfl
theorem dq_Model_takes_23 : decode (km_c mm_Model_takes) 23 = .ok (.iconst 1, 1) := by decide +kernel
theorem sq_Model_takes_23 : rn G mm_Model_takes 23 lv st S P ↔ rn G mm_Model_takes 24 lv (.int (nI 1) :: st) S P := rn_s dq_Model_takes_23 rfl rfl rfl
theorem dq_Model_takes_24 : decode (km_c mm_Model_takes) 24 = .ok (.goto 4, 3) := by decide +kernel
theorem sq_Model_takes_24 : rn G mm_Model_takes 24 lv st S P ↔ rn G mm_Model_takes 28 lv st S P := rn_s dq_Model_takes_24 rfl rfl rfl
theorem dq_Model_takes_27 : decode (km_c mm_Model_takes) 27 = .ok (.iconst 0, 1) := by decide +kernel
theorem sq_Model_takes_27 : rn G mm_Model_takes 27 lv st S P ↔ rn G mm_Model_takes 28 lv (.int (nI 0) :: st) S P := rn_s dq_Model_takes_27 rfl rfl rfl
theorem dq_Model_takes_28 : decode (km_c mm_Model_takes) 28 = .ok (.iadd, 1) := by decide +kernel
theorem sq_Model_takes_28 : rn G mm_Model_takes 28 lv (.int x2 :: .int x :: st) S P ↔ rn G mm_Model_takes 29 lv (.int (x + x2) :: st) S P := rn_s dq_Model_takes_28 rfl rfl rfl
theorem dq_Model_takes_29 : decode (km_c mm_Model_takes) 29 = .ok (.putfield 151, 3) := by decide +kernel
theorem sq_Model_takes_29_45 (ho : sx_o o pl kp) : rn (lt_G o L) mm_Model_takes 29 lv (.int x :: .ref 45 :: st) (sx pl kp I A) P ↔ rn (lt_G o L) mm_Model_takes 32 lv st (sx pl kp (u2 I 45 17 x) A) P := rx_put (h := "") (ci := 10) (k := 17) dq_Model_takes_29 (by decide +kernel) ho (up_b (by decide)) rfl rfl (by decide) (by decide)
theorem dq_Model_takes_32 : decode (km_c mm_Model_takes) 32 = .ok (.iload_n 2, 1) := by decide +kernel
theorem sq_Model_takes_32 : rn G mm_Model_takes 32 [a0, a1, some (.int x)] st S P ↔ rn G mm_Model_takes 33 [a0, a1, some (.int x)] (.int x :: st) S P := rn_s dq_Model_takes_32 rfl rfl rfl
theorem dq_Model_takes_33 : decode (km_c mm_Model_takes) 33 = .ok (.ireturn, 1) := by decide +kernel
theorem sq_Model_takes_33_0 : rn G mm_Model_takes 33 lv [.int (nI 0)] S P ↔ P (some (.int (nI 0))) S := rn_ir dq_Model_takes_33 (by decide)
theorem sq_Model_takes_33_1 : rn G mm_Model_takes 33 lv [.int (nI 1)] S P ↔ P (some (.int (nI 1))) S := rn_ir dq_Model_takes_33 (by decide)
end SQ
