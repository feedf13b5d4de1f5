section SQ
variable {o pl kp : Bool} {L : Nat} {I A : Nat → Nat → Int32} {G : kg_G} {S : ks_S} {lv : List (Option Value)} {st : List Value} {P : Option Value → ks_S → Prop} {x x2 : Int32} {y y2 : Int64} {z z2 c a : Nat} {a0 a1 a2 a3 a4 a5 a6 a7 a8 a9 a10 a11 a12 a13 a14 a15 a16 a17 a18 a19 a20 a21 a22 a23 : Option Value}
theorem dq_Model_lay_0 : decode (km_c mm_Model_lay) 0 = .ok (.aload_n 0, 1) := by decide +kernel
theorem sq_Model_lay_0 : rn G mm_Model_lay 0 [some (.ref z), a1, a2, a3, a4, a5, a6, a7, a8] st S P ↔ rn G mm_Model_lay 1 [some (.ref z), a1, a2, a3, a4, a5, a6, a7, a8] (.ref z :: st) S P := rn_s dq_Model_lay_0 rfl rfl rfl
theorem dq_Model_lay_1 : decode (km_c mm_Model_lay) 1 = .ok (.iload_n 1, 1) := by decide +kernel
theorem sq_Model_lay_1 : rn G mm_Model_lay 1 [a0, some (.int x), a2, a3, a4, a5, a6, a7, a8] st S P ↔ rn G mm_Model_lay 2 [a0, some (.int x), a2, a3, a4, a5, a6, a7, a8] (.int x :: st) S P := rn_s dq_Model_lay_1 rfl rfl rfl
theorem dq_Model_lay_2 : decode (km_c mm_Model_lay) 2 = .ok (.invokevirtual 202, 3) := by decide +kernel
theorem sq_Model_lay_2_45 {x1 : Int32} {v : Option Value} {S2 : ks_S} (hc : ev (lt_G o L) mm_Model_isSet [.ref 45, .int x1] (sx pl kp I A) v S2) (ho : sx_o o pl kp) (hst : kx_cat st ≤ 8) : rn (lt_G o L) mm_Model_lay 2 lv (.int x1 :: .ref 45 :: st) (sx pl kp I A) P ↔ rn (lt_G o L) mm_Model_lay 5 lv (v.toList ++ st) S2 P := rn_cv (k := 0) (host := "") (E' := mm_Model_isSet) dq_Model_lay_2 rfl (ok_v rfl (by decide) (by decide) (Nat.le_add_left _ _) hst (Nat.le_of_ble_eq_true rfl) (Or.inr (rc_v ho (up_b (by decide)) rfl))) rfl rfl hc
theorem dq_Model_lay_5 : decode (km_c mm_Model_lay) 5 = .ok (.ifCond .ne 5, 3) := by decide +kernel
theorem sq_Model_lay_5 : rn G mm_Model_lay 5 lv (.int x :: st) S P ↔ ((¬ x = 0 → rn G mm_Model_lay 10 lv st S P) ∧ (¬ (¬ x = 0) → rn G mm_Model_lay 8 lv st S P)) := rn_b (off := 5) dq_Model_lay_5 rfl rfl rfl rfl
theorem dq_Model_lay_8 : decode (km_c mm_Model_lay) 8 = .ok (.iconst (-1), 1) := by decide +kernel
theorem sq_Model_lay_8 : rn G mm_Model_lay 8 lv st S P ↔ rn G mm_Model_lay 9 lv (.int ((-1)) :: st) S P := rn_s dq_Model_lay_8 rfl rfl rfl
theorem dq_Model_lay_9 : decode (km_c mm_Model_lay) 9 = .ok (.ireturn, 1) := by decide +kernel
theorem sq_Model_lay_9 : rn G mm_Model_lay 9 lv [.int x] S P ↔ P (some (.int x)) S := rn_ir dq_Model_lay_9 rfl
theorem dq_Model_lay_10 : decode (km_c mm_Model_lay) 10 = .ok (.aload_n 0, 1) := by decide +kernel
theorem sq_Model_lay_10 : rn G mm_Model_lay 10 [some (.ref z), a1, a2, a3, a4, a5, a6, a7, a8] st S P ↔ rn G mm_Model_lay 11 [some (.ref z), a1, a2, a3, a4, a5, a6, a7, a8] (.ref z :: st) S P := rn_s dq_Model_lay_10 rfl rfl rfl
theorem dq_Model_lay_11 : decode (km_c mm_Model_lay) 11 = .ok (.invokevirtual 196, 3) := by decide +kernel
theorem sq_Model_lay_11_45  {v : Option Value} {S2 : ks_S} (hc : ev (lt_G o L) mm_Model_findCosts [.ref 45] (sx pl kp I A) v S2) (ho : sx_o o pl kp) (hst : kx_cat st ≤ 8) : rn (lt_G o L) mm_Model_lay 11 lv (.ref 45 :: st) (sx pl kp I A) P ↔ rn (lt_G o L) mm_Model_lay 14 lv (v.toList ++ st) S2 P := rn_cv (k := 0) (host := "") (E' := mm_Model_findCosts) dq_Model_lay_11 rfl (ok_v rfl (by decide) (by decide) (Nat.le_add_left _ _) hst (Nat.le_of_ble_eq_true rfl) (Or.inr (rc_v ho (up_b (by decide)) rfl))) rfl rfl hc
theorem dq_Model_lay_14 : decode (km_c mm_Model_lay) 14 = .ok (.aload_n 0, 1) := by decide +kernel
theorem sq_Model_lay_14 : rn G mm_Model_lay 14 [some (.ref z), a1, a2, a3, a4, a5, a6, a7, a8] st S P ↔ rn G mm_Model_lay 15 [some (.ref z), a1, a2, a3, a4, a5, a6, a7, a8] (.ref z :: st) S P := rn_s dq_Model_lay_14 rfl rfl rfl
theorem dq_Model_lay_15 : decode (km_c mm_Model_lay) 15 = .ok (.iload_n 1, 1) := by decide +kernel
theorem sq_Model_lay_15 : rn G mm_Model_lay 15 [a0, some (.int x), a2, a3, a4, a5, a6, a7, a8] st S P ↔ rn G mm_Model_lay 16 [a0, some (.int x), a2, a3, a4, a5, a6, a7, a8] (.int x :: st) S P := rn_s dq_Model_lay_15 rfl rfl rfl
theorem dq_Model_lay_16 : decode (km_c mm_Model_lay) 16 = .ok (.invokevirtual 225, 3) := by decide +kernel
theorem sq_Model_lay_16_45 {x1 : Int32} {v : Option Value} {S2 : ks_S} (hc : ev (lt_G o L) mm_Model_findLeft [.ref 45, .int x1] (sx pl kp I A) v S2) (ho : sx_o o pl kp) (hst : kx_cat st ≤ 8) : rn (lt_G o L) mm_Model_lay 16 lv (.int x1 :: .ref 45 :: st) (sx pl kp I A) P ↔ rn (lt_G o L) mm_Model_lay 19 lv (v.toList ++ st) S2 P := rn_cv (k := 0) (host := "") (E' := mm_Model_findLeft) dq_Model_lay_16 rfl (ok_v rfl (by decide) (by decide) (Nat.le_add_left _ _) hst (Nat.le_of_ble_eq_true rfl) (Or.inr (rc_v ho (up_b (by decide)) rfl))) rfl rfl hc
theorem dq_Model_lay_19 : decode (km_c mm_Model_lay) 19 = .ok (.bipush 64, 2) := by decide +kernel
theorem sq_Model_lay_19 : rn G mm_Model_lay 19 lv st S P ↔ rn G mm_Model_lay 21 lv (.int (nI 64) :: st) S P := rn_s dq_Model_lay_19 rfl rfl rfl
theorem dq_Model_lay_21 : decode (km_c mm_Model_lay) 21 = .ok (.aload_n 0, 1) := by decide +kernel
theorem sq_Model_lay_21 : rn G mm_Model_lay 21 [some (.ref z), a1, a2, a3, a4, a5, a6, a7, a8] st S P ↔ rn G mm_Model_lay 22 [some (.ref z), a1, a2, a3, a4, a5, a6, a7, a8] (.ref z :: st) S P := rn_s dq_Model_lay_21 rfl rfl rfl
theorem dq_Model_lay_22 : decode (km_c mm_Model_lay) 22 = .ok (.getfield 186, 3) := by decide +kernel
theorem sq_Model_lay_22_45 (ho : sx_o o pl kp) : rn (lt_G o L) mm_Model_lay 22 lv (.ref 45 :: st) (sx pl kp I A) P ↔ rn (lt_G o L) mm_Model_lay 25 lv (.int (I 45 5) :: st) (sx pl kp I A) P := rx_get (h := "") (ci := 10) (k := 5) dq_Model_lay_22 (by decide +kernel) ho (up_b (by decide)) rfl rfl (fl_i (by decide))
theorem dq_Model_lay_25 : decode (km_c mm_Model_lay) 25 = .ok (.imul, 1) := by decide +kernel
theorem sq_Model_lay_25 : rn G mm_Model_lay 25 lv (.int x2 :: .int x :: st) S P ↔ rn G mm_Model_lay 26 lv (.int (x * x2) :: st) S P := rn_s dq_Model_lay_25 rfl rfl rfl
theorem dq_Model_lay_26 : decode (km_c mm_Model_lay) 26 = .ok (.aload_n 0, 1) := by decide +kernel
theorem sq_Model_lay_26 : rn G mm_Model_lay 26 [some (.ref z), a1, a2, a3, a4, a5, a6, a7, a8] st S P ↔ rn G mm_Model_lay 27 [some (.ref z), a1, a2, a3, a4, a5, a6, a7, a8] (.ref z :: st) S P := rn_s dq_Model_lay_26 rfl rfl rfl
theorem dq_Model_lay_27 : decode (km_c mm_Model_lay) 27 = .ok (.getfield 50, 3) := by decide +kernel
theorem sq_Model_lay_27_45 (ho : sx_o o pl kp) : rn (lt_G o L) mm_Model_lay 27 lv (.ref 45 :: st) (sx pl kp I A) P ↔ rn (lt_G o L) mm_Model_lay 30 lv (.ref 57 :: st) (sx pl kp I A) P := rx_get (h := "") (ci := 10) (k := 21) dq_Model_lay_27 (by decide +kernel) ho (up_b (by decide)) rfl rfl (fl_r (by decide) (by decide) (by decide) (by decide))
theorem dq_Model_lay_30 : decode (km_c mm_Model_lay) 30 = .ok (.aload_n 0, 1) := by decide +kernel
theorem sq_Model_lay_30 : rn G mm_Model_lay 30 [some (.ref z), a1, a2, a3, a4, a5, a6, a7, a8] st S P ↔ rn G mm_Model_lay 31 [some (.ref z), a1, a2, a3, a4, a5, a6, a7, a8] (.ref z :: st) S P := rn_s dq_Model_lay_30 rfl rfl rfl
theorem dq_Model_lay_31 : decode (km_c mm_Model_lay) 31 = .ok (.getfield 186, 3) := by decide +kernel
theorem sq_Model_lay_31_45 (ho : sx_o o pl kp) : rn (lt_G o L) mm_Model_lay 31 lv (.ref 45 :: st) (sx pl kp I A) P ↔ rn (lt_G o L) mm_Model_lay 34 lv (.int (I 45 5) :: st) (sx pl kp I A) P := rx_get (h := "") (ci := 10) (k := 5) dq_Model_lay_31 (by decide +kernel) ho (up_b (by decide)) rfl rfl (fl_i (by decide))
theorem dq_Model_lay_34 : decode (km_c mm_Model_lay) 34 = .ok (.iaload, 1) := by decide +kernel
theorem sq_Model_lay_34 (ho : sx_o o pl kp) (hk : ak L a = 0) (hu : sx_up pl kp a = true ∨ 1000 ≤ a) (hc : c < ln L a) (hn : ln L a < 2 ^ 31) : rn (lt_G o L) mm_Model_lay 34 lv (.int (nI c) :: .ref a :: st) (sx pl kp I A) P ↔ rn (lt_G o L) mm_Model_lay 35 lv (.int (A a c) :: st) (sx pl kp I A) P := rx_ild dq_Model_lay_34 ho hk hu hc hn
theorem dq_Model_lay_35 : decode (km_c mm_Model_lay) 35 = .ok (.iadd, 1) := by decide +kernel
theorem sq_Model_lay_35 : rn G mm_Model_lay 35 lv (.int x2 :: .int x :: st) S P ↔ rn G mm_Model_lay 36 lv (.int (x + x2) :: st) S P := rn_s dq_Model_lay_35 rfl rfl rfl
theorem dq_Model_lay_36 : decode (km_c mm_Model_lay) 36 = .ok (.istore_n 2, 1) := by decide +kernel
theorem sq_Model_lay_36n : rn G mm_Model_lay 36 [a0, none, a2, a3, a4, a5, a6, a7, a8] (.int x :: st) S P ↔ rn G mm_Model_lay 37 [a0, none, some (.int x), a3, a4, a5, a6, a7, a8] st S P := rn_s dq_Model_lay_36 rfl rfl rfl
theorem sq_Model_lay_36i : rn G mm_Model_lay 36 [a0, some (.int x2), a2, a3, a4, a5, a6, a7, a8] (.int x :: st) S P ↔ rn G mm_Model_lay 37 [a0, some (.int x2), some (.int x), a3, a4, a5, a6, a7, a8] st S P := rn_s dq_Model_lay_36 rfl rfl rfl
theorem sq_Model_lay_36r : rn G mm_Model_lay 36 [a0, some (.ref z2), a2, a3, a4, a5, a6, a7, a8] (.int x :: st) S P ↔ rn G mm_Model_lay 37 [a0, some (.ref z2), some (.int x), a3, a4, a5, a6, a7, a8] st S P := rn_s dq_Model_lay_36 rfl rfl rfl
theorem dq_Model_lay_37 : decode (km_c mm_Model_lay) 37 = .ok (.aload_n 0, 1) := by decide +kernel
theorem sq_Model_lay_37 : rn G mm_Model_lay 37 [some (.ref z), a1, a2, a3, a4, a5, a6, a7, a8] st S P ↔ rn G mm_Model_lay 38 [some (.ref z), a1, a2, a3, a4, a5, a6, a7, a8] (.ref z :: st) S P := rn_s dq_Model_lay_37 rfl rfl rfl
theorem dq_Model_lay_38 : decode (km_c mm_Model_lay) 38 = .ok (.getfield 53, 3) := by decide +kernel
theorem sq_Model_lay_38_45 (ho : sx_o o pl kp) : rn (lt_G o L) mm_Model_lay 38 lv (.ref 45 :: st) (sx pl kp I A) P ↔ rn (lt_G o L) mm_Model_lay 41 lv (.ref 58 :: st) (sx pl kp I A) P := rx_get (h := "") (ci := 10) (k := 22) dq_Model_lay_38 (by decide +kernel) ho (up_b (by decide)) rfl rfl (fl_r (by decide) (by decide) (by decide) (by decide))
theorem dq_Model_lay_41 : decode (km_c mm_Model_lay) 41 = .ok (.iload_n 2, 1) := by decide +kernel
theorem sq_Model_lay_41 : rn G mm_Model_lay 41 [a0, a1, some (.int x), a3, a4, a5, a6, a7, a8] st S P ↔ rn G mm_Model_lay 42 [a0, a1, some (.int x), a3, a4, a5, a6, a7, a8] (.int x :: st) S P := rn_s dq_Model_lay_41 rfl rfl rfl
theorem dq_Model_lay_42 : decode (km_c mm_Model_lay) 42 = .ok (.iaload, 1) := by decide +kernel
theorem sq_Model_lay_42 (ho : sx_o o pl kp) (hk : ak L a = 0) (hu : sx_up pl kp a = true ∨ 1000 ≤ a) (hc : c < ln L a) (hn : ln L a < 2 ^ 31) : rn (lt_G o L) mm_Model_lay 42 lv (.int (nI c) :: .ref a :: st) (sx pl kp I A) P ↔ rn (lt_G o L) mm_Model_lay 43 lv (.int (A a c) :: st) (sx pl kp I A) P := rx_ild dq_Model_lay_42 ho hk hu hc hn
theorem dq_Model_lay_43 : decode (km_c mm_Model_lay) 43 = .ok (.sipush 1000, 3) := by decide +kernel
theorem sq_Model_lay_43 : rn G mm_Model_lay 43 lv st S P ↔ rn G mm_Model_lay 46 lv (.int (nI 1000) :: st) S P := rn_s dq_Model_lay_43 rfl rfl rfl
theorem dq_Model_lay_46 : decode (km_c mm_Model_lay) 46 = .ok (.irem, 1) := by decide +kernel
theorem sq_Model_lay_46 (hz : ¬ x2 = 0) : rn G mm_Model_lay 46 lv (.int x2 :: .int x :: st) S P ↔ rn G mm_Model_lay 47 lv (.int (x - x / x2 * x2) :: st) S P := rn_s dq_Model_lay_46 rfl rfl (if_neg hz)
theorem dq_Model_lay_47 : decode (km_c mm_Model_lay) 47 = .ok (.iconst 1, 1) := by decide +kernel
theorem sq_Model_lay_47 : rn G mm_Model_lay 47 lv st S P ↔ rn G mm_Model_lay 48 lv (.int (nI 1) :: st) S P := rn_s dq_Model_lay_47 rfl rfl rfl
theorem dq_Model_lay_48 : decode (km_c mm_Model_lay) 48 = .ok (.iadd, 1) := by decide +kernel
theorem sq_Model_lay_48 : rn G mm_Model_lay 48 lv (.int x2 :: .int x :: st) S P ↔ rn G mm_Model_lay 49 lv (.int (x + x2) :: st) S P := rn_s dq_Model_lay_48 rfl rfl rfl
theorem dq_Model_lay_49 : decode (km_c mm_Model_lay) 49 = .ok (.istore_n 3, 1) := by decide +kernel
theorem sq_Model_lay_49n : rn G mm_Model_lay 49 [a0, a1, none, a3, a4, a5, a6, a7, a8] (.int x :: st) S P ↔ rn G mm_Model_lay 50 [a0, a1, none, some (.int x), a4, a5, a6, a7, a8] st S P := rn_s dq_Model_lay_49 rfl rfl rfl
theorem sq_Model_lay_49i : rn G mm_Model_lay 49 [a0, a1, some (.int x2), a3, a4, a5, a6, a7, a8] (.int x :: st) S P ↔ rn G mm_Model_lay 50 [a0, a1, some (.int x2), some (.int x), a4, a5, a6, a7, a8] st S P := rn_s dq_Model_lay_49 rfl rfl rfl
theorem sq_Model_lay_49r : rn G mm_Model_lay 49 [a0, a1, some (.ref z2), a3, a4, a5, a6, a7, a8] (.int x :: st) S P ↔ rn G mm_Model_lay 50 [a0, a1, some (.ref z2), some (.int x), a4, a5, a6, a7, a8] st S P := rn_s dq_Model_lay_49 rfl rfl rfl
theorem dq_Model_lay_50 : decode (km_c mm_Model_lay) 50 = .ok (.iload_n 3, 1) := by decide +kernel
theorem sq_Model_lay_50 : rn G mm_Model_lay 50 [a0, a1, a2, some (.int x), a4, a5, a6, a7, a8] st S P ↔ rn G mm_Model_lay 51 [a0, a1, a2, some (.int x), a4, a5, a6, a7, a8] (.int x :: st) S P := rn_s dq_Model_lay_50 rfl rfl rfl
theorem dq_Model_lay_51 : decode (km_c mm_Model_lay) 51 = .ok (.bipush 60, 2) := by decide +kernel
theorem sq_Model_lay_51 : rn G mm_Model_lay 51 lv st S P ↔ rn G mm_Model_lay 53 lv (.int (nI 60) :: st) S P := rn_s dq_Model_lay_51 rfl rfl rfl
theorem dq_Model_lay_53 : decode (km_c mm_Model_lay) 53 = .ok (.if_icmp .le 6, 3) := by decide +kernel
theorem sq_Model_lay_53 : rn G mm_Model_lay 53 lv (.int x2 :: .int x :: st) S P ↔ ((x ≤ x2 → rn G mm_Model_lay 59 lv st S P) ∧ (¬ (x ≤ x2) → rn G mm_Model_lay 56 lv st S P)) := rn_b (off := 6) dq_Model_lay_53 rfl rfl rfl rfl
theorem dq_Model_lay_56 : decode (km_c mm_Model_lay) 56 = .ok (.bipush (-3), 2) := by decide +kernel
theorem sq_Model_lay_56 : rn G mm_Model_lay 56 lv st S P ↔ rn G mm_Model_lay 58 lv (.int ((-3)) :: st) S P := rn_s dq_Model_lay_56 rfl rfl rfl
theorem dq_Model_lay_58 : decode (km_c mm_Model_lay) 58 = .ok (.ireturn, 1) := by decide +kernel
theorem sq_Model_lay_58 : rn G mm_Model_lay 58 lv [.int x] S P ↔ P (some (.int x)) S := rn_ir dq_Model_lay_58 rfl
theorem dq_Model_lay_59 : decode (km_c mm_Model_lay) 59 = .ok (.aload_n 0, 1) := by decide +kernel
theorem sq_Model_lay_59 : rn G mm_Model_lay 59 [some (.ref z), a1, a2, a3, a4, a5, a6, a7, a8] st S P ↔ rn G mm_Model_lay 60 [some (.ref z), a1, a2, a3, a4, a5, a6, a7, a8] (.ref z :: st) S P := rn_s dq_Model_lay_59 rfl rfl rfl
theorem dq_Model_lay_60 : decode (km_c mm_Model_lay) 60 = .ok (.getfield 23, 3) := by decide +kernel
theorem sq_Model_lay_60_45 (ho : sx_o o pl kp) : rn (lt_G o L) mm_Model_lay 60 lv (.ref 45 :: st) (sx pl kp I A) P ↔ rn (lt_G o L) mm_Model_lay 63 lv (.ref 49 :: st) (sx pl kp I A) P := rx_get (h := "") (ci := 10) (k := 7) dq_Model_lay_60 (by decide +kernel) ho (up_b (by decide)) rfl rfl (fl_r (by decide) (by decide) (by decide) (by decide))
theorem dq_Model_lay_63 : decode (km_c mm_Model_lay) 63 = .ok (.iconst 0, 1) := by decide +kernel
theorem sq_Model_lay_63 : rn G mm_Model_lay 63 lv st S P ↔ rn G mm_Model_lay 64 lv (.int (nI 0) :: st) S P := rn_s dq_Model_lay_63 rfl rfl rfl
theorem dq_Model_lay_64 : decode (km_c mm_Model_lay) 64 = .ok (.aload_n 0, 1) := by decide +kernel
theorem sq_Model_lay_64 : rn G mm_Model_lay 64 [some (.ref z), a1, a2, a3, a4, a5, a6, a7, a8] st S P ↔ rn G mm_Model_lay 65 [some (.ref z), a1, a2, a3, a4, a5, a6, a7, a8] (.ref z :: st) S P := rn_s dq_Model_lay_64 rfl rfl rfl
theorem dq_Model_lay_65 : decode (km_c mm_Model_lay) 65 = .ok (.getfield 186, 3) := by decide +kernel
theorem sq_Model_lay_65_45 (ho : sx_o o pl kp) : rn (lt_G o L) mm_Model_lay 65 lv (.ref 45 :: st) (sx pl kp I A) P ↔ rn (lt_G o L) mm_Model_lay 68 lv (.int (I 45 5) :: st) (sx pl kp I A) P := rx_get (h := "") (ci := 10) (k := 5) dq_Model_lay_65 (by decide +kernel) ho (up_b (by decide)) rfl rfl (fl_i (by decide))
theorem dq_Model_lay_68 : decode (km_c mm_Model_lay) 68 = .ok (.iastore, 1) := by decide +kernel
theorem sq_Model_lay_68 (ho : sx_o o pl kp) (hk : ak L a = 0) (hu : sx_up pl kp a = true) (hc : c < ln L a) (hn : ln L a < 2 ^ 31) : rn (lt_G o L) mm_Model_lay 68 lv (.int x :: .int (nI c) :: .ref a :: st) (sx pl kp I A) P ↔ rn (lt_G o L) mm_Model_lay 69 lv st (sx pl kp I (u2 A a c x)) P := rx_ist dq_Model_lay_68 ho hk hu hc hn
theorem dq_Model_lay_69 : decode (km_c mm_Model_lay) 69 = .ok (.iconst 1, 1) := by decide +kernel
theorem sq_Model_lay_69 : rn G mm_Model_lay 69 lv st S P ↔ rn G mm_Model_lay 70 lv (.int (nI 1) :: st) S P := rn_s dq_Model_lay_69 rfl rfl rfl
theorem dq_Model_lay_70 : decode (km_c mm_Model_lay) 70 = .ok (.istore 4, 2) := by decide +kernel
theorem sq_Model_lay_70n : rn G mm_Model_lay 70 [a0, a1, a2, none, a4, a5, a6, a7, a8] (.int x :: st) S P ↔ rn G mm_Model_lay 72 [a0, a1, a2, none, some (.int x), a5, a6, a7, a8] st S P := rn_s dq_Model_lay_70 rfl rfl rfl
theorem sq_Model_lay_70i : rn G mm_Model_lay 70 [a0, a1, a2, some (.int x2), a4, a5, a6, a7, a8] (.int x :: st) S P ↔ rn G mm_Model_lay 72 [a0, a1, a2, some (.int x2), some (.int x), a5, a6, a7, a8] st S P := rn_s dq_Model_lay_70 rfl rfl rfl
theorem sq_Model_lay_70r : rn G mm_Model_lay 70 [a0, a1, a2, some (.ref z2), a4, a5, a6, a7, a8] (.int x :: st) S P ↔ rn G mm_Model_lay 72 [a0, a1, a2, some (.ref z2), some (.int x), a5, a6, a7, a8] st S P := rn_s dq_Model_lay_70 rfl rfl rfl
theorem dq_Model_lay_72 : decode (km_c mm_Model_lay) 72 = .ok (.iload 4, 2) := by decide +kernel
theorem sq_Model_lay_72 : rn G mm_Model_lay 72 [a0, a1, a2, a3, some (.int x), a5, a6, a7, a8] st S P ↔ rn G mm_Model_lay 74 [a0, a1, a2, a3, some (.int x), a5, a6, a7, a8] (.int x :: st) S P := rn_s dq_Model_lay_72 rfl rfl rfl
theorem dq_Model_lay_74 : decode (km_c mm_Model_lay) 74 = .ok (.iload_n 3, 1) := by decide +kernel
theorem sq_Model_lay_74 : rn G mm_Model_lay 74 [a0, a1, a2, some (.int x), a4, a5, a6, a7, a8] st S P ↔ rn G mm_Model_lay 75 [a0, a1, a2, some (.int x), a4, a5, a6, a7, a8] (.int x :: st) S P := rn_s dq_Model_lay_74 rfl rfl rfl
theorem dq_Model_lay_75 : decode (km_c mm_Model_lay) 75 = .ok (.if_icmp .ge 124, 3) := by decide +kernel
theorem sq_Model_lay_75 : rn G mm_Model_lay 75 lv (.int x2 :: .int x :: st) S P ↔ ((x2 ≤ x → rn G mm_Model_lay 199 lv st S P) ∧ (¬ (x2 ≤ x) → rn G mm_Model_lay 78 lv st S P)) := rn_b (off := 124) dq_Model_lay_75 rfl rfl rfl rfl
theorem dq_Model_lay_78 : decode (km_c mm_Model_lay) 78 = .ok (.iload_n 2, 1) := by decide +kernel
theorem sq_Model_lay_78 : rn G mm_Model_lay 78 [a0, a1, some (.int x), a3, a4, a5, a6, a7, a8] st S P ↔ rn G mm_Model_lay 79 [a0, a1, some (.int x), a3, a4, a5, a6, a7, a8] (.int x :: st) S P := rn_s dq_Model_lay_78 rfl rfl rfl
theorem dq_Model_lay_79 : decode (km_c mm_Model_lay) 79 = .ok (.istore 5, 2) := by decide +kernel
theorem sq_Model_lay_79n : rn G mm_Model_lay 79 [a0, a1, a2, a3, none, a5, a6, a7, a8] (.int x :: st) S P ↔ rn G mm_Model_lay 81 [a0, a1, a2, a3, none, some (.int x), a6, a7, a8] st S P := rn_s dq_Model_lay_79 rfl rfl rfl
theorem sq_Model_lay_79i : rn G mm_Model_lay 79 [a0, a1, a2, a3, some (.int x2), a5, a6, a7, a8] (.int x :: st) S P ↔ rn G mm_Model_lay 81 [a0, a1, a2, a3, some (.int x2), some (.int x), a6, a7, a8] st S P := rn_s dq_Model_lay_79 rfl rfl rfl
theorem sq_Model_lay_79r : rn G mm_Model_lay 79 [a0, a1, a2, a3, some (.ref z2), a5, a6, a7, a8] (.int x :: st) S P ↔ rn G mm_Model_lay 81 [a0, a1, a2, a3, some (.ref z2), some (.int x), a6, a7, a8] st S P := rn_s dq_Model_lay_79 rfl rfl rfl
theorem dq_Model_lay_81 : decode (km_c mm_Model_lay) 81 = .ok (.iconst 3, 1) := by decide +kernel
theorem sq_Model_lay_81 : rn G mm_Model_lay 81 lv st S P ↔ rn G mm_Model_lay 82 lv (.int (nI 3) :: st) S P := rn_s dq_Model_lay_81 rfl rfl rfl
theorem dq_Model_lay_82 : decode (km_c mm_Model_lay) 82 = .ok (.istore 6, 2) := by decide +kernel
theorem sq_Model_lay_82n : rn G mm_Model_lay 82 [a0, a1, a2, a3, a4, none, a6, a7, a8] (.int x :: st) S P ↔ rn G mm_Model_lay 84 [a0, a1, a2, a3, a4, none, some (.int x), a7, a8] st S P := rn_s dq_Model_lay_82 rfl rfl rfl
theorem sq_Model_lay_82i : rn G mm_Model_lay 82 [a0, a1, a2, a3, a4, some (.int x2), a6, a7, a8] (.int x :: st) S P ↔ rn G mm_Model_lay 84 [a0, a1, a2, a3, a4, some (.int x2), some (.int x), a7, a8] st S P := rn_s dq_Model_lay_82 rfl rfl rfl
theorem sq_Model_lay_82r : rn G mm_Model_lay 82 [a0, a1, a2, a3, a4, some (.ref z2), a6, a7, a8] (.int x :: st) S P ↔ rn G mm_Model_lay 84 [a0, a1, a2, a3, a4, some (.ref z2), some (.int x), a7, a8] st S P := rn_s dq_Model_lay_82 rfl rfl rfl
theorem dq_Model_lay_84 : decode (km_c mm_Model_lay) 84 = .ok (.iload 6, 2) := by decide +kernel
theorem sq_Model_lay_84 : rn G mm_Model_lay 84 [a0, a1, a2, a3, a4, a5, some (.int x), a7, a8] st S P ↔ rn G mm_Model_lay 86 [a0, a1, a2, a3, a4, a5, some (.int x), a7, a8] (.int x :: st) S P := rn_s dq_Model_lay_84 rfl rfl rfl
theorem dq_Model_lay_86 : decode (km_c mm_Model_lay) 86 = .ok (.ifCond .lt 93, 3) := by decide +kernel
theorem sq_Model_lay_86 : rn G mm_Model_lay 86 lv (.int x :: st) S P ↔ ((x < 0 → rn G mm_Model_lay 179 lv st S P) ∧ (¬ (x < 0) → rn G mm_Model_lay 89 lv st S P)) := rn_b (off := 93) dq_Model_lay_86 rfl rfl rfl rfl
theorem dq_Model_lay_89 : decode (km_c mm_Model_lay) 89 = .ok (.iload_n 2, 1) := by decide +kernel
theorem sq_Model_lay_89 : rn G mm_Model_lay 89 [a0, a1, some (.int x), a3, a4, a5, a6, a7, a8] st S P ↔ rn G mm_Model_lay 90 [a0, a1, some (.int x), a3, a4, a5, a6, a7, a8] (.int x :: st) S P := rn_s dq_Model_lay_89 rfl rfl rfl
theorem dq_Model_lay_90 : decode (km_c mm_Model_lay) 90 = .ok (.bipush 64, 2) := by decide +kernel
theorem sq_Model_lay_90 : rn G mm_Model_lay 90 lv st S P ↔ rn G mm_Model_lay 92 lv (.int (nI 64) :: st) S P := rn_s dq_Model_lay_90 rfl rfl rfl
theorem dq_Model_lay_92 : decode (km_c mm_Model_lay) 92 = .ok (.idiv, 1) := by decide +kernel
theorem sq_Model_lay_92 (hz : ¬ x2 = 0) : rn G mm_Model_lay 92 lv (.int x2 :: .int x :: st) S P ↔ rn G mm_Model_lay 93 lv (.int (x / x2) :: st) S P := rn_s dq_Model_lay_92 rfl rfl (if_neg hz)
theorem dq_Model_lay_93 : decode (km_c mm_Model_lay) 93 = .ok (.iload 6, 2) := by decide +kernel
theorem sq_Model_lay_93 : rn G mm_Model_lay 93 [a0, a1, a2, a3, a4, a5, some (.int x), a7, a8] st S P ↔ rn G mm_Model_lay 95 [a0, a1, a2, a3, a4, a5, some (.int x), a7, a8] (.int x :: st) S P := rn_s dq_Model_lay_93 rfl rfl rfl
theorem dq_Model_lay_95 : decode (km_c mm_Model_lay) 95 = .ok (.invokestatic 80, 3) := by decide +kernel
theorem sq_Model_lay_95 {x1 : Int32} {x2 : Int32} {v : Option Value} {S2 : ks_S} (hc : ev G mm_Model_nextTo [.int x1, .int x2] S v S2) (hst : kx_cat st ≤ 8) : rn G mm_Model_lay 95 lv (.int x2 :: .int x1 :: st) S P ↔ rn G mm_Model_lay 98 lv (v.toList ++ st) S2 P := rn_cs (k := 1) (host := "") (E' := mm_Model_nextTo) dq_Model_lay_95 (by decide) (by decide) rfl (ok_v rfl (by decide) (by decide) (Nat.le_add_left _ _) hst (Nat.le_of_ble_eq_true rfl) (Or.inl rfl)) rfl rfl hc
theorem dq_Model_lay_98 : decode (km_c mm_Model_lay) 98 = .ok (.istore 7, 2) := by decide +kernel
theorem sq_Model_lay_98n : rn G mm_Model_lay 98 [a0, a1, a2, a3, a4, a5, none, a7, a8] (.int x :: st) S P ↔ rn G mm_Model_lay 100 [a0, a1, a2, a3, a4, a5, none, some (.int x), a8] st S P := rn_s dq_Model_lay_98 rfl rfl rfl
theorem sq_Model_lay_98i : rn G mm_Model_lay 98 [a0, a1, a2, a3, a4, a5, some (.int x2), a7, a8] (.int x :: st) S P ↔ rn G mm_Model_lay 100 [a0, a1, a2, a3, a4, a5, some (.int x2), some (.int x), a8] st S P := rn_s dq_Model_lay_98 rfl rfl rfl
theorem sq_Model_lay_98r : rn G mm_Model_lay 98 [a0, a1, a2, a3, a4, a5, some (.ref z2), a7, a8] (.int x :: st) S P ↔ rn G mm_Model_lay 100 [a0, a1, a2, a3, a4, a5, some (.ref z2), some (.int x), a8] st S P := rn_s dq_Model_lay_98 rfl rfl rfl
theorem dq_Model_lay_100 : decode (km_c mm_Model_lay) 100 = .ok (.iload 7, 2) := by decide +kernel
theorem sq_Model_lay_100 : rn G mm_Model_lay 100 [a0, a1, a2, a3, a4, a5, a6, some (.int x), a8] st S P ↔ rn G mm_Model_lay 102 [a0, a1, a2, a3, a4, a5, a6, some (.int x), a8] (.int x :: st) S P := rn_s dq_Model_lay_100 rfl rfl rfl
theorem dq_Model_lay_102 : decode (km_c mm_Model_lay) 102 = .ok (.ifCond .ge 7, 3) := by decide +kernel
theorem sq_Model_lay_102 : rn G mm_Model_lay 102 lv (.int x :: st) S P ↔ ((0 ≤ x → rn G mm_Model_lay 109 lv st S P) ∧ (¬ (0 ≤ x) → rn G mm_Model_lay 105 lv st S P)) := rn_b (off := 7) dq_Model_lay_102 rfl rfl rfl rfl
theorem dq_Model_lay_105 : decode (km_c mm_Model_lay) 105 = .ok (.iload_n 2, 1) := by decide +kernel
theorem sq_Model_lay_105 : rn G mm_Model_lay 105 [a0, a1, some (.int x), a3, a4, a5, a6, a7, a8] st S P ↔ rn G mm_Model_lay 106 [a0, a1, some (.int x), a3, a4, a5, a6, a7, a8] (.int x :: st) S P := rn_s dq_Model_lay_105 rfl rfl rfl
theorem dq_Model_lay_106 : decode (km_c mm_Model_lay) 106 = .ok (.goto 21, 3) := by decide +kernel
theorem sq_Model_lay_106 : rn G mm_Model_lay 106 lv st S P ↔ rn G mm_Model_lay 127 lv st S P := rn_s dq_Model_lay_106 rfl rfl rfl
theorem dq_Model_lay_109 : decode (km_c mm_Model_lay) 109 = .ok (.bipush 64, 2) := by decide +kernel
theorem sq_Model_lay_109 : rn G mm_Model_lay 109 lv st S P ↔ rn G mm_Model_lay 111 lv (.int (nI 64) :: st) S P := rn_s dq_Model_lay_109 rfl rfl rfl
theorem dq_Model_lay_111 : decode (km_c mm_Model_lay) 111 = .ok (.iload 7, 2) := by decide +kernel
theorem sq_Model_lay_111 : rn G mm_Model_lay 111 [a0, a1, a2, a3, a4, a5, a6, some (.int x), a8] st S P ↔ rn G mm_Model_lay 113 [a0, a1, a2, a3, a4, a5, a6, some (.int x), a8] (.int x :: st) S P := rn_s dq_Model_lay_111 rfl rfl rfl
theorem dq_Model_lay_113 : decode (km_c mm_Model_lay) 113 = .ok (.imul, 1) := by decide +kernel
theorem sq_Model_lay_113 : rn G mm_Model_lay 113 lv (.int x2 :: .int x :: st) S P ↔ rn G mm_Model_lay 114 lv (.int (x * x2) :: st) S P := rn_s dq_Model_lay_113 rfl rfl rfl
theorem dq_Model_lay_114 : decode (km_c mm_Model_lay) 114 = .ok (.iload_n 2, 1) := by decide +kernel
theorem sq_Model_lay_114 : rn G mm_Model_lay 114 [a0, a1, some (.int x), a3, a4, a5, a6, a7, a8] st S P ↔ rn G mm_Model_lay 115 [a0, a1, some (.int x), a3, a4, a5, a6, a7, a8] (.int x :: st) S P := rn_s dq_Model_lay_114 rfl rfl rfl
theorem dq_Model_lay_115 : decode (km_c mm_Model_lay) 115 = .ok (.bipush 64, 2) := by decide +kernel
theorem sq_Model_lay_115 : rn G mm_Model_lay 115 lv st S P ↔ rn G mm_Model_lay 117 lv (.int (nI 64) :: st) S P := rn_s dq_Model_lay_115 rfl rfl rfl
theorem dq_Model_lay_117 : decode (km_c mm_Model_lay) 117 = .ok (.irem, 1) := by decide +kernel
theorem sq_Model_lay_117 (hz : ¬ x2 = 0) : rn G mm_Model_lay 117 lv (.int x2 :: .int x :: st) S P ↔ rn G mm_Model_lay 118 lv (.int (x - x / x2 * x2) :: st) S P := rn_s dq_Model_lay_117 rfl rfl (if_neg hz)
theorem dq_Model_lay_118 : decode (km_c mm_Model_lay) 118 = .ok (.aload_n 0, 1) := by decide +kernel
theorem sq_Model_lay_118 : rn G mm_Model_lay 118 [some (.ref z), a1, a2, a3, a4, a5, a6, a7, a8] st S P ↔ rn G mm_Model_lay 119 [some (.ref z), a1, a2, a3, a4, a5, a6, a7, a8] (.ref z :: st) S P := rn_s dq_Model_lay_118 rfl rfl rfl
theorem dq_Model_lay_119 : decode (km_c mm_Model_lay) 119 = .ok (.getfield 50, 3) := by decide +kernel
theorem sq_Model_lay_119_45 (ho : sx_o o pl kp) : rn (lt_G o L) mm_Model_lay 119 lv (.ref 45 :: st) (sx pl kp I A) P ↔ rn (lt_G o L) mm_Model_lay 122 lv (.ref 57 :: st) (sx pl kp I A) P := rx_get (h := "") (ci := 10) (k := 21) dq_Model_lay_119 (by decide +kernel) ho (up_b (by decide)) rfl rfl (fl_r (by decide) (by decide) (by decide) (by decide))
theorem dq_Model_lay_122 : decode (km_c mm_Model_lay) 122 = .ok (.iload 7, 2) := by decide +kernel
theorem sq_Model_lay_122 : rn G mm_Model_lay 122 [a0, a1, a2, a3, a4, a5, a6, some (.int x), a8] st S P ↔ rn G mm_Model_lay 124 [a0, a1, a2, a3, a4, a5, a6, some (.int x), a8] (.int x :: st) S P := rn_s dq_Model_lay_122 rfl rfl rfl
theorem dq_Model_lay_124 : decode (km_c mm_Model_lay) 124 = .ok (.iaload, 1) := by decide +kernel
theorem sq_Model_lay_124 (ho : sx_o o pl kp) (hk : ak L a = 0) (hu : sx_up pl kp a = true ∨ 1000 ≤ a) (hc : c < ln L a) (hn : ln L a < 2 ^ 31) : rn (lt_G o L) mm_Model_lay 124 lv (.int (nI c) :: .ref a :: st) (sx pl kp I A) P ↔ rn (lt_G o L) mm_Model_lay 125 lv (.int (A a c) :: st) (sx pl kp I A) P := rx_ild dq_Model_lay_124 ho hk hu hc hn
theorem dq_Model_lay_125 : decode (km_c mm_Model_lay) 125 = .ok (.ior, 1) := by decide +kernel
theorem sq_Model_lay_125 : rn G mm_Model_lay 125 lv (.int x2 :: .int x :: st) S P ↔ rn G mm_Model_lay 126 lv (.int (x ||| x2) :: st) S P := rn_s dq_Model_lay_125 rfl rfl rfl
theorem dq_Model_lay_126 : decode (km_c mm_Model_lay) 126 = .ok (.iadd, 1) := by decide +kernel
theorem sq_Model_lay_126 : rn G mm_Model_lay 126 lv (.int x2 :: .int x :: st) S P ↔ rn G mm_Model_lay 127 lv (.int (x + x2) :: st) S P := rn_s dq_Model_lay_126 rfl rfl rfl
theorem dq_Model_lay_127 : decode (km_c mm_Model_lay) 127 = .ok (.istore 8, 2) := by decide +kernel
theorem sq_Model_lay_127n : rn G mm_Model_lay 127 [a0, a1, a2, a3, a4, a5, a6, none, a8] (.int x :: st) S P ↔ rn G mm_Model_lay 129 [a0, a1, a2, a3, a4, a5, a6, none, some (.int x)] st S P := rn_s dq_Model_lay_127 rfl rfl rfl
theorem sq_Model_lay_127i : rn G mm_Model_lay 127 [a0, a1, a2, a3, a4, a5, a6, some (.int x2), a8] (.int x :: st) S P ↔ rn G mm_Model_lay 129 [a0, a1, a2, a3, a4, a5, a6, some (.int x2), some (.int x)] st S P := rn_s dq_Model_lay_127 rfl rfl rfl
theorem sq_Model_lay_127r : rn G mm_Model_lay 127 [a0, a1, a2, a3, a4, a5, a6, some (.ref z2), a8] (.int x :: st) S P ↔ rn G mm_Model_lay 129 [a0, a1, a2, a3, a4, a5, a6, some (.ref z2), some (.int x)] st S P := rn_s dq_Model_lay_127 rfl rfl rfl
theorem dq_Model_lay_129 : decode (km_c mm_Model_lay) 129 = .ok (.iload 7, 2) := by decide +kernel
theorem sq_Model_lay_129 : rn G mm_Model_lay 129 [a0, a1, a2, a3, a4, a5, a6, some (.int x), a8] st S P ↔ rn G mm_Model_lay 131 [a0, a1, a2, a3, a4, a5, a6, some (.int x), a8] (.int x :: st) S P := rn_s dq_Model_lay_129 rfl rfl rfl
theorem dq_Model_lay_131 : decode (km_c mm_Model_lay) 131 = .ok (.ifCond .lt 38, 3) := by decide +kernel
theorem sq_Model_lay_131 : rn G mm_Model_lay 131 lv (.int x :: st) S P ↔ ((x < 0 → rn G mm_Model_lay 169 lv st S P) ∧ (¬ (x < 0) → rn G mm_Model_lay 134 lv st S P)) := rn_b (off := 38) dq_Model_lay_131 rfl rfl rfl rfl
theorem dq_Model_lay_134 : decode (km_c mm_Model_lay) 134 = .ok (.aload_n 0, 1) := by decide +kernel
theorem sq_Model_lay_134 : rn G mm_Model_lay 134 [some (.ref z), a1, a2, a3, a4, a5, a6, a7, a8] st S P ↔ rn G mm_Model_lay 135 [some (.ref z), a1, a2, a3, a4, a5, a6, a7, a8] (.ref z :: st) S P := rn_s dq_Model_lay_134 rfl rfl rfl
theorem dq_Model_lay_135 : decode (km_c mm_Model_lay) 135 = .ok (.getfield 53, 3) := by decide +kernel
theorem sq_Model_lay_135_45 (ho : sx_o o pl kp) : rn (lt_G o L) mm_Model_lay 135 lv (.ref 45 :: st) (sx pl kp I A) P ↔ rn (lt_G o L) mm_Model_lay 138 lv (.ref 58 :: st) (sx pl kp I A) P := rx_get (h := "") (ci := 10) (k := 22) dq_Model_lay_135 (by decide +kernel) ho (up_b (by decide)) rfl rfl (fl_r (by decide) (by decide) (by decide) (by decide))
theorem dq_Model_lay_138 : decode (km_c mm_Model_lay) 138 = .ok (.iload 8, 2) := by decide +kernel
theorem sq_Model_lay_138 : rn G mm_Model_lay 138 [a0, a1, a2, a3, a4, a5, a6, a7, some (.int x)] st S P ↔ rn G mm_Model_lay 140 [a0, a1, a2, a3, a4, a5, a6, a7, some (.int x)] (.int x :: st) S P := rn_s dq_Model_lay_138 rfl rfl rfl
theorem dq_Model_lay_140 : decode (km_c mm_Model_lay) 140 = .ok (.iaload, 1) := by decide +kernel
theorem sq_Model_lay_140 (ho : sx_o o pl kp) (hk : ak L a = 0) (hu : sx_up pl kp a = true ∨ 1000 ≤ a) (hc : c < ln L a) (hn : ln L a < 2 ^ 31) : rn (lt_G o L) mm_Model_lay 140 lv (.int (nI c) :: .ref a :: st) (sx pl kp I A) P ↔ rn (lt_G o L) mm_Model_lay 141 lv (.int (A a c) :: st) (sx pl kp I A) P := rx_ild dq_Model_lay_140 ho hk hu hc hn
theorem dq_Model_lay_141 : decode (km_c mm_Model_lay) 141 = .ok (.sipush 1000, 3) := by decide +kernel
theorem sq_Model_lay_141 : rn G mm_Model_lay 141 lv st S P ↔ rn G mm_Model_lay 144 lv (.int (nI 1000) :: st) S P := rn_s dq_Model_lay_141 rfl rfl rfl
theorem dq_Model_lay_144 : decode (km_c mm_Model_lay) 144 = .ok (.aload_n 0, 1) := by decide +kernel
theorem sq_Model_lay_144 : rn G mm_Model_lay 144 [some (.ref z), a1, a2, a3, a4, a5, a6, a7, a8] st S P ↔ rn G mm_Model_lay 145 [some (.ref z), a1, a2, a3, a4, a5, a6, a7, a8] (.ref z :: st) S P := rn_s dq_Model_lay_144 rfl rfl rfl
theorem dq_Model_lay_145 : decode (km_c mm_Model_lay) 145 = .ok (.getfield 47, 3) := by decide +kernel
theorem sq_Model_lay_145_45 (ho : sx_o o pl kp) : rn (lt_G o L) mm_Model_lay 145 lv (.ref 45 :: st) (sx pl kp I A) P ↔ rn (lt_G o L) mm_Model_lay 148 lv (.ref 56 :: st) (sx pl kp I A) P := rx_get (h := "") (ci := 10) (k := 20) dq_Model_lay_145 (by decide +kernel) ho (up_b (by decide)) rfl rfl (fl_r (by decide) (by decide) (by decide) (by decide))
theorem dq_Model_lay_148 : decode (km_c mm_Model_lay) 148 = .ok (.iload 7, 2) := by decide +kernel
theorem sq_Model_lay_148 : rn G mm_Model_lay 148 [a0, a1, a2, a3, a4, a5, a6, some (.int x), a8] st S P ↔ rn G mm_Model_lay 150 [a0, a1, a2, a3, a4, a5, a6, some (.int x), a8] (.int x :: st) S P := rn_s dq_Model_lay_148 rfl rfl rfl
theorem dq_Model_lay_150 : decode (km_c mm_Model_lay) 150 = .ok (.iaload, 1) := by decide +kernel
theorem sq_Model_lay_150 (ho : sx_o o pl kp) (hk : ak L a = 0) (hu : sx_up pl kp a = true ∨ 1000 ≤ a) (hc : c < ln L a) (hn : ln L a < 2 ^ 31) : rn (lt_G o L) mm_Model_lay 150 lv (.int (nI c) :: .ref a :: st) (sx pl kp I A) P ↔ rn (lt_G o L) mm_Model_lay 151 lv (.int (A a c) :: st) (sx pl kp I A) P := rx_ild dq_Model_lay_150 ho hk hu hc hn
theorem dq_Model_lay_151 : decode (km_c mm_Model_lay) 151 = .ok (.imul, 1) := by decide +kernel
theorem sq_Model_lay_151 : rn G mm_Model_lay 151 lv (.int x2 :: .int x :: st) S P ↔ rn G mm_Model_lay 152 lv (.int (x * x2) :: st) S P := rn_s dq_Model_lay_151 rfl rfl rfl
theorem dq_Model_lay_152 : decode (km_c mm_Model_lay) 152 = .ok (.iadd, 1) := by decide +kernel
theorem sq_Model_lay_152 : rn G mm_Model_lay 152 lv (.int x2 :: .int x :: st) S P ↔ rn G mm_Model_lay 153 lv (.int (x + x2) :: st) S P := rn_s dq_Model_lay_152 rfl rfl rfl
theorem dq_Model_lay_153 : decode (km_c mm_Model_lay) 153 = .ok (.iconst 1, 1) := by decide +kernel
theorem sq_Model_lay_153 : rn G mm_Model_lay 153 lv st S P ↔ rn G mm_Model_lay 154 lv (.int (nI 1) :: st) S P := rn_s dq_Model_lay_153 rfl rfl rfl
theorem dq_Model_lay_154 : decode (km_c mm_Model_lay) 154 = .ok (.iadd, 1) := by decide +kernel
theorem sq_Model_lay_154 : rn G mm_Model_lay 154 lv (.int x2 :: .int x :: st) S P ↔ rn G mm_Model_lay 155 lv (.int (x + x2) :: st) S P := rn_s dq_Model_lay_154 rfl rfl rfl
theorem dq_Model_lay_155 : decode (km_c mm_Model_lay) 155 = .ok (.aload_n 0, 1) := by decide +kernel
theorem sq_Model_lay_155 : rn G mm_Model_lay 155 [some (.ref z), a1, a2, a3, a4, a5, a6, a7, a8] st S P ↔ rn G mm_Model_lay 156 [some (.ref z), a1, a2, a3, a4, a5, a6, a7, a8] (.ref z :: st) S P := rn_s dq_Model_lay_155 rfl rfl rfl
theorem dq_Model_lay_156 : decode (km_c mm_Model_lay) 156 = .ok (.getfield 53, 3) := by decide +kernel
theorem sq_Model_lay_156_45 (ho : sx_o o pl kp) : rn (lt_G o L) mm_Model_lay 156 lv (.ref 45 :: st) (sx pl kp I A) P ↔ rn (lt_G o L) mm_Model_lay 159 lv (.ref 58 :: st) (sx pl kp I A) P := rx_get (h := "") (ci := 10) (k := 22) dq_Model_lay_156 (by decide +kernel) ho (up_b (by decide)) rfl rfl (fl_r (by decide) (by decide) (by decide) (by decide))
theorem dq_Model_lay_159 : decode (km_c mm_Model_lay) 159 = .ok (.iload_n 2, 1) := by decide +kernel
theorem sq_Model_lay_159 : rn G mm_Model_lay 159 [a0, a1, some (.int x), a3, a4, a5, a6, a7, a8] st S P ↔ rn G mm_Model_lay 160 [a0, a1, some (.int x), a3, a4, a5, a6, a7, a8] (.int x :: st) S P := rn_s dq_Model_lay_159 rfl rfl rfl
theorem dq_Model_lay_160 : decode (km_c mm_Model_lay) 160 = .ok (.iaload, 1) := by decide +kernel
theorem sq_Model_lay_160 (ho : sx_o o pl kp) (hk : ak L a = 0) (hu : sx_up pl kp a = true ∨ 1000 ≤ a) (hc : c < ln L a) (hn : ln L a < 2 ^ 31) : rn (lt_G o L) mm_Model_lay 160 lv (.int (nI c) :: .ref a :: st) (sx pl kp I A) P ↔ rn (lt_G o L) mm_Model_lay 161 lv (.int (A a c) :: st) (sx pl kp I A) P := rx_ild dq_Model_lay_160 ho hk hu hc hn
theorem dq_Model_lay_161 : decode (km_c mm_Model_lay) 161 = .ok (.if_icmp .ne 8, 3) := by decide +kernel
theorem sq_Model_lay_161 : rn G mm_Model_lay 161 lv (.int x2 :: .int x :: st) S P ↔ ((¬ x = x2 → rn G mm_Model_lay 169 lv st S P) ∧ (¬ (¬ x = x2) → rn G mm_Model_lay 164 lv st S P)) := rn_b (off := 8) dq_Model_lay_161 rfl rfl rfl rfl
theorem dq_Model_lay_164 : decode (km_c mm_Model_lay) 164 = .ok (.iload 8, 2) := by decide +kernel
theorem sq_Model_lay_164 : rn G mm_Model_lay 164 [a0, a1, a2, a3, a4, a5, a6, a7, some (.int x)] st S P ↔ rn G mm_Model_lay 166 [a0, a1, a2, a3, a4, a5, a6, a7, some (.int x)] (.int x :: st) S P := rn_s dq_Model_lay_164 rfl rfl rfl
theorem dq_Model_lay_166 : decode (km_c mm_Model_lay) 166 = .ok (.goto 5, 3) := by decide +kernel
theorem sq_Model_lay_166 : rn G mm_Model_lay 166 lv st S P ↔ rn G mm_Model_lay 171 lv st S P := rn_s dq_Model_lay_166 rfl rfl rfl
theorem dq_Model_lay_169 : decode (km_c mm_Model_lay) 169 = .ok (.iload 5, 2) := by decide +kernel
theorem sq_Model_lay_169 : rn G mm_Model_lay 169 [a0, a1, a2, a3, a4, some (.int x), a6, a7, a8] st S P ↔ rn G mm_Model_lay 171 [a0, a1, a2, a3, a4, some (.int x), a6, a7, a8] (.int x :: st) S P := rn_s dq_Model_lay_169 rfl rfl rfl
theorem dq_Model_lay_171 : decode (km_c mm_Model_lay) 171 = .ok (.istore 5, 2) := by decide +kernel
theorem sq_Model_lay_171n : rn G mm_Model_lay 171 [a0, a1, a2, a3, none, a5, a6, a7, a8] (.int x :: st) S P ↔ rn G mm_Model_lay 173 [a0, a1, a2, a3, none, some (.int x), a6, a7, a8] st S P := rn_s dq_Model_lay_171 rfl rfl rfl
theorem sq_Model_lay_171i : rn G mm_Model_lay 171 [a0, a1, a2, a3, some (.int x2), a5, a6, a7, a8] (.int x :: st) S P ↔ rn G mm_Model_lay 173 [a0, a1, a2, a3, some (.int x2), some (.int x), a6, a7, a8] st S P := rn_s dq_Model_lay_171 rfl rfl rfl
theorem sq_Model_lay_171r : rn G mm_Model_lay 171 [a0, a1, a2, a3, some (.ref z2), a5, a6, a7, a8] (.int x :: st) S P ↔ rn G mm_Model_lay 173 [a0, a1, a2, a3, some (.ref z2), some (.int x), a6, a7, a8] st S P := rn_s dq_Model_lay_171 rfl rfl rfl
theorem dq_Model_lay_173 : decode (km_c mm_Model_lay) 173 = .ok (.iinc 6 (-1), 3) := by decide +kernel
theorem sq_Model_lay_173n : rn G mm_Model_lay 173 [a0, a1, a2, a3, a4, none, some (.int x), a7, a8] st S P ↔ rn G mm_Model_lay 176 [a0, a1, a2, a3, a4, none, some (.int (x + (-1))), a7, a8] st S P := rn_s dq_Model_lay_173 rfl rfl rfl
theorem sq_Model_lay_173i : rn G mm_Model_lay 173 [a0, a1, a2, a3, a4, some (.int x2), some (.int x), a7, a8] st S P ↔ rn G mm_Model_lay 176 [a0, a1, a2, a3, a4, some (.int x2), some (.int (x + (-1))), a7, a8] st S P := rn_s dq_Model_lay_173 rfl rfl rfl
theorem sq_Model_lay_173r : rn G mm_Model_lay 173 [a0, a1, a2, a3, a4, some (.ref z2), some (.int x), a7, a8] st S P ↔ rn G mm_Model_lay 176 [a0, a1, a2, a3, a4, some (.ref z2), some (.int (x + (-1))), a7, a8] st S P := rn_s dq_Model_lay_173 rfl rfl rfl
theorem dq_Model_lay_176 : decode (km_c mm_Model_lay) 176 = .ok (.goto (-92), 3) := by decide +kernel
theorem sq_Model_lay_176 : rn G mm_Model_lay 176 lv st S P ↔ rn G mm_Model_lay 84 lv st S P := rn_s dq_Model_lay_176 rfl rfl rfl
theorem dq_Model_lay_179 : decode (km_c mm_Model_lay) 179 = .ok (.iload 5, 2) := by decide +kernel
theorem sq_Model_lay_179 : rn G mm_Model_lay 179 [a0, a1, a2, a3, a4, some (.int x), a6, a7, a8] st S P ↔ rn G mm_Model_lay 181 [a0, a1, a2, a3, a4, some (.int x), a6, a7, a8] (.int x :: st) S P := rn_s dq_Model_lay_179 rfl rfl rfl
theorem dq_Model_lay_181 : decode (km_c mm_Model_lay) 181 = .ok (.istore_n 2, 1) := by decide +kernel
theorem sq_Model_lay_181n : rn G mm_Model_lay 181 [a0, none, a2, a3, a4, a5, a6, a7, a8] (.int x :: st) S P ↔ rn G mm_Model_lay 182 [a0, none, some (.int x), a3, a4, a5, a6, a7, a8] st S P := rn_s dq_Model_lay_181 rfl rfl rfl
theorem sq_Model_lay_181i : rn G mm_Model_lay 181 [a0, some (.int x2), a2, a3, a4, a5, a6, a7, a8] (.int x :: st) S P ↔ rn G mm_Model_lay 182 [a0, some (.int x2), some (.int x), a3, a4, a5, a6, a7, a8] st S P := rn_s dq_Model_lay_181 rfl rfl rfl
theorem sq_Model_lay_181r : rn G mm_Model_lay 181 [a0, some (.ref z2), a2, a3, a4, a5, a6, a7, a8] (.int x :: st) S P ↔ rn G mm_Model_lay 182 [a0, some (.ref z2), some (.int x), a3, a4, a5, a6, a7, a8] st S P := rn_s dq_Model_lay_181 rfl rfl rfl
theorem dq_Model_lay_182 : decode (km_c mm_Model_lay) 182 = .ok (.aload_n 0, 1) := by decide +kernel
theorem sq_Model_lay_182 : rn G mm_Model_lay 182 [some (.ref z), a1, a2, a3, a4, a5, a6, a7, a8] st S P ↔ rn G mm_Model_lay 183 [some (.ref z), a1, a2, a3, a4, a5, a6, a7, a8] (.ref z :: st) S P := rn_s dq_Model_lay_182 rfl rfl rfl
theorem dq_Model_lay_183 : decode (km_c mm_Model_lay) 183 = .ok (.getfield 23, 3) := by decide +kernel
theorem sq_Model_lay_183_45 (ho : sx_o o pl kp) : rn (lt_G o L) mm_Model_lay 183 lv (.ref 45 :: st) (sx pl kp I A) P ↔ rn (lt_G o L) mm_Model_lay 186 lv (.ref 49 :: st) (sx pl kp I A) P := rx_get (h := "") (ci := 10) (k := 7) dq_Model_lay_183 (by decide +kernel) ho (up_b (by decide)) rfl rfl (fl_r (by decide) (by decide) (by decide) (by decide))
theorem dq_Model_lay_186 : decode (km_c mm_Model_lay) 186 = .ok (.iload 4, 2) := by decide +kernel
theorem sq_Model_lay_186 : rn G mm_Model_lay 186 [a0, a1, a2, a3, some (.int x), a5, a6, a7, a8] st S P ↔ rn G mm_Model_lay 188 [a0, a1, a2, a3, some (.int x), a5, a6, a7, a8] (.int x :: st) S P := rn_s dq_Model_lay_186 rfl rfl rfl
theorem dq_Model_lay_188 : decode (km_c mm_Model_lay) 188 = .ok (.iload_n 2, 1) := by decide +kernel
theorem sq_Model_lay_188 : rn G mm_Model_lay 188 [a0, a1, some (.int x), a3, a4, a5, a6, a7, a8] st S P ↔ rn G mm_Model_lay 189 [a0, a1, some (.int x), a3, a4, a5, a6, a7, a8] (.int x :: st) S P := rn_s dq_Model_lay_188 rfl rfl rfl
theorem dq_Model_lay_189 : decode (km_c mm_Model_lay) 189 = .ok (.bipush 64, 2) := by decide +kernel
theorem sq_Model_lay_189 : rn G mm_Model_lay 189 lv st S P ↔ rn G mm_Model_lay 191 lv (.int (nI 64) :: st) S P := rn_s dq_Model_lay_189 rfl rfl rfl
theorem dq_Model_lay_191 : decode (km_c mm_Model_lay) 191 = .ok (.idiv, 1) := by decide +kernel
theorem sq_Model_lay_191 (hz : ¬ x2 = 0) : rn G mm_Model_lay 191 lv (.int x2 :: .int x :: st) S P ↔ rn G mm_Model_lay 192 lv (.int (x / x2) :: st) S P := rn_s dq_Model_lay_191 rfl rfl (if_neg hz)
theorem dq_Model_lay_192 : decode (km_c mm_Model_lay) 192 = .ok (.iastore, 1) := by decide +kernel
theorem sq_Model_lay_192 (ho : sx_o o pl kp) (hk : ak L a = 0) (hu : sx_up pl kp a = true) (hc : c < ln L a) (hn : ln L a < 2 ^ 31) : rn (lt_G o L) mm_Model_lay 192 lv (.int x :: .int (nI c) :: .ref a :: st) (sx pl kp I A) P ↔ rn (lt_G o L) mm_Model_lay 193 lv st (sx pl kp I (u2 A a c x)) P := rx_ist dq_Model_lay_192 ho hk hu hc hn
theorem dq_Model_lay_193 : decode (km_c mm_Model_lay) 193 = .ok (.iinc 4 1, 3) := by decide +kernel
theorem sq_Model_lay_193n : rn G mm_Model_lay 193 [a0, a1, a2, none, some (.int x), a5, a6, a7, a8] st S P ↔ rn G mm_Model_lay 196 [a0, a1, a2, none, some (.int (x + nI 1)), a5, a6, a7, a8] st S P := rn_s dq_Model_lay_193 rfl rfl rfl
theorem sq_Model_lay_193i : rn G mm_Model_lay 193 [a0, a1, a2, some (.int x2), some (.int x), a5, a6, a7, a8] st S P ↔ rn G mm_Model_lay 196 [a0, a1, a2, some (.int x2), some (.int (x + nI 1)), a5, a6, a7, a8] st S P := rn_s dq_Model_lay_193 rfl rfl rfl
theorem sq_Model_lay_193r : rn G mm_Model_lay 193 [a0, a1, a2, some (.ref z2), some (.int x), a5, a6, a7, a8] st S P ↔ rn G mm_Model_lay 196 [a0, a1, a2, some (.ref z2), some (.int (x + nI 1)), a5, a6, a7, a8] st S P := rn_s dq_Model_lay_193 rfl rfl rfl
theorem dq_Model_lay_196 : decode (km_c mm_Model_lay) 196 = .ok (.goto (-124), 3) := by decide +kernel
theorem sq_Model_lay_196 : rn G mm_Model_lay 196 lv st S P ↔ rn G mm_Model_lay 72 lv st S P := rn_s dq_Model_lay_196 rfl rfl rfl
theorem dq_Model_lay_199 : decode (km_c mm_Model_lay) 199 = .ok (.aload_n 0, 1) := by decide +kernel
theorem sq_Model_lay_199 : rn G mm_Model_lay 199 [some (.ref z), a1, a2, a3, a4, a5, a6, a7, a8] st S P ↔ rn G mm_Model_lay 200 [some (.ref z), a1, a2, a3, a4, a5, a6, a7, a8] (.ref z :: st) S P := rn_s dq_Model_lay_199 rfl rfl rfl
theorem dq_Model_lay_200 : decode (km_c mm_Model_lay) 200 = .ok (.iload_n 3, 1) := by decide +kernel
theorem sq_Model_lay_200 : rn G mm_Model_lay 200 [a0, a1, a2, some (.int x), a4, a5, a6, a7, a8] st S P ↔ rn G mm_Model_lay 201 [a0, a1, a2, some (.int x), a4, a5, a6, a7, a8] (.int x :: st) S P := rn_s dq_Model_lay_200 rfl rfl rfl
theorem dq_Model_lay_201 : decode (km_c mm_Model_lay) 201 = .ok (.putfield 134, 3) := by decide +kernel
theorem sq_Model_lay_201_45 (ho : sx_o o pl kp) : rn (lt_G o L) mm_Model_lay 201 lv (.int x :: .ref 45 :: st) (sx pl kp I A) P ↔ rn (lt_G o L) mm_Model_lay 204 lv st (sx pl kp (u2 I 45 8 x) A) P := rx_put (h := "") (ci := 10) (k := 8) dq_Model_lay_201 (by decide +kernel) ho (up_b (by decide)) rfl rfl (by decide) (by decide)
theorem dq_Model_lay_204 : decode (km_c mm_Model_lay) 204 = .ok (.iload_n 3, 1) := by decide +kernel
theorem sq_Model_lay_204 : rn G mm_Model_lay 204 [a0, a1, a2, some (.int x), a4, a5, a6, a7, a8] st S P ↔ rn G mm_Model_lay 205 [a0, a1, a2, some (.int x), a4, a5, a6, a7, a8] (.int x :: st) S P := rn_s dq_Model_lay_204 rfl rfl rfl
theorem dq_Model_lay_205 : decode (km_c mm_Model_lay) 205 = .ok (.ireturn, 1) := by decide +kernel
theorem sq_Model_lay_205 : rn G mm_Model_lay 205 lv [.int x] S P ↔ P (some (.int x)) S := rn_ir dq_Model_lay_205 rfl
theorem dq_Model_findLeft_0 : decode (km_c mm_Model_findLeft) 0 = .ok (.iconst 0, 1) := by decide +kernel
theorem sq_Model_findLeft_0 : rn G mm_Model_findLeft 0 lv st S P ↔ rn G mm_Model_findLeft 1 lv (.int (nI 0) :: st) S P := rn_s dq_Model_findLeft_0 rfl rfl rfl
theorem dq_Model_findLeft_1 : decode (km_c mm_Model_findLeft) 1 = .ok (.istore_n 2, 1) := by decide +kernel
theorem sq_Model_findLeft_1n : rn G mm_Model_findLeft 1 [a0, none, a2, a3, a4, a5, a6] (.int x :: st) S P ↔ rn G mm_Model_findLeft 2 [a0, none, some (.int x), a3, a4, a5, a6] st S P := rn_s dq_Model_findLeft_1 rfl rfl rfl
theorem sq_Model_findLeft_1i : rn G mm_Model_findLeft 1 [a0, some (.int x2), a2, a3, a4, a5, a6] (.int x :: st) S P ↔ rn G mm_Model_findLeft 2 [a0, some (.int x2), some (.int x), a3, a4, a5, a6] st S P := rn_s dq_Model_findLeft_1 rfl rfl rfl
theorem sq_Model_findLeft_1r : rn G mm_Model_findLeft 1 [a0, some (.ref z2), a2, a3, a4, a5, a6] (.int x :: st) S P ↔ rn G mm_Model_findLeft 2 [a0, some (.ref z2), some (.int x), a3, a4, a5, a6] st S P := rn_s dq_Model_findLeft_1 rfl rfl rfl
theorem dq_Model_findLeft_2 : decode (km_c mm_Model_findLeft) 2 = .ok (.iload_n 2, 1) := by decide +kernel
theorem sq_Model_findLeft_2 : rn G mm_Model_findLeft 2 [a0, a1, some (.int x), a3, a4, a5, a6] st S P ↔ rn G mm_Model_findLeft 3 [a0, a1, some (.int x), a3, a4, a5, a6] (.int x :: st) S P := rn_s dq_Model_findLeft_2 rfl rfl rfl
theorem dq_Model_findLeft_3 : decode (km_c mm_Model_findLeft) 3 = .ok (.sipush 3136, 3) := by decide +kernel
theorem sq_Model_findLeft_3 : rn G mm_Model_findLeft 3 lv st S P ↔ rn G mm_Model_findLeft 6 lv (.int (nI 3136) :: st) S P := rn_s dq_Model_findLeft_3 rfl rfl rfl
theorem dq_Model_findLeft_6 : decode (km_c mm_Model_findLeft) 6 = .ok (.if_icmp .ge 42, 3) := by decide +kernel
theorem sq_Model_findLeft_6 : rn G mm_Model_findLeft 6 lv (.int x2 :: .int x :: st) S P ↔ ((x2 ≤ x → rn G mm_Model_findLeft 48 lv st S P) ∧ (¬ (x2 ≤ x) → rn G mm_Model_findLeft 9 lv st S P)) := rn_b (off := 42) dq_Model_findLeft_6 rfl rfl rfl rfl
theorem dq_Model_findLeft_9 : decode (km_c mm_Model_findLeft) 9 = .ok (.aload_n 0, 1) := by decide +kernel
theorem sq_Model_findLeft_9 : rn G mm_Model_findLeft 9 [some (.ref z), a1, a2, a3, a4, a5, a6] st S P ↔ rn G mm_Model_findLeft 10 [some (.ref z), a1, a2, a3, a4, a5, a6] (.ref z :: st) S P := rn_s dq_Model_findLeft_9 rfl rfl rfl
theorem dq_Model_findLeft_10 : decode (km_c mm_Model_findLeft) 10 = .ok (.getfield 53, 3) := by decide +kernel
theorem sq_Model_findLeft_10_45 (ho : sx_o o pl kp) : rn (lt_G o L) mm_Model_findLeft 10 lv (.ref 45 :: st) (sx pl kp I A) P ↔ rn (lt_G o L) mm_Model_findLeft 13 lv (.ref 58 :: st) (sx pl kp I A) P := rx_get (h := "") (ci := 10) (k := 22) dq_Model_findLeft_10 (by decide +kernel) ho (up_b (by decide)) rfl rfl (fl_r (by decide) (by decide) (by decide) (by decide))
theorem dq_Model_findLeft_13 : decode (km_c mm_Model_findLeft) 13 = .ok (.iload_n 2, 1) := by decide +kernel
theorem sq_Model_findLeft_13 : rn G mm_Model_findLeft 13 [a0, a1, some (.int x), a3, a4, a5, a6] st S P ↔ rn G mm_Model_findLeft 14 [a0, a1, some (.int x), a3, a4, a5, a6] (.int x :: st) S P := rn_s dq_Model_findLeft_13 rfl rfl rfl
theorem dq_Model_findLeft_14 : decode (km_c mm_Model_findLeft) 14 = .ok (.iload_n 2, 1) := by decide +kernel
theorem sq_Model_findLeft_14 : rn G mm_Model_findLeft 14 [a0, a1, some (.int x), a3, a4, a5, a6] st S P ↔ rn G mm_Model_findLeft 15 [a0, a1, some (.int x), a3, a4, a5, a6] (.int x :: st) S P := rn_s dq_Model_findLeft_14 rfl rfl rfl
theorem dq_Model_findLeft_15 : decode (km_c mm_Model_findLeft) 15 = .ok (.bipush 64, 2) := by decide +kernel
theorem sq_Model_findLeft_15 : rn G mm_Model_findLeft 15 lv st S P ↔ rn G mm_Model_findLeft 17 lv (.int (nI 64) :: st) S P := rn_s dq_Model_findLeft_15 rfl rfl rfl
theorem dq_Model_findLeft_17 : decode (km_c mm_Model_findLeft) 17 = .ok (.idiv, 1) := by decide +kernel
theorem sq_Model_findLeft_17 (hz : ¬ x2 = 0) : rn G mm_Model_findLeft 17 lv (.int x2 :: .int x :: st) S P ↔ rn G mm_Model_findLeft 18 lv (.int (x / x2) :: st) S P := rn_s dq_Model_findLeft_17 rfl rfl (if_neg hz)
theorem dq_Model_findLeft_18 : decode (km_c mm_Model_findLeft) 18 = .ok (.aload_n 0, 1) := by decide +kernel
theorem sq_Model_findLeft_18 : rn G mm_Model_findLeft 18 [some (.ref z), a1, a2, a3, a4, a5, a6] st S P ↔ rn G mm_Model_findLeft 19 [some (.ref z), a1, a2, a3, a4, a5, a6] (.ref z :: st) S P := rn_s dq_Model_findLeft_18 rfl rfl rfl
theorem dq_Model_findLeft_19 : decode (km_c mm_Model_findLeft) 19 = .ok (.getfield 19, 3) := by decide +kernel
theorem sq_Model_findLeft_19_45 (ho : sx_o o pl kp) : rn (lt_G o L) mm_Model_findLeft 19 lv (.ref 45 :: st) (sx pl kp I A) P ↔ rn (lt_G o L) mm_Model_findLeft 22 lv (.int (I 45 6) :: st) (sx pl kp I A) P := rx_get (h := "") (ci := 10) (k := 6) dq_Model_findLeft_19 (by decide +kernel) ho (up_b (by decide)) rfl rfl (fl_i (by decide))
theorem dq_Model_findLeft_22 : decode (km_c mm_Model_findLeft) 22 = .ok (.if_icmp .ne 17, 3) := by decide +kernel
theorem sq_Model_findLeft_22 : rn G mm_Model_findLeft 22 lv (.int x2 :: .int x :: st) S P ↔ ((¬ x = x2 → rn G mm_Model_findLeft 39 lv st S P) ∧ (¬ (¬ x = x2) → rn G mm_Model_findLeft 25 lv st S P)) := rn_b (off := 17) dq_Model_findLeft_22 rfl rfl rfl rfl
theorem dq_Model_findLeft_25 : decode (km_c mm_Model_findLeft) 25 = .ok (.iload_n 2, 1) := by decide +kernel
theorem sq_Model_findLeft_25 : rn G mm_Model_findLeft 25 [a0, a1, some (.int x), a3, a4, a5, a6] st S P ↔ rn G mm_Model_findLeft 26 [a0, a1, some (.int x), a3, a4, a5, a6] (.int x :: st) S P := rn_s dq_Model_findLeft_25 rfl rfl rfl
theorem dq_Model_findLeft_26 : decode (km_c mm_Model_findLeft) 26 = .ok (.bipush 64, 2) := by decide +kernel
theorem sq_Model_findLeft_26 : rn G mm_Model_findLeft 26 lv st S P ↔ rn G mm_Model_findLeft 28 lv (.int (nI 64) :: st) S P := rn_s dq_Model_findLeft_26 rfl rfl rfl
theorem dq_Model_findLeft_28 : decode (km_c mm_Model_findLeft) 28 = .ok (.irem, 1) := by decide +kernel
theorem sq_Model_findLeft_28 (hz : ¬ x2 = 0) : rn G mm_Model_findLeft 28 lv (.int x2 :: .int x :: st) S P ↔ rn G mm_Model_findLeft 29 lv (.int (x - x / x2 * x2) :: st) S P := rn_s dq_Model_findLeft_28 rfl rfl (if_neg hz)
theorem dq_Model_findLeft_29 : decode (km_c mm_Model_findLeft) 29 = .ok (.iload_n 1, 1) := by decide +kernel
theorem sq_Model_findLeft_29 : rn G mm_Model_findLeft 29 [a0, some (.int x), a2, a3, a4, a5, a6] st S P ↔ rn G mm_Model_findLeft 30 [a0, some (.int x), a2, a3, a4, a5, a6] (.int x :: st) S P := rn_s dq_Model_findLeft_29 rfl rfl rfl
theorem dq_Model_findLeft_30 : decode (km_c mm_Model_findLeft) 30 = .ok (.iand, 1) := by decide +kernel
theorem sq_Model_findLeft_30 : rn G mm_Model_findLeft 30 lv (.int x2 :: .int x :: st) S P ↔ rn G mm_Model_findLeft 31 lv (.int (x &&& x2) :: st) S P := rn_s dq_Model_findLeft_30 rfl rfl rfl
theorem dq_Model_findLeft_31 : decode (km_c mm_Model_findLeft) 31 = .ok (.iload_n 1, 1) := by decide +kernel
theorem sq_Model_findLeft_31 : rn G mm_Model_findLeft 31 [a0, some (.int x), a2, a3, a4, a5, a6] st S P ↔ rn G mm_Model_findLeft 32 [a0, some (.int x), a2, a3, a4, a5, a6] (.int x :: st) S P := rn_s dq_Model_findLeft_31 rfl rfl rfl
theorem dq_Model_findLeft_32 : decode (km_c mm_Model_findLeft) 32 = .ok (.if_icmp .ne 7, 3) := by decide +kernel
theorem sq_Model_findLeft_32 : rn G mm_Model_findLeft 32 lv (.int x2 :: .int x :: st) S P ↔ ((¬ x = x2 → rn G mm_Model_findLeft 39 lv st S P) ∧ (¬ (¬ x = x2) → rn G mm_Model_findLeft 35 lv st S P)) := rn_b (off := 7) dq_Model_findLeft_32 rfl rfl rfl rfl
theorem dq_Model_findLeft_35 : decode (km_c mm_Model_findLeft) 35 = .ok (.iconst 0, 1) := by decide +kernel
theorem sq_Model_findLeft_35 : rn G mm_Model_findLeft 35 lv st S P ↔ rn G mm_Model_findLeft 36 lv (.int (nI 0) :: st) S P := rn_s dq_Model_findLeft_35 rfl rfl rfl
theorem dq_Model_findLeft_36 : decode (km_c mm_Model_findLeft) 36 = .ok (.goto 5, 3) := by decide +kernel
theorem sq_Model_findLeft_36 : rn G mm_Model_findLeft 36 lv st S P ↔ rn G mm_Model_findLeft 41 lv st S P := rn_s dq_Model_findLeft_36 rfl rfl rfl
theorem dq_Model_findLeft_39 : decode (km_c mm_Model_findLeft) 39 = .ok (.ldc 195, 2) := by decide +kernel
theorem sq_Model_findLeft_39 : rn G mm_Model_findLeft 39 lv st S P ↔ rn G mm_Model_findLeft 41 lv (.int (nI 1000000000) :: st) S P := rn_s dq_Model_findLeft_39 rfl rfl rfl
theorem dq_Model_findLeft_41 : decode (km_c mm_Model_findLeft) 41 = .ok (.iastore, 1) := by decide +kernel
theorem sq_Model_findLeft_41 (ho : sx_o o pl kp) (hk : ak L a = 0) (hu : sx_up pl kp a = true) (hc : c < ln L a) (hn : ln L a < 2 ^ 31) : rn (lt_G o L) mm_Model_findLeft 41 lv (.int x :: .int (nI c) :: .ref a :: st) (sx pl kp I A) P ↔ rn (lt_G o L) mm_Model_findLeft 42 lv st (sx pl kp I (u2 A a c x)) P := rx_ist dq_Model_findLeft_41 ho hk hu hc hn
theorem dq_Model_findLeft_42 : decode (km_c mm_Model_findLeft) 42 = .ok (.iinc 2 1, 3) := by decide +kernel
theorem sq_Model_findLeft_42n : rn G mm_Model_findLeft 42 [a0, none, some (.int x), a3, a4, a5, a6] st S P ↔ rn G mm_Model_findLeft 45 [a0, none, some (.int (x + nI 1)), a3, a4, a5, a6] st S P := rn_s dq_Model_findLeft_42 rfl rfl rfl
theorem sq_Model_findLeft_42i : rn G mm_Model_findLeft 42 [a0, some (.int x2), some (.int x), a3, a4, a5, a6] st S P ↔ rn G mm_Model_findLeft 45 [a0, some (.int x2), some (.int (x + nI 1)), a3, a4, a5, a6] st S P := rn_s dq_Model_findLeft_42 rfl rfl rfl
theorem sq_Model_findLeft_42r : rn G mm_Model_findLeft 42 [a0, some (.ref z2), some (.int x), a3, a4, a5, a6] st S P ↔ rn G mm_Model_findLeft 45 [a0, some (.ref z2), some (.int (x + nI 1)), a3, a4, a5, a6] st S P := rn_s dq_Model_findLeft_42 rfl rfl rfl
theorem dq_Model_findLeft_45 : decode (km_c mm_Model_findLeft) 45 = .ok (.goto (-43), 3) := by decide +kernel
theorem sq_Model_findLeft_45 : rn G mm_Model_findLeft 45 lv st S P ↔ rn G mm_Model_findLeft 2 lv st S P := rn_s dq_Model_findLeft_45 rfl rfl rfl
theorem dq_Model_findLeft_48 : decode (km_c mm_Model_findLeft) 48 = .ok (.iconst 1, 1) := by decide +kernel
theorem sq_Model_findLeft_48 : rn G mm_Model_findLeft 48 lv st S P ↔ rn G mm_Model_findLeft 49 lv (.int (nI 1) :: st) S P := rn_s dq_Model_findLeft_48 rfl rfl rfl
theorem dq_Model_findLeft_49 : decode (km_c mm_Model_findLeft) 49 = .ok (.istore_n 2, 1) := by decide +kernel
theorem sq_Model_findLeft_49n : rn G mm_Model_findLeft 49 [a0, none, a2, a3, a4, a5, a6] (.int x :: st) S P ↔ rn G mm_Model_findLeft 50 [a0, none, some (.int x), a3, a4, a5, a6] st S P := rn_s dq_Model_findLeft_49 rfl rfl rfl
theorem sq_Model_findLeft_49i : rn G mm_Model_findLeft 49 [a0, some (.int x2), a2, a3, a4, a5, a6] (.int x :: st) S P ↔ rn G mm_Model_findLeft 50 [a0, some (.int x2), some (.int x), a3, a4, a5, a6] st S P := rn_s dq_Model_findLeft_49 rfl rfl rfl
theorem sq_Model_findLeft_49r : rn G mm_Model_findLeft 49 [a0, some (.ref z2), a2, a3, a4, a5, a6] (.int x :: st) S P ↔ rn G mm_Model_findLeft 50 [a0, some (.ref z2), some (.int x), a3, a4, a5, a6] st S P := rn_s dq_Model_findLeft_49 rfl rfl rfl
theorem dq_Model_findLeft_50 : decode (km_c mm_Model_findLeft) 50 = .ok (.iload_n 2, 1) := by decide +kernel
theorem sq_Model_findLeft_50 : rn G mm_Model_findLeft 50 [a0, a1, some (.int x), a3, a4, a5, a6] st S P ↔ rn G mm_Model_findLeft 51 [a0, a1, some (.int x), a3, a4, a5, a6] (.int x :: st) S P := rn_s dq_Model_findLeft_50 rfl rfl rfl
theorem dq_Model_findLeft_51 : decode (km_c mm_Model_findLeft) 51 = .ok (.ifCond .eq 119, 3) := by decide +kernel
theorem sq_Model_findLeft_51 : rn G mm_Model_findLeft 51 lv (.int x :: st) S P ↔ ((x = 0 → rn G mm_Model_findLeft 170 lv st S P) ∧ (¬ (x = 0) → rn G mm_Model_findLeft 54 lv st S P)) := rn_b (off := 119) dq_Model_findLeft_51 rfl rfl rfl rfl
theorem dq_Model_findLeft_54 : decode (km_c mm_Model_findLeft) 54 = .ok (.iconst 0, 1) := by decide +kernel
theorem sq_Model_findLeft_54 : rn G mm_Model_findLeft 54 lv st S P ↔ rn G mm_Model_findLeft 55 lv (.int (nI 0) :: st) S P := rn_s dq_Model_findLeft_54 rfl rfl rfl
theorem dq_Model_findLeft_55 : decode (km_c mm_Model_findLeft) 55 = .ok (.istore_n 2, 1) := by decide +kernel
theorem sq_Model_findLeft_55n : rn G mm_Model_findLeft 55 [a0, none, a2, a3, a4, a5, a6] (.int x :: st) S P ↔ rn G mm_Model_findLeft 56 [a0, none, some (.int x), a3, a4, a5, a6] st S P := rn_s dq_Model_findLeft_55 rfl rfl rfl
theorem sq_Model_findLeft_55i : rn G mm_Model_findLeft 55 [a0, some (.int x2), a2, a3, a4, a5, a6] (.int x :: st) S P ↔ rn G mm_Model_findLeft 56 [a0, some (.int x2), some (.int x), a3, a4, a5, a6] st S P := rn_s dq_Model_findLeft_55 rfl rfl rfl
theorem sq_Model_findLeft_55r : rn G mm_Model_findLeft 55 [a0, some (.ref z2), a2, a3, a4, a5, a6] (.int x :: st) S P ↔ rn G mm_Model_findLeft 56 [a0, some (.ref z2), some (.int x), a3, a4, a5, a6] st S P := rn_s dq_Model_findLeft_55 rfl rfl rfl
theorem dq_Model_findLeft_56 : decode (km_c mm_Model_findLeft) 56 = .ok (.iconst 0, 1) := by decide +kernel
theorem sq_Model_findLeft_56 : rn G mm_Model_findLeft 56 lv st S P ↔ rn G mm_Model_findLeft 57 lv (.int (nI 0) :: st) S P := rn_s dq_Model_findLeft_56 rfl rfl rfl
theorem dq_Model_findLeft_57 : decode (km_c mm_Model_findLeft) 57 = .ok (.istore_n 3, 1) := by decide +kernel
theorem sq_Model_findLeft_57n : rn G mm_Model_findLeft 57 [a0, a1, none, a3, a4, a5, a6] (.int x :: st) S P ↔ rn G mm_Model_findLeft 58 [a0, a1, none, some (.int x), a4, a5, a6] st S P := rn_s dq_Model_findLeft_57 rfl rfl rfl
theorem sq_Model_findLeft_57i : rn G mm_Model_findLeft 57 [a0, a1, some (.int x2), a3, a4, a5, a6] (.int x :: st) S P ↔ rn G mm_Model_findLeft 58 [a0, a1, some (.int x2), some (.int x), a4, a5, a6] st S P := rn_s dq_Model_findLeft_57 rfl rfl rfl
theorem sq_Model_findLeft_57r : rn G mm_Model_findLeft 57 [a0, a1, some (.ref z2), a3, a4, a5, a6] (.int x :: st) S P ↔ rn G mm_Model_findLeft 58 [a0, a1, some (.ref z2), some (.int x), a4, a5, a6] st S P := rn_s dq_Model_findLeft_57 rfl rfl rfl
theorem dq_Model_findLeft_58 : decode (km_c mm_Model_findLeft) 58 = .ok (.iload_n 3, 1) := by decide +kernel
theorem sq_Model_findLeft_58 : rn G mm_Model_findLeft 58 [a0, a1, a2, some (.int x), a4, a5, a6] st S P ↔ rn G mm_Model_findLeft 59 [a0, a1, a2, some (.int x), a4, a5, a6] (.int x :: st) S P := rn_s dq_Model_findLeft_58 rfl rfl rfl
theorem dq_Model_findLeft_59 : decode (km_c mm_Model_findLeft) 59 = .ok (.sipush 3136, 3) := by decide +kernel
theorem sq_Model_findLeft_59 : rn G mm_Model_findLeft 59 lv st S P ↔ rn G mm_Model_findLeft 62 lv (.int (nI 3136) :: st) S P := rn_s dq_Model_findLeft_59 rfl rfl rfl
theorem dq_Model_findLeft_62 : decode (km_c mm_Model_findLeft) 62 = .ok (.if_icmp .ge 105, 3) := by decide +kernel
theorem sq_Model_findLeft_62 : rn G mm_Model_findLeft 62 lv (.int x2 :: .int x :: st) S P ↔ ((x2 ≤ x → rn G mm_Model_findLeft 167 lv st S P) ∧ (¬ (x2 ≤ x) → rn G mm_Model_findLeft 65 lv st S P)) := rn_b (off := 105) dq_Model_findLeft_62 rfl rfl rfl rfl
theorem dq_Model_findLeft_65 : decode (km_c mm_Model_findLeft) 65 = .ok (.iconst 0, 1) := by decide +kernel
theorem sq_Model_findLeft_65 : rn G mm_Model_findLeft 65 lv st S P ↔ rn G mm_Model_findLeft 66 lv (.int (nI 0) :: st) S P := rn_s dq_Model_findLeft_65 rfl rfl rfl
theorem dq_Model_findLeft_66 : decode (km_c mm_Model_findLeft) 66 = .ok (.istore 4, 2) := by decide +kernel
theorem sq_Model_findLeft_66n : rn G mm_Model_findLeft 66 [a0, a1, a2, none, a4, a5, a6] (.int x :: st) S P ↔ rn G mm_Model_findLeft 68 [a0, a1, a2, none, some (.int x), a5, a6] st S P := rn_s dq_Model_findLeft_66 rfl rfl rfl
theorem sq_Model_findLeft_66i : rn G mm_Model_findLeft 66 [a0, a1, a2, some (.int x2), a4, a5, a6] (.int x :: st) S P ↔ rn G mm_Model_findLeft 68 [a0, a1, a2, some (.int x2), some (.int x), a5, a6] st S P := rn_s dq_Model_findLeft_66 rfl rfl rfl
theorem sq_Model_findLeft_66r : rn G mm_Model_findLeft 66 [a0, a1, a2, some (.ref z2), a4, a5, a6] (.int x :: st) S P ↔ rn G mm_Model_findLeft 68 [a0, a1, a2, some (.ref z2), some (.int x), a5, a6] st S P := rn_s dq_Model_findLeft_66 rfl rfl rfl
theorem dq_Model_findLeft_68 : decode (km_c mm_Model_findLeft) 68 = .ok (.iload 4, 2) := by decide +kernel
theorem sq_Model_findLeft_68 : rn G mm_Model_findLeft 68 [a0, a1, a2, a3, some (.int x), a5, a6] st S P ↔ rn G mm_Model_findLeft 70 [a0, a1, a2, a3, some (.int x), a5, a6] (.int x :: st) S P := rn_s dq_Model_findLeft_68 rfl rfl rfl
theorem dq_Model_findLeft_70 : decode (km_c mm_Model_findLeft) 70 = .ok (.iconst 4, 1) := by decide +kernel
theorem sq_Model_findLeft_70 : rn G mm_Model_findLeft 70 lv st S P ↔ rn G mm_Model_findLeft 71 lv (.int (nI 4) :: st) S P := rn_s dq_Model_findLeft_70 rfl rfl rfl
theorem dq_Model_findLeft_71 : decode (km_c mm_Model_findLeft) 71 = .ok (.if_icmp .ge 90, 3) := by decide +kernel
theorem sq_Model_findLeft_71 : rn G mm_Model_findLeft 71 lv (.int x2 :: .int x :: st) S P ↔ ((x2 ≤ x → rn G mm_Model_findLeft 161 lv st S P) ∧ (¬ (x2 ≤ x) → rn G mm_Model_findLeft 74 lv st S P)) := rn_b (off := 90) dq_Model_findLeft_71 rfl rfl rfl rfl
theorem dq_Model_findLeft_74 : decode (km_c mm_Model_findLeft) 74 = .ok (.iload_n 3, 1) := by decide +kernel
theorem sq_Model_findLeft_74 : rn G mm_Model_findLeft 74 [a0, a1, a2, some (.int x), a4, a5, a6] st S P ↔ rn G mm_Model_findLeft 75 [a0, a1, a2, some (.int x), a4, a5, a6] (.int x :: st) S P := rn_s dq_Model_findLeft_74 rfl rfl rfl
theorem dq_Model_findLeft_75 : decode (km_c mm_Model_findLeft) 75 = .ok (.bipush 64, 2) := by decide +kernel
theorem sq_Model_findLeft_75 : rn G mm_Model_findLeft 75 lv st S P ↔ rn G mm_Model_findLeft 77 lv (.int (nI 64) :: st) S P := rn_s dq_Model_findLeft_75 rfl rfl rfl
theorem dq_Model_findLeft_77 : decode (km_c mm_Model_findLeft) 77 = .ok (.idiv, 1) := by decide +kernel
theorem sq_Model_findLeft_77 (hz : ¬ x2 = 0) : rn G mm_Model_findLeft 77 lv (.int x2 :: .int x :: st) S P ↔ rn G mm_Model_findLeft 78 lv (.int (x / x2) :: st) S P := rn_s dq_Model_findLeft_77 rfl rfl (if_neg hz)
theorem dq_Model_findLeft_78 : decode (km_c mm_Model_findLeft) 78 = .ok (.iload 4, 2) := by decide +kernel
theorem sq_Model_findLeft_78 : rn G mm_Model_findLeft 78 [a0, a1, a2, a3, some (.int x), a5, a6] st S P ↔ rn G mm_Model_findLeft 80 [a0, a1, a2, a3, some (.int x), a5, a6] (.int x :: st) S P := rn_s dq_Model_findLeft_78 rfl rfl rfl
theorem dq_Model_findLeft_80 : decode (km_c mm_Model_findLeft) 80 = .ok (.invokestatic 80, 3) := by decide +kernel
theorem sq_Model_findLeft_80 {x1 : Int32} {x2 : Int32} {v : Option Value} {S2 : ks_S} (hc : ev G mm_Model_nextTo [.int x1, .int x2] S v S2) (hst : kx_cat st ≤ 8) : rn G mm_Model_findLeft 80 lv (.int x2 :: .int x1 :: st) S P ↔ rn G mm_Model_findLeft 83 lv (v.toList ++ st) S2 P := rn_cs (k := 1) (host := "") (E' := mm_Model_nextTo) dq_Model_findLeft_80 (by decide) (by decide) rfl (ok_v rfl (by decide) (by decide) (Nat.le_add_left _ _) hst (Nat.le_of_ble_eq_true rfl) (Or.inl rfl)) rfl rfl hc
theorem dq_Model_findLeft_83 : decode (km_c mm_Model_findLeft) 83 = .ok (.istore 5, 2) := by decide +kernel
theorem sq_Model_findLeft_83n : rn G mm_Model_findLeft 83 [a0, a1, a2, a3, none, a5, a6] (.int x :: st) S P ↔ rn G mm_Model_findLeft 85 [a0, a1, a2, a3, none, some (.int x), a6] st S P := rn_s dq_Model_findLeft_83 rfl rfl rfl
theorem sq_Model_findLeft_83i : rn G mm_Model_findLeft 83 [a0, a1, a2, a3, some (.int x2), a5, a6] (.int x :: st) S P ↔ rn G mm_Model_findLeft 85 [a0, a1, a2, a3, some (.int x2), some (.int x), a6] st S P := rn_s dq_Model_findLeft_83 rfl rfl rfl
theorem sq_Model_findLeft_83r : rn G mm_Model_findLeft 83 [a0, a1, a2, a3, some (.ref z2), a5, a6] (.int x :: st) S P ↔ rn G mm_Model_findLeft 85 [a0, a1, a2, a3, some (.ref z2), some (.int x), a6] st S P := rn_s dq_Model_findLeft_83 rfl rfl rfl
theorem dq_Model_findLeft_85 : decode (km_c mm_Model_findLeft) 85 = .ok (.iload 5, 2) := by decide +kernel
theorem sq_Model_findLeft_85 : rn G mm_Model_findLeft 85 [a0, a1, a2, a3, a4, some (.int x), a6] st S P ↔ rn G mm_Model_findLeft 87 [a0, a1, a2, a3, a4, some (.int x), a6] (.int x :: st) S P := rn_s dq_Model_findLeft_85 rfl rfl rfl
theorem dq_Model_findLeft_87 : decode (km_c mm_Model_findLeft) 87 = .ok (.ifCond .ge 8, 3) := by decide +kernel
theorem sq_Model_findLeft_87 : rn G mm_Model_findLeft 87 lv (.int x :: st) S P ↔ ((0 ≤ x → rn G mm_Model_findLeft 95 lv st S P) ∧ (¬ (0 ≤ x) → rn G mm_Model_findLeft 90 lv st S P)) := rn_b (off := 8) dq_Model_findLeft_87 rfl rfl rfl rfl
theorem dq_Model_findLeft_90 : decode (km_c mm_Model_findLeft) 90 = .ok (.ldc 195, 2) := by decide +kernel
theorem sq_Model_findLeft_90 : rn G mm_Model_findLeft 90 lv st S P ↔ rn G mm_Model_findLeft 92 lv (.int (nI 1000000000) :: st) S P := rn_s dq_Model_findLeft_90 rfl rfl rfl
theorem dq_Model_findLeft_92 : decode (km_c mm_Model_findLeft) 92 = .ok (.goto 40, 3) := by decide +kernel
theorem sq_Model_findLeft_92 : rn G mm_Model_findLeft 92 lv st S P ↔ rn G mm_Model_findLeft 132 lv st S P := rn_s dq_Model_findLeft_92 rfl rfl rfl
theorem dq_Model_findLeft_95 : decode (km_c mm_Model_findLeft) 95 = .ok (.aload_n 0, 1) := by decide +kernel
theorem sq_Model_findLeft_95 : rn G mm_Model_findLeft 95 [some (.ref z), a1, a2, a3, a4, a5, a6] st S P ↔ rn G mm_Model_findLeft 96 [some (.ref z), a1, a2, a3, a4, a5, a6] (.ref z :: st) S P := rn_s dq_Model_findLeft_95 rfl rfl rfl
theorem dq_Model_findLeft_96 : decode (km_c mm_Model_findLeft) 96 = .ok (.getfield 53, 3) := by decide +kernel
theorem sq_Model_findLeft_96_45 (ho : sx_o o pl kp) : rn (lt_G o L) mm_Model_findLeft 96 lv (.ref 45 :: st) (sx pl kp I A) P ↔ rn (lt_G o L) mm_Model_findLeft 99 lv (.ref 58 :: st) (sx pl kp I A) P := rx_get (h := "") (ci := 10) (k := 22) dq_Model_findLeft_96 (by decide +kernel) ho (up_b (by decide)) rfl rfl (fl_r (by decide) (by decide) (by decide) (by decide))
theorem dq_Model_findLeft_99 : decode (km_c mm_Model_findLeft) 99 = .ok (.bipush 64, 2) := by decide +kernel
theorem sq_Model_findLeft_99 : rn G mm_Model_findLeft 99 lv st S P ↔ rn G mm_Model_findLeft 101 lv (.int (nI 64) :: st) S P := rn_s dq_Model_findLeft_99 rfl rfl rfl
theorem dq_Model_findLeft_101 : decode (km_c mm_Model_findLeft) 101 = .ok (.iload 5, 2) := by decide +kernel
theorem sq_Model_findLeft_101 : rn G mm_Model_findLeft 101 [a0, a1, a2, a3, a4, some (.int x), a6] st S P ↔ rn G mm_Model_findLeft 103 [a0, a1, a2, a3, a4, some (.int x), a6] (.int x :: st) S P := rn_s dq_Model_findLeft_101 rfl rfl rfl
theorem dq_Model_findLeft_103 : decode (km_c mm_Model_findLeft) 103 = .ok (.imul, 1) := by decide +kernel
theorem sq_Model_findLeft_103 : rn G mm_Model_findLeft 103 lv (.int x2 :: .int x :: st) S P ↔ rn G mm_Model_findLeft 104 lv (.int (x * x2) :: st) S P := rn_s dq_Model_findLeft_103 rfl rfl rfl
theorem dq_Model_findLeft_104 : decode (km_c mm_Model_findLeft) 104 = .ok (.iload_n 3, 1) := by decide +kernel
theorem sq_Model_findLeft_104 : rn G mm_Model_findLeft 104 [a0, a1, a2, some (.int x), a4, a5, a6] st S P ↔ rn G mm_Model_findLeft 105 [a0, a1, a2, some (.int x), a4, a5, a6] (.int x :: st) S P := rn_s dq_Model_findLeft_104 rfl rfl rfl
theorem dq_Model_findLeft_105 : decode (km_c mm_Model_findLeft) 105 = .ok (.bipush 64, 2) := by decide +kernel
theorem sq_Model_findLeft_105 : rn G mm_Model_findLeft 105 lv st S P ↔ rn G mm_Model_findLeft 107 lv (.int (nI 64) :: st) S P := rn_s dq_Model_findLeft_105 rfl rfl rfl
theorem dq_Model_findLeft_107 : decode (km_c mm_Model_findLeft) 107 = .ok (.irem, 1) := by decide +kernel
theorem sq_Model_findLeft_107 (hz : ¬ x2 = 0) : rn G mm_Model_findLeft 107 lv (.int x2 :: .int x :: st) S P ↔ rn G mm_Model_findLeft 108 lv (.int (x - x / x2 * x2) :: st) S P := rn_s dq_Model_findLeft_107 rfl rfl (if_neg hz)
theorem dq_Model_findLeft_108 : decode (km_c mm_Model_findLeft) 108 = .ok (.aload_n 0, 1) := by decide +kernel
theorem sq_Model_findLeft_108 : rn G mm_Model_findLeft 108 [some (.ref z), a1, a2, a3, a4, a5, a6] st S P ↔ rn G mm_Model_findLeft 109 [some (.ref z), a1, a2, a3, a4, a5, a6] (.ref z :: st) S P := rn_s dq_Model_findLeft_108 rfl rfl rfl
theorem dq_Model_findLeft_109 : decode (km_c mm_Model_findLeft) 109 = .ok (.getfield 50, 3) := by decide +kernel
theorem sq_Model_findLeft_109_45 (ho : sx_o o pl kp) : rn (lt_G o L) mm_Model_findLeft 109 lv (.ref 45 :: st) (sx pl kp I A) P ↔ rn (lt_G o L) mm_Model_findLeft 112 lv (.ref 57 :: st) (sx pl kp I A) P := rx_get (h := "") (ci := 10) (k := 21) dq_Model_findLeft_109 (by decide +kernel) ho (up_b (by decide)) rfl rfl (fl_r (by decide) (by decide) (by decide) (by decide))
theorem dq_Model_findLeft_112 : decode (km_c mm_Model_findLeft) 112 = .ok (.iload 5, 2) := by decide +kernel
theorem sq_Model_findLeft_112 : rn G mm_Model_findLeft 112 [a0, a1, a2, a3, a4, some (.int x), a6] st S P ↔ rn G mm_Model_findLeft 114 [a0, a1, a2, a3, a4, some (.int x), a6] (.int x :: st) S P := rn_s dq_Model_findLeft_112 rfl rfl rfl
theorem dq_Model_findLeft_114 : decode (km_c mm_Model_findLeft) 114 = .ok (.iaload, 1) := by decide +kernel
theorem sq_Model_findLeft_114 (ho : sx_o o pl kp) (hk : ak L a = 0) (hu : sx_up pl kp a = true ∨ 1000 ≤ a) (hc : c < ln L a) (hn : ln L a < 2 ^ 31) : rn (lt_G o L) mm_Model_findLeft 114 lv (.int (nI c) :: .ref a :: st) (sx pl kp I A) P ↔ rn (lt_G o L) mm_Model_findLeft 115 lv (.int (A a c) :: st) (sx pl kp I A) P := rx_ild dq_Model_findLeft_114 ho hk hu hc hn
theorem dq_Model_findLeft_115 : decode (km_c mm_Model_findLeft) 115 = .ok (.ior, 1) := by decide +kernel
theorem sq_Model_findLeft_115 : rn G mm_Model_findLeft 115 lv (.int x2 :: .int x :: st) S P ↔ rn G mm_Model_findLeft 116 lv (.int (x ||| x2) :: st) S P := rn_s dq_Model_findLeft_115 rfl rfl rfl
theorem dq_Model_findLeft_116 : decode (km_c mm_Model_findLeft) 116 = .ok (.iadd, 1) := by decide +kernel
theorem sq_Model_findLeft_116 : rn G mm_Model_findLeft 116 lv (.int x2 :: .int x :: st) S P ↔ rn G mm_Model_findLeft 117 lv (.int (x + x2) :: st) S P := rn_s dq_Model_findLeft_116 rfl rfl rfl
theorem dq_Model_findLeft_117 : decode (km_c mm_Model_findLeft) 117 = .ok (.iaload, 1) := by decide +kernel
theorem sq_Model_findLeft_117 (ho : sx_o o pl kp) (hk : ak L a = 0) (hu : sx_up pl kp a = true ∨ 1000 ≤ a) (hc : c < ln L a) (hn : ln L a < 2 ^ 31) : rn (lt_G o L) mm_Model_findLeft 117 lv (.int (nI c) :: .ref a :: st) (sx pl kp I A) P ↔ rn (lt_G o L) mm_Model_findLeft 118 lv (.int (A a c) :: st) (sx pl kp I A) P := rx_ild dq_Model_findLeft_117 ho hk hu hc hn
theorem dq_Model_findLeft_118 : decode (km_c mm_Model_findLeft) 118 = .ok (.sipush 1000, 3) := by decide +kernel
theorem sq_Model_findLeft_118 : rn G mm_Model_findLeft 118 lv st S P ↔ rn G mm_Model_findLeft 121 lv (.int (nI 1000) :: st) S P := rn_s dq_Model_findLeft_118 rfl rfl rfl
theorem dq_Model_findLeft_121 : decode (km_c mm_Model_findLeft) 121 = .ok (.aload_n 0, 1) := by decide +kernel
theorem sq_Model_findLeft_121 : rn G mm_Model_findLeft 121 [some (.ref z), a1, a2, a3, a4, a5, a6] st S P ↔ rn G mm_Model_findLeft 122 [some (.ref z), a1, a2, a3, a4, a5, a6] (.ref z :: st) S P := rn_s dq_Model_findLeft_121 rfl rfl rfl
theorem dq_Model_findLeft_122 : decode (km_c mm_Model_findLeft) 122 = .ok (.getfield 47, 3) := by decide +kernel
theorem sq_Model_findLeft_122_45 (ho : sx_o o pl kp) : rn (lt_G o L) mm_Model_findLeft 122 lv (.ref 45 :: st) (sx pl kp I A) P ↔ rn (lt_G o L) mm_Model_findLeft 125 lv (.ref 56 :: st) (sx pl kp I A) P := rx_get (h := "") (ci := 10) (k := 20) dq_Model_findLeft_122 (by decide +kernel) ho (up_b (by decide)) rfl rfl (fl_r (by decide) (by decide) (by decide) (by decide))
theorem dq_Model_findLeft_125 : decode (km_c mm_Model_findLeft) 125 = .ok (.iload 5, 2) := by decide +kernel
theorem sq_Model_findLeft_125 : rn G mm_Model_findLeft 125 [a0, a1, a2, a3, a4, some (.int x), a6] st S P ↔ rn G mm_Model_findLeft 127 [a0, a1, a2, a3, a4, some (.int x), a6] (.int x :: st) S P := rn_s dq_Model_findLeft_125 rfl rfl rfl
theorem dq_Model_findLeft_127 : decode (km_c mm_Model_findLeft) 127 = .ok (.iaload, 1) := by decide +kernel
theorem sq_Model_findLeft_127 (ho : sx_o o pl kp) (hk : ak L a = 0) (hu : sx_up pl kp a = true ∨ 1000 ≤ a) (hc : c < ln L a) (hn : ln L a < 2 ^ 31) : rn (lt_G o L) mm_Model_findLeft 127 lv (.int (nI c) :: .ref a :: st) (sx pl kp I A) P ↔ rn (lt_G o L) mm_Model_findLeft 128 lv (.int (A a c) :: st) (sx pl kp I A) P := rx_ild dq_Model_findLeft_127 ho hk hu hc hn
theorem dq_Model_findLeft_128 : decode (km_c mm_Model_findLeft) 128 = .ok (.imul, 1) := by decide +kernel
theorem sq_Model_findLeft_128 : rn G mm_Model_findLeft 128 lv (.int x2 :: .int x :: st) S P ↔ rn G mm_Model_findLeft 129 lv (.int (x * x2) :: st) S P := rn_s dq_Model_findLeft_128 rfl rfl rfl
theorem dq_Model_findLeft_129 : decode (km_c mm_Model_findLeft) 129 = .ok (.iadd, 1) := by decide +kernel
theorem sq_Model_findLeft_129 : rn G mm_Model_findLeft 129 lv (.int x2 :: .int x :: st) S P ↔ rn G mm_Model_findLeft 130 lv (.int (x + x2) :: st) S P := rn_s dq_Model_findLeft_129 rfl rfl rfl
theorem dq_Model_findLeft_130 : decode (km_c mm_Model_findLeft) 130 = .ok (.iconst 1, 1) := by decide +kernel
theorem sq_Model_findLeft_130 : rn G mm_Model_findLeft 130 lv st S P ↔ rn G mm_Model_findLeft 131 lv (.int (nI 1) :: st) S P := rn_s dq_Model_findLeft_130 rfl rfl rfl
theorem dq_Model_findLeft_131 : decode (km_c mm_Model_findLeft) 131 = .ok (.iadd, 1) := by decide +kernel
theorem sq_Model_findLeft_131 : rn G mm_Model_findLeft 131 lv (.int x2 :: .int x :: st) S P ↔ rn G mm_Model_findLeft 132 lv (.int (x + x2) :: st) S P := rn_s dq_Model_findLeft_131 rfl rfl rfl
theorem dq_Model_findLeft_132 : decode (km_c mm_Model_findLeft) 132 = .ok (.istore 6, 2) := by decide +kernel
theorem sq_Model_findLeft_132n : rn G mm_Model_findLeft 132 [a0, a1, a2, a3, a4, none, a6] (.int x :: st) S P ↔ rn G mm_Model_findLeft 134 [a0, a1, a2, a3, a4, none, some (.int x)] st S P := rn_s dq_Model_findLeft_132 rfl rfl rfl
theorem sq_Model_findLeft_132i : rn G mm_Model_findLeft 132 [a0, a1, a2, a3, a4, some (.int x2), a6] (.int x :: st) S P ↔ rn G mm_Model_findLeft 134 [a0, a1, a2, a3, a4, some (.int x2), some (.int x)] st S P := rn_s dq_Model_findLeft_132 rfl rfl rfl
theorem sq_Model_findLeft_132r : rn G mm_Model_findLeft 132 [a0, a1, a2, a3, a4, some (.ref z2), a6] (.int x :: st) S P ↔ rn G mm_Model_findLeft 134 [a0, a1, a2, a3, a4, some (.ref z2), some (.int x)] st S P := rn_s dq_Model_findLeft_132 rfl rfl rfl
theorem dq_Model_findLeft_134 : decode (km_c mm_Model_findLeft) 134 = .ok (.iload 6, 2) := by decide +kernel
theorem sq_Model_findLeft_134 : rn G mm_Model_findLeft 134 [a0, a1, a2, a3, a4, a5, some (.int x)] st S P ↔ rn G mm_Model_findLeft 136 [a0, a1, a2, a3, a4, a5, some (.int x)] (.int x :: st) S P := rn_s dq_Model_findLeft_134 rfl rfl rfl
theorem dq_Model_findLeft_136 : decode (km_c mm_Model_findLeft) 136 = .ok (.aload_n 0, 1) := by decide +kernel
theorem sq_Model_findLeft_136 : rn G mm_Model_findLeft 136 [some (.ref z), a1, a2, a3, a4, a5, a6] st S P ↔ rn G mm_Model_findLeft 137 [some (.ref z), a1, a2, a3, a4, a5, a6] (.ref z :: st) S P := rn_s dq_Model_findLeft_136 rfl rfl rfl
theorem dq_Model_findLeft_137 : decode (km_c mm_Model_findLeft) 137 = .ok (.getfield 53, 3) := by decide +kernel
theorem sq_Model_findLeft_137_45 (ho : sx_o o pl kp) : rn (lt_G o L) mm_Model_findLeft 137 lv (.ref 45 :: st) (sx pl kp I A) P ↔ rn (lt_G o L) mm_Model_findLeft 140 lv (.ref 58 :: st) (sx pl kp I A) P := rx_get (h := "") (ci := 10) (k := 22) dq_Model_findLeft_137 (by decide +kernel) ho (up_b (by decide)) rfl rfl (fl_r (by decide) (by decide) (by decide) (by decide))
theorem dq_Model_findLeft_140 : decode (km_c mm_Model_findLeft) 140 = .ok (.iload_n 3, 1) := by decide +kernel
theorem sq_Model_findLeft_140 : rn G mm_Model_findLeft 140 [a0, a1, a2, some (.int x), a4, a5, a6] st S P ↔ rn G mm_Model_findLeft 141 [a0, a1, a2, some (.int x), a4, a5, a6] (.int x :: st) S P := rn_s dq_Model_findLeft_140 rfl rfl rfl
theorem dq_Model_findLeft_141 : decode (km_c mm_Model_findLeft) 141 = .ok (.iaload, 1) := by decide +kernel
theorem sq_Model_findLeft_141 (ho : sx_o o pl kp) (hk : ak L a = 0) (hu : sx_up pl kp a = true ∨ 1000 ≤ a) (hc : c < ln L a) (hn : ln L a < 2 ^ 31) : rn (lt_G o L) mm_Model_findLeft 141 lv (.int (nI c) :: .ref a :: st) (sx pl kp I A) P ↔ rn (lt_G o L) mm_Model_findLeft 142 lv (.int (A a c) :: st) (sx pl kp I A) P := rx_ild dq_Model_findLeft_141 ho hk hu hc hn
theorem dq_Model_findLeft_142 : decode (km_c mm_Model_findLeft) 142 = .ok (.if_icmp .ge 13, 3) := by decide +kernel
theorem sq_Model_findLeft_142 : rn G mm_Model_findLeft 142 lv (.int x2 :: .int x :: st) S P ↔ ((x2 ≤ x → rn G mm_Model_findLeft 155 lv st S P) ∧ (¬ (x2 ≤ x) → rn G mm_Model_findLeft 145 lv st S P)) := rn_b (off := 13) dq_Model_findLeft_142 rfl rfl rfl rfl
theorem dq_Model_findLeft_145 : decode (km_c mm_Model_findLeft) 145 = .ok (.aload_n 0, 1) := by decide +kernel
theorem sq_Model_findLeft_145 : rn G mm_Model_findLeft 145 [some (.ref z), a1, a2, a3, a4, a5, a6] st S P ↔ rn G mm_Model_findLeft 146 [some (.ref z), a1, a2, a3, a4, a5, a6] (.ref z :: st) S P := rn_s dq_Model_findLeft_145 rfl rfl rfl
theorem dq_Model_findLeft_146 : decode (km_c mm_Model_findLeft) 146 = .ok (.getfield 53, 3) := by decide +kernel
theorem sq_Model_findLeft_146_45 (ho : sx_o o pl kp) : rn (lt_G o L) mm_Model_findLeft 146 lv (.ref 45 :: st) (sx pl kp I A) P ↔ rn (lt_G o L) mm_Model_findLeft 149 lv (.ref 58 :: st) (sx pl kp I A) P := rx_get (h := "") (ci := 10) (k := 22) dq_Model_findLeft_146 (by decide +kernel) ho (up_b (by decide)) rfl rfl (fl_r (by decide) (by decide) (by decide) (by decide))
theorem dq_Model_findLeft_149 : decode (km_c mm_Model_findLeft) 149 = .ok (.iload_n 3, 1) := by decide +kernel
theorem sq_Model_findLeft_149 : rn G mm_Model_findLeft 149 [a0, a1, a2, some (.int x), a4, a5, a6] st S P ↔ rn G mm_Model_findLeft 150 [a0, a1, a2, some (.int x), a4, a5, a6] (.int x :: st) S P := rn_s dq_Model_findLeft_149 rfl rfl rfl
theorem dq_Model_findLeft_150 : decode (km_c mm_Model_findLeft) 150 = .ok (.iload 6, 2) := by decide +kernel
theorem sq_Model_findLeft_150 : rn G mm_Model_findLeft 150 [a0, a1, a2, a3, a4, a5, some (.int x)] st S P ↔ rn G mm_Model_findLeft 152 [a0, a1, a2, a3, a4, a5, some (.int x)] (.int x :: st) S P := rn_s dq_Model_findLeft_150 rfl rfl rfl
theorem dq_Model_findLeft_152 : decode (km_c mm_Model_findLeft) 152 = .ok (.iastore, 1) := by decide +kernel
theorem sq_Model_findLeft_152 (ho : sx_o o pl kp) (hk : ak L a = 0) (hu : sx_up pl kp a = true) (hc : c < ln L a) (hn : ln L a < 2 ^ 31) : rn (lt_G o L) mm_Model_findLeft 152 lv (.int x :: .int (nI c) :: .ref a :: st) (sx pl kp I A) P ↔ rn (lt_G o L) mm_Model_findLeft 153 lv st (sx pl kp I (u2 A a c x)) P := rx_ist dq_Model_findLeft_152 ho hk hu hc hn
theorem dq_Model_findLeft_153 : decode (km_c mm_Model_findLeft) 153 = .ok (.iconst 1, 1) := by decide +kernel
theorem sq_Model_findLeft_153 : rn G mm_Model_findLeft 153 lv st S P ↔ rn G mm_Model_findLeft 154 lv (.int (nI 1) :: st) S P := rn_s dq_Model_findLeft_153 rfl rfl rfl
theorem dq_Model_findLeft_154 : decode (km_c mm_Model_findLeft) 154 = .ok (.istore_n 2, 1) := by decide +kernel
theorem sq_Model_findLeft_154n : rn G mm_Model_findLeft 154 [a0, none, a2, a3, a4, a5, a6] (.int x :: st) S P ↔ rn G mm_Model_findLeft 155 [a0, none, some (.int x), a3, a4, a5, a6] st S P := rn_s dq_Model_findLeft_154 rfl rfl rfl
theorem sq_Model_findLeft_154i : rn G mm_Model_findLeft 154 [a0, some (.int x2), a2, a3, a4, a5, a6] (.int x :: st) S P ↔ rn G mm_Model_findLeft 155 [a0, some (.int x2), some (.int x), a3, a4, a5, a6] st S P := rn_s dq_Model_findLeft_154 rfl rfl rfl
theorem sq_Model_findLeft_154r : rn G mm_Model_findLeft 154 [a0, some (.ref z2), a2, a3, a4, a5, a6] (.int x :: st) S P ↔ rn G mm_Model_findLeft 155 [a0, some (.ref z2), some (.int x), a3, a4, a5, a6] st S P := rn_s dq_Model_findLeft_154 rfl rfl rfl
theorem dq_Model_findLeft_155 : decode (km_c mm_Model_findLeft) 155 = .ok (.iinc 4 1, 3) := by decide +kernel
theorem sq_Model_findLeft_155n : rn G mm_Model_findLeft 155 [a0, a1, a2, none, some (.int x), a5, a6] st S P ↔ rn G mm_Model_findLeft 158 [a0, a1, a2, none, some (.int (x + nI 1)), a5, a6] st S P := rn_s dq_Model_findLeft_155 rfl rfl rfl
theorem sq_Model_findLeft_155i : rn G mm_Model_findLeft 155 [a0, a1, a2, some (.int x2), some (.int x), a5, a6] st S P ↔ rn G mm_Model_findLeft 158 [a0, a1, a2, some (.int x2), some (.int (x + nI 1)), a5, a6] st S P := rn_s dq_Model_findLeft_155 rfl rfl rfl
theorem sq_Model_findLeft_155r : rn G mm_Model_findLeft 155 [a0, a1, a2, some (.ref z2), some (.int x), a5, a6] st S P ↔ rn G mm_Model_findLeft 158 [a0, a1, a2, some (.ref z2), some (.int (x + nI 1)), a5, a6] st S P := rn_s dq_Model_findLeft_155 rfl rfl rfl
theorem dq_Model_findLeft_158 : decode (km_c mm_Model_findLeft) 158 = .ok (.goto (-90), 3) := by decide +kernel
theorem sq_Model_findLeft_158 : rn G mm_Model_findLeft 158 lv st S P ↔ rn G mm_Model_findLeft 68 lv st S P := rn_s dq_Model_findLeft_158 rfl rfl rfl
theorem dq_Model_findLeft_161 : decode (km_c mm_Model_findLeft) 161 = .ok (.iinc 3 1, 3) := by decide +kernel
theorem sq_Model_findLeft_161n : rn G mm_Model_findLeft 161 [a0, a1, none, some (.int x), a4, a5, a6] st S P ↔ rn G mm_Model_findLeft 164 [a0, a1, none, some (.int (x + nI 1)), a4, a5, a6] st S P := rn_s dq_Model_findLeft_161 rfl rfl rfl
theorem sq_Model_findLeft_161i : rn G mm_Model_findLeft 161 [a0, a1, some (.int x2), some (.int x), a4, a5, a6] st S P ↔ rn G mm_Model_findLeft 164 [a0, a1, some (.int x2), some (.int (x + nI 1)), a4, a5, a6] st S P := rn_s dq_Model_findLeft_161 rfl rfl rfl
theorem sq_Model_findLeft_161r : rn G mm_Model_findLeft 161 [a0, a1, some (.ref z2), some (.int x), a4, a5, a6] st S P ↔ rn G mm_Model_findLeft 164 [a0, a1, some (.ref z2), some (.int (x + nI 1)), a4, a5, a6] st S P := rn_s dq_Model_findLeft_161 rfl rfl rfl
theorem dq_Model_findLeft_164 : decode (km_c mm_Model_findLeft) 164 = .ok (.goto (-106), 3) := by decide +kernel
theorem sq_Model_findLeft_164 : rn G mm_Model_findLeft 164 lv st S P ↔ rn G mm_Model_findLeft 58 lv st S P := rn_s dq_Model_findLeft_164 rfl rfl rfl
theorem dq_Model_findLeft_167 : decode (km_c mm_Model_findLeft) 167 = .ok (.goto (-117), 3) := by decide +kernel
theorem sq_Model_findLeft_167 : rn G mm_Model_findLeft 167 lv st S P ↔ rn G mm_Model_findLeft 50 lv st S P := rn_s dq_Model_findLeft_167 rfl rfl rfl
theorem dq_Model_findLeft_170 : decode (km_c mm_Model_findLeft) 170 = .ok (.return_, 1) := by decide +kernel
theorem sq_Model_findLeft_170 : rn G mm_Model_findLeft 170 lv [] S P ↔ P none S := rn_vr dq_Model_findLeft_170 rfl
theorem dq_Model_step_0 : decode (km_c mm_Model_step) 0 = .ok (.iload_n 1, 1) := by decide +kernel
theorem sq_Model_step_0 : rn G mm_Model_step 0 [a0, some (.int x)] st S P ↔ rn G mm_Model_step 1 [a0, some (.int x)] (.int x :: st) S P := rn_s dq_Model_step_0 rfl rfl rfl
theorem dq_Model_step_1 : decode (km_c mm_Model_step) 1 = .ok (.invokestatic 104, 3) := by decide +kernel
theorem sq_Model_step_1 {x1 : Int32} {v : Option Value} {S2 : ks_S} (hc : ev G mm_Model_isCell [.int x1] S v S2) (hst : kx_cat st ≤ 8) : rn G mm_Model_step 1 lv (.int x1 :: st) S P ↔ rn G mm_Model_step 4 lv (v.toList ++ st) S2 P := rn_cs (k := 1) (host := "") (E' := mm_Model_isCell) dq_Model_step_1 (by decide) (by decide) rfl (ok_v rfl (by decide) (by decide) (Nat.le_add_left _ _) hst (Nat.le_of_ble_eq_true rfl) (Or.inl rfl)) rfl rfl hc
theorem dq_Model_step_4 : decode (km_c mm_Model_step) 4 = .ok (.ifCond .ne 5, 3) := by decide +kernel
theorem sq_Model_step_4 : rn G mm_Model_step 4 lv (.int x :: st) S P ↔ ((¬ x = 0 → rn G mm_Model_step 9 lv st S P) ∧ (¬ (¬ x = 0) → rn G mm_Model_step 7 lv st S P)) := rn_b (off := 5) dq_Model_step_4 rfl rfl rfl rfl
theorem dq_Model_step_7 : decode (km_c mm_Model_step) 7 = .ok (.iconst (-1), 1) := by decide +kernel
theorem sq_Model_step_7 : rn G mm_Model_step 7 lv st S P ↔ rn G mm_Model_step 8 lv (.int ((-1)) :: st) S P := rn_s dq_Model_step_7 rfl rfl rfl
theorem dq_Model_step_8 : decode (km_c mm_Model_step) 8 = .ok (.ireturn, 1) := by decide +kernel
theorem sq_Model_step_8 : rn G mm_Model_step 8 lv [.int x] S P ↔ P (some (.int x)) S := rn_ir dq_Model_step_8 rfl
theorem dq_Model_step_9 : decode (km_c mm_Model_step) 9 = .ok (.aload_n 0, 1) := by decide +kernel
theorem sq_Model_step_9 : rn G mm_Model_step 9 [some (.ref z), a1] st S P ↔ rn G mm_Model_step 10 [some (.ref z), a1] (.ref z :: st) S P := rn_s dq_Model_step_9 rfl rfl rfl
theorem dq_Model_step_10 : decode (km_c mm_Model_step) 10 = .ok (.getfield 134, 3) := by decide +kernel
theorem sq_Model_step_10_45 (ho : sx_o o pl kp) : rn (lt_G o L) mm_Model_step 10 lv (.ref 45 :: st) (sx pl kp I A) P ↔ rn (lt_G o L) mm_Model_step 13 lv (.int (I 45 8) :: st) (sx pl kp I A) P := rx_get (h := "") (ci := 10) (k := 8) dq_Model_step_10 (by decide +kernel) ho (up_b (by decide)) rfl rfl (fl_i (by decide))
theorem dq_Model_step_13 : decode (km_c mm_Model_step) 13 = .ok (.ifCond .le 24, 3) := by decide +kernel
theorem sq_Model_step_13 : rn G mm_Model_step 13 lv (.int x :: st) S P ↔ ((x ≤ 0 → rn G mm_Model_step 37 lv st S P) ∧ (¬ (x ≤ 0) → rn G mm_Model_step 16 lv st S P)) := rn_b (off := 24) dq_Model_step_13 rfl rfl rfl rfl
theorem dq_Model_step_16 : decode (km_c mm_Model_step) 16 = .ok (.aload_n 0, 1) := by decide +kernel
theorem sq_Model_step_16 : rn G mm_Model_step 16 [some (.ref z), a1] st S P ↔ rn G mm_Model_step 17 [some (.ref z), a1] (.ref z :: st) S P := rn_s dq_Model_step_16 rfl rfl rfl
theorem dq_Model_step_17 : decode (km_c mm_Model_step) 17 = .ok (.getfield 23, 3) := by decide +kernel
theorem sq_Model_step_17_45 (ho : sx_o o pl kp) : rn (lt_G o L) mm_Model_step 17 lv (.ref 45 :: st) (sx pl kp I A) P ↔ rn (lt_G o L) mm_Model_step 20 lv (.ref 49 :: st) (sx pl kp I A) P := rx_get (h := "") (ci := 10) (k := 7) dq_Model_step_17 (by decide +kernel) ho (up_b (by decide)) rfl rfl (fl_r (by decide) (by decide) (by decide) (by decide))
theorem dq_Model_step_20 : decode (km_c mm_Model_step) 20 = .ok (.aload_n 0, 1) := by decide +kernel
theorem sq_Model_step_20 : rn G mm_Model_step 20 [some (.ref z), a1] st S P ↔ rn G mm_Model_step 21 [some (.ref z), a1] (.ref z :: st) S P := rn_s dq_Model_step_20 rfl rfl rfl
theorem dq_Model_step_21 : decode (km_c mm_Model_step) 21 = .ok (.getfield 134, 3) := by decide +kernel
theorem sq_Model_step_21_45 (ho : sx_o o pl kp) : rn (lt_G o L) mm_Model_step 21 lv (.ref 45 :: st) (sx pl kp I A) P ↔ rn (lt_G o L) mm_Model_step 24 lv (.int (I 45 8) :: st) (sx pl kp I A) P := rx_get (h := "") (ci := 10) (k := 8) dq_Model_step_21 (by decide +kernel) ho (up_b (by decide)) rfl rfl (fl_i (by decide))
theorem dq_Model_step_24 : decode (km_c mm_Model_step) 24 = .ok (.iconst 1, 1) := by decide +kernel
theorem sq_Model_step_24 : rn G mm_Model_step 24 lv st S P ↔ rn G mm_Model_step 25 lv (.int (nI 1) :: st) S P := rn_s dq_Model_step_24 rfl rfl rfl
theorem dq_Model_step_25 : decode (km_c mm_Model_step) 25 = .ok (.isub, 1) := by decide +kernel
theorem sq_Model_step_25 : rn G mm_Model_step 25 lv (.int x2 :: .int x :: st) S P ↔ rn G mm_Model_step 26 lv (.int (x - x2) :: st) S P := rn_s dq_Model_step_25 rfl rfl rfl
theorem dq_Model_step_26 : decode (km_c mm_Model_step) 26 = .ok (.iaload, 1) := by decide +kernel
theorem sq_Model_step_26 (ho : sx_o o pl kp) (hk : ak L a = 0) (hu : sx_up pl kp a = true ∨ 1000 ≤ a) (hc : c < ln L a) (hn : ln L a < 2 ^ 31) : rn (lt_G o L) mm_Model_step 26 lv (.int (nI c) :: .ref a :: st) (sx pl kp I A) P ↔ rn (lt_G o L) mm_Model_step 27 lv (.int (A a c) :: st) (sx pl kp I A) P := rx_ild dq_Model_step_26 ho hk hu hc hn
theorem dq_Model_step_27 : decode (km_c mm_Model_step) 27 = .ok (.iload_n 1, 1) := by decide +kernel
theorem sq_Model_step_27 : rn G mm_Model_step 27 [a0, some (.int x)] st S P ↔ rn G mm_Model_step 28 [a0, some (.int x)] (.int x :: st) S P := rn_s dq_Model_step_27 rfl rfl rfl
theorem dq_Model_step_28 : decode (km_c mm_Model_step) 28 = .ok (.invokestatic 228, 3) := by decide +kernel
theorem sq_Model_step_28 {x1 : Int32} {x2 : Int32} {v : Option Value} {S2 : ks_S} (hc : ev G mm_Model_sideTo [.int x1, .int x2] S v S2) (hst : kx_cat st ≤ 8) : rn G mm_Model_step 28 lv (.int x2 :: .int x1 :: st) S P ↔ rn G mm_Model_step 31 lv (v.toList ++ st) S2 P := rn_cs (k := 1) (host := "") (E' := mm_Model_sideTo) dq_Model_step_28 (by decide) (by decide) rfl (ok_v rfl (by decide) (by decide) (Nat.le_add_left _ _) hst (Nat.le_of_ble_eq_true rfl) (Or.inl rfl)) rfl rfl hc
theorem dq_Model_step_31 : decode (km_c mm_Model_step) 31 = .ok (.ifCond .ge 6, 3) := by decide +kernel
theorem sq_Model_step_31 : rn G mm_Model_step 31 lv (.int x :: st) S P ↔ ((0 ≤ x → rn G mm_Model_step 37 lv st S P) ∧ (¬ (0 ≤ x) → rn G mm_Model_step 34 lv st S P)) := rn_b (off := 6) dq_Model_step_31 rfl rfl rfl rfl
theorem dq_Model_step_34 : decode (km_c mm_Model_step) 34 = .ok (.bipush (-2), 2) := by decide +kernel
theorem sq_Model_step_34 : rn G mm_Model_step 34 lv st S P ↔ rn G mm_Model_step 36 lv (.int ((-2)) :: st) S P := rn_s dq_Model_step_34 rfl rfl rfl
theorem dq_Model_step_36 : decode (km_c mm_Model_step) 36 = .ok (.ireturn, 1) := by decide +kernel
theorem sq_Model_step_36 : rn G mm_Model_step 36 lv [.int x] S P ↔ P (some (.int x)) S := rn_ir dq_Model_step_36 rfl
theorem dq_Model_step_37 : decode (km_c mm_Model_step) 37 = .ok (.aload_n 0, 1) := by decide +kernel
theorem sq_Model_step_37 : rn G mm_Model_step 37 [some (.ref z), a1] st S P ↔ rn G mm_Model_step 38 [some (.ref z), a1] (.ref z :: st) S P := rn_s dq_Model_step_37 rfl rfl rfl
theorem dq_Model_step_38 : decode (km_c mm_Model_step) 38 = .ok (.getfield 134, 3) := by decide +kernel
theorem sq_Model_step_38_45 (ho : sx_o o pl kp) : rn (lt_G o L) mm_Model_step 38 lv (.ref 45 :: st) (sx pl kp I A) P ↔ rn (lt_G o L) mm_Model_step 41 lv (.int (I 45 8) :: st) (sx pl kp I A) P := rx_get (h := "") (ci := 10) (k := 8) dq_Model_step_38 (by decide +kernel) ho (up_b (by decide)) rfl rfl (fl_i (by decide))
theorem dq_Model_step_41 : decode (km_c mm_Model_step) 41 = .ok (.bipush 60, 2) := by decide +kernel
theorem sq_Model_step_41 : rn G mm_Model_step 41 lv st S P ↔ rn G mm_Model_step 43 lv (.int (nI 60) :: st) S P := rn_s dq_Model_step_41 rfl rfl rfl
theorem dq_Model_step_43 : decode (km_c mm_Model_step) 43 = .ok (.if_icmp .ne 6, 3) := by decide +kernel
theorem sq_Model_step_43 : rn G mm_Model_step 43 lv (.int x2 :: .int x :: st) S P ↔ ((¬ x = x2 → rn G mm_Model_step 49 lv st S P) ∧ (¬ (¬ x = x2) → rn G mm_Model_step 46 lv st S P)) := rn_b (off := 6) dq_Model_step_43 rfl rfl rfl rfl
theorem dq_Model_step_46 : decode (km_c mm_Model_step) 46 = .ok (.bipush (-3), 2) := by decide +kernel
theorem sq_Model_step_46 : rn G mm_Model_step 46 lv st S P ↔ rn G mm_Model_step 48 lv (.int ((-3)) :: st) S P := rn_s dq_Model_step_46 rfl rfl rfl
theorem dq_Model_step_48 : decode (km_c mm_Model_step) 48 = .ok (.ireturn, 1) := by decide +kernel
theorem sq_Model_step_48 : rn G mm_Model_step 48 lv [.int x] S P ↔ P (some (.int x)) S := rn_ir dq_Model_step_48 rfl
theorem dq_Model_step_49 : decode (km_c mm_Model_step) 49 = .ok (.aload_n 0, 1) := by decide +kernel
theorem sq_Model_step_49 : rn G mm_Model_step 49 [some (.ref z), a1] st S P ↔ rn G mm_Model_step 50 [some (.ref z), a1] (.ref z :: st) S P := rn_s dq_Model_step_49 rfl rfl rfl
theorem dq_Model_step_50 : decode (km_c mm_Model_step) 50 = .ok (.getfield 23, 3) := by decide +kernel
theorem sq_Model_step_50_45 (ho : sx_o o pl kp) : rn (lt_G o L) mm_Model_step 50 lv (.ref 45 :: st) (sx pl kp I A) P ↔ rn (lt_G o L) mm_Model_step 53 lv (.ref 49 :: st) (sx pl kp I A) P := rx_get (h := "") (ci := 10) (k := 7) dq_Model_step_50 (by decide +kernel) ho (up_b (by decide)) rfl rfl (fl_r (by decide) (by decide) (by decide) (by decide))
theorem dq_Model_step_53 : decode (km_c mm_Model_step) 53 = .ok (.aload_n 0, 1) := by decide +kernel
theorem sq_Model_step_53 : rn G mm_Model_step 53 [some (.ref z), a1] st S P ↔ rn G mm_Model_step 54 [some (.ref z), a1] (.ref z :: st) S P := rn_s dq_Model_step_53 rfl rfl rfl
theorem dq_Model_step_54 : decode (km_c mm_Model_step) 54 = .ok (.getfield 134, 3) := by decide +kernel
theorem sq_Model_step_54_45 (ho : sx_o o pl kp) : rn (lt_G o L) mm_Model_step 54 lv (.ref 45 :: st) (sx pl kp I A) P ↔ rn (lt_G o L) mm_Model_step 57 lv (.int (I 45 8) :: st) (sx pl kp I A) P := rx_get (h := "") (ci := 10) (k := 8) dq_Model_step_54 (by decide +kernel) ho (up_b (by decide)) rfl rfl (fl_i (by decide))
theorem dq_Model_step_57 : decode (km_c mm_Model_step) 57 = .ok (.iload_n 1, 1) := by decide +kernel
theorem sq_Model_step_57 : rn G mm_Model_step 57 [a0, some (.int x)] st S P ↔ rn G mm_Model_step 58 [a0, some (.int x)] (.int x :: st) S P := rn_s dq_Model_step_57 rfl rfl rfl
theorem dq_Model_step_58 : decode (km_c mm_Model_step) 58 = .ok (.iastore, 1) := by decide +kernel
theorem sq_Model_step_58 (ho : sx_o o pl kp) (hk : ak L a = 0) (hu : sx_up pl kp a = true) (hc : c < ln L a) (hn : ln L a < 2 ^ 31) : rn (lt_G o L) mm_Model_step 58 lv (.int x :: .int (nI c) :: .ref a :: st) (sx pl kp I A) P ↔ rn (lt_G o L) mm_Model_step 59 lv st (sx pl kp I (u2 A a c x)) P := rx_ist dq_Model_step_58 ho hk hu hc hn
theorem dq_Model_step_59 : decode (km_c mm_Model_step) 59 = .ok (.aload_n 0, 1) := by decide +kernel
theorem sq_Model_step_59 : rn G mm_Model_step 59 [some (.ref z), a1] st S P ↔ rn G mm_Model_step 60 [some (.ref z), a1] (.ref z :: st) S P := rn_s dq_Model_step_59 rfl rfl rfl
theorem dq_Model_step_60 : decode (km_c mm_Model_step) 60 = .ok (.dup, 1) := by decide +kernel
theorem sq_Model_step_60i : rn G mm_Model_step 60 lv (.int x :: st) S P ↔ rn G mm_Model_step 61 lv (.int x :: .int x :: st) S P := rn_s dq_Model_step_60 rfl rfl rfl
theorem sq_Model_step_60r : rn G mm_Model_step 60 lv (.ref z :: st) S P ↔ rn G mm_Model_step 61 lv (.ref z :: .ref z :: st) S P := rn_s dq_Model_step_60 rfl rfl rfl
theorem dq_Model_step_61 : decode (km_c mm_Model_step) 61 = .ok (.getfield 134, 3) := by decide +kernel
theorem sq_Model_step_61_45 (ho : sx_o o pl kp) : rn (lt_G o L) mm_Model_step 61 lv (.ref 45 :: st) (sx pl kp I A) P ↔ rn (lt_G o L) mm_Model_step 64 lv (.int (I 45 8) :: st) (sx pl kp I A) P := rx_get (h := "") (ci := 10) (k := 8) dq_Model_step_61 (by decide +kernel) ho (up_b (by decide)) rfl rfl (fl_i (by decide))
theorem dq_Model_step_64 : decode (km_c mm_Model_step) 64 = .ok (.iconst 1, 1) := by decide +kernel
theorem sq_Model_step_64 : rn G mm_Model_step 64 lv st S P ↔ rn G mm_Model_step 65 lv (.int (nI 1) :: st) S P := rn_s dq_Model_step_64 rfl rfl rfl
theorem dq_Model_step_65 : decode (km_c mm_Model_step) 65 = .ok (.iadd, 1) := by decide +kernel
theorem sq_Model_step_65 : rn G mm_Model_step 65 lv (.int x2 :: .int x :: st) S P ↔ rn G mm_Model_step 66 lv (.int (x + x2) :: st) S P := rn_s dq_Model_step_65 rfl rfl rfl
theorem dq_Model_step_66 : decode (km_c mm_Model_step) 66 = .ok (.putfield 134, 3) := by decide +kernel
theorem sq_Model_step_66_45 (ho : sx_o o pl kp) : rn (lt_G o L) mm_Model_step 66 lv (.int x :: .ref 45 :: st) (sx pl kp I A) P ↔ rn (lt_G o L) mm_Model_step 69 lv st (sx pl kp (u2 I 45 8 x) A) P := rx_put (h := "") (ci := 10) (k := 8) dq_Model_step_66 (by decide +kernel) ho (up_b (by decide)) rfl rfl (by decide) (by decide)
theorem dq_Model_step_69 : decode (km_c mm_Model_step) 69 = .ok (.aload_n 0, 1) := by decide +kernel
theorem sq_Model_step_69 : rn G mm_Model_step 69 [some (.ref z), a1] st S P ↔ rn G mm_Model_step 70 [some (.ref z), a1] (.ref z :: st) S P := rn_s dq_Model_step_69 rfl rfl rfl
theorem dq_Model_step_70 : decode (km_c mm_Model_step) 70 = .ok (.getfield 134, 3) := by decide +kernel
theorem sq_Model_step_70_45 (ho : sx_o o pl kp) : rn (lt_G o L) mm_Model_step 70 lv (.ref 45 :: st) (sx pl kp I A) P ↔ rn (lt_G o L) mm_Model_step 73 lv (.int (I 45 8) :: st) (sx pl kp I A) P := rx_get (h := "") (ci := 10) (k := 8) dq_Model_step_70 (by decide +kernel) ho (up_b (by decide)) rfl rfl (fl_i (by decide))
theorem dq_Model_step_73 : decode (km_c mm_Model_step) 73 = .ok (.ireturn, 1) := by decide +kernel
theorem sq_Model_step_73 : rn G mm_Model_step 73 lv [.int x] S P ↔ P (some (.int x)) S := rn_ir dq_Model_step_73 rfl
theorem dq_Model_sideTo_0 : decode (km_c mm_Model_sideTo) 0 = .ok (.iconst (-1), 1) := by decide +kernel
theorem sq_Model_sideTo_0 : rn G mm_Model_sideTo 0 lv st S P ↔ rn G mm_Model_sideTo 1 lv (.int ((-1)) :: st) S P := rn_s dq_Model_sideTo_0 rfl rfl rfl
theorem dq_Model_sideTo_1 : decode (km_c mm_Model_sideTo) 1 = .ok (.istore_n 2, 1) := by decide +kernel
theorem sq_Model_sideTo_1n : rn G mm_Model_sideTo 1 [a0, none, a2, a3] (.int x :: st) S P ↔ rn G mm_Model_sideTo 2 [a0, none, some (.int x), a3] st S P := rn_s dq_Model_sideTo_1 rfl rfl rfl
theorem sq_Model_sideTo_1i : rn G mm_Model_sideTo 1 [a0, some (.int x2), a2, a3] (.int x :: st) S P ↔ rn G mm_Model_sideTo 2 [a0, some (.int x2), some (.int x), a3] st S P := rn_s dq_Model_sideTo_1 rfl rfl rfl
theorem sq_Model_sideTo_1r : rn G mm_Model_sideTo 1 [a0, some (.ref z2), a2, a3] (.int x :: st) S P ↔ rn G mm_Model_sideTo 2 [a0, some (.ref z2), some (.int x), a3] st S P := rn_s dq_Model_sideTo_1 rfl rfl rfl
theorem dq_Model_sideTo_2 : decode (km_c mm_Model_sideTo) 2 = .ok (.iconst 0, 1) := by decide +kernel
theorem sq_Model_sideTo_2 : rn G mm_Model_sideTo 2 lv st S P ↔ rn G mm_Model_sideTo 3 lv (.int (nI 0) :: st) S P := rn_s dq_Model_sideTo_2 rfl rfl rfl
theorem dq_Model_sideTo_3 : decode (km_c mm_Model_sideTo) 3 = .ok (.istore_n 3, 1) := by decide +kernel
theorem sq_Model_sideTo_3n : rn G mm_Model_sideTo 3 [a0, a1, none, a3] (.int x :: st) S P ↔ rn G mm_Model_sideTo 4 [a0, a1, none, some (.int x)] st S P := rn_s dq_Model_sideTo_3 rfl rfl rfl
theorem sq_Model_sideTo_3i : rn G mm_Model_sideTo 3 [a0, a1, some (.int x2), a3] (.int x :: st) S P ↔ rn G mm_Model_sideTo 4 [a0, a1, some (.int x2), some (.int x)] st S P := rn_s dq_Model_sideTo_3 rfl rfl rfl
theorem sq_Model_sideTo_3r : rn G mm_Model_sideTo 3 [a0, a1, some (.ref z2), a3] (.int x :: st) S P ↔ rn G mm_Model_sideTo 4 [a0, a1, some (.ref z2), some (.int x)] st S P := rn_s dq_Model_sideTo_3 rfl rfl rfl
theorem dq_Model_sideTo_4 : decode (km_c mm_Model_sideTo) 4 = .ok (.iload_n 3, 1) := by decide +kernel
theorem sq_Model_sideTo_4 : rn G mm_Model_sideTo 4 [a0, a1, a2, some (.int x)] st S P ↔ rn G mm_Model_sideTo 5 [a0, a1, a2, some (.int x)] (.int x :: st) S P := rn_s dq_Model_sideTo_4 rfl rfl rfl
theorem dq_Model_sideTo_5 : decode (km_c mm_Model_sideTo) 5 = .ok (.iconst 4, 1) := by decide +kernel
theorem sq_Model_sideTo_5 : rn G mm_Model_sideTo 5 lv st S P ↔ rn G mm_Model_sideTo 6 lv (.int (nI 4) :: st) S P := rn_s dq_Model_sideTo_5 rfl rfl rfl
theorem dq_Model_sideTo_6 : decode (km_c mm_Model_sideTo) 6 = .ok (.if_icmp .ge 24, 3) := by decide +kernel
theorem sq_Model_sideTo_6 : rn G mm_Model_sideTo 6 lv (.int x2 :: .int x :: st) S P ↔ ((x2 ≤ x → rn G mm_Model_sideTo 30 lv st S P) ∧ (¬ (x2 ≤ x) → rn G mm_Model_sideTo 9 lv st S P)) := rn_b (off := 24) dq_Model_sideTo_6 rfl rfl rfl rfl
theorem dq_Model_sideTo_9 : decode (km_c mm_Model_sideTo) 9 = .ok (.iload_n 0, 1) := by decide +kernel
theorem sq_Model_sideTo_9 : rn G mm_Model_sideTo 9 [some (.int x), a1, a2, a3] st S P ↔ rn G mm_Model_sideTo 10 [some (.int x), a1, a2, a3] (.int x :: st) S P := rn_s dq_Model_sideTo_9 rfl rfl rfl
theorem dq_Model_sideTo_10 : decode (km_c mm_Model_sideTo) 10 = .ok (.iload_n 3, 1) := by decide +kernel
theorem sq_Model_sideTo_10 : rn G mm_Model_sideTo 10 [a0, a1, a2, some (.int x)] st S P ↔ rn G mm_Model_sideTo 11 [a0, a1, a2, some (.int x)] (.int x :: st) S P := rn_s dq_Model_sideTo_10 rfl rfl rfl
theorem dq_Model_sideTo_11 : decode (km_c mm_Model_sideTo) 11 = .ok (.invokestatic 80, 3) := by decide +kernel
theorem sq_Model_sideTo_11 {x1 : Int32} {x2 : Int32} {v : Option Value} {S2 : ks_S} (hc : ev G mm_Model_nextTo [.int x1, .int x2] S v S2) (hst : kx_cat st ≤ 8) : rn G mm_Model_sideTo 11 lv (.int x2 :: .int x1 :: st) S P ↔ rn G mm_Model_sideTo 14 lv (v.toList ++ st) S2 P := rn_cs (k := 1) (host := "") (E' := mm_Model_nextTo) dq_Model_sideTo_11 (by decide) (by decide) rfl (ok_v rfl (by decide) (by decide) (Nat.le_add_left _ _) hst (Nat.le_of_ble_eq_true rfl) (Or.inl rfl)) rfl rfl hc
theorem dq_Model_sideTo_14 : decode (km_c mm_Model_sideTo) 14 = .ok (.iload_n 1, 1) := by decide +kernel
theorem sq_Model_sideTo_14 : rn G mm_Model_sideTo 14 [a0, some (.int x), a2, a3] st S P ↔ rn G mm_Model_sideTo 15 [a0, some (.int x), a2, a3] (.int x :: st) S P := rn_s dq_Model_sideTo_14 rfl rfl rfl
theorem dq_Model_sideTo_15 : decode (km_c mm_Model_sideTo) 15 = .ok (.if_icmp .ne 7, 3) := by decide +kernel
theorem sq_Model_sideTo_15 : rn G mm_Model_sideTo 15 lv (.int x2 :: .int x :: st) S P ↔ ((¬ x = x2 → rn G mm_Model_sideTo 22 lv st S P) ∧ (¬ (¬ x = x2) → rn G mm_Model_sideTo 18 lv st S P)) := rn_b (off := 7) dq_Model_sideTo_15 rfl rfl rfl rfl
theorem dq_Model_sideTo_18 : decode (km_c mm_Model_sideTo) 18 = .ok (.iload_n 3, 1) := by decide +kernel
theorem sq_Model_sideTo_18 : rn G mm_Model_sideTo 18 [a0, a1, a2, some (.int x)] st S P ↔ rn G mm_Model_sideTo 19 [a0, a1, a2, some (.int x)] (.int x :: st) S P := rn_s dq_Model_sideTo_18 rfl rfl rfl
theorem dq_Model_sideTo_19 : decode (km_c mm_Model_sideTo) 19 = .ok (.goto 4, 3) := by decide +kernel
theorem sq_Model_sideTo_19 : rn G mm_Model_sideTo 19 lv st S P ↔ rn G mm_Model_sideTo 23 lv st S P := rn_s dq_Model_sideTo_19 rfl rfl rfl
theorem dq_Model_sideTo_22 : decode (km_c mm_Model_sideTo) 22 = .ok (.iload_n 2, 1) := by decide +kernel
theorem sq_Model_sideTo_22 : rn G mm_Model_sideTo 22 [a0, a1, some (.int x), a3] st S P ↔ rn G mm_Model_sideTo 23 [a0, a1, some (.int x), a3] (.int x :: st) S P := rn_s dq_Model_sideTo_22 rfl rfl rfl
theorem dq_Model_sideTo_23 : decode (km_c mm_Model_sideTo) 23 = .ok (.istore_n 2, 1) := by decide +kernel
theorem sq_Model_sideTo_23n : rn G mm_Model_sideTo 23 [a0, none, a2, a3] (.int x :: st) S P ↔ rn G mm_Model_sideTo 24 [a0, none, some (.int x), a3] st S P := rn_s dq_Model_sideTo_23 rfl rfl rfl
theorem sq_Model_sideTo_23i : rn G mm_Model_sideTo 23 [a0, some (.int x2), a2, a3] (.int x :: st) S P ↔ rn G mm_Model_sideTo 24 [a0, some (.int x2), some (.int x), a3] st S P := rn_s dq_Model_sideTo_23 rfl rfl rfl
theorem sq_Model_sideTo_23r : rn G mm_Model_sideTo 23 [a0, some (.ref z2), a2, a3] (.int x :: st) S P ↔ rn G mm_Model_sideTo 24 [a0, some (.ref z2), some (.int x), a3] st S P := rn_s dq_Model_sideTo_23 rfl rfl rfl
theorem dq_Model_sideTo_24 : decode (km_c mm_Model_sideTo) 24 = .ok (.iinc 3 1, 3) := by decide +kernel
theorem sq_Model_sideTo_24n : rn G mm_Model_sideTo 24 [a0, a1, none, some (.int x)] st S P ↔ rn G mm_Model_sideTo 27 [a0, a1, none, some (.int (x + nI 1))] st S P := rn_s dq_Model_sideTo_24 rfl rfl rfl
theorem sq_Model_sideTo_24i : rn G mm_Model_sideTo 24 [a0, a1, some (.int x2), some (.int x)] st S P ↔ rn G mm_Model_sideTo 27 [a0, a1, some (.int x2), some (.int (x + nI 1))] st S P := rn_s dq_Model_sideTo_24 rfl rfl rfl
theorem sq_Model_sideTo_24r : rn G mm_Model_sideTo 24 [a0, a1, some (.ref z2), some (.int x)] st S P ↔ rn G mm_Model_sideTo 27 [a0, a1, some (.ref z2), some (.int (x + nI 1))] st S P := rn_s dq_Model_sideTo_24 rfl rfl rfl
theorem dq_Model_sideTo_27 : decode (km_c mm_Model_sideTo) 27 = .ok (.goto (-23), 3) := by decide +kernel
theorem sq_Model_sideTo_27 : rn G mm_Model_sideTo 27 lv st S P ↔ rn G mm_Model_sideTo 4 lv st S P := rn_s dq_Model_sideTo_27 rfl rfl rfl
theorem dq_Model_sideTo_30 : decode (km_c mm_Model_sideTo) 30 = .ok (.iload_n 2, 1) := by decide +kernel
theorem sq_Model_sideTo_30 : rn G mm_Model_sideTo 30 [a0, a1, some (.int x), a3] st S P ↔ rn G mm_Model_sideTo 31 [a0, a1, some (.int x), a3] (.int x :: st) S P := rn_s dq_Model_sideTo_30 rfl rfl rfl
theorem dq_Model_sideTo_31 : decode (km_c mm_Model_sideTo) 31 = .ok (.ireturn, 1) := by decide +kernel
theorem sq_Model_sideTo_31 : rn G mm_Model_sideTo 31 lv [.int x] S P ↔ P (some (.int x)) S := rn_ir dq_Model_sideTo_31 rfl
theorem dq_Model_back_0 : decode (km_c mm_Model_back) 0 = .ok (.iload_n 1, 1) := by decide +kernel
theorem sq_Model_back_0 : rn G mm_Model_back 0 [a0, some (.int x)] st S P ↔ rn G mm_Model_back 1 [a0, some (.int x)] (.int x :: st) S P := rn_s dq_Model_back_0 rfl rfl rfl
theorem dq_Model_back_1 : decode (km_c mm_Model_back) 1 = .ok (.i2l, 1) := by decide +kernel
theorem sq_Model_back_1 : rn G mm_Model_back 1 lv (.int x :: st) S P ↔ rn G mm_Model_back 2 lv (.long x.toInt64 :: st) S P := rn_s dq_Model_back_1 rfl rfl rfl
theorem dq_Model_back_2 : decode (km_c mm_Model_back) 2 = .ok (.lconst 1, 1) := by decide +kernel
theorem sq_Model_back_2 : rn G mm_Model_back 2 lv st S P ↔ rn G mm_Model_back 3 lv (.long (1) :: st) S P := rn_s dq_Model_back_2 rfl rfl rfl
theorem dq_Model_back_3 : decode (km_c mm_Model_back) 3 = .ok (.ldc2_w 231, 3) := by decide +kernel
theorem sq_Model_back_3 : rn G mm_Model_back 3 lv st S P ↔ rn G mm_Model_back 6 lv (.long (60) :: st) S P := rn_s dq_Model_back_3 rfl rfl rfl
theorem dq_Model_back_6 : decode (km_c mm_Model_back) 6 = .ok (.invokestatic 76, 3) := by decide +kernel
theorem sq_Model_back_6 {y1 : Int64} {y2 : Int64} {y3 : Int64} {v : Option Value} {S2 : ks_S} (hc : ev G mm_Model_in [.long y1, .long y2, .long y3] S v S2) (hst : kx_cat st ≤ 8) : rn G mm_Model_back 6 lv (.long y3 :: .long y2 :: .long y1 :: st) S P ↔ rn G mm_Model_back 9 lv (v.toList ++ st) S2 P := rn_cs (k := 1) (host := "") (E' := mm_Model_in) dq_Model_back_6 (by decide) (by decide) rfl (ok_v rfl (by decide) (by decide) (Nat.le_add_left _ _) hst (Nat.le_of_ble_eq_true rfl) (Or.inl rfl)) rfl rfl hc
theorem dq_Model_back_9 : decode (km_c mm_Model_back) 9 = .ok (.ifCond .ne 5, 3) := by decide +kernel
theorem sq_Model_back_9 : rn G mm_Model_back 9 lv (.int x :: st) S P ↔ ((¬ x = 0 → rn G mm_Model_back 14 lv st S P) ∧ (¬ (¬ x = 0) → rn G mm_Model_back 12 lv st S P)) := rn_b (off := 5) dq_Model_back_9 rfl rfl rfl rfl
theorem dq_Model_back_12 : decode (km_c mm_Model_back) 12 = .ok (.iconst (-1), 1) := by decide +kernel
theorem sq_Model_back_12 : rn G mm_Model_back 12 lv st S P ↔ rn G mm_Model_back 13 lv (.int ((-1)) :: st) S P := rn_s dq_Model_back_12 rfl rfl rfl
theorem dq_Model_back_13 : decode (km_c mm_Model_back) 13 = .ok (.ireturn, 1) := by decide +kernel
theorem sq_Model_back_13 : rn G mm_Model_back 13 lv [.int x] S P ↔ P (some (.int x)) S := rn_ir dq_Model_back_13 rfl
theorem dq_Model_back_14 : decode (km_c mm_Model_back) 14 = .ok (.iload_n 1, 1) := by decide +kernel
theorem sq_Model_back_14 : rn G mm_Model_back 14 [a0, some (.int x)] st S P ↔ rn G mm_Model_back 15 [a0, some (.int x)] (.int x :: st) S P := rn_s dq_Model_back_14 rfl rfl rfl
theorem dq_Model_back_15 : decode (km_c mm_Model_back) 15 = .ok (.aload_n 0, 1) := by decide +kernel
theorem sq_Model_back_15 : rn G mm_Model_back 15 [some (.ref z), a1] st S P ↔ rn G mm_Model_back 16 [some (.ref z), a1] (.ref z :: st) S P := rn_s dq_Model_back_15 rfl rfl rfl
theorem dq_Model_back_16 : decode (km_c mm_Model_back) 16 = .ok (.getfield 134, 3) := by decide +kernel
theorem sq_Model_back_16_45 (ho : sx_o o pl kp) : rn (lt_G o L) mm_Model_back 16 lv (.ref 45 :: st) (sx pl kp I A) P ↔ rn (lt_G o L) mm_Model_back 19 lv (.int (I 45 8) :: st) (sx pl kp I A) P := rx_get (h := "") (ci := 10) (k := 8) dq_Model_back_16 (by decide +kernel) ho (up_b (by decide)) rfl rfl (fl_i (by decide))
theorem dq_Model_back_19 : decode (km_c mm_Model_back) 19 = .ok (.if_icmp .le 6, 3) := by decide +kernel
theorem sq_Model_back_19 : rn G mm_Model_back 19 lv (.int x2 :: .int x :: st) S P ↔ ((x ≤ x2 → rn G mm_Model_back 25 lv st S P) ∧ (¬ (x ≤ x2) → rn G mm_Model_back 22 lv st S P)) := rn_b (off := 6) dq_Model_back_19 rfl rfl rfl rfl
theorem dq_Model_back_22 : decode (km_c mm_Model_back) 22 = .ok (.bipush (-2), 2) := by decide +kernel
theorem sq_Model_back_22 : rn G mm_Model_back 22 lv st S P ↔ rn G mm_Model_back 24 lv (.int ((-2)) :: st) S P := rn_s dq_Model_back_22 rfl rfl rfl
theorem dq_Model_back_24 : decode (km_c mm_Model_back) 24 = .ok (.ireturn, 1) := by decide +kernel
theorem sq_Model_back_24 : rn G mm_Model_back 24 lv [.int x] S P ↔ P (some (.int x)) S := rn_ir dq_Model_back_24 rfl
theorem dq_Model_back_25 : decode (km_c mm_Model_back) 25 = .ok (.aload_n 0, 1) := by decide +kernel
theorem sq_Model_back_25 : rn G mm_Model_back 25 [some (.ref z), a1] st S P ↔ rn G mm_Model_back 26 [some (.ref z), a1] (.ref z :: st) S P := rn_s dq_Model_back_25 rfl rfl rfl
theorem dq_Model_back_26 : decode (km_c mm_Model_back) 26 = .ok (.dup, 1) := by decide +kernel
theorem sq_Model_back_26i : rn G mm_Model_back 26 lv (.int x :: st) S P ↔ rn G mm_Model_back 27 lv (.int x :: .int x :: st) S P := rn_s dq_Model_back_26 rfl rfl rfl
theorem sq_Model_back_26r : rn G mm_Model_back 26 lv (.ref z :: st) S P ↔ rn G mm_Model_back 27 lv (.ref z :: .ref z :: st) S P := rn_s dq_Model_back_26 rfl rfl rfl
theorem dq_Model_back_27 : decode (km_c mm_Model_back) 27 = .ok (.getfield 134, 3) := by decide +kernel
theorem sq_Model_back_27_45 (ho : sx_o o pl kp) : rn (lt_G o L) mm_Model_back 27 lv (.ref 45 :: st) (sx pl kp I A) P ↔ rn (lt_G o L) mm_Model_back 30 lv (.int (I 45 8) :: st) (sx pl kp I A) P := rx_get (h := "") (ci := 10) (k := 8) dq_Model_back_27 (by decide +kernel) ho (up_b (by decide)) rfl rfl (fl_i (by decide))
theorem dq_Model_back_30 : decode (km_c mm_Model_back) 30 = .ok (.iload_n 1, 1) := by decide +kernel
theorem sq_Model_back_30 : rn G mm_Model_back 30 [a0, some (.int x)] st S P ↔ rn G mm_Model_back 31 [a0, some (.int x)] (.int x :: st) S P := rn_s dq_Model_back_30 rfl rfl rfl
theorem dq_Model_back_31 : decode (km_c mm_Model_back) 31 = .ok (.isub, 1) := by decide +kernel
theorem sq_Model_back_31 : rn G mm_Model_back 31 lv (.int x2 :: .int x :: st) S P ↔ rn G mm_Model_back 32 lv (.int (x - x2) :: st) S P := rn_s dq_Model_back_31 rfl rfl rfl
theorem dq_Model_back_32 : decode (km_c mm_Model_back) 32 = .ok (.putfield 134, 3) := by decide +kernel
theorem sq_Model_back_32_45 (ho : sx_o o pl kp) : rn (lt_G o L) mm_Model_back 32 lv (.int x :: .ref 45 :: st) (sx pl kp I A) P ↔ rn (lt_G o L) mm_Model_back 35 lv st (sx pl kp (u2 I 45 8 x) A) P := rx_put (h := "") (ci := 10) (k := 8) dq_Model_back_32 (by decide +kernel) ho (up_b (by decide)) rfl rfl (by decide) (by decide)
theorem dq_Model_back_35 : decode (km_c mm_Model_back) 35 = .ok (.aload_n 0, 1) := by decide +kernel
theorem sq_Model_back_35 : rn G mm_Model_back 35 [some (.ref z), a1] st S P ↔ rn G mm_Model_back 36 [some (.ref z), a1] (.ref z :: st) S P := rn_s dq_Model_back_35 rfl rfl rfl
theorem dq_Model_back_36 : decode (km_c mm_Model_back) 36 = .ok (.getfield 134, 3) := by decide +kernel
theorem sq_Model_back_36_45 (ho : sx_o o pl kp) : rn (lt_G o L) mm_Model_back 36 lv (.ref 45 :: st) (sx pl kp I A) P ↔ rn (lt_G o L) mm_Model_back 39 lv (.int (I 45 8) :: st) (sx pl kp I A) P := rx_get (h := "") (ci := 10) (k := 8) dq_Model_back_36 (by decide +kernel) ho (up_b (by decide)) rfl rfl (fl_i (by decide))
theorem dq_Model_back_39 : decode (km_c mm_Model_back) 39 = .ok (.ireturn, 1) := by decide +kernel
theorem sq_Model_back_39 : rn G mm_Model_back 39 lv [.int x] S P ↔ P (some (.int x)) S := rn_ir dq_Model_back_39 rfl
theorem dq_Model_at_0 : decode (km_c mm_Model_at) 0 = .ok (.iload_n 1, 1) := by decide +kernel
theorem sq_Model_at_0 : rn G mm_Model_at 0 [a0, some (.int x)] st S P ↔ rn G mm_Model_at 1 [a0, some (.int x)] (.int x :: st) S P := rn_s dq_Model_at_0 rfl rfl rfl
theorem dq_Model_at_1 : decode (km_c mm_Model_at) 1 = .ok (.i2l, 1) := by decide +kernel
theorem sq_Model_at_1 : rn G mm_Model_at 1 lv (.int x :: st) S P ↔ rn G mm_Model_at 2 lv (.long x.toInt64 :: st) S P := rn_s dq_Model_at_1 rfl rfl rfl
theorem dq_Model_at_2 : decode (km_c mm_Model_at) 2 = .ok (.lconst 0, 1) := by decide +kernel
theorem sq_Model_at_2 : rn G mm_Model_at 2 lv st S P ↔ rn G mm_Model_at 3 lv (.long (0) :: st) S P := rn_s dq_Model_at_2 rfl rfl rfl
theorem dq_Model_at_3 : decode (km_c mm_Model_at) 3 = .ok (.aload_n 0, 1) := by decide +kernel
theorem sq_Model_at_3 : rn G mm_Model_at 3 [some (.ref z), a1] st S P ↔ rn G mm_Model_at 4 [some (.ref z), a1] (.ref z :: st) S P := rn_s dq_Model_at_3 rfl rfl rfl
theorem dq_Model_at_4 : decode (km_c mm_Model_at) 4 = .ok (.getfield 134, 3) := by decide +kernel
theorem sq_Model_at_4_45 (ho : sx_o o pl kp) : rn (lt_G o L) mm_Model_at 4 lv (.ref 45 :: st) (sx pl kp I A) P ↔ rn (lt_G o L) mm_Model_at 7 lv (.int (I 45 8) :: st) (sx pl kp I A) P := rx_get (h := "") (ci := 10) (k := 8) dq_Model_at_4 (by decide +kernel) ho (up_b (by decide)) rfl rfl (fl_i (by decide))
theorem dq_Model_at_7 : decode (km_c mm_Model_at) 7 = .ok (.iconst 1, 1) := by decide +kernel
theorem sq_Model_at_7 : rn G mm_Model_at 7 lv st S P ↔ rn G mm_Model_at 8 lv (.int (nI 1) :: st) S P := rn_s dq_Model_at_7 rfl rfl rfl
theorem dq_Model_at_8 : decode (km_c mm_Model_at) 8 = .ok (.isub, 1) := by decide +kernel
theorem sq_Model_at_8 : rn G mm_Model_at 8 lv (.int x2 :: .int x :: st) S P ↔ rn G mm_Model_at 9 lv (.int (x - x2) :: st) S P := rn_s dq_Model_at_8 rfl rfl rfl
theorem dq_Model_at_9 : decode (km_c mm_Model_at) 9 = .ok (.i2l, 1) := by decide +kernel
theorem sq_Model_at_9 : rn G mm_Model_at 9 lv (.int x :: st) S P ↔ rn G mm_Model_at 10 lv (.long x.toInt64 :: st) S P := rn_s dq_Model_at_9 rfl rfl rfl
theorem dq_Model_at_10 : decode (km_c mm_Model_at) 10 = .ok (.invokestatic 76, 3) := by decide +kernel
theorem sq_Model_at_10 {y1 : Int64} {y2 : Int64} {y3 : Int64} {v : Option Value} {S2 : ks_S} (hc : ev G mm_Model_in [.long y1, .long y2, .long y3] S v S2) (hst : kx_cat st ≤ 8) : rn G mm_Model_at 10 lv (.long y3 :: .long y2 :: .long y1 :: st) S P ↔ rn G mm_Model_at 13 lv (v.toList ++ st) S2 P := rn_cs (k := 1) (host := "") (E' := mm_Model_in) dq_Model_at_10 (by decide) (by decide) rfl (ok_v rfl (by decide) (by decide) (Nat.le_add_left _ _) hst (Nat.le_of_ble_eq_true rfl) (Or.inl rfl)) rfl rfl hc
theorem dq_Model_at_13 : decode (km_c mm_Model_at) 13 = .ok (.ifCond .eq 12, 3) := by decide +kernel
theorem sq_Model_at_13 : rn G mm_Model_at 13 lv (.int x :: st) S P ↔ ((x = 0 → rn G mm_Model_at 25 lv st S P) ∧ (¬ (x = 0) → rn G mm_Model_at 16 lv st S P)) := rn_b (off := 12) dq_Model_at_13 rfl rfl rfl rfl
theorem dq_Model_at_16 : decode (km_c mm_Model_at) 16 = .ok (.aload_n 0, 1) := by decide +kernel
theorem sq_Model_at_16 : rn G mm_Model_at 16 [some (.ref z), a1] st S P ↔ rn G mm_Model_at 17 [some (.ref z), a1] (.ref z :: st) S P := rn_s dq_Model_at_16 rfl rfl rfl
theorem dq_Model_at_17 : decode (km_c mm_Model_at) 17 = .ok (.getfield 23, 3) := by decide +kernel
theorem sq_Model_at_17_45 (ho : sx_o o pl kp) : rn (lt_G o L) mm_Model_at 17 lv (.ref 45 :: st) (sx pl kp I A) P ↔ rn (lt_G o L) mm_Model_at 20 lv (.ref 49 :: st) (sx pl kp I A) P := rx_get (h := "") (ci := 10) (k := 7) dq_Model_at_17 (by decide +kernel) ho (up_b (by decide)) rfl rfl (fl_r (by decide) (by decide) (by decide) (by decide))
theorem dq_Model_at_20 : decode (km_c mm_Model_at) 20 = .ok (.iload_n 1, 1) := by decide +kernel
theorem sq_Model_at_20 : rn G mm_Model_at 20 [a0, some (.int x)] st S P ↔ rn G mm_Model_at 21 [a0, some (.int x)] (.int x :: st) S P := rn_s dq_Model_at_20 rfl rfl rfl
theorem dq_Model_at_21 : decode (km_c mm_Model_at) 21 = .ok (.iaload, 1) := by decide +kernel
theorem sq_Model_at_21 (ho : sx_o o pl kp) (hk : ak L a = 0) (hu : sx_up pl kp a = true ∨ 1000 ≤ a) (hc : c < ln L a) (hn : ln L a < 2 ^ 31) : rn (lt_G o L) mm_Model_at 21 lv (.int (nI c) :: .ref a :: st) (sx pl kp I A) P ↔ rn (lt_G o L) mm_Model_at 22 lv (.int (A a c) :: st) (sx pl kp I A) P := rx_ild dq_Model_at_21 ho hk hu hc hn
theorem dq_Model_at_22 : decode (km_c mm_Model_at) 22 = .ok (.goto 4, 3) := by decide +kernel
theorem sq_Model_at_22 : rn G mm_Model_at 22 lv st S P ↔ rn G mm_Model_at 26 lv st S P := rn_s dq_Model_at_22 rfl rfl rfl
theorem dq_Model_at_25 : decode (km_c mm_Model_at) 25 = .ok (.iconst (-1), 1) := by decide +kernel
theorem sq_Model_at_25 : rn G mm_Model_at 25 lv st S P ↔ rn G mm_Model_at 26 lv (.int ((-1)) :: st) S P := rn_s dq_Model_at_25 rfl rfl rfl
theorem dq_Model_at_26 : decode (km_c mm_Model_at) 26 = .ok (.ireturn, 1) := by decide +kernel
theorem sq_Model_at_26 : rn G mm_Model_at 26 lv [.int x] S P ↔ P (some (.int x)) S := rn_ir dq_Model_at_26 rfl
theorem dq_Model_road_0 : decode (km_c mm_Model_road) 0 = .ok (.iload_n 1, 1) := by decide +kernel
theorem sq_Model_road_0 : rn G mm_Model_road 0 [a0, some (.int x), a2, a3, a4, a5, a6, a7] st S P ↔ rn G mm_Model_road 1 [a0, some (.int x), a2, a3, a4, a5, a6, a7] (.int x :: st) S P := rn_s dq_Model_road_0 rfl rfl rfl
theorem dq_Model_road_1 : decode (km_c mm_Model_road) 1 = .ok (.i2l, 1) := by decide +kernel
theorem sq_Model_road_1 : rn G mm_Model_road 1 lv (.int x :: st) S P ↔ rn G mm_Model_road 2 lv (.long x.toInt64 :: st) S P := rn_s dq_Model_road_1 rfl rfl rfl
theorem dq_Model_road_2 : decode (km_c mm_Model_road) 2 = .ok (.lconst 0, 1) := by decide +kernel
theorem sq_Model_road_2 : rn G mm_Model_road 2 lv st S P ↔ rn G mm_Model_road 3 lv (.long (0) :: st) S P := rn_s dq_Model_road_2 rfl rfl rfl
theorem dq_Model_road_3 : decode (km_c mm_Model_road) 3 = .ok (.ldc2_w 233, 3) := by decide +kernel
theorem sq_Model_road_3 : rn G mm_Model_road 3 lv st S P ↔ rn G mm_Model_road 6 lv (.long (3) :: st) S P := rn_s dq_Model_road_3 rfl rfl rfl
theorem dq_Model_road_6 : decode (km_c mm_Model_road) 6 = .ok (.invokestatic 76, 3) := by decide +kernel
theorem sq_Model_road_6 {y1 : Int64} {y2 : Int64} {y3 : Int64} {v : Option Value} {S2 : ks_S} (hc : ev G mm_Model_in [.long y1, .long y2, .long y3] S v S2) (hst : kx_cat st ≤ 8) : rn G mm_Model_road 6 lv (.long y3 :: .long y2 :: .long y1 :: st) S P ↔ rn G mm_Model_road 9 lv (v.toList ++ st) S2 P := rn_cs (k := 1) (host := "") (E' := mm_Model_in) dq_Model_road_6 (by decide) (by decide) rfl (ok_v rfl (by decide) (by decide) (Nat.le_add_left _ _) hst (Nat.le_of_ble_eq_true rfl) (Or.inl rfl)) rfl rfl hc
theorem dq_Model_road_9 : decode (km_c mm_Model_road) 9 = .ok (.ifCond .ne 5, 3) := by decide +kernel
theorem sq_Model_road_9 : rn G mm_Model_road 9 lv (.int x :: st) S P ↔ ((¬ x = 0 → rn G mm_Model_road 14 lv st S P) ∧ (¬ (¬ x = 0) → rn G mm_Model_road 12 lv st S P)) := rn_b (off := 5) dq_Model_road_9 rfl rfl rfl rfl
theorem dq_Model_road_12 : decode (km_c mm_Model_road) 12 = .ok (.iconst (-1), 1) := by decide +kernel
theorem sq_Model_road_12 : rn G mm_Model_road 12 lv st S P ↔ rn G mm_Model_road 13 lv (.int ((-1)) :: st) S P := rn_s dq_Model_road_12 rfl rfl rfl
theorem dq_Model_road_13 : decode (km_c mm_Model_road) 13 = .ok (.ireturn, 1) := by decide +kernel
theorem sq_Model_road_13 : rn G mm_Model_road 13 lv [.int x] S P ↔ P (some (.int x)) S := rn_ir dq_Model_road_13 rfl
theorem dq_Model_road_14 : decode (km_c mm_Model_road) 14 = .ok (.aload_n 0, 1) := by decide +kernel
theorem sq_Model_road_14 : rn G mm_Model_road 14 [some (.ref z), a1, a2, a3, a4, a5, a6, a7] st S P ↔ rn G mm_Model_road 15 [some (.ref z), a1, a2, a3, a4, a5, a6, a7] (.ref z :: st) S P := rn_s dq_Model_road_14 rfl rfl rfl
theorem dq_Model_road_15 : decode (km_c mm_Model_road) 15 = .ok (.invokevirtual 196, 3) := by decide +kernel
theorem sq_Model_road_15_45  {v : Option Value} {S2 : ks_S} (hc : ev (lt_G o L) mm_Model_findCosts [.ref 45] (sx pl kp I A) v S2) (ho : sx_o o pl kp) (hst : kx_cat st ≤ 8) : rn (lt_G o L) mm_Model_road 15 lv (.ref 45 :: st) (sx pl kp I A) P ↔ rn (lt_G o L) mm_Model_road 18 lv (v.toList ++ st) S2 P := rn_cv (k := 0) (host := "") (E' := mm_Model_findCosts) dq_Model_road_15 rfl (ok_v rfl (by decide) (by decide) (Nat.le_add_left _ _) hst (Nat.le_of_ble_eq_true rfl) (Or.inr (rc_v ho (up_b (by decide)) rfl))) rfl rfl hc
theorem dq_Model_road_18 : decode (km_c mm_Model_road) 18 = .ok (.iconst 0, 1) := by decide +kernel
theorem sq_Model_road_18 : rn G mm_Model_road 18 lv st S P ↔ rn G mm_Model_road 19 lv (.int (nI 0) :: st) S P := rn_s dq_Model_road_18 rfl rfl rfl
theorem dq_Model_road_19 : decode (km_c mm_Model_road) 19 = .ok (.istore_n 2, 1) := by decide +kernel
theorem sq_Model_road_19n : rn G mm_Model_road 19 [a0, none, a2, a3, a4, a5, a6, a7] (.int x :: st) S P ↔ rn G mm_Model_road 20 [a0, none, some (.int x), a3, a4, a5, a6, a7] st S P := rn_s dq_Model_road_19 rfl rfl rfl
theorem sq_Model_road_19i : rn G mm_Model_road 19 [a0, some (.int x2), a2, a3, a4, a5, a6, a7] (.int x :: st) S P ↔ rn G mm_Model_road 20 [a0, some (.int x2), some (.int x), a3, a4, a5, a6, a7] st S P := rn_s dq_Model_road_19 rfl rfl rfl
theorem sq_Model_road_19r : rn G mm_Model_road 19 [a0, some (.ref z2), a2, a3, a4, a5, a6, a7] (.int x :: st) S P ↔ rn G mm_Model_road 20 [a0, some (.ref z2), some (.int x), a3, a4, a5, a6, a7] st S P := rn_s dq_Model_road_19 rfl rfl rfl
theorem dq_Model_road_20 : decode (km_c mm_Model_road) 20 = .ok (.iconst 0, 1) := by decide +kernel
theorem sq_Model_road_20 : rn G mm_Model_road 20 lv st S P ↔ rn G mm_Model_road 21 lv (.int (nI 0) :: st) S P := rn_s dq_Model_road_20 rfl rfl rfl
theorem dq_Model_road_21 : decode (km_c mm_Model_road) 21 = .ok (.istore_n 3, 1) := by decide +kernel
theorem sq_Model_road_21n : rn G mm_Model_road 21 [a0, a1, none, a3, a4, a5, a6, a7] (.int x :: st) S P ↔ rn G mm_Model_road 22 [a0, a1, none, some (.int x), a4, a5, a6, a7] st S P := rn_s dq_Model_road_21 rfl rfl rfl
theorem sq_Model_road_21i : rn G mm_Model_road 21 [a0, a1, some (.int x2), a3, a4, a5, a6, a7] (.int x :: st) S P ↔ rn G mm_Model_road 22 [a0, a1, some (.int x2), some (.int x), a4, a5, a6, a7] st S P := rn_s dq_Model_road_21 rfl rfl rfl
theorem sq_Model_road_21r : rn G mm_Model_road 21 [a0, a1, some (.ref z2), a3, a4, a5, a6, a7] (.int x :: st) S P ↔ rn G mm_Model_road 22 [a0, a1, some (.ref z2), some (.int x), a4, a5, a6, a7] st S P := rn_s dq_Model_road_21 rfl rfl rfl
theorem dq_Model_road_22 : decode (km_c mm_Model_road) 22 = .ok (.iconst 0, 1) := by decide +kernel
theorem sq_Model_road_22 : rn G mm_Model_road 22 lv st S P ↔ rn G mm_Model_road 23 lv (.int (nI 0) :: st) S P := rn_s dq_Model_road_22 rfl rfl rfl
theorem dq_Model_road_23 : decode (km_c mm_Model_road) 23 = .ok (.istore 4, 2) := by decide +kernel
theorem sq_Model_road_23n : rn G mm_Model_road 23 [a0, a1, a2, none, a4, a5, a6, a7] (.int x :: st) S P ↔ rn G mm_Model_road 25 [a0, a1, a2, none, some (.int x), a5, a6, a7] st S P := rn_s dq_Model_road_23 rfl rfl rfl
theorem sq_Model_road_23i : rn G mm_Model_road 23 [a0, a1, a2, some (.int x2), a4, a5, a6, a7] (.int x :: st) S P ↔ rn G mm_Model_road 25 [a0, a1, a2, some (.int x2), some (.int x), a5, a6, a7] st S P := rn_s dq_Model_road_23 rfl rfl rfl
theorem sq_Model_road_23r : rn G mm_Model_road 23 [a0, a1, a2, some (.ref z2), a4, a5, a6, a7] (.int x :: st) S P ↔ rn G mm_Model_road 25 [a0, a1, a2, some (.ref z2), some (.int x), a5, a6, a7] st S P := rn_s dq_Model_road_23 rfl rfl rfl
theorem dq_Model_road_25 : decode (km_c mm_Model_road) 25 = .ok (.iconst 0, 1) := by decide +kernel
theorem sq_Model_road_25 : rn G mm_Model_road 25 lv st S P ↔ rn G mm_Model_road 26 lv (.int (nI 0) :: st) S P := rn_s dq_Model_road_25 rfl rfl rfl
theorem dq_Model_road_26 : decode (km_c mm_Model_road) 26 = .ok (.istore 5, 2) := by decide +kernel
theorem sq_Model_road_26n : rn G mm_Model_road 26 [a0, a1, a2, a3, none, a5, a6, a7] (.int x :: st) S P ↔ rn G mm_Model_road 28 [a0, a1, a2, a3, none, some (.int x), a6, a7] st S P := rn_s dq_Model_road_26 rfl rfl rfl
theorem sq_Model_road_26i : rn G mm_Model_road 26 [a0, a1, a2, a3, some (.int x2), a5, a6, a7] (.int x :: st) S P ↔ rn G mm_Model_road 28 [a0, a1, a2, a3, some (.int x2), some (.int x), a6, a7] st S P := rn_s dq_Model_road_26 rfl rfl rfl
theorem sq_Model_road_26r : rn G mm_Model_road 26 [a0, a1, a2, a3, some (.ref z2), a5, a6, a7] (.int x :: st) S P ↔ rn G mm_Model_road 28 [a0, a1, a2, a3, some (.ref z2), some (.int x), a6, a7] st S P := rn_s dq_Model_road_26 rfl rfl rfl
theorem dq_Model_road_28 : decode (km_c mm_Model_road) 28 = .ok (.iconst 0, 1) := by decide +kernel
theorem sq_Model_road_28 : rn G mm_Model_road 28 lv st S P ↔ rn G mm_Model_road 29 lv (.int (nI 0) :: st) S P := rn_s dq_Model_road_28 rfl rfl rfl
theorem dq_Model_road_29 : decode (km_c mm_Model_road) 29 = .ok (.istore 6, 2) := by decide +kernel
theorem sq_Model_road_29n : rn G mm_Model_road 29 [a0, a1, a2, a3, a4, none, a6, a7] (.int x :: st) S P ↔ rn G mm_Model_road 31 [a0, a1, a2, a3, a4, none, some (.int x), a7] st S P := rn_s dq_Model_road_29 rfl rfl rfl
theorem sq_Model_road_29i : rn G mm_Model_road 29 [a0, a1, a2, a3, a4, some (.int x2), a6, a7] (.int x :: st) S P ↔ rn G mm_Model_road 31 [a0, a1, a2, a3, a4, some (.int x2), some (.int x), a7] st S P := rn_s dq_Model_road_29 rfl rfl rfl
theorem sq_Model_road_29r : rn G mm_Model_road 29 [a0, a1, a2, a3, a4, some (.ref z2), a6, a7] (.int x :: st) S P ↔ rn G mm_Model_road 31 [a0, a1, a2, a3, a4, some (.ref z2), some (.int x), a7] st S P := rn_s dq_Model_road_29 rfl rfl rfl
theorem dq_Model_road_31 : decode (km_c mm_Model_road) 31 = .ok (.iload 6, 2) := by decide +kernel
theorem sq_Model_road_31 : rn G mm_Model_road 31 [a0, a1, a2, a3, a4, a5, some (.int x), a7] st S P ↔ rn G mm_Model_road 33 [a0, a1, a2, a3, a4, a5, some (.int x), a7] (.int x :: st) S P := rn_s dq_Model_road_31 rfl rfl rfl
theorem dq_Model_road_33 : decode (km_c mm_Model_road) 33 = .ok (.aload_n 0, 1) := by decide +kernel
theorem sq_Model_road_33 : rn G mm_Model_road 33 [some (.ref z), a1, a2, a3, a4, a5, a6, a7] st S P ↔ rn G mm_Model_road 34 [some (.ref z), a1, a2, a3, a4, a5, a6, a7] (.ref z :: st) S P := rn_s dq_Model_road_33 rfl rfl rfl
theorem dq_Model_road_34 : decode (km_c mm_Model_road) 34 = .ok (.getfield 134, 3) := by decide +kernel
theorem sq_Model_road_34_45 (ho : sx_o o pl kp) : rn (lt_G o L) mm_Model_road 34 lv (.ref 45 :: st) (sx pl kp I A) P ↔ rn (lt_G o L) mm_Model_road 37 lv (.int (I 45 8) :: st) (sx pl kp I A) P := rx_get (h := "") (ci := 10) (k := 8) dq_Model_road_34 (by decide +kernel) ho (up_b (by decide)) rfl rfl (fl_i (by decide))
theorem dq_Model_road_37 : decode (km_c mm_Model_road) 37 = .ok (.if_icmp .ge 139, 3) := by decide +kernel
theorem sq_Model_road_37 : rn G mm_Model_road 37 lv (.int x2 :: .int x :: st) S P ↔ ((x2 ≤ x → rn G mm_Model_road 176 lv st S P) ∧ (¬ (x2 ≤ x) → rn G mm_Model_road 40 lv st S P)) := rn_b (off := 139) dq_Model_road_37 rfl rfl rfl rfl
theorem dq_Model_road_40 : decode (km_c mm_Model_road) 40 = .ok (.iload_n 2, 1) := by decide +kernel
theorem sq_Model_road_40 : rn G mm_Model_road 40 [a0, a1, some (.int x), a3, a4, a5, a6, a7] st S P ↔ rn G mm_Model_road 41 [a0, a1, some (.int x), a3, a4, a5, a6, a7] (.int x :: st) S P := rn_s dq_Model_road_40 rfl rfl rfl
theorem dq_Model_road_41 : decode (km_c mm_Model_road) 41 = .ok (.aload_n 0, 1) := by decide +kernel
theorem sq_Model_road_41 : rn G mm_Model_road 41 [some (.ref z), a1, a2, a3, a4, a5, a6, a7] st S P ↔ rn G mm_Model_road 42 [some (.ref z), a1, a2, a3, a4, a5, a6, a7] (.ref z :: st) S P := rn_s dq_Model_road_41 rfl rfl rfl
theorem dq_Model_road_42 : decode (km_c mm_Model_road) 42 = .ok (.getfield 47, 3) := by decide +kernel
theorem sq_Model_road_42_45 (ho : sx_o o pl kp) : rn (lt_G o L) mm_Model_road 42 lv (.ref 45 :: st) (sx pl kp I A) P ↔ rn (lt_G o L) mm_Model_road 45 lv (.ref 56 :: st) (sx pl kp I A) P := rx_get (h := "") (ci := 10) (k := 20) dq_Model_road_42 (by decide +kernel) ho (up_b (by decide)) rfl rfl (fl_r (by decide) (by decide) (by decide) (by decide))
theorem dq_Model_road_45 : decode (km_c mm_Model_road) 45 = .ok (.aload_n 0, 1) := by decide +kernel
theorem sq_Model_road_45 : rn G mm_Model_road 45 [some (.ref z), a1, a2, a3, a4, a5, a6, a7] st S P ↔ rn G mm_Model_road 46 [some (.ref z), a1, a2, a3, a4, a5, a6, a7] (.ref z :: st) S P := rn_s dq_Model_road_45 rfl rfl rfl
theorem dq_Model_road_46 : decode (km_c mm_Model_road) 46 = .ok (.getfield 23, 3) := by decide +kernel
theorem sq_Model_road_46_45 (ho : sx_o o pl kp) : rn (lt_G o L) mm_Model_road 46 lv (.ref 45 :: st) (sx pl kp I A) P ↔ rn (lt_G o L) mm_Model_road 49 lv (.ref 49 :: st) (sx pl kp I A) P := rx_get (h := "") (ci := 10) (k := 7) dq_Model_road_46 (by decide +kernel) ho (up_b (by decide)) rfl rfl (fl_r (by decide) (by decide) (by decide) (by decide))
theorem dq_Model_road_49 : decode (km_c mm_Model_road) 49 = .ok (.iload 6, 2) := by decide +kernel
theorem sq_Model_road_49 : rn G mm_Model_road 49 [a0, a1, a2, a3, a4, a5, some (.int x), a7] st S P ↔ rn G mm_Model_road 51 [a0, a1, a2, a3, a4, a5, some (.int x), a7] (.int x :: st) S P := rn_s dq_Model_road_49 rfl rfl rfl
theorem dq_Model_road_51 : decode (km_c mm_Model_road) 51 = .ok (.iaload, 1) := by decide +kernel
theorem sq_Model_road_51 (ho : sx_o o pl kp) (hk : ak L a = 0) (hu : sx_up pl kp a = true ∨ 1000 ≤ a) (hc : c < ln L a) (hn : ln L a < 2 ^ 31) : rn (lt_G o L) mm_Model_road 51 lv (.int (nI c) :: .ref a :: st) (sx pl kp I A) P ↔ rn (lt_G o L) mm_Model_road 52 lv (.int (A a c) :: st) (sx pl kp I A) P := rx_ild dq_Model_road_51 ho hk hu hc hn
theorem dq_Model_road_52 : decode (km_c mm_Model_road) 52 = .ok (.iaload, 1) := by decide +kernel
theorem sq_Model_road_52 (ho : sx_o o pl kp) (hk : ak L a = 0) (hu : sx_up pl kp a = true ∨ 1000 ≤ a) (hc : c < ln L a) (hn : ln L a < 2 ^ 31) : rn (lt_G o L) mm_Model_road 52 lv (.int (nI c) :: .ref a :: st) (sx pl kp I A) P ↔ rn (lt_G o L) mm_Model_road 53 lv (.int (A a c) :: st) (sx pl kp I A) P := rx_ild dq_Model_road_52 ho hk hu hc hn
theorem dq_Model_road_53 : decode (km_c mm_Model_road) 53 = .ok (.iadd, 1) := by decide +kernel
theorem sq_Model_road_53 : rn G mm_Model_road 53 lv (.int x2 :: .int x :: st) S P ↔ rn G mm_Model_road 54 lv (.int (x + x2) :: st) S P := rn_s dq_Model_road_53 rfl rfl rfl
theorem dq_Model_road_54 : decode (km_c mm_Model_road) 54 = .ok (.istore_n 2, 1) := by decide +kernel
theorem sq_Model_road_54n : rn G mm_Model_road 54 [a0, none, a2, a3, a4, a5, a6, a7] (.int x :: st) S P ↔ rn G mm_Model_road 55 [a0, none, some (.int x), a3, a4, a5, a6, a7] st S P := rn_s dq_Model_road_54 rfl rfl rfl
theorem sq_Model_road_54i : rn G mm_Model_road 54 [a0, some (.int x2), a2, a3, a4, a5, a6, a7] (.int x :: st) S P ↔ rn G mm_Model_road 55 [a0, some (.int x2), some (.int x), a3, a4, a5, a6, a7] st S P := rn_s dq_Model_road_54 rfl rfl rfl
theorem sq_Model_road_54r : rn G mm_Model_road 54 [a0, some (.ref z2), a2, a3, a4, a5, a6, a7] (.int x :: st) S P ↔ rn G mm_Model_road 55 [a0, some (.ref z2), some (.int x), a3, a4, a5, a6, a7] st S P := rn_s dq_Model_road_54 rfl rfl rfl
theorem dq_Model_road_55 : decode (km_c mm_Model_road) 55 = .ok (.iload_n 3, 1) := by decide +kernel
theorem sq_Model_road_55 : rn G mm_Model_road 55 [a0, a1, a2, some (.int x), a4, a5, a6, a7] st S P ↔ rn G mm_Model_road 56 [a0, a1, a2, some (.int x), a4, a5, a6, a7] (.int x :: st) S P := rn_s dq_Model_road_55 rfl rfl rfl
theorem dq_Model_road_56 : decode (km_c mm_Model_road) 56 = .ok (.aload_n 0, 1) := by decide +kernel
theorem sq_Model_road_56 : rn G mm_Model_road 56 [some (.ref z), a1, a2, a3, a4, a5, a6, a7] st S P ↔ rn G mm_Model_road 57 [some (.ref z), a1, a2, a3, a4, a5, a6, a7] (.ref z :: st) S P := rn_s dq_Model_road_56 rfl rfl rfl
theorem dq_Model_road_57 : decode (km_c mm_Model_road) 57 = .ok (.getfield 50, 3) := by decide +kernel
theorem sq_Model_road_57_45 (ho : sx_o o pl kp) : rn (lt_G o L) mm_Model_road 57 lv (.ref 45 :: st) (sx pl kp I A) P ↔ rn (lt_G o L) mm_Model_road 60 lv (.ref 57 :: st) (sx pl kp I A) P := rx_get (h := "") (ci := 10) (k := 21) dq_Model_road_57 (by decide +kernel) ho (up_b (by decide)) rfl rfl (fl_r (by decide) (by decide) (by decide) (by decide))
theorem dq_Model_road_60 : decode (km_c mm_Model_road) 60 = .ok (.aload_n 0, 1) := by decide +kernel
theorem sq_Model_road_60 : rn G mm_Model_road 60 [some (.ref z), a1, a2, a3, a4, a5, a6, a7] st S P ↔ rn G mm_Model_road 61 [some (.ref z), a1, a2, a3, a4, a5, a6, a7] (.ref z :: st) S P := rn_s dq_Model_road_60 rfl rfl rfl
theorem dq_Model_road_61 : decode (km_c mm_Model_road) 61 = .ok (.getfield 23, 3) := by decide +kernel
theorem sq_Model_road_61_45 (ho : sx_o o pl kp) : rn (lt_G o L) mm_Model_road 61 lv (.ref 45 :: st) (sx pl kp I A) P ↔ rn (lt_G o L) mm_Model_road 64 lv (.ref 49 :: st) (sx pl kp I A) P := rx_get (h := "") (ci := 10) (k := 7) dq_Model_road_61 (by decide +kernel) ho (up_b (by decide)) rfl rfl (fl_r (by decide) (by decide) (by decide) (by decide))
theorem dq_Model_road_64 : decode (km_c mm_Model_road) 64 = .ok (.iload 6, 2) := by decide +kernel
theorem sq_Model_road_64 : rn G mm_Model_road 64 [a0, a1, a2, a3, a4, a5, some (.int x), a7] st S P ↔ rn G mm_Model_road 66 [a0, a1, a2, a3, a4, a5, some (.int x), a7] (.int x :: st) S P := rn_s dq_Model_road_64 rfl rfl rfl
theorem dq_Model_road_66 : decode (km_c mm_Model_road) 66 = .ok (.iaload, 1) := by decide +kernel
theorem sq_Model_road_66 (ho : sx_o o pl kp) (hk : ak L a = 0) (hu : sx_up pl kp a = true ∨ 1000 ≤ a) (hc : c < ln L a) (hn : ln L a < 2 ^ 31) : rn (lt_G o L) mm_Model_road 66 lv (.int (nI c) :: .ref a :: st) (sx pl kp I A) P ↔ rn (lt_G o L) mm_Model_road 67 lv (.int (A a c) :: st) (sx pl kp I A) P := rx_ild dq_Model_road_66 ho hk hu hc hn
theorem dq_Model_road_67 : decode (km_c mm_Model_road) 67 = .ok (.iaload, 1) := by decide +kernel
theorem sq_Model_road_67 (ho : sx_o o pl kp) (hk : ak L a = 0) (hu : sx_up pl kp a = true ∨ 1000 ≤ a) (hc : c < ln L a) (hn : ln L a < 2 ^ 31) : rn (lt_G o L) mm_Model_road 67 lv (.int (nI c) :: .ref a :: st) (sx pl kp I A) P ↔ rn (lt_G o L) mm_Model_road 68 lv (.int (A a c) :: st) (sx pl kp I A) P := rx_ild dq_Model_road_67 ho hk hu hc hn
theorem dq_Model_road_68 : decode (km_c mm_Model_road) 68 = .ok (.ior, 1) := by decide +kernel
theorem sq_Model_road_68 : rn G mm_Model_road 68 lv (.int x2 :: .int x :: st) S P ↔ rn G mm_Model_road 69 lv (.int (x ||| x2) :: st) S P := rn_s dq_Model_road_68 rfl rfl rfl
theorem dq_Model_road_69 : decode (km_c mm_Model_road) 69 = .ok (.istore_n 3, 1) := by decide +kernel
theorem sq_Model_road_69n : rn G mm_Model_road 69 [a0, a1, none, a3, a4, a5, a6, a7] (.int x :: st) S P ↔ rn G mm_Model_road 70 [a0, a1, none, some (.int x), a4, a5, a6, a7] st S P := rn_s dq_Model_road_69 rfl rfl rfl
theorem sq_Model_road_69i : rn G mm_Model_road 69 [a0, a1, some (.int x2), a3, a4, a5, a6, a7] (.int x :: st) S P ↔ rn G mm_Model_road 70 [a0, a1, some (.int x2), some (.int x), a4, a5, a6, a7] st S P := rn_s dq_Model_road_69 rfl rfl rfl
theorem sq_Model_road_69r : rn G mm_Model_road 69 [a0, a1, some (.ref z2), a3, a4, a5, a6, a7] (.int x :: st) S P ↔ rn G mm_Model_road 70 [a0, a1, some (.ref z2), some (.int x), a4, a5, a6, a7] st S P := rn_s dq_Model_road_69 rfl rfl rfl
theorem dq_Model_road_70 : decode (km_c mm_Model_road) 70 = .ok (.iload 4, 2) := by decide +kernel
theorem sq_Model_road_70 : rn G mm_Model_road 70 [a0, a1, a2, a3, some (.int x), a5, a6, a7] st S P ↔ rn G mm_Model_road 72 [a0, a1, a2, a3, some (.int x), a5, a6, a7] (.int x :: st) S P := rn_s dq_Model_road_70 rfl rfl rfl
theorem dq_Model_road_72 : decode (km_c mm_Model_road) 72 = .ok (.iload 6, 2) := by decide +kernel
theorem sq_Model_road_72 : rn G mm_Model_road 72 [a0, a1, a2, a3, a4, a5, some (.int x), a7] st S P ↔ rn G mm_Model_road 74 [a0, a1, a2, a3, a4, a5, some (.int x), a7] (.int x :: st) S P := rn_s dq_Model_road_72 rfl rfl rfl
theorem dq_Model_road_74 : decode (km_c mm_Model_road) 74 = .ok (.ifCond .le 59, 3) := by decide +kernel
theorem sq_Model_road_74 : rn G mm_Model_road 74 lv (.int x :: st) S P ↔ ((x ≤ 0 → rn G mm_Model_road 133 lv st S P) ∧ (¬ (x ≤ 0) → rn G mm_Model_road 77 lv st S P)) := rn_b (off := 59) dq_Model_road_74 rfl rfl rfl rfl
theorem dq_Model_road_77 : decode (km_c mm_Model_road) 77 = .ok (.iload 6, 2) := by decide +kernel
theorem sq_Model_road_77 : rn G mm_Model_road 77 [a0, a1, a2, a3, a4, a5, some (.int x), a7] st S P ↔ rn G mm_Model_road 79 [a0, a1, a2, a3, a4, a5, some (.int x), a7] (.int x :: st) S P := rn_s dq_Model_road_77 rfl rfl rfl
theorem dq_Model_road_79 : decode (km_c mm_Model_road) 79 = .ok (.aload_n 0, 1) := by decide +kernel
theorem sq_Model_road_79 : rn G mm_Model_road 79 [some (.ref z), a1, a2, a3, a4, a5, a6, a7] st S P ↔ rn G mm_Model_road 80 [some (.ref z), a1, a2, a3, a4, a5, a6, a7] (.ref z :: st) S P := rn_s dq_Model_road_79 rfl rfl rfl
theorem dq_Model_road_80 : decode (km_c mm_Model_road) 80 = .ok (.getfield 134, 3) := by decide +kernel
theorem sq_Model_road_80_45 (ho : sx_o o pl kp) : rn (lt_G o L) mm_Model_road 80 lv (.ref 45 :: st) (sx pl kp I A) P ↔ rn (lt_G o L) mm_Model_road 83 lv (.int (I 45 8) :: st) (sx pl kp I A) P := rx_get (h := "") (ci := 10) (k := 8) dq_Model_road_80 (by decide +kernel) ho (up_b (by decide)) rfl rfl (fl_i (by decide))
theorem dq_Model_road_83 : decode (km_c mm_Model_road) 83 = .ok (.iconst 1, 1) := by decide +kernel
theorem sq_Model_road_83 : rn G mm_Model_road 83 lv st S P ↔ rn G mm_Model_road 84 lv (.int (nI 1) :: st) S P := rn_s dq_Model_road_83 rfl rfl rfl
theorem dq_Model_road_84 : decode (km_c mm_Model_road) 84 = .ok (.isub, 1) := by decide +kernel
theorem sq_Model_road_84 : rn G mm_Model_road 84 lv (.int x2 :: .int x :: st) S P ↔ rn G mm_Model_road 85 lv (.int (x - x2) :: st) S P := rn_s dq_Model_road_84 rfl rfl rfl
theorem dq_Model_road_85 : decode (km_c mm_Model_road) 85 = .ok (.if_icmp .ge 48, 3) := by decide +kernel
theorem sq_Model_road_85 : rn G mm_Model_road 85 lv (.int x2 :: .int x :: st) S P ↔ ((x2 ≤ x → rn G mm_Model_road 133 lv st S P) ∧ (¬ (x2 ≤ x) → rn G mm_Model_road 88 lv st S P)) := rn_b (off := 48) dq_Model_road_85 rfl rfl rfl rfl
theorem dq_Model_road_88 : decode (km_c mm_Model_road) 88 = .ok (.aload_n 0, 1) := by decide +kernel
theorem sq_Model_road_88 : rn G mm_Model_road 88 [some (.ref z), a1, a2, a3, a4, a5, a6, a7] st S P ↔ rn G mm_Model_road 89 [some (.ref z), a1, a2, a3, a4, a5, a6, a7] (.ref z :: st) S P := rn_s dq_Model_road_88 rfl rfl rfl
theorem dq_Model_road_89 : decode (km_c mm_Model_road) 89 = .ok (.getfield 23, 3) := by decide +kernel
theorem sq_Model_road_89_45 (ho : sx_o o pl kp) : rn (lt_G o L) mm_Model_road 89 lv (.ref 45 :: st) (sx pl kp I A) P ↔ rn (lt_G o L) mm_Model_road 92 lv (.ref 49 :: st) (sx pl kp I A) P := rx_get (h := "") (ci := 10) (k := 7) dq_Model_road_89 (by decide +kernel) ho (up_b (by decide)) rfl rfl (fl_r (by decide) (by decide) (by decide) (by decide))
theorem dq_Model_road_92 : decode (km_c mm_Model_road) 92 = .ok (.iload 6, 2) := by decide +kernel
theorem sq_Model_road_92 : rn G mm_Model_road 92 [a0, a1, a2, a3, a4, a5, some (.int x), a7] st S P ↔ rn G mm_Model_road 94 [a0, a1, a2, a3, a4, a5, some (.int x), a7] (.int x :: st) S P := rn_s dq_Model_road_92 rfl rfl rfl
theorem dq_Model_road_94 : decode (km_c mm_Model_road) 94 = .ok (.iconst 1, 1) := by decide +kernel
theorem sq_Model_road_94 : rn G mm_Model_road 94 lv st S P ↔ rn G mm_Model_road 95 lv (.int (nI 1) :: st) S P := rn_s dq_Model_road_94 rfl rfl rfl
theorem dq_Model_road_95 : decode (km_c mm_Model_road) 95 = .ok (.isub, 1) := by decide +kernel
theorem sq_Model_road_95 : rn G mm_Model_road 95 lv (.int x2 :: .int x :: st) S P ↔ rn G mm_Model_road 96 lv (.int (x - x2) :: st) S P := rn_s dq_Model_road_95 rfl rfl rfl
theorem dq_Model_road_96 : decode (km_c mm_Model_road) 96 = .ok (.iaload, 1) := by decide +kernel
theorem sq_Model_road_96 (ho : sx_o o pl kp) (hk : ak L a = 0) (hu : sx_up pl kp a = true ∨ 1000 ≤ a) (hc : c < ln L a) (hn : ln L a < 2 ^ 31) : rn (lt_G o L) mm_Model_road 96 lv (.int (nI c) :: .ref a :: st) (sx pl kp I A) P ↔ rn (lt_G o L) mm_Model_road 97 lv (.int (A a c) :: st) (sx pl kp I A) P := rx_ild dq_Model_road_96 ho hk hu hc hn
theorem dq_Model_road_97 : decode (km_c mm_Model_road) 97 = .ok (.aload_n 0, 1) := by decide +kernel
theorem sq_Model_road_97 : rn G mm_Model_road 97 [some (.ref z), a1, a2, a3, a4, a5, a6, a7] st S P ↔ rn G mm_Model_road 98 [some (.ref z), a1, a2, a3, a4, a5, a6, a7] (.ref z :: st) S P := rn_s dq_Model_road_97 rfl rfl rfl
theorem dq_Model_road_98 : decode (km_c mm_Model_road) 98 = .ok (.getfield 23, 3) := by decide +kernel
theorem sq_Model_road_98_45 (ho : sx_o o pl kp) : rn (lt_G o L) mm_Model_road 98 lv (.ref 45 :: st) (sx pl kp I A) P ↔ rn (lt_G o L) mm_Model_road 101 lv (.ref 49 :: st) (sx pl kp I A) P := rx_get (h := "") (ci := 10) (k := 7) dq_Model_road_98 (by decide +kernel) ho (up_b (by decide)) rfl rfl (fl_r (by decide) (by decide) (by decide) (by decide))
theorem dq_Model_road_101 : decode (km_c mm_Model_road) 101 = .ok (.iload 6, 2) := by decide +kernel
theorem sq_Model_road_101 : rn G mm_Model_road 101 [a0, a1, a2, a3, a4, a5, some (.int x), a7] st S P ↔ rn G mm_Model_road 103 [a0, a1, a2, a3, a4, a5, some (.int x), a7] (.int x :: st) S P := rn_s dq_Model_road_101 rfl rfl rfl
theorem dq_Model_road_103 : decode (km_c mm_Model_road) 103 = .ok (.iaload, 1) := by decide +kernel
theorem sq_Model_road_103 (ho : sx_o o pl kp) (hk : ak L a = 0) (hu : sx_up pl kp a = true ∨ 1000 ≤ a) (hc : c < ln L a) (hn : ln L a < 2 ^ 31) : rn (lt_G o L) mm_Model_road 103 lv (.int (nI c) :: .ref a :: st) (sx pl kp I A) P ↔ rn (lt_G o L) mm_Model_road 104 lv (.int (A a c) :: st) (sx pl kp I A) P := rx_ild dq_Model_road_103 ho hk hu hc hn
theorem dq_Model_road_104 : decode (km_c mm_Model_road) 104 = .ok (.invokestatic 228, 3) := by decide +kernel
theorem sq_Model_road_104 {x1 : Int32} {x2 : Int32} {v : Option Value} {S2 : ks_S} (hc : ev G mm_Model_sideTo [.int x1, .int x2] S v S2) (hst : kx_cat st ≤ 8) : rn G mm_Model_road 104 lv (.int x2 :: .int x1 :: st) S P ↔ rn G mm_Model_road 107 lv (v.toList ++ st) S2 P := rn_cs (k := 1) (host := "") (E' := mm_Model_sideTo) dq_Model_road_104 (by decide) (by decide) rfl (ok_v rfl (by decide) (by decide) (Nat.le_add_left _ _) hst (Nat.le_of_ble_eq_true rfl) (Or.inl rfl)) rfl rfl hc
theorem dq_Model_road_107 : decode (km_c mm_Model_road) 107 = .ok (.aload_n 0, 1) := by decide +kernel
theorem sq_Model_road_107 : rn G mm_Model_road 107 [some (.ref z), a1, a2, a3, a4, a5, a6, a7] st S P ↔ rn G mm_Model_road 108 [some (.ref z), a1, a2, a3, a4, a5, a6, a7] (.ref z :: st) S P := rn_s dq_Model_road_107 rfl rfl rfl
theorem dq_Model_road_108 : decode (km_c mm_Model_road) 108 = .ok (.getfield 23, 3) := by decide +kernel
theorem sq_Model_road_108_45 (ho : sx_o o pl kp) : rn (lt_G o L) mm_Model_road 108 lv (.ref 45 :: st) (sx pl kp I A) P ↔ rn (lt_G o L) mm_Model_road 111 lv (.ref 49 :: st) (sx pl kp I A) P := rx_get (h := "") (ci := 10) (k := 7) dq_Model_road_108 (by decide +kernel) ho (up_b (by decide)) rfl rfl (fl_r (by decide) (by decide) (by decide) (by decide))
theorem dq_Model_road_111 : decode (km_c mm_Model_road) 111 = .ok (.iload 6, 2) := by decide +kernel
theorem sq_Model_road_111 : rn G mm_Model_road 111 [a0, a1, a2, a3, a4, a5, some (.int x), a7] st S P ↔ rn G mm_Model_road 113 [a0, a1, a2, a3, a4, a5, some (.int x), a7] (.int x :: st) S P := rn_s dq_Model_road_111 rfl rfl rfl
theorem dq_Model_road_113 : decode (km_c mm_Model_road) 113 = .ok (.iaload, 1) := by decide +kernel
theorem sq_Model_road_113 (ho : sx_o o pl kp) (hk : ak L a = 0) (hu : sx_up pl kp a = true ∨ 1000 ≤ a) (hc : c < ln L a) (hn : ln L a < 2 ^ 31) : rn (lt_G o L) mm_Model_road 113 lv (.int (nI c) :: .ref a :: st) (sx pl kp I A) P ↔ rn (lt_G o L) mm_Model_road 114 lv (.int (A a c) :: st) (sx pl kp I A) P := rx_ild dq_Model_road_113 ho hk hu hc hn
theorem dq_Model_road_114 : decode (km_c mm_Model_road) 114 = .ok (.aload_n 0, 1) := by decide +kernel
theorem sq_Model_road_114 : rn G mm_Model_road 114 [some (.ref z), a1, a2, a3, a4, a5, a6, a7] st S P ↔ rn G mm_Model_road 115 [some (.ref z), a1, a2, a3, a4, a5, a6, a7] (.ref z :: st) S P := rn_s dq_Model_road_114 rfl rfl rfl
theorem dq_Model_road_115 : decode (km_c mm_Model_road) 115 = .ok (.getfield 23, 3) := by decide +kernel
theorem sq_Model_road_115_45 (ho : sx_o o pl kp) : rn (lt_G o L) mm_Model_road 115 lv (.ref 45 :: st) (sx pl kp I A) P ↔ rn (lt_G o L) mm_Model_road 118 lv (.ref 49 :: st) (sx pl kp I A) P := rx_get (h := "") (ci := 10) (k := 7) dq_Model_road_115 (by decide +kernel) ho (up_b (by decide)) rfl rfl (fl_r (by decide) (by decide) (by decide) (by decide))
theorem dq_Model_road_118 : decode (km_c mm_Model_road) 118 = .ok (.iload 6, 2) := by decide +kernel
theorem sq_Model_road_118 : rn G mm_Model_road 118 [a0, a1, a2, a3, a4, a5, some (.int x), a7] st S P ↔ rn G mm_Model_road 120 [a0, a1, a2, a3, a4, a5, some (.int x), a7] (.int x :: st) S P := rn_s dq_Model_road_118 rfl rfl rfl
theorem dq_Model_road_120 : decode (km_c mm_Model_road) 120 = .ok (.iconst 1, 1) := by decide +kernel
theorem sq_Model_road_120 : rn G mm_Model_road 120 lv st S P ↔ rn G mm_Model_road 121 lv (.int (nI 1) :: st) S P := rn_s dq_Model_road_120 rfl rfl rfl
theorem dq_Model_road_121 : decode (km_c mm_Model_road) 121 = .ok (.iadd, 1) := by decide +kernel
theorem sq_Model_road_121 : rn G mm_Model_road 121 lv (.int x2 :: .int x :: st) S P ↔ rn G mm_Model_road 122 lv (.int (x + x2) :: st) S P := rn_s dq_Model_road_121 rfl rfl rfl
theorem dq_Model_road_122 : decode (km_c mm_Model_road) 122 = .ok (.iaload, 1) := by decide +kernel
theorem sq_Model_road_122 (ho : sx_o o pl kp) (hk : ak L a = 0) (hu : sx_up pl kp a = true ∨ 1000 ≤ a) (hc : c < ln L a) (hn : ln L a < 2 ^ 31) : rn (lt_G o L) mm_Model_road 122 lv (.int (nI c) :: .ref a :: st) (sx pl kp I A) P ↔ rn (lt_G o L) mm_Model_road 123 lv (.int (A a c) :: st) (sx pl kp I A) P := rx_ild dq_Model_road_122 ho hk hu hc hn
theorem dq_Model_road_123 : decode (km_c mm_Model_road) 123 = .ok (.invokestatic 228, 3) := by decide +kernel
theorem sq_Model_road_123 {x1 : Int32} {x2 : Int32} {v : Option Value} {S2 : ks_S} (hc : ev G mm_Model_sideTo [.int x1, .int x2] S v S2) (hst : kx_cat st ≤ 8) : rn G mm_Model_road 123 lv (.int x2 :: .int x1 :: st) S P ↔ rn G mm_Model_road 126 lv (v.toList ++ st) S2 P := rn_cs (k := 1) (host := "") (E' := mm_Model_sideTo) dq_Model_road_123 (by decide) (by decide) rfl (ok_v rfl (by decide) (by decide) (Nat.le_add_left _ _) hst (Nat.le_of_ble_eq_true rfl) (Or.inl rfl)) rfl rfl hc
theorem dq_Model_road_126 : decode (km_c mm_Model_road) 126 = .ok (.if_icmp .eq 7, 3) := by decide +kernel
theorem sq_Model_road_126 : rn G mm_Model_road 126 lv (.int x2 :: .int x :: st) S P ↔ ((x = x2 → rn G mm_Model_road 133 lv st S P) ∧ (¬ (x = x2) → rn G mm_Model_road 129 lv st S P)) := rn_b (off := 7) dq_Model_road_126 rfl rfl rfl rfl
theorem dq_Model_road_129 : decode (km_c mm_Model_road) 129 = .ok (.iconst 1, 1) := by decide +kernel
theorem sq_Model_road_129 : rn G mm_Model_road 129 lv st S P ↔ rn G mm_Model_road 130 lv (.int (nI 1) :: st) S P := rn_s dq_Model_road_129 rfl rfl rfl
theorem dq_Model_road_130 : decode (km_c mm_Model_road) 130 = .ok (.goto 4, 3) := by decide +kernel
theorem sq_Model_road_130 : rn G mm_Model_road 130 lv st S P ↔ rn G mm_Model_road 134 lv st S P := rn_s dq_Model_road_130 rfl rfl rfl
theorem dq_Model_road_133 : decode (km_c mm_Model_road) 133 = .ok (.iconst 0, 1) := by decide +kernel
theorem sq_Model_road_133 : rn G mm_Model_road 133 lv st S P ↔ rn G mm_Model_road 134 lv (.int (nI 0) :: st) S P := rn_s dq_Model_road_133 rfl rfl rfl
theorem dq_Model_road_134 : decode (km_c mm_Model_road) 134 = .ok (.iadd, 1) := by decide +kernel
theorem sq_Model_road_134 : rn G mm_Model_road 134 lv (.int x2 :: .int x :: st) S P ↔ rn G mm_Model_road 135 lv (.int (x + x2) :: st) S P := rn_s dq_Model_road_134 rfl rfl rfl
theorem dq_Model_road_135 : decode (km_c mm_Model_road) 135 = .ok (.istore 4, 2) := by decide +kernel
theorem sq_Model_road_135n : rn G mm_Model_road 135 [a0, a1, a2, none, a4, a5, a6, a7] (.int x :: st) S P ↔ rn G mm_Model_road 137 [a0, a1, a2, none, some (.int x), a5, a6, a7] st S P := rn_s dq_Model_road_135 rfl rfl rfl
theorem sq_Model_road_135i : rn G mm_Model_road 135 [a0, a1, a2, some (.int x2), a4, a5, a6, a7] (.int x :: st) S P ↔ rn G mm_Model_road 137 [a0, a1, a2, some (.int x2), some (.int x), a5, a6, a7] st S P := rn_s dq_Model_road_135 rfl rfl rfl
theorem sq_Model_road_135r : rn G mm_Model_road 135 [a0, a1, a2, some (.ref z2), a4, a5, a6, a7] (.int x :: st) S P ↔ rn G mm_Model_road 137 [a0, a1, a2, some (.ref z2), some (.int x), a5, a6, a7] st S P := rn_s dq_Model_road_135 rfl rfl rfl
theorem dq_Model_road_137 : decode (km_c mm_Model_road) 137 = .ok (.aload_n 0, 1) := by decide +kernel
theorem sq_Model_road_137 : rn G mm_Model_road 137 [some (.ref z), a1, a2, a3, a4, a5, a6, a7] st S P ↔ rn G mm_Model_road 138 [some (.ref z), a1, a2, a3, a4, a5, a6, a7] (.ref z :: st) S P := rn_s dq_Model_road_137 rfl rfl rfl
theorem dq_Model_road_138 : decode (km_c mm_Model_road) 138 = .ok (.aload_n 0, 1) := by decide +kernel
theorem sq_Model_road_138 : rn G mm_Model_road 138 [some (.ref z), a1, a2, a3, a4, a5, a6, a7] st S P ↔ rn G mm_Model_road 139 [some (.ref z), a1, a2, a3, a4, a5, a6, a7] (.ref z :: st) S P := rn_s dq_Model_road_138 rfl rfl rfl
theorem dq_Model_road_139 : decode (km_c mm_Model_road) 139 = .ok (.getfield 23, 3) := by decide +kernel
theorem sq_Model_road_139_45 (ho : sx_o o pl kp) : rn (lt_G o L) mm_Model_road 139 lv (.ref 45 :: st) (sx pl kp I A) P ↔ rn (lt_G o L) mm_Model_road 142 lv (.ref 49 :: st) (sx pl kp I A) P := rx_get (h := "") (ci := 10) (k := 7) dq_Model_road_139 (by decide +kernel) ho (up_b (by decide)) rfl rfl (fl_r (by decide) (by decide) (by decide) (by decide))
theorem dq_Model_road_142 : decode (km_c mm_Model_road) 142 = .ok (.iload 6, 2) := by decide +kernel
theorem sq_Model_road_142 : rn G mm_Model_road 142 [a0, a1, a2, a3, a4, a5, some (.int x), a7] st S P ↔ rn G mm_Model_road 144 [a0, a1, a2, a3, a4, a5, some (.int x), a7] (.int x :: st) S P := rn_s dq_Model_road_142 rfl rfl rfl
theorem dq_Model_road_144 : decode (km_c mm_Model_road) 144 = .ok (.iaload, 1) := by decide +kernel
theorem sq_Model_road_144 (ho : sx_o o pl kp) (hk : ak L a = 0) (hu : sx_up pl kp a = true ∨ 1000 ≤ a) (hc : c < ln L a) (hn : ln L a < 2 ^ 31) : rn (lt_G o L) mm_Model_road 144 lv (.int (nI c) :: .ref a :: st) (sx pl kp I A) P ↔ rn (lt_G o L) mm_Model_road 145 lv (.int (A a c) :: st) (sx pl kp I A) P := rx_ild dq_Model_road_144 ho hk hu hc hn
theorem dq_Model_road_145 : decode (km_c mm_Model_road) 145 = .ok (.aload_n 0, 1) := by decide +kernel
theorem sq_Model_road_145 : rn G mm_Model_road 145 [some (.ref z), a1, a2, a3, a4, a5, a6, a7] st S P ↔ rn G mm_Model_road 146 [some (.ref z), a1, a2, a3, a4, a5, a6, a7] (.ref z :: st) S P := rn_s dq_Model_road_145 rfl rfl rfl
theorem dq_Model_road_146 : decode (km_c mm_Model_road) 146 = .ok (.getfield 98, 3) := by decide +kernel
theorem sq_Model_road_146_45 (ho : sx_o o pl kp) : rn (lt_G o L) mm_Model_road 146 lv (.ref 45 :: st) (sx pl kp I A) P ↔ rn (lt_G o L) mm_Model_road 149 lv (.int (I 45 1) :: st) (sx pl kp I A) P := rx_get (h := "") (ci := 10) (k := 1) dq_Model_road_146 (by decide +kernel) ho (up_b (by decide)) rfl rfl (fl_i (by decide))
theorem dq_Model_road_149 : decode (km_c mm_Model_road) 149 = .ok (.invokevirtual 101, 3) := by decide +kernel
theorem sq_Model_road_149_45 {x1 : Int32} {x2 : Int32} {v : Option Value} {S2 : ks_S} (hc : ev (lt_G o L) mm_Model_waterAt [.ref 45, .int x1, .int x2] (sx pl kp I A) v S2) (ho : sx_o o pl kp) (hst : kx_cat st ≤ 8) : rn (lt_G o L) mm_Model_road 149 lv (.int x2 :: .int x1 :: .ref 45 :: st) (sx pl kp I A) P ↔ rn (lt_G o L) mm_Model_road 152 lv (v.toList ++ st) S2 P := rn_cv (k := 0) (host := "") (E' := mm_Model_waterAt) dq_Model_road_149 rfl (ok_v rfl (by decide) (by decide) (Nat.le_add_left _ _) hst (Nat.le_of_ble_eq_true rfl) (Or.inr (rc_v ho (up_b (by decide)) rfl))) rfl rfl hc
theorem dq_Model_road_152 : decode (km_c mm_Model_road) 152 = .ok (.istore 7, 2) := by decide +kernel
theorem sq_Model_road_152n : rn G mm_Model_road 152 [a0, a1, a2, a3, a4, a5, none, a7] (.int x :: st) S P ↔ rn G mm_Model_road 154 [a0, a1, a2, a3, a4, a5, none, some (.int x)] st S P := rn_s dq_Model_road_152 rfl rfl rfl
theorem sq_Model_road_152i : rn G mm_Model_road 152 [a0, a1, a2, a3, a4, a5, some (.int x2), a7] (.int x :: st) S P ↔ rn G mm_Model_road 154 [a0, a1, a2, a3, a4, a5, some (.int x2), some (.int x)] st S P := rn_s dq_Model_road_152 rfl rfl rfl
theorem sq_Model_road_152r : rn G mm_Model_road 152 [a0, a1, a2, a3, a4, a5, some (.ref z2), a7] (.int x :: st) S P ↔ rn G mm_Model_road 154 [a0, a1, a2, a3, a4, a5, some (.ref z2), some (.int x)] st S P := rn_s dq_Model_road_152 rfl rfl rfl
theorem dq_Model_road_154 : decode (km_c mm_Model_road) 154 = .ok (.iload 7, 2) := by decide +kernel
theorem sq_Model_road_154 : rn G mm_Model_road 154 [a0, a1, a2, a3, a4, a5, a6, some (.int x)] st S P ↔ rn G mm_Model_road 156 [a0, a1, a2, a3, a4, a5, a6, some (.int x)] (.int x :: st) S P := rn_s dq_Model_road_154 rfl rfl rfl
theorem dq_Model_road_156 : decode (km_c mm_Model_road) 156 = .ok (.iload 5, 2) := by decide +kernel
theorem sq_Model_road_156 : rn G mm_Model_road 156 [a0, a1, a2, a3, a4, some (.int x), a6, a7] st S P ↔ rn G mm_Model_road 158 [a0, a1, a2, a3, a4, some (.int x), a6, a7] (.int x :: st) S P := rn_s dq_Model_road_156 rfl rfl rfl
theorem dq_Model_road_158 : decode (km_c mm_Model_road) 158 = .ok (.if_icmp .le 8, 3) := by decide +kernel
theorem sq_Model_road_158 : rn G mm_Model_road 158 lv (.int x2 :: .int x :: st) S P ↔ ((x ≤ x2 → rn G mm_Model_road 166 lv st S P) ∧ (¬ (x ≤ x2) → rn G mm_Model_road 161 lv st S P)) := rn_b (off := 8) dq_Model_road_158 rfl rfl rfl rfl
theorem dq_Model_road_161 : decode (km_c mm_Model_road) 161 = .ok (.iload 7, 2) := by decide +kernel
theorem sq_Model_road_161 : rn G mm_Model_road 161 [a0, a1, a2, a3, a4, a5, a6, some (.int x)] st S P ↔ rn G mm_Model_road 163 [a0, a1, a2, a3, a4, a5, a6, some (.int x)] (.int x :: st) S P := rn_s dq_Model_road_161 rfl rfl rfl
theorem dq_Model_road_163 : decode (km_c mm_Model_road) 163 = .ok (.goto 5, 3) := by decide +kernel
theorem sq_Model_road_163 : rn G mm_Model_road 163 lv st S P ↔ rn G mm_Model_road 168 lv st S P := rn_s dq_Model_road_163 rfl rfl rfl
theorem dq_Model_road_166 : decode (km_c mm_Model_road) 166 = .ok (.iload 5, 2) := by decide +kernel
theorem sq_Model_road_166 : rn G mm_Model_road 166 [a0, a1, a2, a3, a4, some (.int x), a6, a7] st S P ↔ rn G mm_Model_road 168 [a0, a1, a2, a3, a4, some (.int x), a6, a7] (.int x :: st) S P := rn_s dq_Model_road_166 rfl rfl rfl
theorem dq_Model_road_168 : decode (km_c mm_Model_road) 168 = .ok (.istore 5, 2) := by decide +kernel
theorem sq_Model_road_168n : rn G mm_Model_road 168 [a0, a1, a2, a3, none, a5, a6, a7] (.int x :: st) S P ↔ rn G mm_Model_road 170 [a0, a1, a2, a3, none, some (.int x), a6, a7] st S P := rn_s dq_Model_road_168 rfl rfl rfl
theorem sq_Model_road_168i : rn G mm_Model_road 168 [a0, a1, a2, a3, some (.int x2), a5, a6, a7] (.int x :: st) S P ↔ rn G mm_Model_road 170 [a0, a1, a2, a3, some (.int x2), some (.int x), a6, a7] st S P := rn_s dq_Model_road_168 rfl rfl rfl
theorem sq_Model_road_168r : rn G mm_Model_road 168 [a0, a1, a2, a3, some (.ref z2), a5, a6, a7] (.int x :: st) S P ↔ rn G mm_Model_road 170 [a0, a1, a2, a3, some (.ref z2), some (.int x), a6, a7] st S P := rn_s dq_Model_road_168 rfl rfl rfl
theorem dq_Model_road_170 : decode (km_c mm_Model_road) 170 = .ok (.iinc 6 1, 3) := by decide +kernel
theorem sq_Model_road_170n : rn G mm_Model_road 170 [a0, a1, a2, a3, a4, none, some (.int x), a7] st S P ↔ rn G mm_Model_road 173 [a0, a1, a2, a3, a4, none, some (.int (x + nI 1)), a7] st S P := rn_s dq_Model_road_170 rfl rfl rfl
theorem sq_Model_road_170i : rn G mm_Model_road 170 [a0, a1, a2, a3, a4, some (.int x2), some (.int x), a7] st S P ↔ rn G mm_Model_road 173 [a0, a1, a2, a3, a4, some (.int x2), some (.int (x + nI 1)), a7] st S P := rn_s dq_Model_road_170 rfl rfl rfl
theorem sq_Model_road_170r : rn G mm_Model_road 170 [a0, a1, a2, a3, a4, some (.ref z2), some (.int x), a7] st S P ↔ rn G mm_Model_road 173 [a0, a1, a2, a3, a4, some (.ref z2), some (.int (x + nI 1)), a7] st S P := rn_s dq_Model_road_170 rfl rfl rfl
theorem dq_Model_road_173 : decode (km_c mm_Model_road) 173 = .ok (.goto (-142), 3) := by decide +kernel
theorem sq_Model_road_173 : rn G mm_Model_road 173 lv st S P ↔ rn G mm_Model_road 31 lv st S P := rn_s dq_Model_road_173 rfl rfl rfl
theorem dq_Model_road_176 : decode (km_c mm_Model_road) 176 = .ok (.iload_n 1, 1) := by decide +kernel
theorem sq_Model_road_176 : rn G mm_Model_road 176 [a0, some (.int x), a2, a3, a4, a5, a6, a7] st S P ↔ rn G mm_Model_road 177 [a0, some (.int x), a2, a3, a4, a5, a6, a7] (.int x :: st) S P := rn_s dq_Model_road_176 rfl rfl rfl
theorem dq_Model_road_177 : decode (km_c mm_Model_road) 177 = .ok (.ifCond .ne 7, 3) := by decide +kernel
theorem sq_Model_road_177 : rn G mm_Model_road 177 lv (.int x :: st) S P ↔ ((¬ x = 0 → rn G mm_Model_road 184 lv st S P) ∧ (¬ (¬ x = 0) → rn G mm_Model_road 180 lv st S P)) := rn_b (off := 7) dq_Model_road_177 rfl rfl rfl rfl
theorem dq_Model_road_180 : decode (km_c mm_Model_road) 180 = .ok (.iload_n 2, 1) := by decide +kernel
theorem sq_Model_road_180 : rn G mm_Model_road 180 [a0, a1, some (.int x), a3, a4, a5, a6, a7] st S P ↔ rn G mm_Model_road 181 [a0, a1, some (.int x), a3, a4, a5, a6, a7] (.int x :: st) S P := rn_s dq_Model_road_180 rfl rfl rfl
theorem dq_Model_road_181 : decode (km_c mm_Model_road) 181 = .ok (.goto 24, 3) := by decide +kernel
theorem sq_Model_road_181 : rn G mm_Model_road 181 lv st S P ↔ rn G mm_Model_road 205 lv st S P := rn_s dq_Model_road_181 rfl rfl rfl
theorem dq_Model_road_184 : decode (km_c mm_Model_road) 184 = .ok (.iload_n 1, 1) := by decide +kernel
theorem sq_Model_road_184 : rn G mm_Model_road 184 [a0, some (.int x), a2, a3, a4, a5, a6, a7] st S P ↔ rn G mm_Model_road 185 [a0, some (.int x), a2, a3, a4, a5, a6, a7] (.int x :: st) S P := rn_s dq_Model_road_184 rfl rfl rfl
theorem dq_Model_road_185 : decode (km_c mm_Model_road) 185 = .ok (.iconst 1, 1) := by decide +kernel
theorem sq_Model_road_185 : rn G mm_Model_road 185 lv st S P ↔ rn G mm_Model_road 186 lv (.int (nI 1) :: st) S P := rn_s dq_Model_road_185 rfl rfl rfl
theorem dq_Model_road_186 : decode (km_c mm_Model_road) 186 = .ok (.if_icmp .ne 7, 3) := by decide +kernel
theorem sq_Model_road_186 : rn G mm_Model_road 186 lv (.int x2 :: .int x :: st) S P ↔ ((¬ x = x2 → rn G mm_Model_road 193 lv st S P) ∧ (¬ (¬ x = x2) → rn G mm_Model_road 189 lv st S P)) := rn_b (off := 7) dq_Model_road_186 rfl rfl rfl rfl
theorem dq_Model_road_189 : decode (km_c mm_Model_road) 189 = .ok (.iload_n 3, 1) := by decide +kernel
theorem sq_Model_road_189 : rn G mm_Model_road 189 [a0, a1, a2, some (.int x), a4, a5, a6, a7] st S P ↔ rn G mm_Model_road 190 [a0, a1, a2, some (.int x), a4, a5, a6, a7] (.int x :: st) S P := rn_s dq_Model_road_189 rfl rfl rfl
theorem dq_Model_road_190 : decode (km_c mm_Model_road) 190 = .ok (.goto 15, 3) := by decide +kernel
theorem sq_Model_road_190 : rn G mm_Model_road 190 lv st S P ↔ rn G mm_Model_road 205 lv st S P := rn_s dq_Model_road_190 rfl rfl rfl
theorem dq_Model_road_193 : decode (km_c mm_Model_road) 193 = .ok (.iload_n 1, 1) := by decide +kernel
theorem sq_Model_road_193 : rn G mm_Model_road 193 [a0, some (.int x), a2, a3, a4, a5, a6, a7] st S P ↔ rn G mm_Model_road 194 [a0, some (.int x), a2, a3, a4, a5, a6, a7] (.int x :: st) S P := rn_s dq_Model_road_193 rfl rfl rfl
theorem dq_Model_road_194 : decode (km_c mm_Model_road) 194 = .ok (.iconst 2, 1) := by decide +kernel
theorem sq_Model_road_194 : rn G mm_Model_road 194 lv st S P ↔ rn G mm_Model_road 195 lv (.int (nI 2) :: st) S P := rn_s dq_Model_road_194 rfl rfl rfl
theorem dq_Model_road_195 : decode (km_c mm_Model_road) 195 = .ok (.if_icmp .ne 8, 3) := by decide +kernel
theorem sq_Model_road_195 : rn G mm_Model_road 195 lv (.int x2 :: .int x :: st) S P ↔ ((¬ x = x2 → rn G mm_Model_road 203 lv st S P) ∧ (¬ (¬ x = x2) → rn G mm_Model_road 198 lv st S P)) := rn_b (off := 8) dq_Model_road_195 rfl rfl rfl rfl
theorem dq_Model_road_198 : decode (km_c mm_Model_road) 198 = .ok (.iload 4, 2) := by decide +kernel
theorem sq_Model_road_198 : rn G mm_Model_road 198 [a0, a1, a2, a3, some (.int x), a5, a6, a7] st S P ↔ rn G mm_Model_road 200 [a0, a1, a2, a3, some (.int x), a5, a6, a7] (.int x :: st) S P := rn_s dq_Model_road_198 rfl rfl rfl
theorem dq_Model_road_200 : decode (km_c mm_Model_road) 200 = .ok (.goto 5, 3) := by decide +kernel
theorem sq_Model_road_200 : rn G mm_Model_road 200 lv st S P ↔ rn G mm_Model_road 205 lv st S P := rn_s dq_Model_road_200 rfl rfl rfl
theorem dq_Model_road_203 : decode (km_c mm_Model_road) 203 = .ok (.iload 5, 2) := by decide +kernel
theorem sq_Model_road_203 : rn G mm_Model_road 203 [a0, a1, a2, a3, a4, some (.int x), a6, a7] st S P ↔ rn G mm_Model_road 205 [a0, a1, a2, a3, a4, some (.int x), a6, a7] (.int x :: st) S P := rn_s dq_Model_road_203 rfl rfl rfl
theorem dq_Model_road_205 : decode (km_c mm_Model_road) 205 = .ok (.ireturn, 1) := by decide +kernel
theorem sq_Model_road_205 : rn G mm_Model_road 205 lv [.int x] S P ↔ P (some (.int x)) S := rn_ir dq_Model_road_205 rfl
end SQ
