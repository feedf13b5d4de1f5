section SQ
variable {o pl kp : Bool} {L : Nat} {I A : Nat → Nat → Int32} {G : kg_G} {S : ks_S} {lv : List (Option Value)} {st : List Value} {P : Option Value → ks_S → Prop} {x x2 : Int32} {y y2 : Int64} {z z2 c a : Nat} {a0 a1 a2 a3 a4 a5 a6 a7 a8 a9 a10 a11 a12 a13 a14 a15 a16 a17 a18 a19 a20 a21 a22 a23 : Option Value}
theorem dq_Model_sinks_0 : decode (km_c mm_Model_sinks) 0 = .ok (.iload_n 1, 1) := by decide +kernel
theorem sq_Model_sinks_0 : rn G mm_Model_sinks 0 [a0, some (.int x), a2, a3] st S P ↔ rn G mm_Model_sinks 1 [a0, some (.int x), a2, a3] (.int x :: st) S P := rn_s dq_Model_sinks_0 rfl rfl rfl
theorem dq_Model_sinks_1 : decode (km_c mm_Model_sinks) 1 = .ok (.i2l, 1) := by decide +kernel
theorem sq_Model_sinks_1 : rn G mm_Model_sinks 1 lv (.int x :: st) S P ↔ rn G mm_Model_sinks 2 lv (.long x.toInt64 :: st) S P := rn_s dq_Model_sinks_1 rfl rfl rfl
theorem dq_Model_sinks_2 : decode (km_c mm_Model_sinks) 2 = .ok (.lconst 1, 1) := by decide +kernel
theorem sq_Model_sinks_2 : rn G mm_Model_sinks 2 lv st S P ↔ rn G mm_Model_sinks 3 lv (.long (1) :: st) S P := rn_s dq_Model_sinks_2 rfl rfl rfl
theorem dq_Model_sinks_3 : decode (km_c mm_Model_sinks) 3 = .ok (.ldc2_w 235, 3) := by decide +kernel
theorem sq_Model_sinks_3 : rn G mm_Model_sinks 3 lv st S P ↔ rn G mm_Model_sinks 6 lv (.long (999) :: st) S P := rn_s dq_Model_sinks_3 rfl rfl rfl
theorem dq_Model_sinks_6 : decode (km_c mm_Model_sinks) 6 = .ok (.invokestatic 76, 3) := by decide +kernel
theorem sq_Model_sinks_6 {y1 : Int64} {y2 : Int64} {y3 : Int64} {v : Option Value} {S2 : ks_S} (hc : ev G mm_Model_in [.long y1, .long y2, .long y3] S v S2) (hst : kx_cat st ≤ 8) : rn G mm_Model_sinks 6 lv (.long y3 :: .long y2 :: .long y1 :: st) S P ↔ rn G mm_Model_sinks 9 lv (v.toList ++ st) S2 P := rn_cs (k := 1) (host := "") (E' := mm_Model_in) dq_Model_sinks_6 (by decide) (by decide) rfl (ok_v rfl (by decide) (by decide) (Nat.le_add_left _ _) hst (Nat.le_of_ble_eq_true rfl) (Or.inl rfl)) rfl rfl hc
theorem dq_Model_sinks_9 : decode (km_c mm_Model_sinks) 9 = .ok (.ifCond .eq 15, 3) := by decide +kernel
theorem sq_Model_sinks_9 : rn G mm_Model_sinks 9 lv (.int x :: st) S P ↔ ((x = 0 → rn G mm_Model_sinks 24 lv st S P) ∧ (¬ (x = 0) → rn G mm_Model_sinks 12 lv st S P)) := rn_b (off := 15) dq_Model_sinks_9 rfl rfl rfl rfl
theorem dq_Model_sinks_12 : decode (km_c mm_Model_sinks) 12 = .ok (.iload_n 2, 1) := by decide +kernel
theorem sq_Model_sinks_12 : rn G mm_Model_sinks 12 [a0, a1, some (.int x), a3] st S P ↔ rn G mm_Model_sinks 13 [a0, a1, some (.int x), a3] (.int x :: st) S P := rn_s dq_Model_sinks_12 rfl rfl rfl
theorem dq_Model_sinks_13 : decode (km_c mm_Model_sinks) 13 = .ok (.i2l, 1) := by decide +kernel
theorem sq_Model_sinks_13 : rn G mm_Model_sinks 13 lv (.int x :: st) S P ↔ rn G mm_Model_sinks 14 lv (.long x.toInt64 :: st) S P := rn_s dq_Model_sinks_13 rfl rfl rfl
theorem dq_Model_sinks_14 : decode (km_c mm_Model_sinks) 14 = .ok (.lconst 1, 1) := by decide +kernel
theorem sq_Model_sinks_14 : rn G mm_Model_sinks 14 lv st S P ↔ rn G mm_Model_sinks 15 lv (.long (1) :: st) S P := rn_s dq_Model_sinks_14 rfl rfl rfl
theorem dq_Model_sinks_15 : decode (km_c mm_Model_sinks) 15 = .ok (.ldc2_w 237, 3) := by decide +kernel
theorem sq_Model_sinks_15 : rn G mm_Model_sinks 15 lv st S P ↔ rn G mm_Model_sinks 18 lv (.long (9) :: st) S P := rn_s dq_Model_sinks_15 rfl rfl rfl
theorem dq_Model_sinks_18 : decode (km_c mm_Model_sinks) 18 = .ok (.invokestatic 76, 3) := by decide +kernel
theorem sq_Model_sinks_18 {y1 : Int64} {y2 : Int64} {y3 : Int64} {v : Option Value} {S2 : ks_S} (hc : ev G mm_Model_in [.long y1, .long y2, .long y3] S v S2) (hst : kx_cat st ≤ 8) : rn G mm_Model_sinks 18 lv (.long y3 :: .long y2 :: .long y1 :: st) S P ↔ rn G mm_Model_sinks 21 lv (v.toList ++ st) S2 P := rn_cs (k := 1) (host := "") (E' := mm_Model_in) dq_Model_sinks_18 (by decide) (by decide) rfl (ok_v rfl (by decide) (by decide) (Nat.le_add_left _ _) hst (Nat.le_of_ble_eq_true rfl) (Or.inl rfl)) rfl rfl hc
theorem dq_Model_sinks_21 : decode (km_c mm_Model_sinks) 21 = .ok (.ifCond .ne 5, 3) := by decide +kernel
theorem sq_Model_sinks_21 : rn G mm_Model_sinks 21 lv (.int x :: st) S P ↔ ((¬ x = 0 → rn G mm_Model_sinks 26 lv st S P) ∧ (¬ (¬ x = 0) → rn G mm_Model_sinks 24 lv st S P)) := rn_b (off := 5) dq_Model_sinks_21 rfl rfl rfl rfl
theorem dq_Model_sinks_24 : decode (km_c mm_Model_sinks) 24 = .ok (.iconst (-1), 1) := by decide +kernel
theorem sq_Model_sinks_24 : rn G mm_Model_sinks 24 lv st S P ↔ rn G mm_Model_sinks 25 lv (.int ((-1)) :: st) S P := rn_s dq_Model_sinks_24 rfl rfl rfl
theorem dq_Model_sinks_25 : decode (km_c mm_Model_sinks) 25 = .ok (.ireturn, 1) := by decide +kernel
theorem sq_Model_sinks_25 : rn G mm_Model_sinks 25 lv [.int x] S P ↔ P (some (.int x)) S := rn_ir dq_Model_sinks_25 rfl
theorem dq_Model_sinks_26 : decode (km_c mm_Model_sinks) 26 = .ok (.aload_n 0, 1) := by decide +kernel
theorem sq_Model_sinks_26 : rn G mm_Model_sinks 26 [some (.ref z), a1, a2, a3] st S P ↔ rn G mm_Model_sinks 27 [some (.ref z), a1, a2, a3] (.ref z :: st) S P := rn_s dq_Model_sinks_26 rfl rfl rfl
theorem dq_Model_sinks_27 : decode (km_c mm_Model_sinks) 27 = .ok (.aload_n 0, 1) := by decide +kernel
theorem sq_Model_sinks_27 : rn G mm_Model_sinks 27 [some (.ref z), a1, a2, a3] st S P ↔ rn G mm_Model_sinks 28 [some (.ref z), a1, a2, a3] (.ref z :: st) S P := rn_s dq_Model_sinks_27 rfl rfl rfl
theorem dq_Model_sinks_28 : decode (km_c mm_Model_sinks) 28 = .ok (.getfield 98, 3) := by decide +kernel
theorem sq_Model_sinks_28_45 (ho : sx_o o pl kp) : rn (lt_G o L) mm_Model_sinks 28 lv (.ref 45 :: st) (sx pl kp I A) P ↔ rn (lt_G o L) mm_Model_sinks 31 lv (.int (I 45 1) :: st) (sx pl kp I A) P := rx_get (h := "") (ci := 10) (k := 1) dq_Model_sinks_28 (by decide +kernel) ho (up_b (by decide)) rfl rfl (fl_i (by decide))
theorem dq_Model_sinks_31 : decode (km_c mm_Model_sinks) 31 = .ok (.invokevirtual 115, 3) := by decide +kernel
theorem sq_Model_sinks_31_45 {x1 : Int32} {v : Option Value} {S2 : ks_S} (hc : ev (lt_G o L) mm_Model_findWet [.ref 45, .int x1] (sx pl kp I A) v S2) (ho : sx_o o pl kp) (hst : kx_cat st ≤ 8) : rn (lt_G o L) mm_Model_sinks 31 lv (.int x1 :: .ref 45 :: st) (sx pl kp I A) P ↔ rn (lt_G o L) mm_Model_sinks 34 lv (v.toList ++ st) S2 P := rn_cv (k := 0) (host := "") (E' := mm_Model_findWet) dq_Model_sinks_31 rfl (ok_v rfl (by decide) (by decide) (Nat.le_add_left _ _) hst (Nat.le_of_ble_eq_true rfl) (Or.inr (rc_v ho (up_b (by decide)) rfl))) rfl rfl hc
theorem dq_Model_sinks_34 : decode (km_c mm_Model_sinks) 34 = .ok (.iconst 0, 1) := by decide +kernel
theorem sq_Model_sinks_34 : rn G mm_Model_sinks 34 lv st S P ↔ rn G mm_Model_sinks 35 lv (.int (nI 0) :: st) S P := rn_s dq_Model_sinks_34 rfl rfl rfl
theorem dq_Model_sinks_35 : decode (km_c mm_Model_sinks) 35 = .ok (.istore_n 3, 1) := by decide +kernel
theorem sq_Model_sinks_35n : rn G mm_Model_sinks 35 [a0, a1, none, a3] (.int x :: st) S P ↔ rn G mm_Model_sinks 36 [a0, a1, none, some (.int x)] st S P := rn_s dq_Model_sinks_35 rfl rfl rfl
theorem sq_Model_sinks_35i : rn G mm_Model_sinks 35 [a0, a1, some (.int x2), a3] (.int x :: st) S P ↔ rn G mm_Model_sinks 36 [a0, a1, some (.int x2), some (.int x)] st S P := rn_s dq_Model_sinks_35 rfl rfl rfl
theorem sq_Model_sinks_35r : rn G mm_Model_sinks 35 [a0, a1, some (.ref z2), a3] (.int x :: st) S P ↔ rn G mm_Model_sinks 36 [a0, a1, some (.ref z2), some (.int x)] st S P := rn_s dq_Model_sinks_35 rfl rfl rfl
theorem dq_Model_sinks_36 : decode (km_c mm_Model_sinks) 36 = .ok (.iload_n 3, 1) := by decide +kernel
theorem sq_Model_sinks_36 : rn G mm_Model_sinks 36 [a0, a1, a2, some (.int x)] st S P ↔ rn G mm_Model_sinks 37 [a0, a1, a2, some (.int x)] (.int x :: st) S P := rn_s dq_Model_sinks_36 rfl rfl rfl
theorem dq_Model_sinks_37 : decode (km_c mm_Model_sinks) 37 = .ok (.aload_n 0, 1) := by decide +kernel
theorem sq_Model_sinks_37 : rn G mm_Model_sinks 37 [some (.ref z), a1, a2, a3] st S P ↔ rn G mm_Model_sinks 38 [some (.ref z), a1, a2, a3] (.ref z :: st) S P := rn_s dq_Model_sinks_37 rfl rfl rfl
theorem dq_Model_sinks_38 : decode (km_c mm_Model_sinks) 38 = .ok (.getfield 134, 3) := by decide +kernel
theorem sq_Model_sinks_38_45 (ho : sx_o o pl kp) : rn (lt_G o L) mm_Model_sinks 38 lv (.ref 45 :: st) (sx pl kp I A) P ↔ rn (lt_G o L) mm_Model_sinks 41 lv (.int (I 45 8) :: st) (sx pl kp I A) P := rx_get (h := "") (ci := 10) (k := 8) dq_Model_sinks_38 (by decide +kernel) ho (up_b (by decide)) rfl rfl (fl_i (by decide))
theorem dq_Model_sinks_41 : decode (km_c mm_Model_sinks) 41 = .ok (.if_icmp .ge 27, 3) := by decide +kernel
theorem sq_Model_sinks_41 : rn G mm_Model_sinks 41 lv (.int x2 :: .int x :: st) S P ↔ ((x2 ≤ x → rn G mm_Model_sinks 68 lv st S P) ∧ (¬ (x2 ≤ x) → rn G mm_Model_sinks 44 lv st S P)) := rn_b (off := 27) dq_Model_sinks_41 rfl rfl rfl rfl
theorem dq_Model_sinks_44 : decode (km_c mm_Model_sinks) 44 = .ok (.iload_n 1, 1) := by decide +kernel
theorem sq_Model_sinks_44 : rn G mm_Model_sinks 44 [a0, some (.int x), a2, a3] st S P ↔ rn G mm_Model_sinks 45 [a0, some (.int x), a2, a3] (.int x :: st) S P := rn_s dq_Model_sinks_44 rfl rfl rfl
theorem dq_Model_sinks_45 : decode (km_c mm_Model_sinks) 45 = .ok (.iload_n 2, 1) := by decide +kernel
theorem sq_Model_sinks_45 : rn G mm_Model_sinks 45 [a0, a1, some (.int x), a3] st S P ↔ rn G mm_Model_sinks 46 [a0, a1, some (.int x), a3] (.int x :: st) S P := rn_s dq_Model_sinks_45 rfl rfl rfl
theorem dq_Model_sinks_46 : decode (km_c mm_Model_sinks) 46 = .ok (.idiv, 1) := by decide +kernel
theorem sq_Model_sinks_46 (hz : ¬ x2 = 0) : rn G mm_Model_sinks 46 lv (.int x2 :: .int x :: st) S P ↔ rn G mm_Model_sinks 47 lv (.int (x / x2) :: st) S P := rn_s dq_Model_sinks_46 rfl rfl (if_neg hz)
theorem dq_Model_sinks_47 : decode (km_c mm_Model_sinks) 47 = .ok (.aload_n 0, 1) := by decide +kernel
theorem sq_Model_sinks_47 : rn G mm_Model_sinks 47 [some (.ref z), a1, a2, a3] st S P ↔ rn G mm_Model_sinks 48 [some (.ref z), a1, a2, a3] (.ref z :: st) S P := rn_s dq_Model_sinks_47 rfl rfl rfl
theorem dq_Model_sinks_48 : decode (km_c mm_Model_sinks) 48 = .ok (.aload_n 0, 1) := by decide +kernel
theorem sq_Model_sinks_48 : rn G mm_Model_sinks 48 [some (.ref z), a1, a2, a3] st S P ↔ rn G mm_Model_sinks 49 [some (.ref z), a1, a2, a3] (.ref z :: st) S P := rn_s dq_Model_sinks_48 rfl rfl rfl
theorem dq_Model_sinks_49 : decode (km_c mm_Model_sinks) 49 = .ok (.getfield 23, 3) := by decide +kernel
theorem sq_Model_sinks_49_45 (ho : sx_o o pl kp) : rn (lt_G o L) mm_Model_sinks 49 lv (.ref 45 :: st) (sx pl kp I A) P ↔ rn (lt_G o L) mm_Model_sinks 52 lv (.ref 49 :: st) (sx pl kp I A) P := rx_get (h := "") (ci := 10) (k := 7) dq_Model_sinks_49 (by decide +kernel) ho (up_b (by decide)) rfl rfl (fl_r (by decide) (by decide) (by decide) (by decide))
theorem dq_Model_sinks_52 : decode (km_c mm_Model_sinks) 52 = .ok (.iload_n 3, 1) := by decide +kernel
theorem sq_Model_sinks_52 : rn G mm_Model_sinks 52 [a0, a1, a2, some (.int x)] st S P ↔ rn G mm_Model_sinks 53 [a0, a1, a2, some (.int x)] (.int x :: st) S P := rn_s dq_Model_sinks_52 rfl rfl rfl
theorem dq_Model_sinks_53 : decode (km_c mm_Model_sinks) 53 = .ok (.iaload, 1) := by decide +kernel
theorem sq_Model_sinks_53 (ho : sx_o o pl kp) (hk : ak L a = 0) (hu : sx_up pl kp a = true ∨ 1000 ≤ a) (hc : c < ln L a) (hn : ln L a < 2 ^ 31) : rn (lt_G o L) mm_Model_sinks 53 lv (.int (nI c) :: .ref a :: st) (sx pl kp I A) P ↔ rn (lt_G o L) mm_Model_sinks 54 lv (.int (A a c) :: st) (sx pl kp I A) P := rx_ild dq_Model_sinks_53 ho hk hu hc hn
theorem dq_Model_sinks_54 : decode (km_c mm_Model_sinks) 54 = .ok (.invokevirtual 122, 3) := by decide +kernel
theorem sq_Model_sinks_54_45 {x1 : Int32} {v : Option Value} {S2 : ks_S} (hc : ev (lt_G o L) mm_Model_bears [.ref 45, .int x1] (sx pl kp I A) v S2) (ho : sx_o o pl kp) (hst : kx_cat st ≤ 8) : rn (lt_G o L) mm_Model_sinks 54 lv (.int x1 :: .ref 45 :: st) (sx pl kp I A) P ↔ rn (lt_G o L) mm_Model_sinks 57 lv (v.toList ++ st) S2 P := rn_cv (k := 0) (host := "") (E' := mm_Model_bears) dq_Model_sinks_54 rfl (ok_v rfl (by decide) (by decide) (Nat.le_add_left _ _) hst (Nat.le_of_ble_eq_true rfl) (Or.inr (rc_v ho (up_b (by decide)) rfl))) rfl rfl hc
theorem dq_Model_sinks_57 : decode (km_c mm_Model_sinks) 57 = .ok (.if_icmp .le 5, 3) := by decide +kernel
theorem sq_Model_sinks_57 : rn G mm_Model_sinks 57 lv (.int x2 :: .int x :: st) S P ↔ ((x ≤ x2 → rn G mm_Model_sinks 62 lv st S P) ∧ (¬ (x ≤ x2) → rn G mm_Model_sinks 60 lv st S P)) := rn_b (off := 5) dq_Model_sinks_57 rfl rfl rfl rfl
theorem dq_Model_sinks_60 : decode (km_c mm_Model_sinks) 60 = .ok (.iload_n 3, 1) := by decide +kernel
theorem sq_Model_sinks_60 : rn G mm_Model_sinks 60 [a0, a1, a2, some (.int x)] st S P ↔ rn G mm_Model_sinks 61 [a0, a1, a2, some (.int x)] (.int x :: st) S P := rn_s dq_Model_sinks_60 rfl rfl rfl
theorem dq_Model_sinks_61 : decode (km_c mm_Model_sinks) 61 = .ok (.ireturn, 1) := by decide +kernel
theorem sq_Model_sinks_61 : rn G mm_Model_sinks 61 lv [.int x] S P ↔ P (some (.int x)) S := rn_ir dq_Model_sinks_61 rfl
theorem dq_Model_sinks_62 : decode (km_c mm_Model_sinks) 62 = .ok (.iinc 3 1, 3) := by decide +kernel
theorem sq_Model_sinks_62n : rn G mm_Model_sinks 62 [a0, a1, none, some (.int x)] st S P ↔ rn G mm_Model_sinks 65 [a0, a1, none, some (.int (x + nI 1))] st S P := rn_s dq_Model_sinks_62 rfl rfl rfl
theorem sq_Model_sinks_62i : rn G mm_Model_sinks 62 [a0, a1, some (.int x2), some (.int x)] st S P ↔ rn G mm_Model_sinks 65 [a0, a1, some (.int x2), some (.int (x + nI 1))] st S P := rn_s dq_Model_sinks_62 rfl rfl rfl
theorem sq_Model_sinks_62r : rn G mm_Model_sinks 62 [a0, a1, some (.ref z2), some (.int x)] st S P ↔ rn G mm_Model_sinks 65 [a0, a1, some (.ref z2), some (.int (x + nI 1))] st S P := rn_s dq_Model_sinks_62 rfl rfl rfl
theorem dq_Model_sinks_65 : decode (km_c mm_Model_sinks) 65 = .ok (.goto (-29), 3) := by decide +kernel
theorem sq_Model_sinks_65 : rn G mm_Model_sinks 65 lv st S P ↔ rn G mm_Model_sinks 36 lv st S P := rn_s dq_Model_sinks_65 rfl rfl rfl
theorem dq_Model_sinks_68 : decode (km_c mm_Model_sinks) 68 = .ok (.bipush (-4), 2) := by decide +kernel
theorem sq_Model_sinks_68 : rn G mm_Model_sinks 68 lv st S P ↔ rn G mm_Model_sinks 70 lv (.int ((-4)) :: st) S P := rn_s dq_Model_sinks_68 rfl rfl rfl
theorem dq_Model_sinks_70 : decode (km_c mm_Model_sinks) 70 = .ok (.ireturn, 1) := by decide +kernel
theorem sq_Model_sinks_70 : rn G mm_Model_sinks 70 lv [.int x] S P ↔ P (some (.int x)) S := rn_ir dq_Model_sinks_70 rfl
theorem dq_Model_toll_0 : decode (km_c mm_Model_toll) 0 = .ok (.iload_n 1, 1) := by decide +kernel
theorem sq_Model_toll_0 : rn G mm_Model_toll 0 [a0, some (.int x), a2, a3] st S P ↔ rn G mm_Model_toll 1 [a0, some (.int x), a2, a3] (.int x :: st) S P := rn_s dq_Model_toll_0 rfl rfl rfl
theorem dq_Model_toll_1 : decode (km_c mm_Model_toll) 1 = .ok (.i2l, 1) := by decide +kernel
theorem sq_Model_toll_1 : rn G mm_Model_toll 1 lv (.int x :: st) S P ↔ rn G mm_Model_toll 2 lv (.long x.toInt64 :: st) S P := rn_s dq_Model_toll_1 rfl rfl rfl
theorem dq_Model_toll_2 : decode (km_c mm_Model_toll) 2 = .ok (.lconst 1, 1) := by decide +kernel
theorem sq_Model_toll_2 : rn G mm_Model_toll 2 lv st S P ↔ rn G mm_Model_toll 3 lv (.long (1) :: st) S P := rn_s dq_Model_toll_2 rfl rfl rfl
theorem dq_Model_toll_3 : decode (km_c mm_Model_toll) 3 = .ok (.ldc2_w 237, 3) := by decide +kernel
theorem sq_Model_toll_3 : rn G mm_Model_toll 3 lv st S P ↔ rn G mm_Model_toll 6 lv (.long (9) :: st) S P := rn_s dq_Model_toll_3 rfl rfl rfl
theorem dq_Model_toll_6 : decode (km_c mm_Model_toll) 6 = .ok (.invokestatic 76, 3) := by decide +kernel
theorem sq_Model_toll_6 {y1 : Int64} {y2 : Int64} {y3 : Int64} {v : Option Value} {S2 : ks_S} (hc : ev G mm_Model_in [.long y1, .long y2, .long y3] S v S2) (hst : kx_cat st ≤ 8) : rn G mm_Model_toll 6 lv (.long y3 :: .long y2 :: .long y1 :: st) S P ↔ rn G mm_Model_toll 9 lv (v.toList ++ st) S2 P := rn_cs (k := 1) (host := "") (E' := mm_Model_in) dq_Model_toll_6 (by decide) (by decide) rfl (ok_v rfl (by decide) (by decide) (Nat.le_add_left _ _) hst (Nat.le_of_ble_eq_true rfl) (Or.inl rfl)) rfl rfl hc
theorem dq_Model_toll_9 : decode (km_c mm_Model_toll) 9 = .ok (.ifCond .ne 5, 3) := by decide +kernel
theorem sq_Model_toll_9 : rn G mm_Model_toll 9 lv (.int x :: st) S P ↔ ((¬ x = 0 → rn G mm_Model_toll 14 lv st S P) ∧ (¬ (¬ x = 0) → rn G mm_Model_toll 12 lv st S P)) := rn_b (off := 5) dq_Model_toll_9 rfl rfl rfl rfl
theorem dq_Model_toll_12 : decode (km_c mm_Model_toll) 12 = .ok (.iconst (-1), 1) := by decide +kernel
theorem sq_Model_toll_12 : rn G mm_Model_toll 12 lv st S P ↔ rn G mm_Model_toll 13 lv (.int ((-1)) :: st) S P := rn_s dq_Model_toll_12 rfl rfl rfl
theorem dq_Model_toll_13 : decode (km_c mm_Model_toll) 13 = .ok (.ireturn, 1) := by decide +kernel
theorem sq_Model_toll_13 : rn G mm_Model_toll 13 lv [.int x] S P ↔ P (some (.int x)) S := rn_ir dq_Model_toll_13 rfl
theorem dq_Model_toll_14 : decode (km_c mm_Model_toll) 14 = .ok (.aload_n 0, 1) := by decide +kernel
theorem sq_Model_toll_14 : rn G mm_Model_toll 14 [some (.ref z), a1, a2, a3] st S P ↔ rn G mm_Model_toll 15 [some (.ref z), a1, a2, a3] (.ref z :: st) S P := rn_s dq_Model_toll_14 rfl rfl rfl
theorem dq_Model_toll_15 : decode (km_c mm_Model_toll) 15 = .ok (.aload_n 0, 1) := by decide +kernel
theorem sq_Model_toll_15 : rn G mm_Model_toll 15 [some (.ref z), a1, a2, a3] st S P ↔ rn G mm_Model_toll 16 [some (.ref z), a1, a2, a3] (.ref z :: st) S P := rn_s dq_Model_toll_15 rfl rfl rfl
theorem dq_Model_toll_16 : decode (km_c mm_Model_toll) 16 = .ok (.getfield 98, 3) := by decide +kernel
theorem sq_Model_toll_16_45 (ho : sx_o o pl kp) : rn (lt_G o L) mm_Model_toll 16 lv (.ref 45 :: st) (sx pl kp I A) P ↔ rn (lt_G o L) mm_Model_toll 19 lv (.int (I 45 1) :: st) (sx pl kp I A) P := rx_get (h := "") (ci := 10) (k := 1) dq_Model_toll_16 (by decide +kernel) ho (up_b (by decide)) rfl rfl (fl_i (by decide))
theorem dq_Model_toll_19 : decode (km_c mm_Model_toll) 19 = .ok (.invokevirtual 115, 3) := by decide +kernel
theorem sq_Model_toll_19_45 {x1 : Int32} {v : Option Value} {S2 : ks_S} (hc : ev (lt_G o L) mm_Model_findWet [.ref 45, .int x1] (sx pl kp I A) v S2) (ho : sx_o o pl kp) (hst : kx_cat st ≤ 8) : rn (lt_G o L) mm_Model_toll 19 lv (.int x1 :: .ref 45 :: st) (sx pl kp I A) P ↔ rn (lt_G o L) mm_Model_toll 22 lv (v.toList ++ st) S2 P := rn_cv (k := 0) (host := "") (E' := mm_Model_findWet) dq_Model_toll_19 rfl (ok_v rfl (by decide) (by decide) (Nat.le_add_left _ _) hst (Nat.le_of_ble_eq_true rfl) (Or.inr (rc_v ho (up_b (by decide)) rfl))) rfl rfl hc
theorem dq_Model_toll_22 : decode (km_c mm_Model_toll) 22 = .ok (.iconst 0, 1) := by decide +kernel
theorem sq_Model_toll_22 : rn G mm_Model_toll 22 lv st S P ↔ rn G mm_Model_toll 23 lv (.int (nI 0) :: st) S P := rn_s dq_Model_toll_22 rfl rfl rfl
theorem dq_Model_toll_23 : decode (km_c mm_Model_toll) 23 = .ok (.istore_n 2, 1) := by decide +kernel
theorem sq_Model_toll_23n : rn G mm_Model_toll 23 [a0, none, a2, a3] (.int x :: st) S P ↔ rn G mm_Model_toll 24 [a0, none, some (.int x), a3] st S P := rn_s dq_Model_toll_23 rfl rfl rfl
theorem sq_Model_toll_23i : rn G mm_Model_toll 23 [a0, some (.int x2), a2, a3] (.int x :: st) S P ↔ rn G mm_Model_toll 24 [a0, some (.int x2), some (.int x), a3] st S P := rn_s dq_Model_toll_23 rfl rfl rfl
theorem sq_Model_toll_23r : rn G mm_Model_toll 23 [a0, some (.ref z2), a2, a3] (.int x :: st) S P ↔ rn G mm_Model_toll 24 [a0, some (.ref z2), some (.int x), a3] st S P := rn_s dq_Model_toll_23 rfl rfl rfl
theorem dq_Model_toll_24 : decode (km_c mm_Model_toll) 24 = .ok (.iconst 0, 1) := by decide +kernel
theorem sq_Model_toll_24 : rn G mm_Model_toll 24 lv st S P ↔ rn G mm_Model_toll 25 lv (.int (nI 0) :: st) S P := rn_s dq_Model_toll_24 rfl rfl rfl
theorem dq_Model_toll_25 : decode (km_c mm_Model_toll) 25 = .ok (.istore_n 3, 1) := by decide +kernel
theorem sq_Model_toll_25n : rn G mm_Model_toll 25 [a0, a1, none, a3] (.int x :: st) S P ↔ rn G mm_Model_toll 26 [a0, a1, none, some (.int x)] st S P := rn_s dq_Model_toll_25 rfl rfl rfl
theorem sq_Model_toll_25i : rn G mm_Model_toll 25 [a0, a1, some (.int x2), a3] (.int x :: st) S P ↔ rn G mm_Model_toll 26 [a0, a1, some (.int x2), some (.int x)] st S P := rn_s dq_Model_toll_25 rfl rfl rfl
theorem sq_Model_toll_25r : rn G mm_Model_toll 25 [a0, a1, some (.ref z2), a3] (.int x :: st) S P ↔ rn G mm_Model_toll 26 [a0, a1, some (.ref z2), some (.int x)] st S P := rn_s dq_Model_toll_25 rfl rfl rfl
theorem dq_Model_toll_26 : decode (km_c mm_Model_toll) 26 = .ok (.iload_n 3, 1) := by decide +kernel
theorem sq_Model_toll_26 : rn G mm_Model_toll 26 [a0, a1, a2, some (.int x)] st S P ↔ rn G mm_Model_toll 27 [a0, a1, a2, some (.int x)] (.int x :: st) S P := rn_s dq_Model_toll_26 rfl rfl rfl
theorem dq_Model_toll_27 : decode (km_c mm_Model_toll) 27 = .ok (.aload_n 0, 1) := by decide +kernel
theorem sq_Model_toll_27 : rn G mm_Model_toll 27 [some (.ref z), a1, a2, a3] st S P ↔ rn G mm_Model_toll 28 [some (.ref z), a1, a2, a3] (.ref z :: st) S P := rn_s dq_Model_toll_27 rfl rfl rfl
theorem dq_Model_toll_28 : decode (km_c mm_Model_toll) 28 = .ok (.getfield 134, 3) := by decide +kernel
theorem sq_Model_toll_28_45 (ho : sx_o o pl kp) : rn (lt_G o L) mm_Model_toll 28 lv (.ref 45 :: st) (sx pl kp I A) P ↔ rn (lt_G o L) mm_Model_toll 31 lv (.int (I 45 8) :: st) (sx pl kp I A) P := rx_get (h := "") (ci := 10) (k := 8) dq_Model_toll_28 (by decide +kernel) ho (up_b (by decide)) rfl rfl (fl_i (by decide))
theorem dq_Model_toll_31 : decode (km_c mm_Model_toll) 31 = .ok (.if_icmp .ge 34, 3) := by decide +kernel
theorem sq_Model_toll_31 : rn G mm_Model_toll 31 lv (.int x2 :: .int x :: st) S P ↔ ((x2 ≤ x → rn G mm_Model_toll 65 lv st S P) ∧ (¬ (x2 ≤ x) → rn G mm_Model_toll 34 lv st S P)) := rn_b (off := 34) dq_Model_toll_31 rfl rfl rfl rfl
theorem dq_Model_toll_34 : decode (km_c mm_Model_toll) 34 = .ok (.iload_n 2, 1) := by decide +kernel
theorem sq_Model_toll_34 : rn G mm_Model_toll 34 [a0, a1, some (.int x), a3] st S P ↔ rn G mm_Model_toll 35 [a0, a1, some (.int x), a3] (.int x :: st) S P := rn_s dq_Model_toll_34 rfl rfl rfl
theorem dq_Model_toll_35 : decode (km_c mm_Model_toll) 35 = .ok (.aload_n 0, 1) := by decide +kernel
theorem sq_Model_toll_35 : rn G mm_Model_toll 35 [some (.ref z), a1, a2, a3] st S P ↔ rn G mm_Model_toll 36 [some (.ref z), a1, a2, a3] (.ref z :: st) S P := rn_s dq_Model_toll_35 rfl rfl rfl
theorem dq_Model_toll_36 : decode (km_c mm_Model_toll) 36 = .ok (.getfield 32, 3) := by decide +kernel
theorem sq_Model_toll_36_45 (ho : sx_o o pl kp) : rn (lt_G o L) mm_Model_toll 36 lv (.ref 45 :: st) (sx pl kp I A) P ↔ rn (lt_G o L) mm_Model_toll 39 lv (.ref 51 :: st) (sx pl kp I A) P := rx_get (h := "") (ci := 10) (k := 11) dq_Model_toll_36 (by decide +kernel) ho (up_b (by decide)) rfl rfl (fl_r (by decide) (by decide) (by decide) (by decide))
theorem dq_Model_toll_39 : decode (km_c mm_Model_toll) 39 = .ok (.aload_n 0, 1) := by decide +kernel
theorem sq_Model_toll_39 : rn G mm_Model_toll 39 [some (.ref z), a1, a2, a3] st S P ↔ rn G mm_Model_toll 40 [some (.ref z), a1, a2, a3] (.ref z :: st) S P := rn_s dq_Model_toll_39 rfl rfl rfl
theorem dq_Model_toll_40 : decode (km_c mm_Model_toll) 40 = .ok (.getfield 23, 3) := by decide +kernel
theorem sq_Model_toll_40_45 (ho : sx_o o pl kp) : rn (lt_G o L) mm_Model_toll 40 lv (.ref 45 :: st) (sx pl kp I A) P ↔ rn (lt_G o L) mm_Model_toll 43 lv (.ref 49 :: st) (sx pl kp I A) P := rx_get (h := "") (ci := 10) (k := 7) dq_Model_toll_40 (by decide +kernel) ho (up_b (by decide)) rfl rfl (fl_r (by decide) (by decide) (by decide) (by decide))
theorem dq_Model_toll_43 : decode (km_c mm_Model_toll) 43 = .ok (.iload_n 3, 1) := by decide +kernel
theorem sq_Model_toll_43 : rn G mm_Model_toll 43 [a0, a1, a2, some (.int x)] st S P ↔ rn G mm_Model_toll 44 [a0, a1, a2, some (.int x)] (.int x :: st) S P := rn_s dq_Model_toll_43 rfl rfl rfl
theorem dq_Model_toll_44 : decode (km_c mm_Model_toll) 44 = .ok (.iaload, 1) := by decide +kernel
theorem sq_Model_toll_44 (ho : sx_o o pl kp) (hk : ak L a = 0) (hu : sx_up pl kp a = true ∨ 1000 ≤ a) (hc : c < ln L a) (hn : ln L a < 2 ^ 31) : rn (lt_G o L) mm_Model_toll 44 lv (.int (nI c) :: .ref a :: st) (sx pl kp I A) P ↔ rn (lt_G o L) mm_Model_toll 45 lv (.int (A a c) :: st) (sx pl kp I A) P := rx_ild dq_Model_toll_44 ho hk hu hc hn
theorem dq_Model_toll_45 : decode (km_c mm_Model_toll) 45 = .ok (.iaload, 1) := by decide +kernel
theorem sq_Model_toll_45 (ho : sx_o o pl kp) (hk : ak L a = 0) (hu : sx_up pl kp a = true ∨ 1000 ≤ a) (hc : c < ln L a) (hn : ln L a < 2 ^ 31) : rn (lt_G o L) mm_Model_toll 45 lv (.int (nI c) :: .ref a :: st) (sx pl kp I A) P ↔ rn (lt_G o L) mm_Model_toll 46 lv (.int (A a c) :: st) (sx pl kp I A) P := rx_ild dq_Model_toll_45 ho hk hu hc hn
theorem dq_Model_toll_46 : decode (km_c mm_Model_toll) 46 = .ok (.iconst 1, 1) := by decide +kernel
theorem sq_Model_toll_46 : rn G mm_Model_toll 46 lv st S P ↔ rn G mm_Model_toll 47 lv (.int (nI 1) :: st) S P := rn_s dq_Model_toll_46 rfl rfl rfl
theorem dq_Model_toll_47 : decode (km_c mm_Model_toll) 47 = .ok (.if_icmp .ne 9, 3) := by decide +kernel
theorem sq_Model_toll_47 : rn G mm_Model_toll 47 lv (.int x2 :: .int x :: st) S P ↔ ((¬ x = x2 → rn G mm_Model_toll 56 lv st S P) ∧ (¬ (¬ x = x2) → rn G mm_Model_toll 50 lv st S P)) := rn_b (off := 9) dq_Model_toll_47 rfl rfl rfl rfl
theorem dq_Model_toll_50 : decode (km_c mm_Model_toll) 50 = .ok (.iconst 2, 1) := by decide +kernel
theorem sq_Model_toll_50 : rn G mm_Model_toll 50 lv st S P ↔ rn G mm_Model_toll 51 lv (.int (nI 2) :: st) S P := rn_s dq_Model_toll_50 rfl rfl rfl
theorem dq_Model_toll_51 : decode (km_c mm_Model_toll) 51 = .ok (.iload_n 1, 1) := by decide +kernel
theorem sq_Model_toll_51 : rn G mm_Model_toll 51 [a0, some (.int x), a2, a3] st S P ↔ rn G mm_Model_toll 52 [a0, some (.int x), a2, a3] (.int x :: st) S P := rn_s dq_Model_toll_51 rfl rfl rfl
theorem dq_Model_toll_52 : decode (km_c mm_Model_toll) 52 = .ok (.imul, 1) := by decide +kernel
theorem sq_Model_toll_52 : rn G mm_Model_toll 52 lv (.int x2 :: .int x :: st) S P ↔ rn G mm_Model_toll 53 lv (.int (x * x2) :: st) S P := rn_s dq_Model_toll_52 rfl rfl rfl
theorem dq_Model_toll_53 : decode (km_c mm_Model_toll) 53 = .ok (.goto 4, 3) := by decide +kernel
theorem sq_Model_toll_53 : rn G mm_Model_toll 53 lv st S P ↔ rn G mm_Model_toll 57 lv st S P := rn_s dq_Model_toll_53 rfl rfl rfl
theorem dq_Model_toll_56 : decode (km_c mm_Model_toll) 56 = .ok (.iconst 0, 1) := by decide +kernel
theorem sq_Model_toll_56 : rn G mm_Model_toll 56 lv st S P ↔ rn G mm_Model_toll 57 lv (.int (nI 0) :: st) S P := rn_s dq_Model_toll_56 rfl rfl rfl
theorem dq_Model_toll_57 : decode (km_c mm_Model_toll) 57 = .ok (.iadd, 1) := by decide +kernel
theorem sq_Model_toll_57 : rn G mm_Model_toll 57 lv (.int x2 :: .int x :: st) S P ↔ rn G mm_Model_toll 58 lv (.int (x + x2) :: st) S P := rn_s dq_Model_toll_57 rfl rfl rfl
theorem dq_Model_toll_58 : decode (km_c mm_Model_toll) 58 = .ok (.istore_n 2, 1) := by decide +kernel
theorem sq_Model_toll_58n : rn G mm_Model_toll 58 [a0, none, a2, a3] (.int x :: st) S P ↔ rn G mm_Model_toll 59 [a0, none, some (.int x), a3] st S P := rn_s dq_Model_toll_58 rfl rfl rfl
theorem sq_Model_toll_58i : rn G mm_Model_toll 58 [a0, some (.int x2), a2, a3] (.int x :: st) S P ↔ rn G mm_Model_toll 59 [a0, some (.int x2), some (.int x), a3] st S P := rn_s dq_Model_toll_58 rfl rfl rfl
theorem sq_Model_toll_58r : rn G mm_Model_toll 58 [a0, some (.ref z2), a2, a3] (.int x :: st) S P ↔ rn G mm_Model_toll 59 [a0, some (.ref z2), some (.int x), a3] st S P := rn_s dq_Model_toll_58 rfl rfl rfl
theorem dq_Model_toll_59 : decode (km_c mm_Model_toll) 59 = .ok (.iinc 3 1, 3) := by decide +kernel
theorem sq_Model_toll_59n : rn G mm_Model_toll 59 [a0, a1, none, some (.int x)] st S P ↔ rn G mm_Model_toll 62 [a0, a1, none, some (.int (x + nI 1))] st S P := rn_s dq_Model_toll_59 rfl rfl rfl
theorem sq_Model_toll_59i : rn G mm_Model_toll 59 [a0, a1, some (.int x2), some (.int x)] st S P ↔ rn G mm_Model_toll 62 [a0, a1, some (.int x2), some (.int (x + nI 1))] st S P := rn_s dq_Model_toll_59 rfl rfl rfl
theorem sq_Model_toll_59r : rn G mm_Model_toll 59 [a0, a1, some (.ref z2), some (.int x)] st S P ↔ rn G mm_Model_toll 62 [a0, a1, some (.ref z2), some (.int (x + nI 1))] st S P := rn_s dq_Model_toll_59 rfl rfl rfl
theorem dq_Model_toll_62 : decode (km_c mm_Model_toll) 62 = .ok (.goto (-36), 3) := by decide +kernel
theorem sq_Model_toll_62 : rn G mm_Model_toll 62 lv st S P ↔ rn G mm_Model_toll 26 lv st S P := rn_s dq_Model_toll_62 rfl rfl rfl
theorem dq_Model_toll_65 : decode (km_c mm_Model_toll) 65 = .ok (.iload_n 2, 1) := by decide +kernel
theorem sq_Model_toll_65 : rn G mm_Model_toll 65 [a0, a1, some (.int x), a3] st S P ↔ rn G mm_Model_toll 66 [a0, a1, some (.int x), a3] (.int x :: st) S P := rn_s dq_Model_toll_65 rfl rfl rfl
theorem dq_Model_toll_66 : decode (km_c mm_Model_toll) 66 = .ok (.ireturn, 1) := by decide +kernel
theorem sq_Model_toll_66 : rn G mm_Model_toll 66 lv [.int x] S P ↔ P (some (.int x)) S := rn_ir dq_Model_toll_66 rfl
theorem dq_Model_goes_0 : decode (km_c mm_Model_goes) 0 = .ok (.iconst 0, 1) := by decide +kernel
theorem sq_Model_goes_0 : rn G mm_Model_goes 0 lv st S P ↔ rn G mm_Model_goes 1 lv (.int (nI 0) :: st) S P := rn_s dq_Model_goes_0 rfl rfl rfl
theorem dq_Model_goes_1 : decode (km_c mm_Model_goes) 1 = .ok (.istore_n 1, 1) := by decide +kernel
theorem sq_Model_goes_1n : rn G mm_Model_goes 1 [none, a1] (.int x :: st) S P ↔ rn G mm_Model_goes 2 [none, some (.int x)] st S P := rn_s dq_Model_goes_1 rfl rfl rfl
theorem sq_Model_goes_1i : rn G mm_Model_goes 1 [some (.int x2), a1] (.int x :: st) S P ↔ rn G mm_Model_goes 2 [some (.int x2), some (.int x)] st S P := rn_s dq_Model_goes_1 rfl rfl rfl
theorem sq_Model_goes_1r : rn G mm_Model_goes 1 [some (.ref z2), a1] (.int x :: st) S P ↔ rn G mm_Model_goes 2 [some (.ref z2), some (.int x)] st S P := rn_s dq_Model_goes_1 rfl rfl rfl
theorem dq_Model_goes_2 : decode (km_c mm_Model_goes) 2 = .ok (.iload_n 1, 1) := by decide +kernel
theorem sq_Model_goes_2 : rn G mm_Model_goes 2 [a0, some (.int x)] st S P ↔ rn G mm_Model_goes 3 [a0, some (.int x)] (.int x :: st) S P := rn_s dq_Model_goes_2 rfl rfl rfl
theorem dq_Model_goes_3 : decode (km_c mm_Model_goes) 3 = .ok (.bipush 40, 2) := by decide +kernel
theorem sq_Model_goes_3 : rn G mm_Model_goes 3 lv st S P ↔ rn G mm_Model_goes 5 lv (.int (nI 40) :: st) S P := rn_s dq_Model_goes_3 rfl rfl rfl
theorem dq_Model_goes_5 : decode (km_c mm_Model_goes) 5 = .ok (.if_icmp .gt 19, 3) := by decide +kernel
theorem sq_Model_goes_5 : rn G mm_Model_goes 5 lv (.int x2 :: .int x :: st) S P ↔ ((x2 < x → rn G mm_Model_goes 24 lv st S P) ∧ (¬ (x2 < x) → rn G mm_Model_goes 8 lv st S P)) := rn_b (off := 19) dq_Model_goes_5 rfl rfl rfl rfl
theorem dq_Model_goes_8 : decode (km_c mm_Model_goes) 8 = .ok (.aload_n 0, 1) := by decide +kernel
theorem sq_Model_goes_8 : rn G mm_Model_goes 8 [some (.ref z), a1] st S P ↔ rn G mm_Model_goes 9 [some (.ref z), a1] (.ref z :: st) S P := rn_s dq_Model_goes_8 rfl rfl rfl
theorem dq_Model_goes_9 : decode (km_c mm_Model_goes) 9 = .ok (.iload_n 1, 1) := by decide +kernel
theorem sq_Model_goes_9 : rn G mm_Model_goes 9 [a0, some (.int x)] st S P ↔ rn G mm_Model_goes 10 [a0, some (.int x)] (.int x :: st) S P := rn_s dq_Model_goes_9 rfl rfl rfl
theorem dq_Model_goes_10 : decode (km_c mm_Model_goes) 10 = .ok (.invokevirtual 239, 3) := by decide +kernel
theorem sq_Model_goes_10_45 {x1 : Int32} {v : Option Value} {S2 : ks_S} (hc : ev (lt_G o L) mm_Model_goesAt [.ref 45, .int x1] (sx pl kp I A) v S2) (ho : sx_o o pl kp) (hst : kx_cat st ≤ 8) : rn (lt_G o L) mm_Model_goes 10 lv (.int x1 :: .ref 45 :: st) (sx pl kp I A) P ↔ rn (lt_G o L) mm_Model_goes 13 lv (v.toList ++ st) S2 P := rn_cv (k := 0) (host := "") (E' := mm_Model_goesAt) dq_Model_goes_10 rfl (ok_v rfl (by decide) (by decide) (Nat.le_add_left _ _) hst (Nat.le_of_ble_eq_true rfl) (Or.inr (rc_v ho (up_b (by decide)) rfl))) rfl rfl hc
theorem dq_Model_goes_13 : decode (km_c mm_Model_goes) 13 = .ok (.ifCond .eq 5, 3) := by decide +kernel
theorem sq_Model_goes_13 : rn G mm_Model_goes 13 lv (.int x :: st) S P ↔ ((x = 0 → rn G mm_Model_goes 18 lv st S P) ∧ (¬ (x = 0) → rn G mm_Model_goes 16 lv st S P)) := rn_b (off := 5) dq_Model_goes_13 rfl rfl rfl rfl
theorem dq_Model_goes_16 : decode (km_c mm_Model_goes) 16 = .ok (.iload_n 1, 1) := by decide +kernel
theorem sq_Model_goes_16 : rn G mm_Model_goes 16 [a0, some (.int x)] st S P ↔ rn G mm_Model_goes 17 [a0, some (.int x)] (.int x :: st) S P := rn_s dq_Model_goes_16 rfl rfl rfl
theorem dq_Model_goes_17 : decode (km_c mm_Model_goes) 17 = .ok (.ireturn, 1) := by decide +kernel
theorem sq_Model_goes_17 : rn G mm_Model_goes 17 lv [.int x] S P ↔ P (some (.int x)) S := rn_ir dq_Model_goes_17 rfl
theorem dq_Model_goes_18 : decode (km_c mm_Model_goes) 18 = .ok (.iinc 1 1, 3) := by decide +kernel
theorem sq_Model_goes_18n : rn G mm_Model_goes 18 [none, some (.int x)] st S P ↔ rn G mm_Model_goes 21 [none, some (.int (x + nI 1))] st S P := rn_s dq_Model_goes_18 rfl rfl rfl
theorem sq_Model_goes_18i : rn G mm_Model_goes 18 [some (.int x2), some (.int x)] st S P ↔ rn G mm_Model_goes 21 [some (.int x2), some (.int (x + nI 1))] st S P := rn_s dq_Model_goes_18 rfl rfl rfl
theorem sq_Model_goes_18r : rn G mm_Model_goes 18 [some (.ref z2), some (.int x)] st S P ↔ rn G mm_Model_goes 21 [some (.ref z2), some (.int (x + nI 1))] st S P := rn_s dq_Model_goes_18 rfl rfl rfl
theorem dq_Model_goes_21 : decode (km_c mm_Model_goes) 21 = .ok (.goto (-19), 3) := by decide +kernel
theorem sq_Model_goes_21 : rn G mm_Model_goes 21 lv st S P ↔ rn G mm_Model_goes 2 lv st S P := rn_s dq_Model_goes_21 rfl rfl rfl
theorem dq_Model_goes_24 : decode (km_c mm_Model_goes) 24 = .ok (.bipush (-4), 2) := by decide +kernel
theorem sq_Model_goes_24 : rn G mm_Model_goes 24 lv st S P ↔ rn G mm_Model_goes 26 lv (.int ((-4)) :: st) S P := rn_s dq_Model_goes_24 rfl rfl rfl
theorem dq_Model_goes_26 : decode (km_c mm_Model_goes) 26 = .ok (.ireturn, 1) := by decide +kernel
theorem sq_Model_goes_26 : rn G mm_Model_goes 26 lv [.int x] S P ↔ P (some (.int x)) S := rn_ir dq_Model_goes_26 rfl
theorem dq_Model_goesAt_0 : decode (km_c mm_Model_goesAt) 0 = .ok (.aload_n 0, 1) := by decide +kernel
theorem sq_Model_goesAt_0 : rn G mm_Model_goesAt 0 [some (.ref z), a1, a2, a3] st S P ↔ rn G mm_Model_goesAt 1 [some (.ref z), a1, a2, a3] (.ref z :: st) S P := rn_s dq_Model_goesAt_0 rfl rfl rfl
theorem dq_Model_goesAt_1 : decode (km_c mm_Model_goesAt) 1 = .ok (.iload_n 1, 1) := by decide +kernel
theorem sq_Model_goesAt_1 : rn G mm_Model_goesAt 1 [a0, some (.int x), a2, a3] st S P ↔ rn G mm_Model_goesAt 2 [a0, some (.int x), a2, a3] (.int x :: st) S P := rn_s dq_Model_goesAt_1 rfl rfl rfl
theorem dq_Model_goesAt_2 : decode (km_c mm_Model_goesAt) 2 = .ok (.invokevirtual 115, 3) := by decide +kernel
theorem sq_Model_goesAt_2_45 {x1 : Int32} {v : Option Value} {S2 : ks_S} (hc : ev (lt_G o L) mm_Model_findWet [.ref 45, .int x1] (sx pl kp I A) v S2) (ho : sx_o o pl kp) (hst : kx_cat st ≤ 8) : rn (lt_G o L) mm_Model_goesAt 2 lv (.int x1 :: .ref 45 :: st) (sx pl kp I A) P ↔ rn (lt_G o L) mm_Model_goesAt 5 lv (v.toList ++ st) S2 P := rn_cv (k := 0) (host := "") (E' := mm_Model_findWet) dq_Model_goesAt_2 rfl (ok_v rfl (by decide) (by decide) (Nat.le_add_left _ _) hst (Nat.le_of_ble_eq_true rfl) (Or.inr (rc_v ho (up_b (by decide)) rfl))) rfl rfl hc
theorem dq_Model_goesAt_5 : decode (km_c mm_Model_goesAt) 5 = .ok (.iconst 0, 1) := by decide +kernel
theorem sq_Model_goesAt_5 : rn G mm_Model_goesAt 5 lv st S P ↔ rn G mm_Model_goesAt 6 lv (.int (nI 0) :: st) S P := rn_s dq_Model_goesAt_5 rfl rfl rfl
theorem dq_Model_goesAt_6 : decode (km_c mm_Model_goesAt) 6 = .ok (.istore_n 2, 1) := by decide +kernel
theorem sq_Model_goesAt_6n : rn G mm_Model_goesAt 6 [a0, none, a2, a3] (.int x :: st) S P ↔ rn G mm_Model_goesAt 7 [a0, none, some (.int x), a3] st S P := rn_s dq_Model_goesAt_6 rfl rfl rfl
theorem sq_Model_goesAt_6i : rn G mm_Model_goesAt 6 [a0, some (.int x2), a2, a3] (.int x :: st) S P ↔ rn G mm_Model_goesAt 7 [a0, some (.int x2), some (.int x), a3] st S P := rn_s dq_Model_goesAt_6 rfl rfl rfl
theorem sq_Model_goesAt_6r : rn G mm_Model_goesAt 6 [a0, some (.ref z2), a2, a3] (.int x :: st) S P ↔ rn G mm_Model_goesAt 7 [a0, some (.ref z2), some (.int x), a3] st S P := rn_s dq_Model_goesAt_6 rfl rfl rfl
theorem dq_Model_goesAt_7 : decode (km_c mm_Model_goesAt) 7 = .ok (.iconst 0, 1) := by decide +kernel
theorem sq_Model_goesAt_7 : rn G mm_Model_goesAt 7 lv st S P ↔ rn G mm_Model_goesAt 8 lv (.int (nI 0) :: st) S P := rn_s dq_Model_goesAt_7 rfl rfl rfl
theorem dq_Model_goesAt_8 : decode (km_c mm_Model_goesAt) 8 = .ok (.istore_n 3, 1) := by decide +kernel
theorem sq_Model_goesAt_8n : rn G mm_Model_goesAt 8 [a0, a1, none, a3] (.int x :: st) S P ↔ rn G mm_Model_goesAt 9 [a0, a1, none, some (.int x)] st S P := rn_s dq_Model_goesAt_8 rfl rfl rfl
theorem sq_Model_goesAt_8i : rn G mm_Model_goesAt 8 [a0, a1, some (.int x2), a3] (.int x :: st) S P ↔ rn G mm_Model_goesAt 9 [a0, a1, some (.int x2), some (.int x)] st S P := rn_s dq_Model_goesAt_8 rfl rfl rfl
theorem sq_Model_goesAt_8r : rn G mm_Model_goesAt 8 [a0, a1, some (.ref z2), a3] (.int x :: st) S P ↔ rn G mm_Model_goesAt 9 [a0, a1, some (.ref z2), some (.int x)] st S P := rn_s dq_Model_goesAt_8 rfl rfl rfl
theorem dq_Model_goesAt_9 : decode (km_c mm_Model_goesAt) 9 = .ok (.iload_n 3, 1) := by decide +kernel
theorem sq_Model_goesAt_9 : rn G mm_Model_goesAt 9 [a0, a1, a2, some (.int x)] st S P ↔ rn G mm_Model_goesAt 10 [a0, a1, a2, some (.int x)] (.int x :: st) S P := rn_s dq_Model_goesAt_9 rfl rfl rfl
theorem dq_Model_goesAt_10 : decode (km_c mm_Model_goesAt) 10 = .ok (.aload_n 0, 1) := by decide +kernel
theorem sq_Model_goesAt_10 : rn G mm_Model_goesAt 10 [some (.ref z), a1, a2, a3] st S P ↔ rn G mm_Model_goesAt 11 [some (.ref z), a1, a2, a3] (.ref z :: st) S P := rn_s dq_Model_goesAt_10 rfl rfl rfl
theorem dq_Model_goesAt_11 : decode (km_c mm_Model_goesAt) 11 = .ok (.getfield 134, 3) := by decide +kernel
theorem sq_Model_goesAt_11_45 (ho : sx_o o pl kp) : rn (lt_G o L) mm_Model_goesAt 11 lv (.ref 45 :: st) (sx pl kp I A) P ↔ rn (lt_G o L) mm_Model_goesAt 14 lv (.int (I 45 8) :: st) (sx pl kp I A) P := rx_get (h := "") (ci := 10) (k := 8) dq_Model_goesAt_11 (by decide +kernel) ho (up_b (by decide)) rfl rfl (fl_i (by decide))
theorem dq_Model_goesAt_14 : decode (km_c mm_Model_goesAt) 14 = .ok (.if_icmp .ge 34, 3) := by decide +kernel
theorem sq_Model_goesAt_14 : rn G mm_Model_goesAt 14 lv (.int x2 :: .int x :: st) S P ↔ ((x2 ≤ x → rn G mm_Model_goesAt 48 lv st S P) ∧ (¬ (x2 ≤ x) → rn G mm_Model_goesAt 17 lv st S P)) := rn_b (off := 34) dq_Model_goesAt_14 rfl rfl rfl rfl
theorem dq_Model_goesAt_17 : decode (km_c mm_Model_goesAt) 17 = .ok (.iload_n 2, 1) := by decide +kernel
theorem sq_Model_goesAt_17 : rn G mm_Model_goesAt 17 [a0, a1, some (.int x), a3] st S P ↔ rn G mm_Model_goesAt 18 [a0, a1, some (.int x), a3] (.int x :: st) S P := rn_s dq_Model_goesAt_17 rfl rfl rfl
theorem dq_Model_goesAt_18 : decode (km_c mm_Model_goesAt) 18 = .ok (.ifCond .ne 18, 3) := by decide +kernel
theorem sq_Model_goesAt_18 : rn G mm_Model_goesAt 18 lv (.int x :: st) S P ↔ ((¬ x = 0 → rn G mm_Model_goesAt 36 lv st S P) ∧ (¬ (¬ x = 0) → rn G mm_Model_goesAt 21 lv st S P)) := rn_b (off := 18) dq_Model_goesAt_18 rfl rfl rfl rfl
theorem dq_Model_goesAt_21 : decode (km_c mm_Model_goesAt) 21 = .ok (.aload_n 0, 1) := by decide +kernel
theorem sq_Model_goesAt_21 : rn G mm_Model_goesAt 21 [some (.ref z), a1, a2, a3] st S P ↔ rn G mm_Model_goesAt 22 [some (.ref z), a1, a2, a3] (.ref z :: st) S P := rn_s dq_Model_goesAt_21 rfl rfl rfl
theorem dq_Model_goesAt_22 : decode (km_c mm_Model_goesAt) 22 = .ok (.aload_n 0, 1) := by decide +kernel
theorem sq_Model_goesAt_22 : rn G mm_Model_goesAt 22 [some (.ref z), a1, a2, a3] st S P ↔ rn G mm_Model_goesAt 23 [some (.ref z), a1, a2, a3] (.ref z :: st) S P := rn_s dq_Model_goesAt_22 rfl rfl rfl
theorem dq_Model_goesAt_23 : decode (km_c mm_Model_goesAt) 23 = .ok (.getfield 23, 3) := by decide +kernel
theorem sq_Model_goesAt_23_45 (ho : sx_o o pl kp) : rn (lt_G o L) mm_Model_goesAt 23 lv (.ref 45 :: st) (sx pl kp I A) P ↔ rn (lt_G o L) mm_Model_goesAt 26 lv (.ref 49 :: st) (sx pl kp I A) P := rx_get (h := "") (ci := 10) (k := 7) dq_Model_goesAt_23 (by decide +kernel) ho (up_b (by decide)) rfl rfl (fl_r (by decide) (by decide) (by decide) (by decide))
theorem dq_Model_goesAt_26 : decode (km_c mm_Model_goesAt) 26 = .ok (.iload_n 3, 1) := by decide +kernel
theorem sq_Model_goesAt_26 : rn G mm_Model_goesAt 26 [a0, a1, a2, some (.int x)] st S P ↔ rn G mm_Model_goesAt 27 [a0, a1, a2, some (.int x)] (.int x :: st) S P := rn_s dq_Model_goesAt_26 rfl rfl rfl
theorem dq_Model_goesAt_27 : decode (km_c mm_Model_goesAt) 27 = .ok (.iaload, 1) := by decide +kernel
theorem sq_Model_goesAt_27 (ho : sx_o o pl kp) (hk : ak L a = 0) (hu : sx_up pl kp a = true ∨ 1000 ≤ a) (hc : c < ln L a) (hn : ln L a < 2 ^ 31) : rn (lt_G o L) mm_Model_goesAt 27 lv (.int (nI c) :: .ref a :: st) (sx pl kp I A) P ↔ rn (lt_G o L) mm_Model_goesAt 28 lv (.int (A a c) :: st) (sx pl kp I A) P := rx_ild dq_Model_goesAt_27 ho hk hu hc hn
theorem dq_Model_goesAt_28 : decode (km_c mm_Model_goesAt) 28 = .ok (.iload_n 1, 1) := by decide +kernel
theorem sq_Model_goesAt_28 : rn G mm_Model_goesAt 28 [a0, some (.int x), a2, a3] st S P ↔ rn G mm_Model_goesAt 29 [a0, some (.int x), a2, a3] (.int x :: st) S P := rn_s dq_Model_goesAt_28 rfl rfl rfl
theorem dq_Model_goesAt_29 : decode (km_c mm_Model_goesAt) 29 = .ok (.invokevirtual 101, 3) := by decide +kernel
theorem sq_Model_goesAt_29_45 {x1 : Int32} {x2 : Int32} {v : Option Value} {S2 : ks_S} (hc : ev (lt_G o L) mm_Model_waterAt [.ref 45, .int x1, .int x2] (sx pl kp I A) v S2) (ho : sx_o o pl kp) (hst : kx_cat st ≤ 8) : rn (lt_G o L) mm_Model_goesAt 29 lv (.int x2 :: .int x1 :: .ref 45 :: st) (sx pl kp I A) P ↔ rn (lt_G o L) mm_Model_goesAt 32 lv (v.toList ++ st) S2 P := rn_cv (k := 0) (host := "") (E' := mm_Model_waterAt) dq_Model_goesAt_29 rfl (ok_v rfl (by decide) (by decide) (Nat.le_add_left _ _) hst (Nat.le_of_ble_eq_true rfl) (Or.inr (rc_v ho (up_b (by decide)) rfl))) rfl rfl hc
theorem dq_Model_goesAt_32 : decode (km_c mm_Model_goesAt) 32 = .ok (.iconst 3, 1) := by decide +kernel
theorem sq_Model_goesAt_32 : rn G mm_Model_goesAt 32 lv st S P ↔ rn G mm_Model_goesAt 33 lv (.int (nI 3) :: st) S P := rn_s dq_Model_goesAt_32 rfl rfl rfl
theorem dq_Model_goesAt_33 : decode (km_c mm_Model_goesAt) 33 = .ok (.if_icmp .le 7, 3) := by decide +kernel
theorem sq_Model_goesAt_33 : rn G mm_Model_goesAt 33 lv (.int x2 :: .int x :: st) S P ↔ ((x ≤ x2 → rn G mm_Model_goesAt 40 lv st S P) ∧ (¬ (x ≤ x2) → rn G mm_Model_goesAt 36 lv st S P)) := rn_b (off := 7) dq_Model_goesAt_33 rfl rfl rfl rfl
theorem dq_Model_goesAt_36 : decode (km_c mm_Model_goesAt) 36 = .ok (.iconst 1, 1) := by decide +kernel
theorem sq_Model_goesAt_36 : rn G mm_Model_goesAt 36 lv st S P ↔ rn G mm_Model_goesAt 37 lv (.int (nI 1) :: st) S P := rn_s dq_Model_goesAt_36 rfl rfl rfl
theorem dq_Model_goesAt_37 : decode (km_c mm_Model_goesAt) 37 = .ok (.goto 4, 3) := by decide +kernel
theorem sq_Model_goesAt_37 : rn G mm_Model_goesAt 37 lv st S P ↔ rn G mm_Model_goesAt 41 lv st S P := rn_s dq_Model_goesAt_37 rfl rfl rfl
theorem dq_Model_goesAt_40 : decode (km_c mm_Model_goesAt) 40 = .ok (.iconst 0, 1) := by decide +kernel
theorem sq_Model_goesAt_40 : rn G mm_Model_goesAt 40 lv st S P ↔ rn G mm_Model_goesAt 41 lv (.int (nI 0) :: st) S P := rn_s dq_Model_goesAt_40 rfl rfl rfl
theorem dq_Model_goesAt_41 : decode (km_c mm_Model_goesAt) 41 = .ok (.istore_n 2, 1) := by decide +kernel
theorem sq_Model_goesAt_41n : rn G mm_Model_goesAt 41 [a0, none, a2, a3] (.int x :: st) S P ↔ rn G mm_Model_goesAt 42 [a0, none, some (.int x), a3] st S P := rn_s dq_Model_goesAt_41 rfl rfl rfl
theorem sq_Model_goesAt_41i : rn G mm_Model_goesAt 41 [a0, some (.int x2), a2, a3] (.int x :: st) S P ↔ rn G mm_Model_goesAt 42 [a0, some (.int x2), some (.int x), a3] st S P := rn_s dq_Model_goesAt_41 rfl rfl rfl
theorem sq_Model_goesAt_41r : rn G mm_Model_goesAt 41 [a0, some (.ref z2), a2, a3] (.int x :: st) S P ↔ rn G mm_Model_goesAt 42 [a0, some (.ref z2), some (.int x), a3] st S P := rn_s dq_Model_goesAt_41 rfl rfl rfl
theorem dq_Model_goesAt_42 : decode (km_c mm_Model_goesAt) 42 = .ok (.iinc 3 1, 3) := by decide +kernel
theorem sq_Model_goesAt_42n : rn G mm_Model_goesAt 42 [a0, a1, none, some (.int x)] st S P ↔ rn G mm_Model_goesAt 45 [a0, a1, none, some (.int (x + nI 1))] st S P := rn_s dq_Model_goesAt_42 rfl rfl rfl
theorem sq_Model_goesAt_42i : rn G mm_Model_goesAt 42 [a0, a1, some (.int x2), some (.int x)] st S P ↔ rn G mm_Model_goesAt 45 [a0, a1, some (.int x2), some (.int (x + nI 1))] st S P := rn_s dq_Model_goesAt_42 rfl rfl rfl
theorem sq_Model_goesAt_42r : rn G mm_Model_goesAt 42 [a0, a1, some (.ref z2), some (.int x)] st S P ↔ rn G mm_Model_goesAt 45 [a0, a1, some (.ref z2), some (.int (x + nI 1))] st S P := rn_s dq_Model_goesAt_42 rfl rfl rfl
theorem dq_Model_goesAt_45 : decode (km_c mm_Model_goesAt) 45 = .ok (.goto (-36), 3) := by decide +kernel
theorem sq_Model_goesAt_45 : rn G mm_Model_goesAt 45 lv st S P ↔ rn G mm_Model_goesAt 9 lv st S P := rn_s dq_Model_goesAt_45 rfl rfl rfl
theorem dq_Model_goesAt_48 : decode (km_c mm_Model_goesAt) 48 = .ok (.iload_n 2, 1) := by decide +kernel
theorem sq_Model_goesAt_48 : rn G mm_Model_goesAt 48 [a0, a1, some (.int x), a3] st S P ↔ rn G mm_Model_goesAt 49 [a0, a1, some (.int x), a3] (.int x :: st) S P := rn_s dq_Model_goesAt_48 rfl rfl rfl
theorem dq_Model_goesAt_49 : decode (km_c mm_Model_goesAt) 49 = .ok (.ireturn, 1) := by decide +kernel
theorem sq_Model_goesAt_49_0 : rn G mm_Model_goesAt 49 lv [.int (nI 0)] S P ↔ P (some (.int (nI 0))) S := rn_ir dq_Model_goesAt_49 (by decide)
theorem sq_Model_goesAt_49_1 : rn G mm_Model_goesAt 49 lv [.int (nI 1)] S P ↔ P (some (.int (nI 1))) S := rn_ir dq_Model_goesAt_49 (by decide)
theorem dq_Model_weight_0 : decode (km_c mm_Model_weight) 0 = .ok (.iload_n 1, 1) := by decide +kernel
theorem sq_Model_weight_0 : rn G mm_Model_weight 0 [a0, some (.int x), a2, a3] st S P ↔ rn G mm_Model_weight 1 [a0, some (.int x), a2, a3] (.int x :: st) S P := rn_s dq_Model_weight_0 rfl rfl rfl
theorem dq_Model_weight_1 : decode (km_c mm_Model_weight) 1 = .ok (.i2l, 1) := by decide +kernel
theorem sq_Model_weight_1 : rn G mm_Model_weight 1 lv (.int x :: st) S P ↔ rn G mm_Model_weight 2 lv (.long x.toInt64 :: st) S P := rn_s dq_Model_weight_1 rfl rfl rfl
theorem dq_Model_weight_2 : decode (km_c mm_Model_weight) 2 = .ok (.lconst 0, 1) := by decide +kernel
theorem sq_Model_weight_2 : rn G mm_Model_weight 2 lv st S P ↔ rn G mm_Model_weight 3 lv (.long (0) :: st) S P := rn_s dq_Model_weight_2 rfl rfl rfl
theorem dq_Model_weight_3 : decode (km_c mm_Model_weight) 3 = .ok (.ldc2_w 125, 3) := by decide +kernel
theorem sq_Model_weight_3 : rn G mm_Model_weight 3 lv st S P ↔ rn G mm_Model_weight 6 lv (.long (40) :: st) S P := rn_s dq_Model_weight_3 rfl rfl rfl
theorem dq_Model_weight_6 : decode (km_c mm_Model_weight) 6 = .ok (.invokestatic 76, 3) := by decide +kernel
theorem sq_Model_weight_6 {y1 : Int64} {y2 : Int64} {y3 : Int64} {v : Option Value} {S2 : ks_S} (hc : ev G mm_Model_in [.long y1, .long y2, .long y3] S v S2) (hst : kx_cat st ≤ 8) : rn G mm_Model_weight 6 lv (.long y3 :: .long y2 :: .long y1 :: st) S P ↔ rn G mm_Model_weight 9 lv (v.toList ++ st) S2 P := rn_cs (k := 1) (host := "") (E' := mm_Model_in) dq_Model_weight_6 (by decide) (by decide) rfl (ok_v rfl (by decide) (by decide) (Nat.le_add_left _ _) hst (Nat.le_of_ble_eq_true rfl) (Or.inl rfl)) rfl rfl hc
theorem dq_Model_weight_9 : decode (km_c mm_Model_weight) 9 = .ok (.ifCond .eq 15, 3) := by decide +kernel
theorem sq_Model_weight_9 : rn G mm_Model_weight 9 lv (.int x :: st) S P ↔ ((x = 0 → rn G mm_Model_weight 24 lv st S P) ∧ (¬ (x = 0) → rn G mm_Model_weight 12 lv st S P)) := rn_b (off := 15) dq_Model_weight_9 rfl rfl rfl rfl
theorem dq_Model_weight_12 : decode (km_c mm_Model_weight) 12 = .ok (.iload_n 2, 1) := by decide +kernel
theorem sq_Model_weight_12 : rn G mm_Model_weight 12 [a0, a1, some (.int x), a3] st S P ↔ rn G mm_Model_weight 13 [a0, a1, some (.int x), a3] (.int x :: st) S P := rn_s dq_Model_weight_12 rfl rfl rfl
theorem dq_Model_weight_13 : decode (km_c mm_Model_weight) 13 = .ok (.i2l, 1) := by decide +kernel
theorem sq_Model_weight_13 : rn G mm_Model_weight 13 lv (.int x :: st) S P ↔ rn G mm_Model_weight 14 lv (.long x.toInt64 :: st) S P := rn_s dq_Model_weight_13 rfl rfl rfl
theorem dq_Model_weight_14 : decode (km_c mm_Model_weight) 14 = .ok (.lconst 0, 1) := by decide +kernel
theorem sq_Model_weight_14 : rn G mm_Model_weight 14 lv st S P ↔ rn G mm_Model_weight 15 lv (.long (0) :: st) S P := rn_s dq_Model_weight_14 rfl rfl rfl
theorem dq_Model_weight_15 : decode (km_c mm_Model_weight) 15 = .ok (.ldc2_w 237, 3) := by decide +kernel
theorem sq_Model_weight_15 : rn G mm_Model_weight 15 lv st S P ↔ rn G mm_Model_weight 18 lv (.long (9) :: st) S P := rn_s dq_Model_weight_15 rfl rfl rfl
theorem dq_Model_weight_18 : decode (km_c mm_Model_weight) 18 = .ok (.invokestatic 76, 3) := by decide +kernel
theorem sq_Model_weight_18 {y1 : Int64} {y2 : Int64} {y3 : Int64} {v : Option Value} {S2 : ks_S} (hc : ev G mm_Model_in [.long y1, .long y2, .long y3] S v S2) (hst : kx_cat st ≤ 8) : rn G mm_Model_weight 18 lv (.long y3 :: .long y2 :: .long y1 :: st) S P ↔ rn G mm_Model_weight 21 lv (v.toList ++ st) S2 P := rn_cs (k := 1) (host := "") (E' := mm_Model_in) dq_Model_weight_18 (by decide) (by decide) rfl (ok_v rfl (by decide) (by decide) (Nat.le_add_left _ _) hst (Nat.le_of_ble_eq_true rfl) (Or.inl rfl)) rfl rfl hc
theorem dq_Model_weight_21 : decode (km_c mm_Model_weight) 21 = .ok (.ifCond .ne 5, 3) := by decide +kernel
theorem sq_Model_weight_21 : rn G mm_Model_weight 21 lv (.int x :: st) S P ↔ ((¬ x = 0 → rn G mm_Model_weight 26 lv st S P) ∧ (¬ (¬ x = 0) → rn G mm_Model_weight 24 lv st S P)) := rn_b (off := 5) dq_Model_weight_21 rfl rfl rfl rfl
theorem dq_Model_weight_24 : decode (km_c mm_Model_weight) 24 = .ok (.iconst (-1), 1) := by decide +kernel
theorem sq_Model_weight_24 : rn G mm_Model_weight 24 lv st S P ↔ rn G mm_Model_weight 25 lv (.int ((-1)) :: st) S P := rn_s dq_Model_weight_24 rfl rfl rfl
theorem dq_Model_weight_25 : decode (km_c mm_Model_weight) 25 = .ok (.ireturn, 1) := by decide +kernel
theorem sq_Model_weight_25 : rn G mm_Model_weight 25 lv [.int x] S P ↔ P (some (.int x)) S := rn_ir dq_Model_weight_25 rfl
theorem dq_Model_weight_26 : decode (km_c mm_Model_weight) 26 = .ok (.aload_n 0, 1) := by decide +kernel
theorem sq_Model_weight_26 : rn G mm_Model_weight 26 [some (.ref z), a1, a2, a3] st S P ↔ rn G mm_Model_weight 27 [some (.ref z), a1, a2, a3] (.ref z :: st) S P := rn_s dq_Model_weight_26 rfl rfl rfl
theorem dq_Model_weight_27 : decode (km_c mm_Model_weight) 27 = .ok (.getfield 26, 3) := by decide +kernel
theorem sq_Model_weight_27_45 (ho : sx_o o pl kp) : rn (lt_G o L) mm_Model_weight 27 lv (.ref 45 :: st) (sx pl kp I A) P ↔ rn (lt_G o L) mm_Model_weight 30 lv (.ref 50 :: st) (sx pl kp I A) P := rx_get (h := "") (ci := 10) (k := 9) dq_Model_weight_27 (by decide +kernel) ho (up_b (by decide)) rfl rfl (fl_r (by decide) (by decide) (by decide) (by decide))
theorem dq_Model_weight_30 : decode (km_c mm_Model_weight) 30 = .ok (.iload_n 1, 1) := by decide +kernel
theorem sq_Model_weight_30 : rn G mm_Model_weight 30 [a0, some (.int x), a2, a3] st S P ↔ rn G mm_Model_weight 31 [a0, some (.int x), a2, a3] (.int x :: st) S P := rn_s dq_Model_weight_30 rfl rfl rfl
theorem dq_Model_weight_31 : decode (km_c mm_Model_weight) 31 = .ok (.iaload, 1) := by decide +kernel
theorem sq_Model_weight_31 (ho : sx_o o pl kp) (hk : ak L a = 0) (hu : sx_up pl kp a = true ∨ 1000 ≤ a) (hc : c < ln L a) (hn : ln L a < 2 ^ 31) : rn (lt_G o L) mm_Model_weight 31 lv (.int (nI c) :: .ref a :: st) (sx pl kp I A) P ↔ rn (lt_G o L) mm_Model_weight 32 lv (.int (A a c) :: st) (sx pl kp I A) P := rx_ild dq_Model_weight_31 ho hk hu hc hn
theorem dq_Model_weight_32 : decode (km_c mm_Model_weight) 32 = .ok (.istore_n 3, 1) := by decide +kernel
theorem sq_Model_weight_32n : rn G mm_Model_weight 32 [a0, a1, none, a3] (.int x :: st) S P ↔ rn G mm_Model_weight 33 [a0, a1, none, some (.int x)] st S P := rn_s dq_Model_weight_32 rfl rfl rfl
theorem sq_Model_weight_32i : rn G mm_Model_weight 32 [a0, a1, some (.int x2), a3] (.int x :: st) S P ↔ rn G mm_Model_weight 33 [a0, a1, some (.int x2), some (.int x)] st S P := rn_s dq_Model_weight_32 rfl rfl rfl
theorem sq_Model_weight_32r : rn G mm_Model_weight 32 [a0, a1, some (.ref z2), a3] (.int x :: st) S P ↔ rn G mm_Model_weight 33 [a0, a1, some (.ref z2), some (.int x)] st S P := rn_s dq_Model_weight_32 rfl rfl rfl
theorem dq_Model_weight_33 : decode (km_c mm_Model_weight) 33 = .ok (.aload_n 0, 1) := by decide +kernel
theorem sq_Model_weight_33 : rn G mm_Model_weight 33 [some (.ref z), a1, a2, a3] st S P ↔ rn G mm_Model_weight 34 [some (.ref z), a1, a2, a3] (.ref z :: st) S P := rn_s dq_Model_weight_33 rfl rfl rfl
theorem dq_Model_weight_34 : decode (km_c mm_Model_weight) 34 = .ok (.getfield 26, 3) := by decide +kernel
theorem sq_Model_weight_34_45 (ho : sx_o o pl kp) : rn (lt_G o L) mm_Model_weight 34 lv (.ref 45 :: st) (sx pl kp I A) P ↔ rn (lt_G o L) mm_Model_weight 37 lv (.ref 50 :: st) (sx pl kp I A) P := rx_get (h := "") (ci := 10) (k := 9) dq_Model_weight_34 (by decide +kernel) ho (up_b (by decide)) rfl rfl (fl_r (by decide) (by decide) (by decide) (by decide))
theorem dq_Model_weight_37 : decode (km_c mm_Model_weight) 37 = .ok (.iload_n 1, 1) := by decide +kernel
theorem sq_Model_weight_37 : rn G mm_Model_weight 37 [a0, some (.int x), a2, a3] st S P ↔ rn G mm_Model_weight 38 [a0, some (.int x), a2, a3] (.int x :: st) S P := rn_s dq_Model_weight_37 rfl rfl rfl
theorem dq_Model_weight_38 : decode (km_c mm_Model_weight) 38 = .ok (.iload_n 2, 1) := by decide +kernel
theorem sq_Model_weight_38 : rn G mm_Model_weight 38 [a0, a1, some (.int x), a3] st S P ↔ rn G mm_Model_weight 39 [a0, a1, some (.int x), a3] (.int x :: st) S P := rn_s dq_Model_weight_38 rfl rfl rfl
theorem dq_Model_weight_39 : decode (km_c mm_Model_weight) 39 = .ok (.iastore, 1) := by decide +kernel
theorem sq_Model_weight_39 (ho : sx_o o pl kp) (hk : ak L a = 0) (hu : sx_up pl kp a = true) (hc : c < ln L a) (hn : ln L a < 2 ^ 31) : rn (lt_G o L) mm_Model_weight 39 lv (.int x :: .int (nI c) :: .ref a :: st) (sx pl kp I A) P ↔ rn (lt_G o L) mm_Model_weight 40 lv st (sx pl kp I (u2 A a c x)) P := rx_ist dq_Model_weight_39 ho hk hu hc hn
theorem dq_Model_weight_40 : decode (km_c mm_Model_weight) 40 = .ok (.iload_n 3, 1) := by decide +kernel
theorem sq_Model_weight_40 : rn G mm_Model_weight 40 [a0, a1, a2, some (.int x)] st S P ↔ rn G mm_Model_weight 41 [a0, a1, a2, some (.int x)] (.int x :: st) S P := rn_s dq_Model_weight_40 rfl rfl rfl
theorem dq_Model_weight_41 : decode (km_c mm_Model_weight) 41 = .ok (.ireturn, 1) := by decide +kernel
theorem sq_Model_weight_41 : rn G mm_Model_weight 41 lv [.int x] S P ↔ P (some (.int x)) S := rn_ir dq_Model_weight_41 rfl
theorem dq_Model_odds_0 : decode (km_c mm_Model_odds) 0 = .ok (.iload_n 1, 1) := by decide +kernel
theorem sq_Model_odds_0 : rn G mm_Model_odds 0 [a0, some (.int x), a2, a3, a4, a5, a6, a7, a8, a9, a10, a11, a12, a13, a14, a15, a16] st S P ↔ rn G mm_Model_odds 1 [a0, some (.int x), a2, a3, a4, a5, a6, a7, a8, a9, a10, a11, a12, a13, a14, a15, a16] (.int x :: st) S P := rn_s dq_Model_odds_0 rfl rfl rfl
theorem dq_Model_odds_1 : decode (km_c mm_Model_odds) 1 = .ok (.i2l, 1) := by decide +kernel
theorem sq_Model_odds_1 : rn G mm_Model_odds 1 lv (.int x :: st) S P ↔ rn G mm_Model_odds 2 lv (.long x.toInt64 :: st) S P := rn_s dq_Model_odds_1 rfl rfl rfl
theorem dq_Model_odds_2 : decode (km_c mm_Model_odds) 2 = .ok (.lconst 1, 1) := by decide +kernel
theorem sq_Model_odds_2 : rn G mm_Model_odds 2 lv st S P ↔ rn G mm_Model_odds 3 lv (.long (1) :: st) S P := rn_s dq_Model_odds_2 rfl rfl rfl
theorem dq_Model_odds_3 : decode (km_c mm_Model_odds) 3 = .ok (.ldc2_w 242, 3) := by decide +kernel
theorem sq_Model_odds_3 : rn G mm_Model_odds 3 lv st S P ↔ rn G mm_Model_odds 6 lv (.long (6) :: st) S P := rn_s dq_Model_odds_3 rfl rfl rfl
theorem dq_Model_odds_6 : decode (km_c mm_Model_odds) 6 = .ok (.invokestatic 76, 3) := by decide +kernel
theorem sq_Model_odds_6 {y1 : Int64} {y2 : Int64} {y3 : Int64} {v : Option Value} {S2 : ks_S} (hc : ev G mm_Model_in [.long y1, .long y2, .long y3] S v S2) (hst : kx_cat st ≤ 8) : rn G mm_Model_odds 6 lv (.long y3 :: .long y2 :: .long y1 :: st) S P ↔ rn G mm_Model_odds 9 lv (v.toList ++ st) S2 P := rn_cs (k := 1) (host := "") (E' := mm_Model_in) dq_Model_odds_6 (by decide) (by decide) rfl (ok_v rfl (by decide) (by decide) (Nat.le_add_left _ _) hst (Nat.le_of_ble_eq_true rfl) (Or.inl rfl)) rfl rfl hc
theorem dq_Model_odds_9 : decode (km_c mm_Model_odds) 9 = .ok (.ifCond .eq 13, 3) := by decide +kernel
theorem sq_Model_odds_9 : rn G mm_Model_odds 9 lv (.int x :: st) S P ↔ ((x = 0 → rn G mm_Model_odds 22 lv st S P) ∧ (¬ (x = 0) → rn G mm_Model_odds 12 lv st S P)) := rn_b (off := 13) dq_Model_odds_9 rfl rfl rfl rfl
theorem dq_Model_odds_12 : decode (km_c mm_Model_odds) 12 = .ok (.iload_n 2, 1) := by decide +kernel
theorem sq_Model_odds_12 : rn G mm_Model_odds 12 [a0, a1, some (.int x), a3, a4, a5, a6, a7, a8, a9, a10, a11, a12, a13, a14, a15, a16] st S P ↔ rn G mm_Model_odds 13 [a0, a1, some (.int x), a3, a4, a5, a6, a7, a8, a9, a10, a11, a12, a13, a14, a15, a16] (.int x :: st) S P := rn_s dq_Model_odds_12 rfl rfl rfl
theorem dq_Model_odds_13 : decode (km_c mm_Model_odds) 13 = .ok (.i2l, 1) := by decide +kernel
theorem sq_Model_odds_13 : rn G mm_Model_odds 13 lv (.int x :: st) S P ↔ rn G mm_Model_odds 14 lv (.long x.toInt64 :: st) S P := rn_s dq_Model_odds_13 rfl rfl rfl
theorem dq_Model_odds_14 : decode (km_c mm_Model_odds) 14 = .ok (.lconst 0, 1) := by decide +kernel
theorem sq_Model_odds_14 : rn G mm_Model_odds 14 lv st S P ↔ rn G mm_Model_odds 15 lv (.long (0) :: st) S P := rn_s dq_Model_odds_14 rfl rfl rfl
theorem dq_Model_odds_15 : decode (km_c mm_Model_odds) 15 = .ok (.lconst 1, 1) := by decide +kernel
theorem sq_Model_odds_15 : rn G mm_Model_odds 15 lv st S P ↔ rn G mm_Model_odds 16 lv (.long (1) :: st) S P := rn_s dq_Model_odds_15 rfl rfl rfl
theorem dq_Model_odds_16 : decode (km_c mm_Model_odds) 16 = .ok (.invokestatic 76, 3) := by decide +kernel
theorem sq_Model_odds_16 {y1 : Int64} {y2 : Int64} {y3 : Int64} {v : Option Value} {S2 : ks_S} (hc : ev G mm_Model_in [.long y1, .long y2, .long y3] S v S2) (hst : kx_cat st ≤ 8) : rn G mm_Model_odds 16 lv (.long y3 :: .long y2 :: .long y1 :: st) S P ↔ rn G mm_Model_odds 19 lv (v.toList ++ st) S2 P := rn_cs (k := 1) (host := "") (E' := mm_Model_in) dq_Model_odds_16 (by decide) (by decide) rfl (ok_v rfl (by decide) (by decide) (Nat.le_add_left _ _) hst (Nat.le_of_ble_eq_true rfl) (Or.inl rfl)) rfl rfl hc
theorem dq_Model_odds_19 : decode (km_c mm_Model_odds) 19 = .ok (.ifCond .ne 7, 3) := by decide +kernel
theorem sq_Model_odds_19 : rn G mm_Model_odds 19 lv (.int x :: st) S P ↔ ((¬ x = 0 → rn G mm_Model_odds 26 lv st S P) ∧ (¬ (¬ x = 0) → rn G mm_Model_odds 22 lv st S P)) := rn_b (off := 7) dq_Model_odds_19 rfl rfl rfl rfl
theorem dq_Model_odds_22 : decode (km_c mm_Model_odds) 22 = .ok (.ldc2_w 244, 3) := by decide +kernel
theorem sq_Model_odds_22 : rn G mm_Model_odds 22 lv st S P ↔ rn G mm_Model_odds 25 lv (.long (-1) :: st) S P := rn_s dq_Model_odds_22 rfl rfl rfl
theorem dq_Model_odds_25 : decode (km_c mm_Model_odds) 25 = .ok (.lreturn, 1) := by decide +kernel
theorem sq_Model_odds_25 : rn G mm_Model_odds 25 lv [.long y] S P ↔ P (some (.long y)) S := rn_lr dq_Model_odds_25 rfl
theorem dq_Model_odds_26 : decode (km_c mm_Model_odds) 26 = .ok (.aload_n 0, 1) := by decide +kernel
theorem sq_Model_odds_26 : rn G mm_Model_odds 26 [some (.ref z), a1, a2, a3, a4, a5, a6, a7, a8, a9, a10, a11, a12, a13, a14, a15, a16] st S P ↔ rn G mm_Model_odds 27 [some (.ref z), a1, a2, a3, a4, a5, a6, a7, a8, a9, a10, a11, a12, a13, a14, a15, a16] (.ref z :: st) S P := rn_s dq_Model_odds_26 rfl rfl rfl
theorem dq_Model_odds_27 : decode (km_c mm_Model_odds) 27 = .ok (.invokevirtual 137, 3) := by decide +kernel
theorem sq_Model_odds_27_45  {v : Option Value} {S2 : ks_S} (hc : ev (lt_G o L) mm_Model_allWeights [.ref 45] (sx pl kp I A) v S2) (ho : sx_o o pl kp) (hst : kx_cat st ≤ 8) : rn (lt_G o L) mm_Model_odds 27 lv (.ref 45 :: st) (sx pl kp I A) P ↔ rn (lt_G o L) mm_Model_odds 30 lv (v.toList ++ st) S2 P := rn_cv (k := 0) (host := "") (E' := mm_Model_allWeights) dq_Model_odds_27 rfl (ok_v rfl (by decide) (by decide) (Nat.le_add_left _ _) hst (Nat.le_of_ble_eq_true rfl) (Or.inr (rc_v ho (up_b (by decide)) rfl))) rfl rfl hc
theorem dq_Model_odds_30 : decode (km_c mm_Model_odds) 30 = .ok (.istore_n 3, 1) := by decide +kernel
theorem sq_Model_odds_30n : rn G mm_Model_odds 30 [a0, a1, none, a3, a4, a5, a6, a7, a8, a9, a10, a11, a12, a13, a14, a15, a16] (.int x :: st) S P ↔ rn G mm_Model_odds 31 [a0, a1, none, some (.int x), a4, a5, a6, a7, a8, a9, a10, a11, a12, a13, a14, a15, a16] st S P := rn_s dq_Model_odds_30 rfl rfl rfl
theorem sq_Model_odds_30i : rn G mm_Model_odds 30 [a0, a1, some (.int x2), a3, a4, a5, a6, a7, a8, a9, a10, a11, a12, a13, a14, a15, a16] (.int x :: st) S P ↔ rn G mm_Model_odds 31 [a0, a1, some (.int x2), some (.int x), a4, a5, a6, a7, a8, a9, a10, a11, a12, a13, a14, a15, a16] st S P := rn_s dq_Model_odds_30 rfl rfl rfl
theorem sq_Model_odds_30r : rn G mm_Model_odds 30 [a0, a1, some (.ref z2), a3, a4, a5, a6, a7, a8, a9, a10, a11, a12, a13, a14, a15, a16] (.int x :: st) S P ↔ rn G mm_Model_odds 31 [a0, a1, some (.ref z2), some (.int x), a4, a5, a6, a7, a8, a9, a10, a11, a12, a13, a14, a15, a16] st S P := rn_s dq_Model_odds_30 rfl rfl rfl
theorem sq_Model_odds_30l : rn G mm_Model_odds 30 [a0, a1, some (.long y2), a3, a4, a5, a6, a7, a8, a9, a10, a11, a12, a13, a14, a15, a16] (.int x :: st) S P ↔ rn G mm_Model_odds 31 [a0, a1, none, some (.int x), a4, a5, a6, a7, a8, a9, a10, a11, a12, a13, a14, a15, a16] st S P := rn_s dq_Model_odds_30 rfl rfl rfl
theorem dq_Model_odds_31 : decode (km_c mm_Model_odds) 31 = .ok (.iload_n 3, 1) := by decide +kernel
theorem sq_Model_odds_31 : rn G mm_Model_odds 31 [a0, a1, a2, some (.int x), a4, a5, a6, a7, a8, a9, a10, a11, a12, a13, a14, a15, a16] st S P ↔ rn G mm_Model_odds 32 [a0, a1, a2, some (.int x), a4, a5, a6, a7, a8, a9, a10, a11, a12, a13, a14, a15, a16] (.int x :: st) S P := rn_s dq_Model_odds_31 rfl rfl rfl
theorem dq_Model_odds_32 : decode (km_c mm_Model_odds) 32 = .ok (.ifCond .ne 7, 3) := by decide +kernel
theorem sq_Model_odds_32 : rn G mm_Model_odds 32 lv (.int x :: st) S P ↔ ((¬ x = 0 → rn G mm_Model_odds 39 lv st S P) ∧ (¬ (¬ x = 0) → rn G mm_Model_odds 35 lv st S P)) := rn_b (off := 7) dq_Model_odds_32 rfl rfl rfl rfl
theorem dq_Model_odds_35 : decode (km_c mm_Model_odds) 35 = .ok (.ldc2_w 246, 3) := by decide +kernel
theorem sq_Model_odds_35 : rn G mm_Model_odds 35 lv st S P ↔ rn G mm_Model_odds 38 lv (.long (-2) :: st) S P := rn_s dq_Model_odds_35 rfl rfl rfl
theorem dq_Model_odds_38 : decode (km_c mm_Model_odds) 38 = .ok (.lreturn, 1) := by decide +kernel
theorem sq_Model_odds_38 : rn G mm_Model_odds 38 lv [.long y] S P ↔ P (some (.long y)) S := rn_lr dq_Model_odds_38 rfl
theorem dq_Model_odds_39 : decode (km_c mm_Model_odds) 39 = .ok (.iconst 0, 1) := by decide +kernel
theorem sq_Model_odds_39 : rn G mm_Model_odds 39 lv st S P ↔ rn G mm_Model_odds 40 lv (.int (nI 0) :: st) S P := rn_s dq_Model_odds_39 rfl rfl rfl
theorem dq_Model_odds_40 : decode (km_c mm_Model_odds) 40 = .ok (.istore 4, 2) := by decide +kernel
theorem sq_Model_odds_40n : rn G mm_Model_odds 40 [a0, a1, a2, none, a4, a5, a6, a7, a8, a9, a10, a11, a12, a13, a14, a15, a16] (.int x :: st) S P ↔ rn G mm_Model_odds 42 [a0, a1, a2, none, some (.int x), a5, a6, a7, a8, a9, a10, a11, a12, a13, a14, a15, a16] st S P := rn_s dq_Model_odds_40 rfl rfl rfl
theorem sq_Model_odds_40i : rn G mm_Model_odds 40 [a0, a1, a2, some (.int x2), a4, a5, a6, a7, a8, a9, a10, a11, a12, a13, a14, a15, a16] (.int x :: st) S P ↔ rn G mm_Model_odds 42 [a0, a1, a2, some (.int x2), some (.int x), a5, a6, a7, a8, a9, a10, a11, a12, a13, a14, a15, a16] st S P := rn_s dq_Model_odds_40 rfl rfl rfl
theorem sq_Model_odds_40r : rn G mm_Model_odds 40 [a0, a1, a2, some (.ref z2), a4, a5, a6, a7, a8, a9, a10, a11, a12, a13, a14, a15, a16] (.int x :: st) S P ↔ rn G mm_Model_odds 42 [a0, a1, a2, some (.ref z2), some (.int x), a5, a6, a7, a8, a9, a10, a11, a12, a13, a14, a15, a16] st S P := rn_s dq_Model_odds_40 rfl rfl rfl
theorem sq_Model_odds_40l : rn G mm_Model_odds 40 [a0, a1, a2, some (.long y2), a4, a5, a6, a7, a8, a9, a10, a11, a12, a13, a14, a15, a16] (.int x :: st) S P ↔ rn G mm_Model_odds 42 [a0, a1, a2, none, some (.int x), a5, a6, a7, a8, a9, a10, a11, a12, a13, a14, a15, a16] st S P := rn_s dq_Model_odds_40 rfl rfl rfl
theorem dq_Model_odds_42 : decode (km_c mm_Model_odds) 42 = .ok (.iconst 0, 1) := by decide +kernel
theorem sq_Model_odds_42 : rn G mm_Model_odds 42 lv st S P ↔ rn G mm_Model_odds 43 lv (.int (nI 0) :: st) S P := rn_s dq_Model_odds_42 rfl rfl rfl
theorem dq_Model_odds_43 : decode (km_c mm_Model_odds) 43 = .ok (.istore 5, 2) := by decide +kernel
theorem sq_Model_odds_43n : rn G mm_Model_odds 43 [a0, a1, a2, a3, none, a5, a6, a7, a8, a9, a10, a11, a12, a13, a14, a15, a16] (.int x :: st) S P ↔ rn G mm_Model_odds 45 [a0, a1, a2, a3, none, some (.int x), a6, a7, a8, a9, a10, a11, a12, a13, a14, a15, a16] st S P := rn_s dq_Model_odds_43 rfl rfl rfl
theorem sq_Model_odds_43i : rn G mm_Model_odds 43 [a0, a1, a2, a3, some (.int x2), a5, a6, a7, a8, a9, a10, a11, a12, a13, a14, a15, a16] (.int x :: st) S P ↔ rn G mm_Model_odds 45 [a0, a1, a2, a3, some (.int x2), some (.int x), a6, a7, a8, a9, a10, a11, a12, a13, a14, a15, a16] st S P := rn_s dq_Model_odds_43 rfl rfl rfl
theorem sq_Model_odds_43r : rn G mm_Model_odds 43 [a0, a1, a2, a3, some (.ref z2), a5, a6, a7, a8, a9, a10, a11, a12, a13, a14, a15, a16] (.int x :: st) S P ↔ rn G mm_Model_odds 45 [a0, a1, a2, a3, some (.ref z2), some (.int x), a6, a7, a8, a9, a10, a11, a12, a13, a14, a15, a16] st S P := rn_s dq_Model_odds_43 rfl rfl rfl
theorem sq_Model_odds_43l : rn G mm_Model_odds 43 [a0, a1, a2, a3, some (.long y2), a5, a6, a7, a8, a9, a10, a11, a12, a13, a14, a15, a16] (.int x :: st) S P ↔ rn G mm_Model_odds 45 [a0, a1, a2, a3, none, some (.int x), a6, a7, a8, a9, a10, a11, a12, a13, a14, a15, a16] st S P := rn_s dq_Model_odds_43 rfl rfl rfl
theorem dq_Model_odds_45 : decode (km_c mm_Model_odds) 45 = .ok (.iload 5, 2) := by decide +kernel
theorem sq_Model_odds_45 : rn G mm_Model_odds 45 [a0, a1, a2, a3, a4, some (.int x), a6, a7, a8, a9, a10, a11, a12, a13, a14, a15, a16] st S P ↔ rn G mm_Model_odds 47 [a0, a1, a2, a3, a4, some (.int x), a6, a7, a8, a9, a10, a11, a12, a13, a14, a15, a16] (.int x :: st) S P := rn_s dq_Model_odds_45 rfl rfl rfl
theorem dq_Model_odds_47 : decode (km_c mm_Model_odds) 47 = .ok (.bipush 40, 2) := by decide +kernel
theorem sq_Model_odds_47 : rn G mm_Model_odds 47 lv st S P ↔ rn G mm_Model_odds 49 lv (.int (nI 40) :: st) S P := rn_s dq_Model_odds_47 rfl rfl rfl
theorem dq_Model_odds_49 : decode (km_c mm_Model_odds) 49 = .ok (.if_icmp .gt 34, 3) := by decide +kernel
theorem sq_Model_odds_49 : rn G mm_Model_odds 49 lv (.int x2 :: .int x :: st) S P ↔ ((x2 < x → rn G mm_Model_odds 83 lv st S P) ∧ (¬ (x2 < x) → rn G mm_Model_odds 52 lv st S P)) := rn_b (off := 34) dq_Model_odds_49 rfl rfl rfl rfl
theorem dq_Model_odds_52 : decode (km_c mm_Model_odds) 52 = .ok (.iload 4, 2) := by decide +kernel
theorem sq_Model_odds_52 : rn G mm_Model_odds 52 [a0, a1, a2, a3, some (.int x), a5, a6, a7, a8, a9, a10, a11, a12, a13, a14, a15, a16] st S P ↔ rn G mm_Model_odds 54 [a0, a1, a2, a3, some (.int x), a5, a6, a7, a8, a9, a10, a11, a12, a13, a14, a15, a16] (.int x :: st) S P := rn_s dq_Model_odds_52 rfl rfl rfl
theorem dq_Model_odds_54 : decode (km_c mm_Model_odds) 54 = .ok (.aload_n 0, 1) := by decide +kernel
theorem sq_Model_odds_54 : rn G mm_Model_odds 54 [some (.ref z), a1, a2, a3, a4, a5, a6, a7, a8, a9, a10, a11, a12, a13, a14, a15, a16] st S P ↔ rn G mm_Model_odds 55 [some (.ref z), a1, a2, a3, a4, a5, a6, a7, a8, a9, a10, a11, a12, a13, a14, a15, a16] (.ref z :: st) S P := rn_s dq_Model_odds_54 rfl rfl rfl
theorem dq_Model_odds_55 : decode (km_c mm_Model_odds) 55 = .ok (.iload 5, 2) := by decide +kernel
theorem sq_Model_odds_55 : rn G mm_Model_odds 55 [a0, a1, a2, a3, a4, some (.int x), a6, a7, a8, a9, a10, a11, a12, a13, a14, a15, a16] st S P ↔ rn G mm_Model_odds 57 [a0, a1, a2, a3, a4, some (.int x), a6, a7, a8, a9, a10, a11, a12, a13, a14, a15, a16] (.int x :: st) S P := rn_s dq_Model_odds_55 rfl rfl rfl
theorem dq_Model_odds_57 : decode (km_c mm_Model_odds) 57 = .ok (.invokevirtual 239, 3) := by decide +kernel
theorem sq_Model_odds_57_45 {x1 : Int32} {v : Option Value} {S2 : ks_S} (hc : ev (lt_G o L) mm_Model_goesAt [.ref 45, .int x1] (sx pl kp I A) v S2) (ho : sx_o o pl kp) (hst : kx_cat st ≤ 8) : rn (lt_G o L) mm_Model_odds 57 lv (.int x1 :: .ref 45 :: st) (sx pl kp I A) P ↔ rn (lt_G o L) mm_Model_odds 60 lv (v.toList ++ st) S2 P := rn_cv (k := 0) (host := "") (E' := mm_Model_goesAt) dq_Model_odds_57 rfl (ok_v rfl (by decide) (by decide) (Nat.le_add_left _ _) hst (Nat.le_of_ble_eq_true rfl) (Or.inr (rc_v ho (up_b (by decide)) rfl))) rfl rfl hc
theorem dq_Model_odds_60 : decode (km_c mm_Model_odds) 60 = .ok (.ifCond .eq 7, 3) := by decide +kernel
theorem sq_Model_odds_60 : rn G mm_Model_odds 60 lv (.int x :: st) S P ↔ ((x = 0 → rn G mm_Model_odds 67 lv st S P) ∧ (¬ (x = 0) → rn G mm_Model_odds 63 lv st S P)) := rn_b (off := 7) dq_Model_odds_60 rfl rfl rfl rfl
theorem dq_Model_odds_63 : decode (km_c mm_Model_odds) 63 = .ok (.iconst 0, 1) := by decide +kernel
theorem sq_Model_odds_63 : rn G mm_Model_odds 63 lv st S P ↔ rn G mm_Model_odds 64 lv (.int (nI 0) :: st) S P := rn_s dq_Model_odds_63 rfl rfl rfl
theorem dq_Model_odds_64 : decode (km_c mm_Model_odds) 64 = .ok (.goto 10, 3) := by decide +kernel
theorem sq_Model_odds_64 : rn G mm_Model_odds 64 lv st S P ↔ rn G mm_Model_odds 74 lv st S P := rn_s dq_Model_odds_64 rfl rfl rfl
theorem dq_Model_odds_67 : decode (km_c mm_Model_odds) 67 = .ok (.aload_n 0, 1) := by decide +kernel
theorem sq_Model_odds_67 : rn G mm_Model_odds 67 [some (.ref z), a1, a2, a3, a4, a5, a6, a7, a8, a9, a10, a11, a12, a13, a14, a15, a16] st S P ↔ rn G mm_Model_odds 68 [some (.ref z), a1, a2, a3, a4, a5, a6, a7, a8, a9, a10, a11, a12, a13, a14, a15, a16] (.ref z :: st) S P := rn_s dq_Model_odds_67 rfl rfl rfl
theorem dq_Model_odds_68 : decode (km_c mm_Model_odds) 68 = .ok (.getfield 26, 3) := by decide +kernel
theorem sq_Model_odds_68_45 (ho : sx_o o pl kp) : rn (lt_G o L) mm_Model_odds 68 lv (.ref 45 :: st) (sx pl kp I A) P ↔ rn (lt_G o L) mm_Model_odds 71 lv (.ref 50 :: st) (sx pl kp I A) P := rx_get (h := "") (ci := 10) (k := 9) dq_Model_odds_68 (by decide +kernel) ho (up_b (by decide)) rfl rfl (fl_r (by decide) (by decide) (by decide) (by decide))
theorem dq_Model_odds_71 : decode (km_c mm_Model_odds) 71 = .ok (.iload 5, 2) := by decide +kernel
theorem sq_Model_odds_71 : rn G mm_Model_odds 71 [a0, a1, a2, a3, a4, some (.int x), a6, a7, a8, a9, a10, a11, a12, a13, a14, a15, a16] st S P ↔ rn G mm_Model_odds 73 [a0, a1, a2, a3, a4, some (.int x), a6, a7, a8, a9, a10, a11, a12, a13, a14, a15, a16] (.int x :: st) S P := rn_s dq_Model_odds_71 rfl rfl rfl
theorem dq_Model_odds_73 : decode (km_c mm_Model_odds) 73 = .ok (.iaload, 1) := by decide +kernel
theorem sq_Model_odds_73 (ho : sx_o o pl kp) (hk : ak L a = 0) (hu : sx_up pl kp a = true ∨ 1000 ≤ a) (hc : c < ln L a) (hn : ln L a < 2 ^ 31) : rn (lt_G o L) mm_Model_odds 73 lv (.int (nI c) :: .ref a :: st) (sx pl kp I A) P ↔ rn (lt_G o L) mm_Model_odds 74 lv (.int (A a c) :: st) (sx pl kp I A) P := rx_ild dq_Model_odds_73 ho hk hu hc hn
theorem dq_Model_odds_74 : decode (km_c mm_Model_odds) 74 = .ok (.iadd, 1) := by decide +kernel
theorem sq_Model_odds_74 : rn G mm_Model_odds 74 lv (.int x2 :: .int x :: st) S P ↔ rn G mm_Model_odds 75 lv (.int (x + x2) :: st) S P := rn_s dq_Model_odds_74 rfl rfl rfl
theorem dq_Model_odds_75 : decode (km_c mm_Model_odds) 75 = .ok (.istore 4, 2) := by decide +kernel
theorem sq_Model_odds_75n : rn G mm_Model_odds 75 [a0, a1, a2, none, a4, a5, a6, a7, a8, a9, a10, a11, a12, a13, a14, a15, a16] (.int x :: st) S P ↔ rn G mm_Model_odds 77 [a0, a1, a2, none, some (.int x), a5, a6, a7, a8, a9, a10, a11, a12, a13, a14, a15, a16] st S P := rn_s dq_Model_odds_75 rfl rfl rfl
theorem sq_Model_odds_75i : rn G mm_Model_odds 75 [a0, a1, a2, some (.int x2), a4, a5, a6, a7, a8, a9, a10, a11, a12, a13, a14, a15, a16] (.int x :: st) S P ↔ rn G mm_Model_odds 77 [a0, a1, a2, some (.int x2), some (.int x), a5, a6, a7, a8, a9, a10, a11, a12, a13, a14, a15, a16] st S P := rn_s dq_Model_odds_75 rfl rfl rfl
theorem sq_Model_odds_75r : rn G mm_Model_odds 75 [a0, a1, a2, some (.ref z2), a4, a5, a6, a7, a8, a9, a10, a11, a12, a13, a14, a15, a16] (.int x :: st) S P ↔ rn G mm_Model_odds 77 [a0, a1, a2, some (.ref z2), some (.int x), a5, a6, a7, a8, a9, a10, a11, a12, a13, a14, a15, a16] st S P := rn_s dq_Model_odds_75 rfl rfl rfl
theorem sq_Model_odds_75l : rn G mm_Model_odds 75 [a0, a1, a2, some (.long y2), a4, a5, a6, a7, a8, a9, a10, a11, a12, a13, a14, a15, a16] (.int x :: st) S P ↔ rn G mm_Model_odds 77 [a0, a1, a2, none, some (.int x), a5, a6, a7, a8, a9, a10, a11, a12, a13, a14, a15, a16] st S P := rn_s dq_Model_odds_75 rfl rfl rfl
theorem dq_Model_odds_77 : decode (km_c mm_Model_odds) 77 = .ok (.iinc 5 1, 3) := by decide +kernel
theorem sq_Model_odds_77n : rn G mm_Model_odds 77 [a0, a1, a2, a3, none, some (.int x), a6, a7, a8, a9, a10, a11, a12, a13, a14, a15, a16] st S P ↔ rn G mm_Model_odds 80 [a0, a1, a2, a3, none, some (.int (x + nI 1)), a6, a7, a8, a9, a10, a11, a12, a13, a14, a15, a16] st S P := rn_s dq_Model_odds_77 rfl rfl rfl
theorem sq_Model_odds_77i : rn G mm_Model_odds 77 [a0, a1, a2, a3, some (.int x2), some (.int x), a6, a7, a8, a9, a10, a11, a12, a13, a14, a15, a16] st S P ↔ rn G mm_Model_odds 80 [a0, a1, a2, a3, some (.int x2), some (.int (x + nI 1)), a6, a7, a8, a9, a10, a11, a12, a13, a14, a15, a16] st S P := rn_s dq_Model_odds_77 rfl rfl rfl
theorem sq_Model_odds_77r : rn G mm_Model_odds 77 [a0, a1, a2, a3, some (.ref z2), some (.int x), a6, a7, a8, a9, a10, a11, a12, a13, a14, a15, a16] st S P ↔ rn G mm_Model_odds 80 [a0, a1, a2, a3, some (.ref z2), some (.int (x + nI 1)), a6, a7, a8, a9, a10, a11, a12, a13, a14, a15, a16] st S P := rn_s dq_Model_odds_77 rfl rfl rfl
theorem sq_Model_odds_77l : rn G mm_Model_odds 77 [a0, a1, a2, a3, some (.long y2), some (.int x), a6, a7, a8, a9, a10, a11, a12, a13, a14, a15, a16] st S P ↔ rn G mm_Model_odds 80 [a0, a1, a2, a3, none, some (.int (x + nI 1)), a6, a7, a8, a9, a10, a11, a12, a13, a14, a15, a16] st S P := rn_s dq_Model_odds_77 rfl rfl rfl
theorem dq_Model_odds_80 : decode (km_c mm_Model_odds) 80 = .ok (.goto (-35), 3) := by decide +kernel
theorem sq_Model_odds_80 : rn G mm_Model_odds 80 lv st S P ↔ rn G mm_Model_odds 45 lv st S P := rn_s dq_Model_odds_80 rfl rfl rfl
theorem dq_Model_odds_83 : decode (km_c mm_Model_odds) 83 = .ok (.lconst 1, 1) := by decide +kernel
theorem sq_Model_odds_83 : rn G mm_Model_odds 83 lv st S P ↔ rn G mm_Model_odds 84 lv (.long (1) :: st) S P := rn_s dq_Model_odds_83 rfl rfl rfl
theorem dq_Model_odds_84 : decode (km_c mm_Model_odds) 84 = .ok (.lstore 5, 2) := by decide +kernel
theorem sq_Model_odds_84n : rn G mm_Model_odds 84 [a0, a1, a2, a3, none, a5, a6, a7, a8, a9, a10, a11, a12, a13, a14, a15, a16] (.long y :: st) S P ↔ rn G mm_Model_odds 86 [a0, a1, a2, a3, none, some (.long y), none, a7, a8, a9, a10, a11, a12, a13, a14, a15, a16] st S P := rn_s dq_Model_odds_84 rfl rfl rfl
theorem sq_Model_odds_84i : rn G mm_Model_odds 84 [a0, a1, a2, a3, some (.int x2), a5, a6, a7, a8, a9, a10, a11, a12, a13, a14, a15, a16] (.long y :: st) S P ↔ rn G mm_Model_odds 86 [a0, a1, a2, a3, some (.int x2), some (.long y), none, a7, a8, a9, a10, a11, a12, a13, a14, a15, a16] st S P := rn_s dq_Model_odds_84 rfl rfl rfl
theorem sq_Model_odds_84r : rn G mm_Model_odds 84 [a0, a1, a2, a3, some (.ref z2), a5, a6, a7, a8, a9, a10, a11, a12, a13, a14, a15, a16] (.long y :: st) S P ↔ rn G mm_Model_odds 86 [a0, a1, a2, a3, some (.ref z2), some (.long y), none, a7, a8, a9, a10, a11, a12, a13, a14, a15, a16] st S P := rn_s dq_Model_odds_84 rfl rfl rfl
theorem sq_Model_odds_84l : rn G mm_Model_odds 84 [a0, a1, a2, a3, some (.long y2), a5, a6, a7, a8, a9, a10, a11, a12, a13, a14, a15, a16] (.long y :: st) S P ↔ rn G mm_Model_odds 86 [a0, a1, a2, a3, none, some (.long y), none, a7, a8, a9, a10, a11, a12, a13, a14, a15, a16] st S P := rn_s dq_Model_odds_84 rfl rfl rfl
theorem dq_Model_odds_86 : decode (km_c mm_Model_odds) 86 = .ok (.lconst 1, 1) := by decide +kernel
theorem sq_Model_odds_86 : rn G mm_Model_odds 86 lv st S P ↔ rn G mm_Model_odds 87 lv (.long (1) :: st) S P := rn_s dq_Model_odds_86 rfl rfl rfl
theorem dq_Model_odds_87 : decode (km_c mm_Model_odds) 87 = .ok (.lstore 7, 2) := by decide +kernel
theorem sq_Model_odds_87n : rn G mm_Model_odds 87 [a0, a1, a2, a3, a4, a5, none, a7, a8, a9, a10, a11, a12, a13, a14, a15, a16] (.long y :: st) S P ↔ rn G mm_Model_odds 89 [a0, a1, a2, a3, a4, a5, none, some (.long y), none, a9, a10, a11, a12, a13, a14, a15, a16] st S P := rn_s dq_Model_odds_87 rfl rfl rfl
theorem sq_Model_odds_87i : rn G mm_Model_odds 87 [a0, a1, a2, a3, a4, a5, some (.int x2), a7, a8, a9, a10, a11, a12, a13, a14, a15, a16] (.long y :: st) S P ↔ rn G mm_Model_odds 89 [a0, a1, a2, a3, a4, a5, some (.int x2), some (.long y), none, a9, a10, a11, a12, a13, a14, a15, a16] st S P := rn_s dq_Model_odds_87 rfl rfl rfl
theorem sq_Model_odds_87r : rn G mm_Model_odds 87 [a0, a1, a2, a3, a4, a5, some (.ref z2), a7, a8, a9, a10, a11, a12, a13, a14, a15, a16] (.long y :: st) S P ↔ rn G mm_Model_odds 89 [a0, a1, a2, a3, a4, a5, some (.ref z2), some (.long y), none, a9, a10, a11, a12, a13, a14, a15, a16] st S P := rn_s dq_Model_odds_87 rfl rfl rfl
theorem sq_Model_odds_87l : rn G mm_Model_odds 87 [a0, a1, a2, a3, a4, a5, some (.long y2), a7, a8, a9, a10, a11, a12, a13, a14, a15, a16] (.long y :: st) S P ↔ rn G mm_Model_odds 89 [a0, a1, a2, a3, a4, a5, none, some (.long y), none, a9, a10, a11, a12, a13, a14, a15, a16] st S P := rn_s dq_Model_odds_87 rfl rfl rfl
theorem dq_Model_odds_89 : decode (km_c mm_Model_odds) 89 = .ok (.iconst 0, 1) := by decide +kernel
theorem sq_Model_odds_89 : rn G mm_Model_odds 89 lv st S P ↔ rn G mm_Model_odds 90 lv (.int (nI 0) :: st) S P := rn_s dq_Model_odds_89 rfl rfl rfl
theorem dq_Model_odds_90 : decode (km_c mm_Model_odds) 90 = .ok (.istore 9, 2) := by decide +kernel
theorem sq_Model_odds_90n : rn G mm_Model_odds 90 [a0, a1, a2, a3, a4, a5, a6, a7, none, a9, a10, a11, a12, a13, a14, a15, a16] (.int x :: st) S P ↔ rn G mm_Model_odds 92 [a0, a1, a2, a3, a4, a5, a6, a7, none, some (.int x), a10, a11, a12, a13, a14, a15, a16] st S P := rn_s dq_Model_odds_90 rfl rfl rfl
theorem sq_Model_odds_90i : rn G mm_Model_odds 90 [a0, a1, a2, a3, a4, a5, a6, a7, some (.int x2), a9, a10, a11, a12, a13, a14, a15, a16] (.int x :: st) S P ↔ rn G mm_Model_odds 92 [a0, a1, a2, a3, a4, a5, a6, a7, some (.int x2), some (.int x), a10, a11, a12, a13, a14, a15, a16] st S P := rn_s dq_Model_odds_90 rfl rfl rfl
theorem sq_Model_odds_90r : rn G mm_Model_odds 90 [a0, a1, a2, a3, a4, a5, a6, a7, some (.ref z2), a9, a10, a11, a12, a13, a14, a15, a16] (.int x :: st) S P ↔ rn G mm_Model_odds 92 [a0, a1, a2, a3, a4, a5, a6, a7, some (.ref z2), some (.int x), a10, a11, a12, a13, a14, a15, a16] st S P := rn_s dq_Model_odds_90 rfl rfl rfl
theorem sq_Model_odds_90l : rn G mm_Model_odds 90 [a0, a1, a2, a3, a4, a5, a6, a7, some (.long y2), a9, a10, a11, a12, a13, a14, a15, a16] (.int x :: st) S P ↔ rn G mm_Model_odds 92 [a0, a1, a2, a3, a4, a5, a6, a7, none, some (.int x), a10, a11, a12, a13, a14, a15, a16] st S P := rn_s dq_Model_odds_90 rfl rfl rfl
theorem dq_Model_odds_92 : decode (km_c mm_Model_odds) 92 = .ok (.iload 9, 2) := by decide +kernel
theorem sq_Model_odds_92 : rn G mm_Model_odds 92 [a0, a1, a2, a3, a4, a5, a6, a7, a8, some (.int x), a10, a11, a12, a13, a14, a15, a16] st S P ↔ rn G mm_Model_odds 94 [a0, a1, a2, a3, a4, a5, a6, a7, a8, some (.int x), a10, a11, a12, a13, a14, a15, a16] (.int x :: st) S P := rn_s dq_Model_odds_92 rfl rfl rfl
theorem dq_Model_odds_94 : decode (km_c mm_Model_odds) 94 = .ok (.iload_n 1, 1) := by decide +kernel
theorem sq_Model_odds_94 : rn G mm_Model_odds 94 [a0, some (.int x), a2, a3, a4, a5, a6, a7, a8, a9, a10, a11, a12, a13, a14, a15, a16] st S P ↔ rn G mm_Model_odds 95 [a0, some (.int x), a2, a3, a4, a5, a6, a7, a8, a9, a10, a11, a12, a13, a14, a15, a16] (.int x :: st) S P := rn_s dq_Model_odds_94 rfl rfl rfl
theorem dq_Model_odds_95 : decode (km_c mm_Model_odds) 95 = .ok (.if_icmp .ge 24, 3) := by decide +kernel
theorem sq_Model_odds_95 : rn G mm_Model_odds 95 lv (.int x2 :: .int x :: st) S P ↔ ((x2 ≤ x → rn G mm_Model_odds 119 lv st S P) ∧ (¬ (x2 ≤ x) → rn G mm_Model_odds 98 lv st S P)) := rn_b (off := 24) dq_Model_odds_95 rfl rfl rfl rfl
theorem dq_Model_odds_98 : decode (km_c mm_Model_odds) 98 = .ok (.lload 5, 2) := by decide +kernel
theorem sq_Model_odds_98 : rn G mm_Model_odds 98 [a0, a1, a2, a3, a4, some (.long y), a6, a7, a8, a9, a10, a11, a12, a13, a14, a15, a16] st S P ↔ rn G mm_Model_odds 100 [a0, a1, a2, a3, a4, some (.long y), a6, a7, a8, a9, a10, a11, a12, a13, a14, a15, a16] (.long y :: st) S P := rn_s dq_Model_odds_98 rfl rfl rfl
theorem dq_Model_odds_100 : decode (km_c mm_Model_odds) 100 = .ok (.iload_n 3, 1) := by decide +kernel
theorem sq_Model_odds_100 : rn G mm_Model_odds 100 [a0, a1, a2, some (.int x), a4, a5, a6, a7, a8, a9, a10, a11, a12, a13, a14, a15, a16] st S P ↔ rn G mm_Model_odds 101 [a0, a1, a2, some (.int x), a4, a5, a6, a7, a8, a9, a10, a11, a12, a13, a14, a15, a16] (.int x :: st) S P := rn_s dq_Model_odds_100 rfl rfl rfl
theorem dq_Model_odds_101 : decode (km_c mm_Model_odds) 101 = .ok (.i2l, 1) := by decide +kernel
theorem sq_Model_odds_101 : rn G mm_Model_odds 101 lv (.int x :: st) S P ↔ rn G mm_Model_odds 102 lv (.long x.toInt64 :: st) S P := rn_s dq_Model_odds_101 rfl rfl rfl
theorem dq_Model_odds_102 : decode (km_c mm_Model_odds) 102 = .ok (.lmul, 1) := by decide +kernel
theorem sq_Model_odds_102 : rn G mm_Model_odds 102 lv (.long y2 :: .long y :: st) S P ↔ rn G mm_Model_odds 103 lv (.long (y * y2) :: st) S P := rn_s dq_Model_odds_102 rfl rfl rfl
theorem dq_Model_odds_103 : decode (km_c mm_Model_odds) 103 = .ok (.lstore 5, 2) := by decide +kernel
theorem sq_Model_odds_103n : rn G mm_Model_odds 103 [a0, a1, a2, a3, none, a5, a6, a7, a8, a9, a10, a11, a12, a13, a14, a15, a16] (.long y :: st) S P ↔ rn G mm_Model_odds 105 [a0, a1, a2, a3, none, some (.long y), none, a7, a8, a9, a10, a11, a12, a13, a14, a15, a16] st S P := rn_s dq_Model_odds_103 rfl rfl rfl
theorem sq_Model_odds_103i : rn G mm_Model_odds 103 [a0, a1, a2, a3, some (.int x2), a5, a6, a7, a8, a9, a10, a11, a12, a13, a14, a15, a16] (.long y :: st) S P ↔ rn G mm_Model_odds 105 [a0, a1, a2, a3, some (.int x2), some (.long y), none, a7, a8, a9, a10, a11, a12, a13, a14, a15, a16] st S P := rn_s dq_Model_odds_103 rfl rfl rfl
theorem sq_Model_odds_103r : rn G mm_Model_odds 103 [a0, a1, a2, a3, some (.ref z2), a5, a6, a7, a8, a9, a10, a11, a12, a13, a14, a15, a16] (.long y :: st) S P ↔ rn G mm_Model_odds 105 [a0, a1, a2, a3, some (.ref z2), some (.long y), none, a7, a8, a9, a10, a11, a12, a13, a14, a15, a16] st S P := rn_s dq_Model_odds_103 rfl rfl rfl
theorem sq_Model_odds_103l : rn G mm_Model_odds 103 [a0, a1, a2, a3, some (.long y2), a5, a6, a7, a8, a9, a10, a11, a12, a13, a14, a15, a16] (.long y :: st) S P ↔ rn G mm_Model_odds 105 [a0, a1, a2, a3, none, some (.long y), none, a7, a8, a9, a10, a11, a12, a13, a14, a15, a16] st S P := rn_s dq_Model_odds_103 rfl rfl rfl
theorem dq_Model_odds_105 : decode (km_c mm_Model_odds) 105 = .ok (.lload 7, 2) := by decide +kernel
theorem sq_Model_odds_105 : rn G mm_Model_odds 105 [a0, a1, a2, a3, a4, a5, a6, some (.long y), a8, a9, a10, a11, a12, a13, a14, a15, a16] st S P ↔ rn G mm_Model_odds 107 [a0, a1, a2, a3, a4, a5, a6, some (.long y), a8, a9, a10, a11, a12, a13, a14, a15, a16] (.long y :: st) S P := rn_s dq_Model_odds_105 rfl rfl rfl
theorem dq_Model_odds_107 : decode (km_c mm_Model_odds) 107 = .ok (.iload 4, 2) := by decide +kernel
theorem sq_Model_odds_107 : rn G mm_Model_odds 107 [a0, a1, a2, a3, some (.int x), a5, a6, a7, a8, a9, a10, a11, a12, a13, a14, a15, a16] st S P ↔ rn G mm_Model_odds 109 [a0, a1, a2, a3, some (.int x), a5, a6, a7, a8, a9, a10, a11, a12, a13, a14, a15, a16] (.int x :: st) S P := rn_s dq_Model_odds_107 rfl rfl rfl
theorem dq_Model_odds_109 : decode (km_c mm_Model_odds) 109 = .ok (.i2l, 1) := by decide +kernel
theorem sq_Model_odds_109 : rn G mm_Model_odds 109 lv (.int x :: st) S P ↔ rn G mm_Model_odds 110 lv (.long x.toInt64 :: st) S P := rn_s dq_Model_odds_109 rfl rfl rfl
theorem dq_Model_odds_110 : decode (km_c mm_Model_odds) 110 = .ok (.lmul, 1) := by decide +kernel
theorem sq_Model_odds_110 : rn G mm_Model_odds 110 lv (.long y2 :: .long y :: st) S P ↔ rn G mm_Model_odds 111 lv (.long (y * y2) :: st) S P := rn_s dq_Model_odds_110 rfl rfl rfl
theorem dq_Model_odds_111 : decode (km_c mm_Model_odds) 111 = .ok (.lstore 7, 2) := by decide +kernel
theorem sq_Model_odds_111n : rn G mm_Model_odds 111 [a0, a1, a2, a3, a4, a5, none, a7, a8, a9, a10, a11, a12, a13, a14, a15, a16] (.long y :: st) S P ↔ rn G mm_Model_odds 113 [a0, a1, a2, a3, a4, a5, none, some (.long y), none, a9, a10, a11, a12, a13, a14, a15, a16] st S P := rn_s dq_Model_odds_111 rfl rfl rfl
theorem sq_Model_odds_111i : rn G mm_Model_odds 111 [a0, a1, a2, a3, a4, a5, some (.int x2), a7, a8, a9, a10, a11, a12, a13, a14, a15, a16] (.long y :: st) S P ↔ rn G mm_Model_odds 113 [a0, a1, a2, a3, a4, a5, some (.int x2), some (.long y), none, a9, a10, a11, a12, a13, a14, a15, a16] st S P := rn_s dq_Model_odds_111 rfl rfl rfl
theorem sq_Model_odds_111r : rn G mm_Model_odds 111 [a0, a1, a2, a3, a4, a5, some (.ref z2), a7, a8, a9, a10, a11, a12, a13, a14, a15, a16] (.long y :: st) S P ↔ rn G mm_Model_odds 113 [a0, a1, a2, a3, a4, a5, some (.ref z2), some (.long y), none, a9, a10, a11, a12, a13, a14, a15, a16] st S P := rn_s dq_Model_odds_111 rfl rfl rfl
theorem sq_Model_odds_111l : rn G mm_Model_odds 111 [a0, a1, a2, a3, a4, a5, some (.long y2), a7, a8, a9, a10, a11, a12, a13, a14, a15, a16] (.long y :: st) S P ↔ rn G mm_Model_odds 113 [a0, a1, a2, a3, a4, a5, none, some (.long y), none, a9, a10, a11, a12, a13, a14, a15, a16] st S P := rn_s dq_Model_odds_111 rfl rfl rfl
theorem dq_Model_odds_113 : decode (km_c mm_Model_odds) 113 = .ok (.iinc 9 1, 3) := by decide +kernel
theorem sq_Model_odds_113n : rn G mm_Model_odds 113 [a0, a1, a2, a3, a4, a5, a6, a7, none, some (.int x), a10, a11, a12, a13, a14, a15, a16] st S P ↔ rn G mm_Model_odds 116 [a0, a1, a2, a3, a4, a5, a6, a7, none, some (.int (x + nI 1)), a10, a11, a12, a13, a14, a15, a16] st S P := rn_s dq_Model_odds_113 rfl rfl rfl
theorem sq_Model_odds_113i : rn G mm_Model_odds 113 [a0, a1, a2, a3, a4, a5, a6, a7, some (.int x2), some (.int x), a10, a11, a12, a13, a14, a15, a16] st S P ↔ rn G mm_Model_odds 116 [a0, a1, a2, a3, a4, a5, a6, a7, some (.int x2), some (.int (x + nI 1)), a10, a11, a12, a13, a14, a15, a16] st S P := rn_s dq_Model_odds_113 rfl rfl rfl
theorem sq_Model_odds_113r : rn G mm_Model_odds 113 [a0, a1, a2, a3, a4, a5, a6, a7, some (.ref z2), some (.int x), a10, a11, a12, a13, a14, a15, a16] st S P ↔ rn G mm_Model_odds 116 [a0, a1, a2, a3, a4, a5, a6, a7, some (.ref z2), some (.int (x + nI 1)), a10, a11, a12, a13, a14, a15, a16] st S P := rn_s dq_Model_odds_113 rfl rfl rfl
theorem sq_Model_odds_113l : rn G mm_Model_odds 113 [a0, a1, a2, a3, a4, a5, a6, a7, some (.long y2), some (.int x), a10, a11, a12, a13, a14, a15, a16] st S P ↔ rn G mm_Model_odds 116 [a0, a1, a2, a3, a4, a5, a6, a7, none, some (.int (x + nI 1)), a10, a11, a12, a13, a14, a15, a16] st S P := rn_s dq_Model_odds_113 rfl rfl rfl
theorem dq_Model_odds_116 : decode (km_c mm_Model_odds) 116 = .ok (.goto (-24), 3) := by decide +kernel
theorem sq_Model_odds_116 : rn G mm_Model_odds 116 lv st S P ↔ rn G mm_Model_odds 92 lv st S P := rn_s dq_Model_odds_116 rfl rfl rfl
theorem dq_Model_odds_119 : decode (km_c mm_Model_odds) 119 = .ok (.lload 5, 2) := by decide +kernel
theorem sq_Model_odds_119 : rn G mm_Model_odds 119 [a0, a1, a2, a3, a4, some (.long y), a6, a7, a8, a9, a10, a11, a12, a13, a14, a15, a16] st S P ↔ rn G mm_Model_odds 121 [a0, a1, a2, a3, a4, some (.long y), a6, a7, a8, a9, a10, a11, a12, a13, a14, a15, a16] (.long y :: st) S P := rn_s dq_Model_odds_119 rfl rfl rfl
theorem dq_Model_odds_121 : decode (km_c mm_Model_odds) 121 = .ok (.lload 7, 2) := by decide +kernel
theorem sq_Model_odds_121 : rn G mm_Model_odds 121 [a0, a1, a2, a3, a4, a5, a6, some (.long y), a8, a9, a10, a11, a12, a13, a14, a15, a16] st S P ↔ rn G mm_Model_odds 123 [a0, a1, a2, a3, a4, a5, a6, some (.long y), a8, a9, a10, a11, a12, a13, a14, a15, a16] (.long y :: st) S P := rn_s dq_Model_odds_121 rfl rfl rfl
theorem dq_Model_odds_123 : decode (km_c mm_Model_odds) 123 = .ok (.lsub, 1) := by decide +kernel
theorem sq_Model_odds_123 : rn G mm_Model_odds 123 lv (.long y2 :: .long y :: st) S P ↔ rn G mm_Model_odds 124 lv (.long (y - y2) :: st) S P := rn_s dq_Model_odds_123 rfl rfl rfl
theorem dq_Model_odds_124 : decode (km_c mm_Model_odds) 124 = .ok (.lstore 9, 2) := by decide +kernel
theorem sq_Model_odds_124n : rn G mm_Model_odds 124 [a0, a1, a2, a3, a4, a5, a6, a7, none, a9, a10, a11, a12, a13, a14, a15, a16] (.long y :: st) S P ↔ rn G mm_Model_odds 126 [a0, a1, a2, a3, a4, a5, a6, a7, none, some (.long y), none, a11, a12, a13, a14, a15, a16] st S P := rn_s dq_Model_odds_124 rfl rfl rfl
theorem sq_Model_odds_124i : rn G mm_Model_odds 124 [a0, a1, a2, a3, a4, a5, a6, a7, some (.int x2), a9, a10, a11, a12, a13, a14, a15, a16] (.long y :: st) S P ↔ rn G mm_Model_odds 126 [a0, a1, a2, a3, a4, a5, a6, a7, some (.int x2), some (.long y), none, a11, a12, a13, a14, a15, a16] st S P := rn_s dq_Model_odds_124 rfl rfl rfl
theorem sq_Model_odds_124r : rn G mm_Model_odds 124 [a0, a1, a2, a3, a4, a5, a6, a7, some (.ref z2), a9, a10, a11, a12, a13, a14, a15, a16] (.long y :: st) S P ↔ rn G mm_Model_odds 126 [a0, a1, a2, a3, a4, a5, a6, a7, some (.ref z2), some (.long y), none, a11, a12, a13, a14, a15, a16] st S P := rn_s dq_Model_odds_124 rfl rfl rfl
theorem sq_Model_odds_124l : rn G mm_Model_odds 124 [a0, a1, a2, a3, a4, a5, a6, a7, some (.long y2), a9, a10, a11, a12, a13, a14, a15, a16] (.long y :: st) S P ↔ rn G mm_Model_odds 126 [a0, a1, a2, a3, a4, a5, a6, a7, none, some (.long y), none, a11, a12, a13, a14, a15, a16] st S P := rn_s dq_Model_odds_124 rfl rfl rfl
theorem dq_Model_odds_126 : decode (km_c mm_Model_odds) 126 = .ok (.lload 9, 2) := by decide +kernel
theorem sq_Model_odds_126 : rn G mm_Model_odds 126 [a0, a1, a2, a3, a4, a5, a6, a7, a8, some (.long y), a10, a11, a12, a13, a14, a15, a16] st S P ↔ rn G mm_Model_odds 128 [a0, a1, a2, a3, a4, a5, a6, a7, a8, some (.long y), a10, a11, a12, a13, a14, a15, a16] (.long y :: st) S P := rn_s dq_Model_odds_126 rfl rfl rfl
theorem dq_Model_odds_128 : decode (km_c mm_Model_odds) 128 = .ok (.lstore 11, 2) := by decide +kernel
theorem sq_Model_odds_128n : rn G mm_Model_odds 128 [a0, a1, a2, a3, a4, a5, a6, a7, a8, a9, none, a11, a12, a13, a14, a15, a16] (.long y :: st) S P ↔ rn G mm_Model_odds 130 [a0, a1, a2, a3, a4, a5, a6, a7, a8, a9, none, some (.long y), none, a13, a14, a15, a16] st S P := rn_s dq_Model_odds_128 rfl rfl rfl
theorem sq_Model_odds_128i : rn G mm_Model_odds 128 [a0, a1, a2, a3, a4, a5, a6, a7, a8, a9, some (.int x2), a11, a12, a13, a14, a15, a16] (.long y :: st) S P ↔ rn G mm_Model_odds 130 [a0, a1, a2, a3, a4, a5, a6, a7, a8, a9, some (.int x2), some (.long y), none, a13, a14, a15, a16] st S P := rn_s dq_Model_odds_128 rfl rfl rfl
theorem sq_Model_odds_128r : rn G mm_Model_odds 128 [a0, a1, a2, a3, a4, a5, a6, a7, a8, a9, some (.ref z2), a11, a12, a13, a14, a15, a16] (.long y :: st) S P ↔ rn G mm_Model_odds 130 [a0, a1, a2, a3, a4, a5, a6, a7, a8, a9, some (.ref z2), some (.long y), none, a13, a14, a15, a16] st S P := rn_s dq_Model_odds_128 rfl rfl rfl
theorem sq_Model_odds_128l : rn G mm_Model_odds 128 [a0, a1, a2, a3, a4, a5, a6, a7, a8, a9, some (.long y2), a11, a12, a13, a14, a15, a16] (.long y :: st) S P ↔ rn G mm_Model_odds 130 [a0, a1, a2, a3, a4, a5, a6, a7, a8, a9, none, some (.long y), none, a13, a14, a15, a16] st S P := rn_s dq_Model_odds_128 rfl rfl rfl
theorem dq_Model_odds_130 : decode (km_c mm_Model_odds) 130 = .ok (.lload 5, 2) := by decide +kernel
theorem sq_Model_odds_130 : rn G mm_Model_odds 130 [a0, a1, a2, a3, a4, some (.long y), a6, a7, a8, a9, a10, a11, a12, a13, a14, a15, a16] st S P ↔ rn G mm_Model_odds 132 [a0, a1, a2, a3, a4, some (.long y), a6, a7, a8, a9, a10, a11, a12, a13, a14, a15, a16] (.long y :: st) S P := rn_s dq_Model_odds_130 rfl rfl rfl
theorem dq_Model_odds_132 : decode (km_c mm_Model_odds) 132 = .ok (.lstore 13, 2) := by decide +kernel
theorem sq_Model_odds_132n : rn G mm_Model_odds 132 [a0, a1, a2, a3, a4, a5, a6, a7, a8, a9, a10, a11, none, a13, a14, a15, a16] (.long y :: st) S P ↔ rn G mm_Model_odds 134 [a0, a1, a2, a3, a4, a5, a6, a7, a8, a9, a10, a11, none, some (.long y), none, a15, a16] st S P := rn_s dq_Model_odds_132 rfl rfl rfl
theorem sq_Model_odds_132i : rn G mm_Model_odds 132 [a0, a1, a2, a3, a4, a5, a6, a7, a8, a9, a10, a11, some (.int x2), a13, a14, a15, a16] (.long y :: st) S P ↔ rn G mm_Model_odds 134 [a0, a1, a2, a3, a4, a5, a6, a7, a8, a9, a10, a11, some (.int x2), some (.long y), none, a15, a16] st S P := rn_s dq_Model_odds_132 rfl rfl rfl
theorem sq_Model_odds_132r : rn G mm_Model_odds 132 [a0, a1, a2, a3, a4, a5, a6, a7, a8, a9, a10, a11, some (.ref z2), a13, a14, a15, a16] (.long y :: st) S P ↔ rn G mm_Model_odds 134 [a0, a1, a2, a3, a4, a5, a6, a7, a8, a9, a10, a11, some (.ref z2), some (.long y), none, a15, a16] st S P := rn_s dq_Model_odds_132 rfl rfl rfl
theorem sq_Model_odds_132l : rn G mm_Model_odds 132 [a0, a1, a2, a3, a4, a5, a6, a7, a8, a9, a10, a11, some (.long y2), a13, a14, a15, a16] (.long y :: st) S P ↔ rn G mm_Model_odds 134 [a0, a1, a2, a3, a4, a5, a6, a7, a8, a9, a10, a11, none, some (.long y), none, a15, a16] st S P := rn_s dq_Model_odds_132 rfl rfl rfl
theorem dq_Model_odds_134 : decode (km_c mm_Model_odds) 134 = .ok (.lload 13, 2) := by decide +kernel
theorem sq_Model_odds_134 : rn G mm_Model_odds 134 [a0, a1, a2, a3, a4, a5, a6, a7, a8, a9, a10, a11, a12, some (.long y), a14, a15, a16] st S P ↔ rn G mm_Model_odds 136 [a0, a1, a2, a3, a4, a5, a6, a7, a8, a9, a10, a11, a12, some (.long y), a14, a15, a16] (.long y :: st) S P := rn_s dq_Model_odds_134 rfl rfl rfl
theorem dq_Model_odds_136 : decode (km_c mm_Model_odds) 136 = .ok (.lconst 0, 1) := by decide +kernel
theorem sq_Model_odds_136 : rn G mm_Model_odds 136 lv st S P ↔ rn G mm_Model_odds 137 lv (.long (0) :: st) S P := rn_s dq_Model_odds_136 rfl rfl rfl
theorem dq_Model_odds_137 : decode (km_c mm_Model_odds) 137 = .ok (.lcmp, 1) := by decide +kernel
theorem sq_Model_odds_137 : rn G mm_Model_odds 137 lv (.long y2 :: .long y :: st) S P ↔ rn G mm_Model_odds 138 lv (.int (lg_cmp y y2) :: st) S P := rn_s dq_Model_odds_137 rfl rfl rfl
theorem dq_Model_odds_138 : decode (km_c mm_Model_odds) 138 = .ok (.ifCond .eq 21, 3) := by decide +kernel
theorem sq_Model_odds_138 : rn G mm_Model_odds 138 lv (.int x :: st) S P ↔ ((x = 0 → rn G mm_Model_odds 159 lv st S P) ∧ (¬ (x = 0) → rn G mm_Model_odds 141 lv st S P)) := rn_b (off := 21) dq_Model_odds_138 rfl rfl rfl rfl
theorem dq_Model_odds_141 : decode (km_c mm_Model_odds) 141 = .ok (.lload 11, 2) := by decide +kernel
theorem sq_Model_odds_141 : rn G mm_Model_odds 141 [a0, a1, a2, a3, a4, a5, a6, a7, a8, a9, a10, some (.long y), a12, a13, a14, a15, a16] st S P ↔ rn G mm_Model_odds 143 [a0, a1, a2, a3, a4, a5, a6, a7, a8, a9, a10, some (.long y), a12, a13, a14, a15, a16] (.long y :: st) S P := rn_s dq_Model_odds_141 rfl rfl rfl
theorem dq_Model_odds_143 : decode (km_c mm_Model_odds) 143 = .ok (.lload 13, 2) := by decide +kernel
theorem sq_Model_odds_143 : rn G mm_Model_odds 143 [a0, a1, a2, a3, a4, a5, a6, a7, a8, a9, a10, a11, a12, some (.long y), a14, a15, a16] st S P ↔ rn G mm_Model_odds 145 [a0, a1, a2, a3, a4, a5, a6, a7, a8, a9, a10, a11, a12, some (.long y), a14, a15, a16] (.long y :: st) S P := rn_s dq_Model_odds_143 rfl rfl rfl
theorem dq_Model_odds_145 : decode (km_c mm_Model_odds) 145 = .ok (.lrem, 1) := by decide +kernel
theorem sq_Model_odds_145 (hz : ¬ y2 = 0) : rn G mm_Model_odds 145 lv (.long y2 :: .long y :: st) S P ↔ rn G mm_Model_odds 146 lv (.long (y - y / y2 * y2) :: st) S P := rn_s dq_Model_odds_145 rfl rfl (if_neg hz)
theorem dq_Model_odds_146 : decode (km_c mm_Model_odds) 146 = .ok (.lstore 15, 2) := by decide +kernel
theorem sq_Model_odds_146n : rn G mm_Model_odds 146 [a0, a1, a2, a3, a4, a5, a6, a7, a8, a9, a10, a11, a12, a13, none, a15, a16] (.long y :: st) S P ↔ rn G mm_Model_odds 148 [a0, a1, a2, a3, a4, a5, a6, a7, a8, a9, a10, a11, a12, a13, none, some (.long y), none] st S P := rn_s dq_Model_odds_146 rfl rfl rfl
theorem sq_Model_odds_146i : rn G mm_Model_odds 146 [a0, a1, a2, a3, a4, a5, a6, a7, a8, a9, a10, a11, a12, a13, some (.int x2), a15, a16] (.long y :: st) S P ↔ rn G mm_Model_odds 148 [a0, a1, a2, a3, a4, a5, a6, a7, a8, a9, a10, a11, a12, a13, some (.int x2), some (.long y), none] st S P := rn_s dq_Model_odds_146 rfl rfl rfl
theorem sq_Model_odds_146r : rn G mm_Model_odds 146 [a0, a1, a2, a3, a4, a5, a6, a7, a8, a9, a10, a11, a12, a13, some (.ref z2), a15, a16] (.long y :: st) S P ↔ rn G mm_Model_odds 148 [a0, a1, a2, a3, a4, a5, a6, a7, a8, a9, a10, a11, a12, a13, some (.ref z2), some (.long y), none] st S P := rn_s dq_Model_odds_146 rfl rfl rfl
theorem sq_Model_odds_146l : rn G mm_Model_odds 146 [a0, a1, a2, a3, a4, a5, a6, a7, a8, a9, a10, a11, a12, a13, some (.long y2), a15, a16] (.long y :: st) S P ↔ rn G mm_Model_odds 148 [a0, a1, a2, a3, a4, a5, a6, a7, a8, a9, a10, a11, a12, a13, none, some (.long y), none] st S P := rn_s dq_Model_odds_146 rfl rfl rfl
theorem dq_Model_odds_148 : decode (km_c mm_Model_odds) 148 = .ok (.lload 13, 2) := by decide +kernel
theorem sq_Model_odds_148 : rn G mm_Model_odds 148 [a0, a1, a2, a3, a4, a5, a6, a7, a8, a9, a10, a11, a12, some (.long y), a14, a15, a16] st S P ↔ rn G mm_Model_odds 150 [a0, a1, a2, a3, a4, a5, a6, a7, a8, a9, a10, a11, a12, some (.long y), a14, a15, a16] (.long y :: st) S P := rn_s dq_Model_odds_148 rfl rfl rfl
theorem dq_Model_odds_150 : decode (km_c mm_Model_odds) 150 = .ok (.lstore 11, 2) := by decide +kernel
theorem sq_Model_odds_150n : rn G mm_Model_odds 150 [a0, a1, a2, a3, a4, a5, a6, a7, a8, a9, none, a11, a12, a13, a14, a15, a16] (.long y :: st) S P ↔ rn G mm_Model_odds 152 [a0, a1, a2, a3, a4, a5, a6, a7, a8, a9, none, some (.long y), none, a13, a14, a15, a16] st S P := rn_s dq_Model_odds_150 rfl rfl rfl
theorem sq_Model_odds_150i : rn G mm_Model_odds 150 [a0, a1, a2, a3, a4, a5, a6, a7, a8, a9, some (.int x2), a11, a12, a13, a14, a15, a16] (.long y :: st) S P ↔ rn G mm_Model_odds 152 [a0, a1, a2, a3, a4, a5, a6, a7, a8, a9, some (.int x2), some (.long y), none, a13, a14, a15, a16] st S P := rn_s dq_Model_odds_150 rfl rfl rfl
theorem sq_Model_odds_150r : rn G mm_Model_odds 150 [a0, a1, a2, a3, a4, a5, a6, a7, a8, a9, some (.ref z2), a11, a12, a13, a14, a15, a16] (.long y :: st) S P ↔ rn G mm_Model_odds 152 [a0, a1, a2, a3, a4, a5, a6, a7, a8, a9, some (.ref z2), some (.long y), none, a13, a14, a15, a16] st S P := rn_s dq_Model_odds_150 rfl rfl rfl
theorem sq_Model_odds_150l : rn G mm_Model_odds 150 [a0, a1, a2, a3, a4, a5, a6, a7, a8, a9, some (.long y2), a11, a12, a13, a14, a15, a16] (.long y :: st) S P ↔ rn G mm_Model_odds 152 [a0, a1, a2, a3, a4, a5, a6, a7, a8, a9, none, some (.long y), none, a13, a14, a15, a16] st S P := rn_s dq_Model_odds_150 rfl rfl rfl
theorem dq_Model_odds_152 : decode (km_c mm_Model_odds) 152 = .ok (.lload 15, 2) := by decide +kernel
theorem sq_Model_odds_152 : rn G mm_Model_odds 152 [a0, a1, a2, a3, a4, a5, a6, a7, a8, a9, a10, a11, a12, a13, a14, some (.long y), a16] st S P ↔ rn G mm_Model_odds 154 [a0, a1, a2, a3, a4, a5, a6, a7, a8, a9, a10, a11, a12, a13, a14, some (.long y), a16] (.long y :: st) S P := rn_s dq_Model_odds_152 rfl rfl rfl
theorem dq_Model_odds_154 : decode (km_c mm_Model_odds) 154 = .ok (.lstore 13, 2) := by decide +kernel
theorem sq_Model_odds_154n : rn G mm_Model_odds 154 [a0, a1, a2, a3, a4, a5, a6, a7, a8, a9, a10, a11, none, a13, a14, a15, a16] (.long y :: st) S P ↔ rn G mm_Model_odds 156 [a0, a1, a2, a3, a4, a5, a6, a7, a8, a9, a10, a11, none, some (.long y), none, a15, a16] st S P := rn_s dq_Model_odds_154 rfl rfl rfl
theorem sq_Model_odds_154i : rn G mm_Model_odds 154 [a0, a1, a2, a3, a4, a5, a6, a7, a8, a9, a10, a11, some (.int x2), a13, a14, a15, a16] (.long y :: st) S P ↔ rn G mm_Model_odds 156 [a0, a1, a2, a3, a4, a5, a6, a7, a8, a9, a10, a11, some (.int x2), some (.long y), none, a15, a16] st S P := rn_s dq_Model_odds_154 rfl rfl rfl
theorem sq_Model_odds_154r : rn G mm_Model_odds 154 [a0, a1, a2, a3, a4, a5, a6, a7, a8, a9, a10, a11, some (.ref z2), a13, a14, a15, a16] (.long y :: st) S P ↔ rn G mm_Model_odds 156 [a0, a1, a2, a3, a4, a5, a6, a7, a8, a9, a10, a11, some (.ref z2), some (.long y), none, a15, a16] st S P := rn_s dq_Model_odds_154 rfl rfl rfl
theorem sq_Model_odds_154l : rn G mm_Model_odds 154 [a0, a1, a2, a3, a4, a5, a6, a7, a8, a9, a10, a11, some (.long y2), a13, a14, a15, a16] (.long y :: st) S P ↔ rn G mm_Model_odds 156 [a0, a1, a2, a3, a4, a5, a6, a7, a8, a9, a10, a11, none, some (.long y), none, a15, a16] st S P := rn_s dq_Model_odds_154 rfl rfl rfl
theorem dq_Model_odds_156 : decode (km_c mm_Model_odds) 156 = .ok (.goto (-22), 3) := by decide +kernel
theorem sq_Model_odds_156 : rn G mm_Model_odds 156 lv st S P ↔ rn G mm_Model_odds 134 lv st S P := rn_s dq_Model_odds_156 rfl rfl rfl
theorem dq_Model_odds_159 : decode (km_c mm_Model_odds) 159 = .ok (.iload_n 2, 1) := by decide +kernel
theorem sq_Model_odds_159 : rn G mm_Model_odds 159 [a0, a1, some (.int x), a3, a4, a5, a6, a7, a8, a9, a10, a11, a12, a13, a14, a15, a16] st S P ↔ rn G mm_Model_odds 160 [a0, a1, some (.int x), a3, a4, a5, a6, a7, a8, a9, a10, a11, a12, a13, a14, a15, a16] (.int x :: st) S P := rn_s dq_Model_odds_159 rfl rfl rfl
theorem dq_Model_odds_160 : decode (km_c mm_Model_odds) 160 = .ok (.ifCond .ne 8, 3) := by decide +kernel
theorem sq_Model_odds_160 : rn G mm_Model_odds 160 lv (.int x :: st) S P ↔ ((¬ x = 0 → rn G mm_Model_odds 168 lv st S P) ∧ (¬ (¬ x = 0) → rn G mm_Model_odds 163 lv st S P)) := rn_b (off := 8) dq_Model_odds_160 rfl rfl rfl rfl
theorem dq_Model_odds_163 : decode (km_c mm_Model_odds) 163 = .ok (.lload 9, 2) := by decide +kernel
theorem sq_Model_odds_163 : rn G mm_Model_odds 163 [a0, a1, a2, a3, a4, a5, a6, a7, a8, some (.long y), a10, a11, a12, a13, a14, a15, a16] st S P ↔ rn G mm_Model_odds 165 [a0, a1, a2, a3, a4, a5, a6, a7, a8, some (.long y), a10, a11, a12, a13, a14, a15, a16] (.long y :: st) S P := rn_s dq_Model_odds_163 rfl rfl rfl
theorem dq_Model_odds_165 : decode (km_c mm_Model_odds) 165 = .ok (.goto 5, 3) := by decide +kernel
theorem sq_Model_odds_165 : rn G mm_Model_odds 165 lv st S P ↔ rn G mm_Model_odds 170 lv st S P := rn_s dq_Model_odds_165 rfl rfl rfl
theorem dq_Model_odds_168 : decode (km_c mm_Model_odds) 168 = .ok (.lload 5, 2) := by decide +kernel
theorem sq_Model_odds_168 : rn G mm_Model_odds 168 [a0, a1, a2, a3, a4, some (.long y), a6, a7, a8, a9, a10, a11, a12, a13, a14, a15, a16] st S P ↔ rn G mm_Model_odds 170 [a0, a1, a2, a3, a4, some (.long y), a6, a7, a8, a9, a10, a11, a12, a13, a14, a15, a16] (.long y :: st) S P := rn_s dq_Model_odds_168 rfl rfl rfl
theorem dq_Model_odds_170 : decode (km_c mm_Model_odds) 170 = .ok (.lload 11, 2) := by decide +kernel
theorem sq_Model_odds_170 : rn G mm_Model_odds 170 [a0, a1, a2, a3, a4, a5, a6, a7, a8, a9, a10, some (.long y), a12, a13, a14, a15, a16] st S P ↔ rn G mm_Model_odds 172 [a0, a1, a2, a3, a4, a5, a6, a7, a8, a9, a10, some (.long y), a12, a13, a14, a15, a16] (.long y :: st) S P := rn_s dq_Model_odds_170 rfl rfl rfl
theorem dq_Model_odds_172 : decode (km_c mm_Model_odds) 172 = .ok (.ldiv, 1) := by decide +kernel
theorem sq_Model_odds_172 (hz : ¬ y2 = 0) : rn G mm_Model_odds 172 lv (.long y2 :: .long y :: st) S P ↔ rn G mm_Model_odds 173 lv (.long (y / y2) :: st) S P := rn_s dq_Model_odds_172 rfl rfl (if_neg hz)
theorem dq_Model_odds_173 : decode (km_c mm_Model_odds) 173 = .ok (.lreturn, 1) := by decide +kernel
theorem sq_Model_odds_173 : rn G mm_Model_odds 173 lv [.long y] S P ↔ P (some (.long y)) S := rn_lr dq_Model_odds_173 rfl
theorem dq_Model_weeks_0 : decode (km_c mm_Model_weeks) 0 = .ok (.iload_n 1, 1) := by decide +kernel
theorem sq_Model_weeks_0 : rn G mm_Model_weeks 0 [a0, some (.int x), a2, a3, a4, a5, a6] st S P ↔ rn G mm_Model_weeks 1 [a0, some (.int x), a2, a3, a4, a5, a6] (.int x :: st) S P := rn_s dq_Model_weeks_0 rfl rfl rfl
theorem dq_Model_weeks_1 : decode (km_c mm_Model_weeks) 1 = .ok (.i2l, 1) := by decide +kernel
theorem sq_Model_weeks_1 : rn G mm_Model_weeks 1 lv (.int x :: st) S P ↔ rn G mm_Model_weeks 2 lv (.long x.toInt64 :: st) S P := rn_s dq_Model_weeks_1 rfl rfl rfl
theorem dq_Model_weeks_2 : decode (km_c mm_Model_weeks) 2 = .ok (.lconst 1, 1) := by decide +kernel
theorem sq_Model_weeks_2 : rn G mm_Model_weeks 2 lv st S P ↔ rn G mm_Model_weeks 3 lv (.long (1) :: st) S P := rn_s dq_Model_weeks_2 rfl rfl rfl
theorem dq_Model_weeks_3 : decode (km_c mm_Model_weeks) 3 = .ok (.ldc2_w 231, 3) := by decide +kernel
theorem sq_Model_weeks_3 : rn G mm_Model_weeks 3 lv st S P ↔ rn G mm_Model_weeks 6 lv (.long (60) :: st) S P := rn_s dq_Model_weeks_3 rfl rfl rfl
theorem dq_Model_weeks_6 : decode (km_c mm_Model_weeks) 6 = .ok (.invokestatic 76, 3) := by decide +kernel
theorem sq_Model_weeks_6 {y1 : Int64} {y2 : Int64} {y3 : Int64} {v : Option Value} {S2 : ks_S} (hc : ev G mm_Model_in [.long y1, .long y2, .long y3] S v S2) (hst : kx_cat st ≤ 8) : rn G mm_Model_weeks 6 lv (.long y3 :: .long y2 :: .long y1 :: st) S P ↔ rn G mm_Model_weeks 9 lv (v.toList ++ st) S2 P := rn_cs (k := 1) (host := "") (E' := mm_Model_in) dq_Model_weeks_6 (by decide) (by decide) rfl (ok_v rfl (by decide) (by decide) (Nat.le_add_left _ _) hst (Nat.le_of_ble_eq_true rfl) (Or.inl rfl)) rfl rfl hc
theorem dq_Model_weeks_9 : decode (km_c mm_Model_weeks) 9 = .ok (.ifCond .ne 5, 3) := by decide +kernel
theorem sq_Model_weeks_9 : rn G mm_Model_weeks 9 lv (.int x :: st) S P ↔ ((¬ x = 0 → rn G mm_Model_weeks 14 lv st S P) ∧ (¬ (¬ x = 0) → rn G mm_Model_weeks 12 lv st S P)) := rn_b (off := 5) dq_Model_weeks_9 rfl rfl rfl rfl
theorem dq_Model_weeks_12 : decode (km_c mm_Model_weeks) 12 = .ok (.iconst (-1), 1) := by decide +kernel
theorem sq_Model_weeks_12 : rn G mm_Model_weeks 12 lv st S P ↔ rn G mm_Model_weeks 13 lv (.int ((-1)) :: st) S P := rn_s dq_Model_weeks_12 rfl rfl rfl
theorem dq_Model_weeks_13 : decode (km_c mm_Model_weeks) 13 = .ok (.ireturn, 1) := by decide +kernel
theorem sq_Model_weeks_13 : rn G mm_Model_weeks 13 lv [.int x] S P ↔ P (some (.int x)) S := rn_ir dq_Model_weeks_13 rfl
theorem dq_Model_weeks_14 : decode (km_c mm_Model_weeks) 14 = .ok (.aload_n 0, 1) := by decide +kernel
theorem sq_Model_weeks_14 : rn G mm_Model_weeks 14 [some (.ref z), a1, a2, a3, a4, a5, a6] st S P ↔ rn G mm_Model_weeks 15 [some (.ref z), a1, a2, a3, a4, a5, a6] (.ref z :: st) S P := rn_s dq_Model_weeks_14 rfl rfl rfl
theorem dq_Model_weeks_15 : decode (km_c mm_Model_weeks) 15 = .ok (.invokevirtual 137, 3) := by decide +kernel
theorem sq_Model_weeks_15_45  {v : Option Value} {S2 : ks_S} (hc : ev (lt_G o L) mm_Model_allWeights [.ref 45] (sx pl kp I A) v S2) (ho : sx_o o pl kp) (hst : kx_cat st ≤ 8) : rn (lt_G o L) mm_Model_weeks 15 lv (.ref 45 :: st) (sx pl kp I A) P ↔ rn (lt_G o L) mm_Model_weeks 18 lv (v.toList ++ st) S2 P := rn_cv (k := 0) (host := "") (E' := mm_Model_allWeights) dq_Model_weeks_15 rfl (ok_v rfl (by decide) (by decide) (Nat.le_add_left _ _) hst (Nat.le_of_ble_eq_true rfl) (Or.inr (rc_v ho (up_b (by decide)) rfl))) rfl rfl hc
theorem dq_Model_weeks_18 : decode (km_c mm_Model_weeks) 18 = .ok (.istore_n 2, 1) := by decide +kernel
theorem sq_Model_weeks_18n : rn G mm_Model_weeks 18 [a0, none, a2, a3, a4, a5, a6] (.int x :: st) S P ↔ rn G mm_Model_weeks 19 [a0, none, some (.int x), a3, a4, a5, a6] st S P := rn_s dq_Model_weeks_18 rfl rfl rfl
theorem sq_Model_weeks_18i : rn G mm_Model_weeks 18 [a0, some (.int x2), a2, a3, a4, a5, a6] (.int x :: st) S P ↔ rn G mm_Model_weeks 19 [a0, some (.int x2), some (.int x), a3, a4, a5, a6] st S P := rn_s dq_Model_weeks_18 rfl rfl rfl
theorem sq_Model_weeks_18r : rn G mm_Model_weeks 18 [a0, some (.ref z2), a2, a3, a4, a5, a6] (.int x :: st) S P ↔ rn G mm_Model_weeks 19 [a0, some (.ref z2), some (.int x), a3, a4, a5, a6] st S P := rn_s dq_Model_weeks_18 rfl rfl rfl
theorem dq_Model_weeks_19 : decode (km_c mm_Model_weeks) 19 = .ok (.iload_n 2, 1) := by decide +kernel
theorem sq_Model_weeks_19 : rn G mm_Model_weeks 19 [a0, a1, some (.int x), a3, a4, a5, a6] st S P ↔ rn G mm_Model_weeks 20 [a0, a1, some (.int x), a3, a4, a5, a6] (.int x :: st) S P := rn_s dq_Model_weeks_19 rfl rfl rfl
theorem dq_Model_weeks_20 : decode (km_c mm_Model_weeks) 20 = .ok (.ifCond .ne 6, 3) := by decide +kernel
theorem sq_Model_weeks_20 : rn G mm_Model_weeks 20 lv (.int x :: st) S P ↔ ((¬ x = 0 → rn G mm_Model_weeks 26 lv st S P) ∧ (¬ (¬ x = 0) → rn G mm_Model_weeks 23 lv st S P)) := rn_b (off := 6) dq_Model_weeks_20 rfl rfl rfl rfl
theorem dq_Model_weeks_23 : decode (km_c mm_Model_weeks) 23 = .ok (.bipush (-2), 2) := by decide +kernel
theorem sq_Model_weeks_23 : rn G mm_Model_weeks 23 lv st S P ↔ rn G mm_Model_weeks 25 lv (.int ((-2)) :: st) S P := rn_s dq_Model_weeks_23 rfl rfl rfl
theorem dq_Model_weeks_25 : decode (km_c mm_Model_weeks) 25 = .ok (.ireturn, 1) := by decide +kernel
theorem sq_Model_weeks_25 : rn G mm_Model_weeks 25 lv [.int x] S P ↔ P (some (.int x)) S := rn_ir dq_Model_weeks_25 rfl
theorem dq_Model_weeks_26 : decode (km_c mm_Model_weeks) 26 = .ok (.iconst 1, 1) := by decide +kernel
theorem sq_Model_weeks_26 : rn G mm_Model_weeks 26 lv st S P ↔ rn G mm_Model_weeks 27 lv (.int (nI 1) :: st) S P := rn_s dq_Model_weeks_26 rfl rfl rfl
theorem dq_Model_weeks_27 : decode (km_c mm_Model_weeks) 27 = .ok (.istore_n 3, 1) := by decide +kernel
theorem sq_Model_weeks_27n : rn G mm_Model_weeks 27 [a0, a1, none, a3, a4, a5, a6] (.int x :: st) S P ↔ rn G mm_Model_weeks 28 [a0, a1, none, some (.int x), a4, a5, a6] st S P := rn_s dq_Model_weeks_27 rfl rfl rfl
theorem sq_Model_weeks_27i : rn G mm_Model_weeks 27 [a0, a1, some (.int x2), a3, a4, a5, a6] (.int x :: st) S P ↔ rn G mm_Model_weeks 28 [a0, a1, some (.int x2), some (.int x), a4, a5, a6] st S P := rn_s dq_Model_weeks_27 rfl rfl rfl
theorem sq_Model_weeks_27r : rn G mm_Model_weeks 27 [a0, a1, some (.ref z2), a3, a4, a5, a6] (.int x :: st) S P ↔ rn G mm_Model_weeks 28 [a0, a1, some (.ref z2), some (.int x), a4, a5, a6] st S P := rn_s dq_Model_weeks_27 rfl rfl rfl
theorem dq_Model_weeks_28 : decode (km_c mm_Model_weeks) 28 = .ok (.iload_n 3, 1) := by decide +kernel
theorem sq_Model_weeks_28 : rn G mm_Model_weeks 28 [a0, a1, a2, some (.int x), a4, a5, a6] st S P ↔ rn G mm_Model_weeks 29 [a0, a1, a2, some (.int x), a4, a5, a6] (.int x :: st) S P := rn_s dq_Model_weeks_28 rfl rfl rfl
theorem dq_Model_weeks_29 : decode (km_c mm_Model_weeks) 29 = .ok (.iload_n 1, 1) := by decide +kernel
theorem sq_Model_weeks_29 : rn G mm_Model_weeks 29 [a0, some (.int x), a2, a3, a4, a5, a6] st S P ↔ rn G mm_Model_weeks 30 [a0, some (.int x), a2, a3, a4, a5, a6] (.int x :: st) S P := rn_s dq_Model_weeks_29 rfl rfl rfl
theorem dq_Model_weeks_30 : decode (km_c mm_Model_weeks) 30 = .ok (.if_icmp .gt 101, 3) := by decide +kernel
theorem sq_Model_weeks_30 : rn G mm_Model_weeks 30 lv (.int x2 :: .int x :: st) S P ↔ ((x2 < x → rn G mm_Model_weeks 131 lv st S P) ∧ (¬ (x2 < x) → rn G mm_Model_weeks 33 lv st S P)) := rn_b (off := 101) dq_Model_weeks_30 rfl rfl rfl rfl
theorem dq_Model_weeks_33 : decode (km_c mm_Model_weeks) 33 = .ok (.aload_n 0, 1) := by decide +kernel
theorem sq_Model_weeks_33 : rn G mm_Model_weeks 33 [some (.ref z), a1, a2, a3, a4, a5, a6] st S P ↔ rn G mm_Model_weeks 34 [some (.ref z), a1, a2, a3, a4, a5, a6] (.ref z :: st) S P := rn_s dq_Model_weeks_33 rfl rfl rfl
theorem dq_Model_weeks_34 : decode (km_c mm_Model_weeks) 34 = .ok (.aload_n 0, 1) := by decide +kernel
theorem sq_Model_weeks_34 : rn G mm_Model_weeks 34 [some (.ref z), a1, a2, a3, a4, a5, a6] st S P ↔ rn G mm_Model_weeks 35 [some (.ref z), a1, a2, a3, a4, a5, a6] (.ref z :: st) S P := rn_s dq_Model_weeks_34 rfl rfl rfl
theorem dq_Model_weeks_35 : decode (km_c mm_Model_weeks) 35 = .ok (.getfield 29, 3) := by decide +kernel
theorem sq_Model_weeks_35_45 (ho : sx_o o pl kp) : rn (lt_G o L) mm_Model_weeks 35 lv (.ref 45 :: st) (sx pl kp I A) P ↔ rn (lt_G o L) mm_Model_weeks 38 lv (.int (I 45 10) :: st) (sx pl kp I A) P := rx_get (h := "") (ci := 10) (k := 10) dq_Model_weeks_35 (by decide +kernel) ho (up_b (by decide)) rfl rfl (fl_i (by decide))
theorem dq_Model_weeks_38 : decode (km_c mm_Model_weeks) 38 = .ok (.i2l, 1) := by decide +kernel
theorem sq_Model_weeks_38 : rn G mm_Model_weeks 38 lv (.int x :: st) S P ↔ rn G mm_Model_weeks 39 lv (.long x.toInt64 :: st) S P := rn_s dq_Model_weeks_38 rfl rfl rfl
theorem dq_Model_weeks_39 : decode (km_c mm_Model_weeks) 39 = .ok (.ldc2_w 248, 3) := by decide +kernel
theorem sq_Model_weeks_39 : rn G mm_Model_weeks 39 lv st S P ↔ rn G mm_Model_weeks 42 lv (.long (1103515245) :: st) S P := rn_s dq_Model_weeks_39 rfl rfl rfl
theorem dq_Model_weeks_42 : decode (km_c mm_Model_weeks) 42 = .ok (.lmul, 1) := by decide +kernel
theorem sq_Model_weeks_42 : rn G mm_Model_weeks 42 lv (.long y2 :: .long y :: st) S P ↔ rn G mm_Model_weeks 43 lv (.long (y * y2) :: st) S P := rn_s dq_Model_weeks_42 rfl rfl rfl
theorem dq_Model_weeks_43 : decode (km_c mm_Model_weeks) 43 = .ok (.ldc2_w 250, 3) := by decide +kernel
theorem sq_Model_weeks_43 : rn G mm_Model_weeks 43 lv st S P ↔ rn G mm_Model_weeks 46 lv (.long (12345) :: st) S P := rn_s dq_Model_weeks_43 rfl rfl rfl
theorem dq_Model_weeks_46 : decode (km_c mm_Model_weeks) 46 = .ok (.ladd, 1) := by decide +kernel
theorem sq_Model_weeks_46 : rn G mm_Model_weeks 46 lv (.long y2 :: .long y :: st) S P ↔ rn G mm_Model_weeks 47 lv (.long (y + y2) :: st) S P := rn_s dq_Model_weeks_46 rfl rfl rfl
theorem dq_Model_weeks_47 : decode (km_c mm_Model_weeks) 47 = .ok (.ldc2_w 252, 3) := by decide +kernel
theorem sq_Model_weeks_47 : rn G mm_Model_weeks 47 lv st S P ↔ rn G mm_Model_weeks 50 lv (.long (2147483647) :: st) S P := rn_s dq_Model_weeks_47 rfl rfl rfl
theorem dq_Model_weeks_50 : decode (km_c mm_Model_weeks) 50 = .ok (.land, 1) := by decide +kernel
theorem sq_Model_weeks_50 : rn G mm_Model_weeks 50 lv (.long y2 :: .long y :: st) S P ↔ rn G mm_Model_weeks 51 lv (.long (y &&& y2) :: st) S P := rn_s dq_Model_weeks_50 rfl rfl rfl
theorem dq_Model_weeks_51 : decode (km_c mm_Model_weeks) 51 = .ok (.l2i, 1) := by decide +kernel
theorem sq_Model_weeks_51 : rn G mm_Model_weeks 51 lv (.long y :: st) S P ↔ rn G mm_Model_weeks 52 lv (.int y.toInt32 :: st) S P := rn_s dq_Model_weeks_51 rfl rfl rfl
theorem dq_Model_weeks_52 : decode (km_c mm_Model_weeks) 52 = .ok (.putfield 29, 3) := by decide +kernel
theorem sq_Model_weeks_52_45 (ho : sx_o o pl kp) : rn (lt_G o L) mm_Model_weeks 52 lv (.int x :: .ref 45 :: st) (sx pl kp I A) P ↔ rn (lt_G o L) mm_Model_weeks 55 lv st (sx pl kp (u2 I 45 10 x) A) P := rx_put (h := "") (ci := 10) (k := 10) dq_Model_weeks_52 (by decide +kernel) ho (up_b (by decide)) rfl rfl (by decide) (by decide)
theorem dq_Model_weeks_55 : decode (km_c mm_Model_weeks) 55 = .ok (.aload_n 0, 1) := by decide +kernel
theorem sq_Model_weeks_55 : rn G mm_Model_weeks 55 [some (.ref z), a1, a2, a3, a4, a5, a6] st S P ↔ rn G mm_Model_weeks 56 [some (.ref z), a1, a2, a3, a4, a5, a6] (.ref z :: st) S P := rn_s dq_Model_weeks_55 rfl rfl rfl
theorem dq_Model_weeks_56 : decode (km_c mm_Model_weeks) 56 = .ok (.getfield 29, 3) := by decide +kernel
theorem sq_Model_weeks_56_45 (ho : sx_o o pl kp) : rn (lt_G o L) mm_Model_weeks 56 lv (.ref 45 :: st) (sx pl kp I A) P ↔ rn (lt_G o L) mm_Model_weeks 59 lv (.int (I 45 10) :: st) (sx pl kp I A) P := rx_get (h := "") (ci := 10) (k := 10) dq_Model_weeks_56 (by decide +kernel) ho (up_b (by decide)) rfl rfl (fl_i (by decide))
theorem dq_Model_weeks_59 : decode (km_c mm_Model_weeks) 59 = .ok (.ldc 254, 2) := by decide +kernel
theorem sq_Model_weeks_59 : rn G mm_Model_weeks 59 lv st S P ↔ rn G mm_Model_weeks 61 lv (.int (nI 65536) :: st) S P := rn_s dq_Model_weeks_59 rfl rfl rfl
theorem dq_Model_weeks_61 : decode (km_c mm_Model_weeks) 61 = .ok (.idiv, 1) := by decide +kernel
theorem sq_Model_weeks_61 (hz : ¬ x2 = 0) : rn G mm_Model_weeks 61 lv (.int x2 :: .int x :: st) S P ↔ rn G mm_Model_weeks 62 lv (.int (x / x2) :: st) S P := rn_s dq_Model_weeks_61 rfl rfl (if_neg hz)
theorem dq_Model_weeks_62 : decode (km_c mm_Model_weeks) 62 = .ok (.iload_n 2, 1) := by decide +kernel
theorem sq_Model_weeks_62 : rn G mm_Model_weeks 62 [a0, a1, some (.int x), a3, a4, a5, a6] st S P ↔ rn G mm_Model_weeks 63 [a0, a1, some (.int x), a3, a4, a5, a6] (.int x :: st) S P := rn_s dq_Model_weeks_62 rfl rfl rfl
theorem dq_Model_weeks_63 : decode (km_c mm_Model_weeks) 63 = .ok (.irem, 1) := by decide +kernel
theorem sq_Model_weeks_63 (hz : ¬ x2 = 0) : rn G mm_Model_weeks 63 lv (.int x2 :: .int x :: st) S P ↔ rn G mm_Model_weeks 64 lv (.int (x - x / x2 * x2) :: st) S P := rn_s dq_Model_weeks_63 rfl rfl (if_neg hz)
theorem dq_Model_weeks_64 : decode (km_c mm_Model_weeks) 64 = .ok (.istore 4, 2) := by decide +kernel
theorem sq_Model_weeks_64n : rn G mm_Model_weeks 64 [a0, a1, a2, none, a4, a5, a6] (.int x :: st) S P ↔ rn G mm_Model_weeks 66 [a0, a1, a2, none, some (.int x), a5, a6] st S P := rn_s dq_Model_weeks_64 rfl rfl rfl
theorem sq_Model_weeks_64i : rn G mm_Model_weeks 64 [a0, a1, a2, some (.int x2), a4, a5, a6] (.int x :: st) S P ↔ rn G mm_Model_weeks 66 [a0, a1, a2, some (.int x2), some (.int x), a5, a6] st S P := rn_s dq_Model_weeks_64 rfl rfl rfl
theorem sq_Model_weeks_64r : rn G mm_Model_weeks 64 [a0, a1, a2, some (.ref z2), a4, a5, a6] (.int x :: st) S P ↔ rn G mm_Model_weeks 66 [a0, a1, a2, some (.ref z2), some (.int x), a5, a6] st S P := rn_s dq_Model_weeks_64 rfl rfl rfl
theorem dq_Model_weeks_66 : decode (km_c mm_Model_weeks) 66 = .ok (.iconst 0, 1) := by decide +kernel
theorem sq_Model_weeks_66 : rn G mm_Model_weeks 66 lv st S P ↔ rn G mm_Model_weeks 67 lv (.int (nI 0) :: st) S P := rn_s dq_Model_weeks_66 rfl rfl rfl
theorem dq_Model_weeks_67 : decode (km_c mm_Model_weeks) 67 = .ok (.istore 5, 2) := by decide +kernel
theorem sq_Model_weeks_67n : rn G mm_Model_weeks 67 [a0, a1, a2, a3, none, a5, a6] (.int x :: st) S P ↔ rn G mm_Model_weeks 69 [a0, a1, a2, a3, none, some (.int x), a6] st S P := rn_s dq_Model_weeks_67 rfl rfl rfl
theorem sq_Model_weeks_67i : rn G mm_Model_weeks 67 [a0, a1, a2, a3, some (.int x2), a5, a6] (.int x :: st) S P ↔ rn G mm_Model_weeks 69 [a0, a1, a2, a3, some (.int x2), some (.int x), a6] st S P := rn_s dq_Model_weeks_67 rfl rfl rfl
theorem sq_Model_weeks_67r : rn G mm_Model_weeks 67 [a0, a1, a2, a3, some (.ref z2), a5, a6] (.int x :: st) S P ↔ rn G mm_Model_weeks 69 [a0, a1, a2, a3, some (.ref z2), some (.int x), a6] st S P := rn_s dq_Model_weeks_67 rfl rfl rfl
theorem dq_Model_weeks_69 : decode (km_c mm_Model_weeks) 69 = .ok (.iload 4, 2) := by decide +kernel
theorem sq_Model_weeks_69 : rn G mm_Model_weeks 69 [a0, a1, a2, a3, some (.int x), a5, a6] st S P ↔ rn G mm_Model_weeks 71 [a0, a1, a2, a3, some (.int x), a5, a6] (.int x :: st) S P := rn_s dq_Model_weeks_69 rfl rfl rfl
theorem dq_Model_weeks_71 : decode (km_c mm_Model_weeks) 71 = .ok (.aload_n 0, 1) := by decide +kernel
theorem sq_Model_weeks_71 : rn G mm_Model_weeks 71 [some (.ref z), a1, a2, a3, a4, a5, a6] st S P ↔ rn G mm_Model_weeks 72 [some (.ref z), a1, a2, a3, a4, a5, a6] (.ref z :: st) S P := rn_s dq_Model_weeks_71 rfl rfl rfl
theorem dq_Model_weeks_72 : decode (km_c mm_Model_weeks) 72 = .ok (.getfield 26, 3) := by decide +kernel
theorem sq_Model_weeks_72_45 (ho : sx_o o pl kp) : rn (lt_G o L) mm_Model_weeks 72 lv (.ref 45 :: st) (sx pl kp I A) P ↔ rn (lt_G o L) mm_Model_weeks 75 lv (.ref 50 :: st) (sx pl kp I A) P := rx_get (h := "") (ci := 10) (k := 9) dq_Model_weeks_72 (by decide +kernel) ho (up_b (by decide)) rfl rfl (fl_r (by decide) (by decide) (by decide) (by decide))
theorem dq_Model_weeks_75 : decode (km_c mm_Model_weeks) 75 = .ok (.iload 5, 2) := by decide +kernel
theorem sq_Model_weeks_75 : rn G mm_Model_weeks 75 [a0, a1, a2, a3, a4, some (.int x), a6] st S P ↔ rn G mm_Model_weeks 77 [a0, a1, a2, a3, a4, some (.int x), a6] (.int x :: st) S P := rn_s dq_Model_weeks_75 rfl rfl rfl
theorem dq_Model_weeks_77 : decode (km_c mm_Model_weeks) 77 = .ok (.iaload, 1) := by decide +kernel
theorem sq_Model_weeks_77 (ho : sx_o o pl kp) (hk : ak L a = 0) (hu : sx_up pl kp a = true ∨ 1000 ≤ a) (hc : c < ln L a) (hn : ln L a < 2 ^ 31) : rn (lt_G o L) mm_Model_weeks 77 lv (.int (nI c) :: .ref a :: st) (sx pl kp I A) P ↔ rn (lt_G o L) mm_Model_weeks 78 lv (.int (A a c) :: st) (sx pl kp I A) P := rx_ild dq_Model_weeks_77 ho hk hu hc hn
theorem dq_Model_weeks_78 : decode (km_c mm_Model_weeks) 78 = .ok (.if_icmp .lt 21, 3) := by decide +kernel
theorem sq_Model_weeks_78 : rn G mm_Model_weeks 78 lv (.int x2 :: .int x :: st) S P ↔ ((x < x2 → rn G mm_Model_weeks 99 lv st S P) ∧ (¬ (x < x2) → rn G mm_Model_weeks 81 lv st S P)) := rn_b (off := 21) dq_Model_weeks_78 rfl rfl rfl rfl
theorem dq_Model_weeks_81 : decode (km_c mm_Model_weeks) 81 = .ok (.iload 4, 2) := by decide +kernel
theorem sq_Model_weeks_81 : rn G mm_Model_weeks 81 [a0, a1, a2, a3, some (.int x), a5, a6] st S P ↔ rn G mm_Model_weeks 83 [a0, a1, a2, a3, some (.int x), a5, a6] (.int x :: st) S P := rn_s dq_Model_weeks_81 rfl rfl rfl
theorem dq_Model_weeks_83 : decode (km_c mm_Model_weeks) 83 = .ok (.aload_n 0, 1) := by decide +kernel
theorem sq_Model_weeks_83 : rn G mm_Model_weeks 83 [some (.ref z), a1, a2, a3, a4, a5, a6] st S P ↔ rn G mm_Model_weeks 84 [some (.ref z), a1, a2, a3, a4, a5, a6] (.ref z :: st) S P := rn_s dq_Model_weeks_83 rfl rfl rfl
theorem dq_Model_weeks_84 : decode (km_c mm_Model_weeks) 84 = .ok (.getfield 26, 3) := by decide +kernel
theorem sq_Model_weeks_84_45 (ho : sx_o o pl kp) : rn (lt_G o L) mm_Model_weeks 84 lv (.ref 45 :: st) (sx pl kp I A) P ↔ rn (lt_G o L) mm_Model_weeks 87 lv (.ref 50 :: st) (sx pl kp I A) P := rx_get (h := "") (ci := 10) (k := 9) dq_Model_weeks_84 (by decide +kernel) ho (up_b (by decide)) rfl rfl (fl_r (by decide) (by decide) (by decide) (by decide))
theorem dq_Model_weeks_87 : decode (km_c mm_Model_weeks) 87 = .ok (.iload 5, 2) := by decide +kernel
theorem sq_Model_weeks_87 : rn G mm_Model_weeks 87 [a0, a1, a2, a3, a4, some (.int x), a6] st S P ↔ rn G mm_Model_weeks 89 [a0, a1, a2, a3, a4, some (.int x), a6] (.int x :: st) S P := rn_s dq_Model_weeks_87 rfl rfl rfl
theorem dq_Model_weeks_89 : decode (km_c mm_Model_weeks) 89 = .ok (.iaload, 1) := by decide +kernel
theorem sq_Model_weeks_89 (ho : sx_o o pl kp) (hk : ak L a = 0) (hu : sx_up pl kp a = true ∨ 1000 ≤ a) (hc : c < ln L a) (hn : ln L a < 2 ^ 31) : rn (lt_G o L) mm_Model_weeks 89 lv (.int (nI c) :: .ref a :: st) (sx pl kp I A) P ↔ rn (lt_G o L) mm_Model_weeks 90 lv (.int (A a c) :: st) (sx pl kp I A) P := rx_ild dq_Model_weeks_89 ho hk hu hc hn
theorem dq_Model_weeks_90 : decode (km_c mm_Model_weeks) 90 = .ok (.isub, 1) := by decide +kernel
theorem sq_Model_weeks_90 : rn G mm_Model_weeks 90 lv (.int x2 :: .int x :: st) S P ↔ rn G mm_Model_weeks 91 lv (.int (x - x2) :: st) S P := rn_s dq_Model_weeks_90 rfl rfl rfl
theorem dq_Model_weeks_91 : decode (km_c mm_Model_weeks) 91 = .ok (.istore 4, 2) := by decide +kernel
theorem sq_Model_weeks_91n : rn G mm_Model_weeks 91 [a0, a1, a2, none, a4, a5, a6] (.int x :: st) S P ↔ rn G mm_Model_weeks 93 [a0, a1, a2, none, some (.int x), a5, a6] st S P := rn_s dq_Model_weeks_91 rfl rfl rfl
theorem sq_Model_weeks_91i : rn G mm_Model_weeks 91 [a0, a1, a2, some (.int x2), a4, a5, a6] (.int x :: st) S P ↔ rn G mm_Model_weeks 93 [a0, a1, a2, some (.int x2), some (.int x), a5, a6] st S P := rn_s dq_Model_weeks_91 rfl rfl rfl
theorem sq_Model_weeks_91r : rn G mm_Model_weeks 91 [a0, a1, a2, some (.ref z2), a4, a5, a6] (.int x :: st) S P ↔ rn G mm_Model_weeks 93 [a0, a1, a2, some (.ref z2), some (.int x), a5, a6] st S P := rn_s dq_Model_weeks_91 rfl rfl rfl
theorem dq_Model_weeks_93 : decode (km_c mm_Model_weeks) 93 = .ok (.iinc 5 1, 3) := by decide +kernel
theorem sq_Model_weeks_93n : rn G mm_Model_weeks 93 [a0, a1, a2, a3, none, some (.int x), a6] st S P ↔ rn G mm_Model_weeks 96 [a0, a1, a2, a3, none, some (.int (x + nI 1)), a6] st S P := rn_s dq_Model_weeks_93 rfl rfl rfl
theorem sq_Model_weeks_93i : rn G mm_Model_weeks 93 [a0, a1, a2, a3, some (.int x2), some (.int x), a6] st S P ↔ rn G mm_Model_weeks 96 [a0, a1, a2, a3, some (.int x2), some (.int (x + nI 1)), a6] st S P := rn_s dq_Model_weeks_93 rfl rfl rfl
theorem sq_Model_weeks_93r : rn G mm_Model_weeks 93 [a0, a1, a2, a3, some (.ref z2), some (.int x), a6] st S P ↔ rn G mm_Model_weeks 96 [a0, a1, a2, a3, some (.ref z2), some (.int (x + nI 1)), a6] st S P := rn_s dq_Model_weeks_93 rfl rfl rfl
theorem dq_Model_weeks_96 : decode (km_c mm_Model_weeks) 96 = .ok (.goto (-27), 3) := by decide +kernel
theorem sq_Model_weeks_96 : rn G mm_Model_weeks 96 lv st S P ↔ rn G mm_Model_weeks 69 lv st S P := rn_s dq_Model_weeks_96 rfl rfl rfl
theorem dq_Model_weeks_99 : decode (km_c mm_Model_weeks) 99 = .ok (.aload_n 0, 1) := by decide +kernel
theorem sq_Model_weeks_99 : rn G mm_Model_weeks 99 [some (.ref z), a1, a2, a3, a4, a5, a6] st S P ↔ rn G mm_Model_weeks 100 [some (.ref z), a1, a2, a3, a4, a5, a6] (.ref z :: st) S P := rn_s dq_Model_weeks_99 rfl rfl rfl
theorem dq_Model_weeks_100 : decode (km_c mm_Model_weeks) 100 = .ok (.iload 5, 2) := by decide +kernel
theorem sq_Model_weeks_100 : rn G mm_Model_weeks 100 [a0, a1, a2, a3, a4, some (.int x), a6] st S P ↔ rn G mm_Model_weeks 102 [a0, a1, a2, a3, a4, some (.int x), a6] (.int x :: st) S P := rn_s dq_Model_weeks_100 rfl rfl rfl
theorem dq_Model_weeks_102 : decode (km_c mm_Model_weeks) 102 = .ok (.putfield 98, 3) := by decide +kernel
theorem sq_Model_weeks_102_45 (ho : sx_o o pl kp) : rn (lt_G o L) mm_Model_weeks 102 lv (.int x :: .ref 45 :: st) (sx pl kp I A) P ↔ rn (lt_G o L) mm_Model_weeks 105 lv st (sx pl kp (u2 I 45 1 x) A) P := rx_put (h := "") (ci := 10) (k := 1) dq_Model_weeks_102 (by decide +kernel) ho (up_b (by decide)) rfl rfl (by decide) (by decide)
theorem dq_Model_weeks_105 : decode (km_c mm_Model_weeks) 105 = .ok (.aload_n 0, 1) := by decide +kernel
theorem sq_Model_weeks_105 : rn G mm_Model_weeks 105 [some (.ref z), a1, a2, a3, a4, a5, a6] st S P ↔ rn G mm_Model_weeks 106 [some (.ref z), a1, a2, a3, a4, a5, a6] (.ref z :: st) S P := rn_s dq_Model_weeks_105 rfl rfl rfl
theorem dq_Model_weeks_106 : decode (km_c mm_Model_weeks) 106 = .ok (.iload 5, 2) := by decide +kernel
theorem sq_Model_weeks_106 : rn G mm_Model_weeks 106 [a0, a1, a2, a3, a4, some (.int x), a6] st S P ↔ rn G mm_Model_weeks 108 [a0, a1, a2, a3, a4, some (.int x), a6] (.int x :: st) S P := rn_s dq_Model_weeks_106 rfl rfl rfl
theorem dq_Model_weeks_108 : decode (km_c mm_Model_weeks) 108 = .ok (.invokevirtual 239, 3) := by decide +kernel
theorem sq_Model_weeks_108_45 {x1 : Int32} {v : Option Value} {S2 : ks_S} (hc : ev (lt_G o L) mm_Model_goesAt [.ref 45, .int x1] (sx pl kp I A) v S2) (ho : sx_o o pl kp) (hst : kx_cat st ≤ 8) : rn (lt_G o L) mm_Model_weeks 108 lv (.int x1 :: .ref 45 :: st) (sx pl kp I A) P ↔ rn (lt_G o L) mm_Model_weeks 111 lv (v.toList ++ st) S2 P := rn_cv (k := 0) (host := "") (E' := mm_Model_goesAt) dq_Model_weeks_108 rfl (ok_v rfl (by decide) (by decide) (Nat.le_add_left _ _) hst (Nat.le_of_ble_eq_true rfl) (Or.inr (rc_v ho (up_b (by decide)) rfl))) rfl rfl hc
theorem dq_Model_weeks_111 : decode (km_c mm_Model_weeks) 111 = .ok (.istore 6, 2) := by decide +kernel
theorem sq_Model_weeks_111n : rn G mm_Model_weeks 111 [a0, a1, a2, a3, a4, none, a6] (.int x :: st) S P ↔ rn G mm_Model_weeks 113 [a0, a1, a2, a3, a4, none, some (.int x)] st S P := rn_s dq_Model_weeks_111 rfl rfl rfl
theorem sq_Model_weeks_111i : rn G mm_Model_weeks 111 [a0, a1, a2, a3, a4, some (.int x2), a6] (.int x :: st) S P ↔ rn G mm_Model_weeks 113 [a0, a1, a2, a3, a4, some (.int x2), some (.int x)] st S P := rn_s dq_Model_weeks_111 rfl rfl rfl
theorem sq_Model_weeks_111r : rn G mm_Model_weeks 111 [a0, a1, a2, a3, a4, some (.ref z2), a6] (.int x :: st) S P ↔ rn G mm_Model_weeks 113 [a0, a1, a2, a3, a4, some (.ref z2), some (.int x)] st S P := rn_s dq_Model_weeks_111 rfl rfl rfl
theorem dq_Model_weeks_113 : decode (km_c mm_Model_weeks) 113 = .ok (.aload_n 0, 1) := by decide +kernel
theorem sq_Model_weeks_113 : rn G mm_Model_weeks 113 [some (.ref z), a1, a2, a3, a4, a5, a6] st S P ↔ rn G mm_Model_weeks 114 [some (.ref z), a1, a2, a3, a4, a5, a6] (.ref z :: st) S P := rn_s dq_Model_weeks_113 rfl rfl rfl
theorem dq_Model_weeks_114 : decode (km_c mm_Model_weeks) 114 = .ok (.invokevirtual 127, 3) := by decide +kernel
theorem sq_Model_weeks_114_45  {v : Option Value} {S2 : ks_S} (hc : ev (lt_G o L) mm_Model_floodNow [.ref 45] (sx pl kp I A) v S2) (ho : sx_o o pl kp) (hst : kx_cat st ≤ 8) : rn (lt_G o L) mm_Model_weeks 114 lv (.ref 45 :: st) (sx pl kp I A) P ↔ rn (lt_G o L) mm_Model_weeks 117 lv (v.toList ++ st) S2 P := rn_cv (k := 0) (host := "") (E' := mm_Model_floodNow) dq_Model_weeks_114 rfl (ok_v rfl (by decide) (by decide) (Nat.le_add_left _ _) hst (Nat.le_of_ble_eq_true rfl) (Or.inr (rc_v ho (up_b (by decide)) rfl))) rfl rfl hc
theorem dq_Model_weeks_117 : decode (km_c mm_Model_weeks) 117 = .ok (.pop, 1) := by decide +kernel
theorem sq_Model_weeks_117i : rn G mm_Model_weeks 117 lv (.int x :: st) S P ↔ rn G mm_Model_weeks 118 lv st S P := rn_s dq_Model_weeks_117 rfl rfl rfl
theorem dq_Model_weeks_118 : decode (km_c mm_Model_weeks) 118 = .ok (.iload 6, 2) := by decide +kernel
theorem sq_Model_weeks_118 : rn G mm_Model_weeks 118 [a0, a1, a2, a3, a4, a5, some (.int x)] st S P ↔ rn G mm_Model_weeks 120 [a0, a1, a2, a3, a4, a5, some (.int x)] (.int x :: st) S P := rn_s dq_Model_weeks_118 rfl rfl rfl
theorem dq_Model_weeks_120 : decode (km_c mm_Model_weeks) 120 = .ok (.ifCond .eq 5, 3) := by decide +kernel
theorem sq_Model_weeks_120 : rn G mm_Model_weeks 120 lv (.int x :: st) S P ↔ ((x = 0 → rn G mm_Model_weeks 125 lv st S P) ∧ (¬ (x = 0) → rn G mm_Model_weeks 123 lv st S P)) := rn_b (off := 5) dq_Model_weeks_120 rfl rfl rfl rfl
theorem dq_Model_weeks_123 : decode (km_c mm_Model_weeks) 123 = .ok (.iload_n 3, 1) := by decide +kernel
theorem sq_Model_weeks_123 : rn G mm_Model_weeks 123 [a0, a1, a2, some (.int x), a4, a5, a6] st S P ↔ rn G mm_Model_weeks 124 [a0, a1, a2, some (.int x), a4, a5, a6] (.int x :: st) S P := rn_s dq_Model_weeks_123 rfl rfl rfl
theorem dq_Model_weeks_124 : decode (km_c mm_Model_weeks) 124 = .ok (.ireturn, 1) := by decide +kernel
theorem sq_Model_weeks_124 : rn G mm_Model_weeks 124 lv [.int x] S P ↔ P (some (.int x)) S := rn_ir dq_Model_weeks_124 rfl
theorem dq_Model_weeks_125 : decode (km_c mm_Model_weeks) 125 = .ok (.iinc 3 1, 3) := by decide +kernel
theorem sq_Model_weeks_125n : rn G mm_Model_weeks 125 [a0, a1, none, some (.int x), a4, a5, a6] st S P ↔ rn G mm_Model_weeks 128 [a0, a1, none, some (.int (x + nI 1)), a4, a5, a6] st S P := rn_s dq_Model_weeks_125 rfl rfl rfl
theorem sq_Model_weeks_125i : rn G mm_Model_weeks 125 [a0, a1, some (.int x2), some (.int x), a4, a5, a6] st S P ↔ rn G mm_Model_weeks 128 [a0, a1, some (.int x2), some (.int (x + nI 1)), a4, a5, a6] st S P := rn_s dq_Model_weeks_125 rfl rfl rfl
theorem sq_Model_weeks_125r : rn G mm_Model_weeks 125 [a0, a1, some (.ref z2), some (.int x), a4, a5, a6] st S P ↔ rn G mm_Model_weeks 128 [a0, a1, some (.ref z2), some (.int (x + nI 1)), a4, a5, a6] st S P := rn_s dq_Model_weeks_125 rfl rfl rfl
theorem dq_Model_weeks_128 : decode (km_c mm_Model_weeks) 128 = .ok (.goto (-100), 3) := by decide +kernel
theorem sq_Model_weeks_128 : rn G mm_Model_weeks 128 lv st S P ↔ rn G mm_Model_weeks 28 lv st S P := rn_s dq_Model_weeks_128 rfl rfl rfl
theorem dq_Model_weeks_131 : decode (km_c mm_Model_weeks) 131 = .ok (.bipush (-4), 2) := by decide +kernel
theorem sq_Model_weeks_131 : rn G mm_Model_weeks 131 lv st S P ↔ rn G mm_Model_weeks 133 lv (.int ((-4)) :: st) S P := rn_s dq_Model_weeks_131 rfl rfl rfl
theorem dq_Model_weeks_133 : decode (km_c mm_Model_weeks) 133 = .ok (.ireturn, 1) := by decide +kernel
theorem sq_Model_weeks_133 : rn G mm_Model_weeks 133 lv [.int x] S P ↔ P (some (.int x)) S := rn_ir dq_Model_weeks_133 rfl
theorem dq_Model_seed_0 : decode (km_c mm_Model_seed) 0 = .ok (.iload_n 1, 1) := by decide +kernel
theorem sq_Model_seed_0 : rn G mm_Model_seed 0 [a0, some (.int x), a2] st S P ↔ rn G mm_Model_seed 1 [a0, some (.int x), a2] (.int x :: st) S P := rn_s dq_Model_seed_0 rfl rfl rfl
theorem dq_Model_seed_1 : decode (km_c mm_Model_seed) 1 = .ok (.ifCond .ge 5, 3) := by decide +kernel
theorem sq_Model_seed_1 : rn G mm_Model_seed 1 lv (.int x :: st) S P ↔ ((0 ≤ x → rn G mm_Model_seed 6 lv st S P) ∧ (¬ (0 ≤ x) → rn G mm_Model_seed 4 lv st S P)) := rn_b (off := 5) dq_Model_seed_1 rfl rfl rfl rfl
theorem dq_Model_seed_4 : decode (km_c mm_Model_seed) 4 = .ok (.iconst (-1), 1) := by decide +kernel
theorem sq_Model_seed_4 : rn G mm_Model_seed 4 lv st S P ↔ rn G mm_Model_seed 5 lv (.int ((-1)) :: st) S P := rn_s dq_Model_seed_4 rfl rfl rfl
theorem dq_Model_seed_5 : decode (km_c mm_Model_seed) 5 = .ok (.ireturn, 1) := by decide +kernel
theorem sq_Model_seed_5 : rn G mm_Model_seed 5 lv [.int x] S P ↔ P (some (.int x)) S := rn_ir dq_Model_seed_5 rfl
theorem dq_Model_seed_6 : decode (km_c mm_Model_seed) 6 = .ok (.aload_n 0, 1) := by decide +kernel
theorem sq_Model_seed_6 : rn G mm_Model_seed 6 [some (.ref z), a1, a2] st S P ↔ rn G mm_Model_seed 7 [some (.ref z), a1, a2] (.ref z :: st) S P := rn_s dq_Model_seed_6 rfl rfl rfl
theorem dq_Model_seed_7 : decode (km_c mm_Model_seed) 7 = .ok (.getfield 29, 3) := by decide +kernel
theorem sq_Model_seed_7_45 (ho : sx_o o pl kp) : rn (lt_G o L) mm_Model_seed 7 lv (.ref 45 :: st) (sx pl kp I A) P ↔ rn (lt_G o L) mm_Model_seed 10 lv (.int (I 45 10) :: st) (sx pl kp I A) P := rx_get (h := "") (ci := 10) (k := 10) dq_Model_seed_7 (by decide +kernel) ho (up_b (by decide)) rfl rfl (fl_i (by decide))
theorem dq_Model_seed_10 : decode (km_c mm_Model_seed) 10 = .ok (.istore_n 2, 1) := by decide +kernel
theorem sq_Model_seed_10n : rn G mm_Model_seed 10 [a0, none, a2] (.int x :: st) S P ↔ rn G mm_Model_seed 11 [a0, none, some (.int x)] st S P := rn_s dq_Model_seed_10 rfl rfl rfl
theorem sq_Model_seed_10i : rn G mm_Model_seed 10 [a0, some (.int x2), a2] (.int x :: st) S P ↔ rn G mm_Model_seed 11 [a0, some (.int x2), some (.int x)] st S P := rn_s dq_Model_seed_10 rfl rfl rfl
theorem sq_Model_seed_10r : rn G mm_Model_seed 10 [a0, some (.ref z2), a2] (.int x :: st) S P ↔ rn G mm_Model_seed 11 [a0, some (.ref z2), some (.int x)] st S P := rn_s dq_Model_seed_10 rfl rfl rfl
theorem dq_Model_seed_11 : decode (km_c mm_Model_seed) 11 = .ok (.aload_n 0, 1) := by decide +kernel
theorem sq_Model_seed_11 : rn G mm_Model_seed 11 [some (.ref z), a1, a2] st S P ↔ rn G mm_Model_seed 12 [some (.ref z), a1, a2] (.ref z :: st) S P := rn_s dq_Model_seed_11 rfl rfl rfl
theorem dq_Model_seed_12 : decode (km_c mm_Model_seed) 12 = .ok (.iload_n 1, 1) := by decide +kernel
theorem sq_Model_seed_12 : rn G mm_Model_seed 12 [a0, some (.int x), a2] st S P ↔ rn G mm_Model_seed 13 [a0, some (.int x), a2] (.int x :: st) S P := rn_s dq_Model_seed_12 rfl rfl rfl
theorem dq_Model_seed_13 : decode (km_c mm_Model_seed) 13 = .ok (.putfield 29, 3) := by decide +kernel
theorem sq_Model_seed_13_45 (ho : sx_o o pl kp) : rn (lt_G o L) mm_Model_seed 13 lv (.int x :: .ref 45 :: st) (sx pl kp I A) P ↔ rn (lt_G o L) mm_Model_seed 16 lv st (sx pl kp (u2 I 45 10 x) A) P := rx_put (h := "") (ci := 10) (k := 10) dq_Model_seed_13 (by decide +kernel) ho (up_b (by decide)) rfl rfl (by decide) (by decide)
theorem dq_Model_seed_16 : decode (km_c mm_Model_seed) 16 = .ok (.iload_n 2, 1) := by decide +kernel
theorem sq_Model_seed_16 : rn G mm_Model_seed 16 [a0, a1, some (.int x)] st S P ↔ rn G mm_Model_seed 17 [a0, a1, some (.int x)] (.int x :: st) S P := rn_s dq_Model_seed_16 rfl rfl rfl
theorem dq_Model_seed_17 : decode (km_c mm_Model_seed) 17 = .ok (.ireturn, 1) := by decide +kernel
theorem sq_Model_seed_17 : rn G mm_Model_seed 17 lv [.int x] S P ↔ P (some (.int x)) S := rn_ir dq_Model_seed_17 rfl
theorem dq_Model_leave_0 : decode (km_c mm_Model_leave) 0 = .ok (.iconst 0, 1) := by decide +kernel
theorem sq_Model_leave_0 : rn G mm_Model_leave 0 lv st S P ↔ rn G mm_Model_leave 1 lv (.int (nI 0) :: st) S P := rn_s dq_Model_leave_0 rfl rfl rfl
theorem dq_Model_leave_1 : decode (km_c mm_Model_leave) 1 = .ok (.istore_n 1, 1) := by decide +kernel
theorem sq_Model_leave_1n : rn G mm_Model_leave 1 [none, a1, a2] (.int x :: st) S P ↔ rn G mm_Model_leave 2 [none, some (.int x), a2] st S P := rn_s dq_Model_leave_1 rfl rfl rfl
theorem sq_Model_leave_1i : rn G mm_Model_leave 1 [some (.int x2), a1, a2] (.int x :: st) S P ↔ rn G mm_Model_leave 2 [some (.int x2), some (.int x), a2] st S P := rn_s dq_Model_leave_1 rfl rfl rfl
theorem sq_Model_leave_1r : rn G mm_Model_leave 1 [some (.ref z2), a1, a2] (.int x :: st) S P ↔ rn G mm_Model_leave 2 [some (.ref z2), some (.int x), a2] st S P := rn_s dq_Model_leave_1 rfl rfl rfl
theorem dq_Model_leave_2 : decode (km_c mm_Model_leave) 2 = .ok (.iconst 0, 1) := by decide +kernel
theorem sq_Model_leave_2 : rn G mm_Model_leave 2 lv st S P ↔ rn G mm_Model_leave 3 lv (.int (nI 0) :: st) S P := rn_s dq_Model_leave_2 rfl rfl rfl
theorem dq_Model_leave_3 : decode (km_c mm_Model_leave) 3 = .ok (.istore_n 2, 1) := by decide +kernel
theorem sq_Model_leave_3n : rn G mm_Model_leave 3 [a0, none, a2] (.int x :: st) S P ↔ rn G mm_Model_leave 4 [a0, none, some (.int x)] st S P := rn_s dq_Model_leave_3 rfl rfl rfl
theorem sq_Model_leave_3i : rn G mm_Model_leave 3 [a0, some (.int x2), a2] (.int x :: st) S P ↔ rn G mm_Model_leave 4 [a0, some (.int x2), some (.int x)] st S P := rn_s dq_Model_leave_3 rfl rfl rfl
theorem sq_Model_leave_3r : rn G mm_Model_leave 3 [a0, some (.ref z2), a2] (.int x :: st) S P ↔ rn G mm_Model_leave 4 [a0, some (.ref z2), some (.int x)] st S P := rn_s dq_Model_leave_3 rfl rfl rfl
theorem dq_Model_leave_4 : decode (km_c mm_Model_leave) 4 = .ok (.iload_n 2, 1) := by decide +kernel
theorem sq_Model_leave_4 : rn G mm_Model_leave 4 [a0, a1, some (.int x)] st S P ↔ rn G mm_Model_leave 5 [a0, a1, some (.int x)] (.int x :: st) S P := rn_s dq_Model_leave_4 rfl rfl rfl
theorem dq_Model_leave_5 : decode (km_c mm_Model_leave) 5 = .ok (.aload_n 0, 1) := by decide +kernel
theorem sq_Model_leave_5 : rn G mm_Model_leave 5 [some (.ref z), a1, a2] st S P ↔ rn G mm_Model_leave 6 [some (.ref z), a1, a2] (.ref z :: st) S P := rn_s dq_Model_leave_5 rfl rfl rfl
theorem dq_Model_leave_6 : decode (km_c mm_Model_leave) 6 = .ok (.getfield 134, 3) := by decide +kernel
theorem sq_Model_leave_6_45 (ho : sx_o o pl kp) : rn (lt_G o L) mm_Model_leave 6 lv (.ref 45 :: st) (sx pl kp I A) P ↔ rn (lt_G o L) mm_Model_leave 9 lv (.int (I 45 8) :: st) (sx pl kp I A) P := rx_get (h := "") (ci := 10) (k := 8) dq_Model_leave_6 (by decide +kernel) ho (up_b (by decide)) rfl rfl (fl_i (by decide))
theorem dq_Model_leave_9 : decode (km_c mm_Model_leave) 9 = .ok (.if_icmp .ge 45, 3) := by decide +kernel
theorem sq_Model_leave_9 : rn G mm_Model_leave 9 lv (.int x2 :: .int x :: st) S P ↔ ((x2 ≤ x → rn G mm_Model_leave 54 lv st S P) ∧ (¬ (x2 ≤ x) → rn G mm_Model_leave 12 lv st S P)) := rn_b (off := 45) dq_Model_leave_9 rfl rfl rfl rfl
theorem dq_Model_leave_12 : decode (km_c mm_Model_leave) 12 = .ok (.iload_n 1, 1) := by decide +kernel
theorem sq_Model_leave_12 : rn G mm_Model_leave 12 [a0, some (.int x), a2] st S P ↔ rn G mm_Model_leave 13 [a0, some (.int x), a2] (.int x :: st) S P := rn_s dq_Model_leave_12 rfl rfl rfl
theorem dq_Model_leave_13 : decode (km_c mm_Model_leave) 13 = .ok (.iconst 1, 1) := by decide +kernel
theorem sq_Model_leave_13 : rn G mm_Model_leave 13 lv st S P ↔ rn G mm_Model_leave 14 lv (.int (nI 1) :: st) S P := rn_s dq_Model_leave_13 rfl rfl rfl
theorem dq_Model_leave_14 : decode (km_c mm_Model_leave) 14 = .ok (.aload_n 0, 1) := by decide +kernel
theorem sq_Model_leave_14 : rn G mm_Model_leave 14 [some (.ref z), a1, a2] st S P ↔ rn G mm_Model_leave 15 [some (.ref z), a1, a2] (.ref z :: st) S P := rn_s dq_Model_leave_14 rfl rfl rfl
theorem dq_Model_leave_15 : decode (km_c mm_Model_leave) 15 = .ok (.getfield 7, 3) := by decide +kernel
theorem sq_Model_leave_15_45 (ho : sx_o o pl kp) : rn (lt_G o L) mm_Model_leave 15 lv (.ref 45 :: st) (sx pl kp I A) P ↔ rn (lt_G o L) mm_Model_leave 18 lv (.ref 46 :: st) (sx pl kp I A) P := rx_get (h := "") (ci := 10) (k := 0) dq_Model_leave_15 (by decide +kernel) ho (up_b (by decide)) rfl rfl (fl_r (by decide) (by decide) (by decide) (by decide))
theorem dq_Model_leave_18 : decode (km_c mm_Model_leave) 18 = .ok (.sipush 147, 3) := by decide +kernel
theorem sq_Model_leave_18 : rn G mm_Model_leave 18 lv st S P ↔ rn G mm_Model_leave 21 lv (.int (nI 147) :: st) S P := rn_s dq_Model_leave_18 rfl rfl rfl
theorem dq_Model_leave_21 : decode (km_c mm_Model_leave) 21 = .ok (.aload_n 0, 1) := by decide +kernel
theorem sq_Model_leave_21 : rn G mm_Model_leave 21 [some (.ref z), a1, a2] st S P ↔ rn G mm_Model_leave 22 [some (.ref z), a1, a2] (.ref z :: st) S P := rn_s dq_Model_leave_21 rfl rfl rfl
theorem dq_Model_leave_22 : decode (km_c mm_Model_leave) 22 = .ok (.getfield 23, 3) := by decide +kernel
theorem sq_Model_leave_22_45 (ho : sx_o o pl kp) : rn (lt_G o L) mm_Model_leave 22 lv (.ref 45 :: st) (sx pl kp I A) P ↔ rn (lt_G o L) mm_Model_leave 25 lv (.ref 49 :: st) (sx pl kp I A) P := rx_get (h := "") (ci := 10) (k := 7) dq_Model_leave_22 (by decide +kernel) ho (up_b (by decide)) rfl rfl (fl_r (by decide) (by decide) (by decide) (by decide))
theorem dq_Model_leave_25 : decode (km_c mm_Model_leave) 25 = .ok (.iload_n 2, 1) := by decide +kernel
theorem sq_Model_leave_25 : rn G mm_Model_leave 25 [a0, a1, some (.int x)] st S P ↔ rn G mm_Model_leave 26 [a0, a1, some (.int x)] (.int x :: st) S P := rn_s dq_Model_leave_25 rfl rfl rfl
theorem dq_Model_leave_26 : decode (km_c mm_Model_leave) 26 = .ok (.iaload, 1) := by decide +kernel
theorem sq_Model_leave_26 (ho : sx_o o pl kp) (hk : ak L a = 0) (hu : sx_up pl kp a = true ∨ 1000 ≤ a) (hc : c < ln L a) (hn : ln L a < 2 ^ 31) : rn (lt_G o L) mm_Model_leave 26 lv (.int (nI c) :: .ref a :: st) (sx pl kp I A) P ↔ rn (lt_G o L) mm_Model_leave 27 lv (.int (A a c) :: st) (sx pl kp I A) P := rx_ild dq_Model_leave_26 ho hk hu hc hn
theorem dq_Model_leave_27 : decode (km_c mm_Model_leave) 27 = .ok (.iadd, 1) := by decide +kernel
theorem sq_Model_leave_27 : rn G mm_Model_leave 27 lv (.int x2 :: .int x :: st) S P ↔ rn G mm_Model_leave 28 lv (.int (x + x2) :: st) S P := rn_s dq_Model_leave_27 rfl rfl rfl
theorem dq_Model_leave_28 : decode (km_c mm_Model_leave) 28 = .ok (.iaload, 1) := by decide +kernel
theorem sq_Model_leave_28 (ho : sx_o o pl kp) (hk : ak L a = 0) (hu : sx_up pl kp a = true ∨ 1000 ≤ a) (hc : c < ln L a) (hn : ln L a < 2 ^ 31) : rn (lt_G o L) mm_Model_leave 28 lv (.int (nI c) :: .ref a :: st) (sx pl kp I A) P ↔ rn (lt_G o L) mm_Model_leave 29 lv (.int (A a c) :: st) (sx pl kp I A) P := rx_ild dq_Model_leave_28 ho hk hu hc hn
theorem dq_Model_leave_29 : decode (km_c mm_Model_leave) 29 = .ok (.isub, 1) := by decide +kernel
theorem sq_Model_leave_29 : rn G mm_Model_leave 29 lv (.int x2 :: .int x :: st) S P ↔ rn G mm_Model_leave 30 lv (.int (x - x2) :: st) S P := rn_s dq_Model_leave_29 rfl rfl rfl
theorem dq_Model_leave_30 : decode (km_c mm_Model_leave) 30 = .ok (.iadd, 1) := by decide +kernel
theorem sq_Model_leave_30 : rn G mm_Model_leave 30 lv (.int x2 :: .int x :: st) S P ↔ rn G mm_Model_leave 31 lv (.int (x + x2) :: st) S P := rn_s dq_Model_leave_30 rfl rfl rfl
theorem dq_Model_leave_31 : decode (km_c mm_Model_leave) 31 = .ok (.istore_n 1, 1) := by decide +kernel
theorem sq_Model_leave_31n : rn G mm_Model_leave 31 [none, a1, a2] (.int x :: st) S P ↔ rn G mm_Model_leave 32 [none, some (.int x), a2] st S P := rn_s dq_Model_leave_31 rfl rfl rfl
theorem sq_Model_leave_31i : rn G mm_Model_leave 31 [some (.int x2), a1, a2] (.int x :: st) S P ↔ rn G mm_Model_leave 32 [some (.int x2), some (.int x), a2] st S P := rn_s dq_Model_leave_31 rfl rfl rfl
theorem sq_Model_leave_31r : rn G mm_Model_leave 31 [some (.ref z2), a1, a2] (.int x :: st) S P ↔ rn G mm_Model_leave 32 [some (.ref z2), some (.int x), a2] st S P := rn_s dq_Model_leave_31 rfl rfl rfl
theorem dq_Model_leave_32 : decode (km_c mm_Model_leave) 32 = .ok (.aload_n 0, 1) := by decide +kernel
theorem sq_Model_leave_32 : rn G mm_Model_leave 32 [some (.ref z), a1, a2] st S P ↔ rn G mm_Model_leave 33 [some (.ref z), a1, a2] (.ref z :: st) S P := rn_s dq_Model_leave_32 rfl rfl rfl
theorem dq_Model_leave_33 : decode (km_c mm_Model_leave) 33 = .ok (.getfield 7, 3) := by decide +kernel
theorem sq_Model_leave_33_45 (ho : sx_o o pl kp) : rn (lt_G o L) mm_Model_leave 33 lv (.ref 45 :: st) (sx pl kp I A) P ↔ rn (lt_G o L) mm_Model_leave 36 lv (.ref 46 :: st) (sx pl kp I A) P := rx_get (h := "") (ci := 10) (k := 0) dq_Model_leave_33 (by decide +kernel) ho (up_b (by decide)) rfl rfl (fl_r (by decide) (by decide) (by decide) (by decide))
theorem dq_Model_leave_36 : decode (km_c mm_Model_leave) 36 = .ok (.sipush 147, 3) := by decide +kernel
theorem sq_Model_leave_36 : rn G mm_Model_leave 36 lv st S P ↔ rn G mm_Model_leave 39 lv (.int (nI 147) :: st) S P := rn_s dq_Model_leave_36 rfl rfl rfl
theorem dq_Model_leave_39 : decode (km_c mm_Model_leave) 39 = .ok (.aload_n 0, 1) := by decide +kernel
theorem sq_Model_leave_39 : rn G mm_Model_leave 39 [some (.ref z), a1, a2] st S P ↔ rn G mm_Model_leave 40 [some (.ref z), a1, a2] (.ref z :: st) S P := rn_s dq_Model_leave_39 rfl rfl rfl
theorem dq_Model_leave_40 : decode (km_c mm_Model_leave) 40 = .ok (.getfield 23, 3) := by decide +kernel
theorem sq_Model_leave_40_45 (ho : sx_o o pl kp) : rn (lt_G o L) mm_Model_leave 40 lv (.ref 45 :: st) (sx pl kp I A) P ↔ rn (lt_G o L) mm_Model_leave 43 lv (.ref 49 :: st) (sx pl kp I A) P := rx_get (h := "") (ci := 10) (k := 7) dq_Model_leave_40 (by decide +kernel) ho (up_b (by decide)) rfl rfl (fl_r (by decide) (by decide) (by decide) (by decide))
theorem dq_Model_leave_43 : decode (km_c mm_Model_leave) 43 = .ok (.iload_n 2, 1) := by decide +kernel
theorem sq_Model_leave_43 : rn G mm_Model_leave 43 [a0, a1, some (.int x)] st S P ↔ rn G mm_Model_leave 44 [a0, a1, some (.int x)] (.int x :: st) S P := rn_s dq_Model_leave_43 rfl rfl rfl
theorem dq_Model_leave_44 : decode (km_c mm_Model_leave) 44 = .ok (.iaload, 1) := by decide +kernel
theorem sq_Model_leave_44 (ho : sx_o o pl kp) (hk : ak L a = 0) (hu : sx_up pl kp a = true ∨ 1000 ≤ a) (hc : c < ln L a) (hn : ln L a < 2 ^ 31) : rn (lt_G o L) mm_Model_leave 44 lv (.int (nI c) :: .ref a :: st) (sx pl kp I A) P ↔ rn (lt_G o L) mm_Model_leave 45 lv (.int (A a c) :: st) (sx pl kp I A) P := rx_ild dq_Model_leave_44 ho hk hu hc hn
theorem dq_Model_leave_45 : decode (km_c mm_Model_leave) 45 = .ok (.iadd, 1) := by decide +kernel
theorem sq_Model_leave_45 : rn G mm_Model_leave 45 lv (.int x2 :: .int x :: st) S P ↔ rn G mm_Model_leave 46 lv (.int (x + x2) :: st) S P := rn_s dq_Model_leave_45 rfl rfl rfl
theorem dq_Model_leave_46 : decode (km_c mm_Model_leave) 46 = .ok (.iconst 1, 1) := by decide +kernel
theorem sq_Model_leave_46 : rn G mm_Model_leave 46 lv st S P ↔ rn G mm_Model_leave 47 lv (.int (nI 1) :: st) S P := rn_s dq_Model_leave_46 rfl rfl rfl
theorem dq_Model_leave_47 : decode (km_c mm_Model_leave) 47 = .ok (.iastore, 1) := by decide +kernel
theorem sq_Model_leave_47 (ho : sx_o o pl kp) (hk : ak L a = 0) (hu : sx_up pl kp a = true) (hc : c < ln L a) (hn : ln L a < 2 ^ 31) : rn (lt_G o L) mm_Model_leave 47 lv (.int x :: .int (nI c) :: .ref a :: st) (sx pl kp I A) P ↔ rn (lt_G o L) mm_Model_leave 48 lv st (sx pl kp I (u2 A a c x)) P := rx_ist dq_Model_leave_47 ho hk hu hc hn
theorem dq_Model_leave_48 : decode (km_c mm_Model_leave) 48 = .ok (.iinc 2 1, 3) := by decide +kernel
theorem sq_Model_leave_48n : rn G mm_Model_leave 48 [a0, none, some (.int x)] st S P ↔ rn G mm_Model_leave 51 [a0, none, some (.int (x + nI 1))] st S P := rn_s dq_Model_leave_48 rfl rfl rfl
theorem sq_Model_leave_48i : rn G mm_Model_leave 48 [a0, some (.int x2), some (.int x)] st S P ↔ rn G mm_Model_leave 51 [a0, some (.int x2), some (.int (x + nI 1))] st S P := rn_s dq_Model_leave_48 rfl rfl rfl
theorem sq_Model_leave_48r : rn G mm_Model_leave 48 [a0, some (.ref z2), some (.int x)] st S P ↔ rn G mm_Model_leave 51 [a0, some (.ref z2), some (.int (x + nI 1))] st S P := rn_s dq_Model_leave_48 rfl rfl rfl
theorem dq_Model_leave_51 : decode (km_c mm_Model_leave) 51 = .ok (.goto (-47), 3) := by decide +kernel
theorem sq_Model_leave_51 : rn G mm_Model_leave 51 lv st S P ↔ rn G mm_Model_leave 4 lv st S P := rn_s dq_Model_leave_51 rfl rfl rfl
theorem dq_Model_leave_54 : decode (km_c mm_Model_leave) 54 = .ok (.aload_n 0, 1) := by decide +kernel
theorem sq_Model_leave_54 : rn G mm_Model_leave 54 [some (.ref z), a1, a2] st S P ↔ rn G mm_Model_leave 55 [some (.ref z), a1, a2] (.ref z :: st) S P := rn_s dq_Model_leave_54 rfl rfl rfl
theorem dq_Model_leave_55 : decode (km_c mm_Model_leave) 55 = .ok (.iconst 0, 1) := by decide +kernel
theorem sq_Model_leave_55 : rn G mm_Model_leave 55 lv st S P ↔ rn G mm_Model_leave 56 lv (.int (nI 0) :: st) S P := rn_s dq_Model_leave_55 rfl rfl rfl
theorem dq_Model_leave_56 : decode (km_c mm_Model_leave) 56 = .ok (.putfield 134, 3) := by decide +kernel
theorem sq_Model_leave_56_45 (ho : sx_o o pl kp) : rn (lt_G o L) mm_Model_leave 56 lv (.int x :: .ref 45 :: st) (sx pl kp I A) P ↔ rn (lt_G o L) mm_Model_leave 59 lv st (sx pl kp (u2 I 45 8 x) A) P := rx_put (h := "") (ci := 10) (k := 8) dq_Model_leave_56 (by decide +kernel) ho (up_b (by decide)) rfl rfl (by decide) (by decide)
theorem dq_Model_leave_59 : decode (km_c mm_Model_leave) 59 = .ok (.iload_n 1, 1) := by decide +kernel
theorem sq_Model_leave_59 : rn G mm_Model_leave 59 [a0, some (.int x), a2] st S P ↔ rn G mm_Model_leave 60 [a0, some (.int x), a2] (.int x :: st) S P := rn_s dq_Model_leave_59 rfl rfl rfl
theorem dq_Model_leave_60 : decode (km_c mm_Model_leave) 60 = .ok (.ireturn, 1) := by decide +kernel
theorem sq_Model_leave_60 : rn G mm_Model_leave 60 lv [.int x] S P ↔ P (some (.int x)) S := rn_ir dq_Model_leave_60 rfl
theorem dq_Model_image_0 : decode (km_c mm_Model_image) 0 = .ok (.iconst 0, 1) := by decide +kernel
theorem sq_Model_image_0 : rn G mm_Model_image 0 lv st S P ↔ rn G mm_Model_image 1 lv (.int (nI 0) :: st) S P := rn_s dq_Model_image_0 rfl rfl rfl
theorem dq_Model_image_1 : decode (km_c mm_Model_image) 1 = .ok (.istore_n 1, 1) := by decide +kernel
theorem sq_Model_image_1n : rn G mm_Model_image 1 [none, a1] (.int x :: st) S P ↔ rn G mm_Model_image 2 [none, some (.int x)] st S P := rn_s dq_Model_image_1 rfl rfl rfl
theorem sq_Model_image_1i : rn G mm_Model_image 1 [some (.int x2), a1] (.int x :: st) S P ↔ rn G mm_Model_image 2 [some (.int x2), some (.int x)] st S P := rn_s dq_Model_image_1 rfl rfl rfl
theorem sq_Model_image_1r : rn G mm_Model_image 1 [some (.ref z2), a1] (.int x :: st) S P ↔ rn G mm_Model_image 2 [some (.ref z2), some (.int x)] st S P := rn_s dq_Model_image_1 rfl rfl rfl
theorem dq_Model_image_2 : decode (km_c mm_Model_image) 2 = .ok (.iload_n 1, 1) := by decide +kernel
theorem sq_Model_image_2 : rn G mm_Model_image 2 [a0, some (.int x)] st S P ↔ rn G mm_Model_image 3 [a0, some (.int x)] (.int x :: st) S P := rn_s dq_Model_image_2 rfl rfl rfl
theorem dq_Model_image_3 : decode (km_c mm_Model_image) 3 = .ok (.sipush 358, 3) := by decide +kernel
theorem sq_Model_image_3 : rn G mm_Model_image 3 lv st S P ↔ rn G mm_Model_image 6 lv (.int (nI 358) :: st) S P := rn_s dq_Model_image_3 rfl rfl rfl
theorem dq_Model_image_6 : decode (km_c mm_Model_image) 6 = .ok (.if_icmp .ge 22, 3) := by decide +kernel
theorem sq_Model_image_6 : rn G mm_Model_image 6 lv (.int x2 :: .int x :: st) S P ↔ ((x2 ≤ x → rn G mm_Model_image 28 lv st S P) ∧ (¬ (x2 ≤ x) → rn G mm_Model_image 9 lv st S P)) := rn_b (off := 22) dq_Model_image_6 rfl rfl rfl rfl
theorem dq_Model_image_9 : decode (km_c mm_Model_image) 9 = .ok (.aload_n 0, 1) := by decide +kernel
theorem sq_Model_image_9 : rn G mm_Model_image 9 [some (.ref z), a1] st S P ↔ rn G mm_Model_image 10 [some (.ref z), a1] (.ref z :: st) S P := rn_s dq_Model_image_9 rfl rfl rfl
theorem dq_Model_image_10 : decode (km_c mm_Model_image) 10 = .ok (.getfield 59, 3) := by decide +kernel
theorem sq_Model_image_10_45 (ho : sx_o o pl kp) : rn (lt_G o L) mm_Model_image 10 lv (.ref 45 :: st) (sx pl kp I A) P ↔ rn (lt_G o L) mm_Model_image 13 lv (.ref 60 :: st) (sx pl kp I A) P := rx_get (h := "") (ci := 10) (k := 25) dq_Model_image_10 (by decide +kernel) ho (up_b (by decide)) rfl rfl (fl_r (by decide) (by decide) (by decide) (by decide))
theorem dq_Model_image_13 : decode (km_c mm_Model_image) 13 = .ok (.iload_n 1, 1) := by decide +kernel
theorem sq_Model_image_13 : rn G mm_Model_image 13 [a0, some (.int x)] st S P ↔ rn G mm_Model_image 14 [a0, some (.int x)] (.int x :: st) S P := rn_s dq_Model_image_13 rfl rfl rfl
theorem dq_Model_image_14 : decode (km_c mm_Model_image) 14 = .ok (.aload_n 0, 1) := by decide +kernel
theorem sq_Model_image_14 : rn G mm_Model_image 14 [some (.ref z), a1] st S P ↔ rn G mm_Model_image 15 [some (.ref z), a1] (.ref z :: st) S P := rn_s dq_Model_image_14 rfl rfl rfl
theorem dq_Model_image_15 : decode (km_c mm_Model_image) 15 = .ok (.iload_n 1, 1) := by decide +kernel
theorem sq_Model_image_15 : rn G mm_Model_image 15 [a0, some (.int x)] st S P ↔ rn G mm_Model_image 16 [a0, some (.int x)] (.int x :: st) S P := rn_s dq_Model_image_15 rfl rfl rfl
theorem dq_Model_image_16 : decode (km_c mm_Model_image) 16 = .ok (.iconst 0, 1) := by decide +kernel
theorem sq_Model_image_16 : rn G mm_Model_image 16 lv st S P ↔ rn G mm_Model_image 17 lv (.int (nI 0) :: st) S P := rn_s dq_Model_image_16 rfl rfl rfl
theorem dq_Model_image_17 : decode (km_c mm_Model_image) 17 = .ok (.iconst 0, 1) := by decide +kernel
theorem sq_Model_image_17 : rn G mm_Model_image 17 lv st S P ↔ rn G mm_Model_image 18 lv (.int (nI 0) :: st) S P := rn_s dq_Model_image_17 rfl rfl rfl
theorem dq_Model_image_18 : decode (km_c mm_Model_image) 18 = .ok (.invokevirtual 255, 3) := by decide +kernel
theorem sq_Model_image_18_45 {x1 : Int32} {x2 : Int32} {x3 : Int32} {v : Option Value} {S2 : ks_S} (hc : ev (lt_G o L) mm_Model_carried [.ref 45, .int x1, .int x2, .int x3] (sx pl kp I A) v S2) (ho : sx_o o pl kp) (hst : kx_cat st ≤ 8) : rn (lt_G o L) mm_Model_image 18 lv (.int x3 :: .int x2 :: .int x1 :: .ref 45 :: st) (sx pl kp I A) P ↔ rn (lt_G o L) mm_Model_image 21 lv (v.toList ++ st) S2 P := rn_cv (k := 0) (host := "") (E' := mm_Model_carried) dq_Model_image_18 rfl (ok_v rfl (by decide) (by decide) (Nat.le_add_left _ _) hst (Nat.le_of_ble_eq_true rfl) (Or.inr (rc_v ho (up_b (by decide)) rfl))) rfl rfl hc
theorem dq_Model_image_21 : decode (km_c mm_Model_image) 21 = .ok (.iastore, 1) := by decide +kernel
theorem sq_Model_image_21 (ho : sx_o o pl kp) (hk : ak L a = 0) (hu : sx_up pl kp a = true) (hc : c < ln L a) (hn : ln L a < 2 ^ 31) : rn (lt_G o L) mm_Model_image 21 lv (.int x :: .int (nI c) :: .ref a :: st) (sx pl kp I A) P ↔ rn (lt_G o L) mm_Model_image 22 lv st (sx pl kp I (u2 A a c x)) P := rx_ist dq_Model_image_21 ho hk hu hc hn
theorem dq_Model_image_22 : decode (km_c mm_Model_image) 22 = .ok (.iinc 1 1, 3) := by decide +kernel
theorem sq_Model_image_22n : rn G mm_Model_image 22 [none, some (.int x)] st S P ↔ rn G mm_Model_image 25 [none, some (.int (x + nI 1))] st S P := rn_s dq_Model_image_22 rfl rfl rfl
theorem sq_Model_image_22i : rn G mm_Model_image 22 [some (.int x2), some (.int x)] st S P ↔ rn G mm_Model_image 25 [some (.int x2), some (.int (x + nI 1))] st S P := rn_s dq_Model_image_22 rfl rfl rfl
theorem sq_Model_image_22r : rn G mm_Model_image 22 [some (.ref z2), some (.int x)] st S P ↔ rn G mm_Model_image 25 [some (.ref z2), some (.int (x + nI 1))] st S P := rn_s dq_Model_image_22 rfl rfl rfl
theorem dq_Model_image_25 : decode (km_c mm_Model_image) 25 = .ok (.goto (-23), 3) := by decide +kernel
theorem sq_Model_image_25 : rn G mm_Model_image 25 lv st S P ↔ rn G mm_Model_image 2 lv st S P := rn_s dq_Model_image_25 rfl rfl rfl
theorem dq_Model_image_28 : decode (km_c mm_Model_image) 28 = .ok (.aload_n 0, 1) := by decide +kernel
theorem sq_Model_image_28 : rn G mm_Model_image 28 [some (.ref z), a1] st S P ↔ rn G mm_Model_image 29 [some (.ref z), a1] (.ref z :: st) S P := rn_s dq_Model_image_28 rfl rfl rfl
theorem dq_Model_image_29 : decode (km_c mm_Model_image) 29 = .ok (.getfield 62, 3) := by decide +kernel
theorem sq_Model_image_29_45 (ho : sx_o o pl kp) : rn (lt_G o L) mm_Model_image 29 lv (.ref 45 :: st) (sx pl kp I A) P ↔ rn (lt_G o L) mm_Model_image 32 lv (.ref 61 :: st) (sx pl kp I A) P := rx_get (h := "") (ci := 10) (k := 26) dq_Model_image_29 (by decide +kernel) ho (up_b (by decide)) rfl rfl (fl_r (by decide) (by decide) (by decide) (by decide))
theorem dq_Model_image_32 : decode (km_c mm_Model_image) 32 = .ok (.iconst 0, 1) := by decide +kernel
theorem sq_Model_image_32 : rn G mm_Model_image 32 lv st S P ↔ rn G mm_Model_image 33 lv (.int (nI 0) :: st) S P := rn_s dq_Model_image_32 rfl rfl rfl
theorem dq_Model_image_33 : decode (km_c mm_Model_image) 33 = .ok (.aload_n 0, 1) := by decide +kernel
theorem sq_Model_image_33 : rn G mm_Model_image 33 [some (.ref z), a1] st S P ↔ rn G mm_Model_image 34 [some (.ref z), a1] (.ref z :: st) S P := rn_s dq_Model_image_33 rfl rfl rfl
theorem dq_Model_image_34 : decode (km_c mm_Model_image) 34 = .ok (.getfield 98, 3) := by decide +kernel
theorem sq_Model_image_34_45 (ho : sx_o o pl kp) : rn (lt_G o L) mm_Model_image 34 lv (.ref 45 :: st) (sx pl kp I A) P ↔ rn (lt_G o L) mm_Model_image 37 lv (.int (I 45 1) :: st) (sx pl kp I A) P := rx_get (h := "") (ci := 10) (k := 1) dq_Model_image_34 (by decide +kernel) ho (up_b (by decide)) rfl rfl (fl_i (by decide))
theorem dq_Model_image_37 : decode (km_c mm_Model_image) 37 = .ok (.iastore, 1) := by decide +kernel
theorem sq_Model_image_37 (ho : sx_o o pl kp) (hk : ak L a = 0) (hu : sx_up pl kp a = true) (hc : c < ln L a) (hn : ln L a < 2 ^ 31) : rn (lt_G o L) mm_Model_image 37 lv (.int x :: .int (nI c) :: .ref a :: st) (sx pl kp I A) P ↔ rn (lt_G o L) mm_Model_image 38 lv st (sx pl kp I (u2 A a c x)) P := rx_ist dq_Model_image_37 ho hk hu hc hn
theorem dq_Model_image_38 : decode (km_c mm_Model_image) 38 = .ok (.aload_n 0, 1) := by decide +kernel
theorem sq_Model_image_38 : rn G mm_Model_image 38 [some (.ref z), a1] st S P ↔ rn G mm_Model_image 39 [some (.ref z), a1] (.ref z :: st) S P := rn_s dq_Model_image_38 rfl rfl rfl
theorem dq_Model_image_39 : decode (km_c mm_Model_image) 39 = .ok (.getfield 62, 3) := by decide +kernel
theorem sq_Model_image_39_45 (ho : sx_o o pl kp) : rn (lt_G o L) mm_Model_image 39 lv (.ref 45 :: st) (sx pl kp I A) P ↔ rn (lt_G o L) mm_Model_image 42 lv (.ref 61 :: st) (sx pl kp I A) P := rx_get (h := "") (ci := 10) (k := 26) dq_Model_image_39 (by decide +kernel) ho (up_b (by decide)) rfl rfl (fl_r (by decide) (by decide) (by decide) (by decide))
theorem dq_Model_image_42 : decode (km_c mm_Model_image) 42 = .ok (.iconst 1, 1) := by decide +kernel
theorem sq_Model_image_42 : rn G mm_Model_image 42 lv st S P ↔ rn G mm_Model_image 43 lv (.int (nI 1) :: st) S P := rn_s dq_Model_image_42 rfl rfl rfl
theorem dq_Model_image_43 : decode (km_c mm_Model_image) 43 = .ok (.aload_n 0, 1) := by decide +kernel
theorem sq_Model_image_43 : rn G mm_Model_image 43 [some (.ref z), a1] st S P ↔ rn G mm_Model_image 44 [some (.ref z), a1] (.ref z :: st) S P := rn_s dq_Model_image_43 rfl rfl rfl
theorem dq_Model_image_44 : decode (km_c mm_Model_image) 44 = .ok (.getfield 131, 3) := by decide +kernel
theorem sq_Model_image_44_45 (ho : sx_o o pl kp) : rn (lt_G o L) mm_Model_image 44 lv (.ref 45 :: st) (sx pl kp I A) P ↔ rn (lt_G o L) mm_Model_image 47 lv (.int (I 45 4) :: st) (sx pl kp I A) P := rx_get (h := "") (ci := 10) (k := 4) dq_Model_image_44 (by decide +kernel) ho (up_b (by decide)) rfl rfl (fl_i (by decide))
theorem dq_Model_image_47 : decode (km_c mm_Model_image) 47 = .ok (.iastore, 1) := by decide +kernel
theorem sq_Model_image_47 (ho : sx_o o pl kp) (hk : ak L a = 0) (hu : sx_up pl kp a = true) (hc : c < ln L a) (hn : ln L a < 2 ^ 31) : rn (lt_G o L) mm_Model_image 47 lv (.int x :: .int (nI c) :: .ref a :: st) (sx pl kp I A) P ↔ rn (lt_G o L) mm_Model_image 48 lv st (sx pl kp I (u2 A a c x)) P := rx_ist dq_Model_image_47 ho hk hu hc hn
theorem dq_Model_image_48 : decode (km_c mm_Model_image) 48 = .ok (.aload_n 0, 1) := by decide +kernel
theorem sq_Model_image_48 : rn G mm_Model_image 48 [some (.ref z), a1] st S P ↔ rn G mm_Model_image 49 [some (.ref z), a1] (.ref z :: st) S P := rn_s dq_Model_image_48 rfl rfl rfl
theorem dq_Model_image_49 : decode (km_c mm_Model_image) 49 = .ok (.getfield 62, 3) := by decide +kernel
theorem sq_Model_image_49_45 (ho : sx_o o pl kp) : rn (lt_G o L) mm_Model_image 49 lv (.ref 45 :: st) (sx pl kp I A) P ↔ rn (lt_G o L) mm_Model_image 52 lv (.ref 61 :: st) (sx pl kp I A) P := rx_get (h := "") (ci := 10) (k := 26) dq_Model_image_49 (by decide +kernel) ho (up_b (by decide)) rfl rfl (fl_r (by decide) (by decide) (by decide) (by decide))
theorem dq_Model_image_52 : decode (km_c mm_Model_image) 52 = .ok (.iconst 2, 1) := by decide +kernel
theorem sq_Model_image_52 : rn G mm_Model_image 52 lv st S P ↔ rn G mm_Model_image 53 lv (.int (nI 2) :: st) S P := rn_s dq_Model_image_52 rfl rfl rfl
theorem dq_Model_image_53 : decode (km_c mm_Model_image) 53 = .ok (.aload_n 0, 1) := by decide +kernel
theorem sq_Model_image_53 : rn G mm_Model_image 53 [some (.ref z), a1] st S P ↔ rn G mm_Model_image 54 [some (.ref z), a1] (.ref z :: st) S P := rn_s dq_Model_image_53 rfl rfl rfl
theorem dq_Model_image_54 : decode (km_c mm_Model_image) 54 = .ok (.getfield 186, 3) := by decide +kernel
theorem sq_Model_image_54_45 (ho : sx_o o pl kp) : rn (lt_G o L) mm_Model_image 54 lv (.ref 45 :: st) (sx pl kp I A) P ↔ rn (lt_G o L) mm_Model_image 57 lv (.int (I 45 5) :: st) (sx pl kp I A) P := rx_get (h := "") (ci := 10) (k := 5) dq_Model_image_54 (by decide +kernel) ho (up_b (by decide)) rfl rfl (fl_i (by decide))
theorem dq_Model_image_57 : decode (km_c mm_Model_image) 57 = .ok (.iastore, 1) := by decide +kernel
theorem sq_Model_image_57 (ho : sx_o o pl kp) (hk : ak L a = 0) (hu : sx_up pl kp a = true) (hc : c < ln L a) (hn : ln L a < 2 ^ 31) : rn (lt_G o L) mm_Model_image 57 lv (.int x :: .int (nI c) :: .ref a :: st) (sx pl kp I A) P ↔ rn (lt_G o L) mm_Model_image 58 lv st (sx pl kp I (u2 A a c x)) P := rx_ist dq_Model_image_57 ho hk hu hc hn
theorem dq_Model_image_58 : decode (km_c mm_Model_image) 58 = .ok (.aload_n 0, 1) := by decide +kernel
theorem sq_Model_image_58 : rn G mm_Model_image 58 [some (.ref z), a1] st S P ↔ rn G mm_Model_image 59 [some (.ref z), a1] (.ref z :: st) S P := rn_s dq_Model_image_58 rfl rfl rfl
theorem dq_Model_image_59 : decode (km_c mm_Model_image) 59 = .ok (.getfield 62, 3) := by decide +kernel
theorem sq_Model_image_59_45 (ho : sx_o o pl kp) : rn (lt_G o L) mm_Model_image 59 lv (.ref 45 :: st) (sx pl kp I A) P ↔ rn (lt_G o L) mm_Model_image 62 lv (.ref 61 :: st) (sx pl kp I A) P := rx_get (h := "") (ci := 10) (k := 26) dq_Model_image_59 (by decide +kernel) ho (up_b (by decide)) rfl rfl (fl_r (by decide) (by decide) (by decide) (by decide))
theorem dq_Model_image_62 : decode (km_c mm_Model_image) 62 = .ok (.iconst 3, 1) := by decide +kernel
theorem sq_Model_image_62 : rn G mm_Model_image 62 lv st S P ↔ rn G mm_Model_image 63 lv (.int (nI 3) :: st) S P := rn_s dq_Model_image_62 rfl rfl rfl
theorem dq_Model_image_63 : decode (km_c mm_Model_image) 63 = .ok (.aload_n 0, 1) := by decide +kernel
theorem sq_Model_image_63 : rn G mm_Model_image 63 [some (.ref z), a1] st S P ↔ rn G mm_Model_image 64 [some (.ref z), a1] (.ref z :: st) S P := rn_s dq_Model_image_63 rfl rfl rfl
theorem dq_Model_image_64 : decode (km_c mm_Model_image) 64 = .ok (.getfield 19, 3) := by decide +kernel
theorem sq_Model_image_64_45 (ho : sx_o o pl kp) : rn (lt_G o L) mm_Model_image 64 lv (.ref 45 :: st) (sx pl kp I A) P ↔ rn (lt_G o L) mm_Model_image 67 lv (.int (I 45 6) :: st) (sx pl kp I A) P := rx_get (h := "") (ci := 10) (k := 6) dq_Model_image_64 (by decide +kernel) ho (up_b (by decide)) rfl rfl (fl_i (by decide))
theorem dq_Model_image_67 : decode (km_c mm_Model_image) 67 = .ok (.iastore, 1) := by decide +kernel
theorem sq_Model_image_67 (ho : sx_o o pl kp) (hk : ak L a = 0) (hu : sx_up pl kp a = true) (hc : c < ln L a) (hn : ln L a < 2 ^ 31) : rn (lt_G o L) mm_Model_image 67 lv (.int x :: .int (nI c) :: .ref a :: st) (sx pl kp I A) P ↔ rn (lt_G o L) mm_Model_image 68 lv st (sx pl kp I (u2 A a c x)) P := rx_ist dq_Model_image_67 ho hk hu hc hn
theorem dq_Model_image_68 : decode (km_c mm_Model_image) 68 = .ok (.aload_n 0, 1) := by decide +kernel
theorem sq_Model_image_68 : rn G mm_Model_image 68 [some (.ref z), a1] st S P ↔ rn G mm_Model_image 69 [some (.ref z), a1] (.ref z :: st) S P := rn_s dq_Model_image_68 rfl rfl rfl
theorem dq_Model_image_69 : decode (km_c mm_Model_image) 69 = .ok (.getfield 62, 3) := by decide +kernel
theorem sq_Model_image_69_45 (ho : sx_o o pl kp) : rn (lt_G o L) mm_Model_image 69 lv (.ref 45 :: st) (sx pl kp I A) P ↔ rn (lt_G o L) mm_Model_image 72 lv (.ref 61 :: st) (sx pl kp I A) P := rx_get (h := "") (ci := 10) (k := 26) dq_Model_image_69 (by decide +kernel) ho (up_b (by decide)) rfl rfl (fl_r (by decide) (by decide) (by decide) (by decide))
theorem dq_Model_image_72 : decode (km_c mm_Model_image) 72 = .ok (.iconst 4, 1) := by decide +kernel
theorem sq_Model_image_72 : rn G mm_Model_image 72 lv st S P ↔ rn G mm_Model_image 73 lv (.int (nI 4) :: st) S P := rn_s dq_Model_image_72 rfl rfl rfl
theorem dq_Model_image_73 : decode (km_c mm_Model_image) 73 = .ok (.aload_n 0, 1) := by decide +kernel
theorem sq_Model_image_73 : rn G mm_Model_image 73 [some (.ref z), a1] st S P ↔ rn G mm_Model_image 74 [some (.ref z), a1] (.ref z :: st) S P := rn_s dq_Model_image_73 rfl rfl rfl
theorem dq_Model_image_74 : decode (km_c mm_Model_image) 74 = .ok (.getfield 134, 3) := by decide +kernel
theorem sq_Model_image_74_45 (ho : sx_o o pl kp) : rn (lt_G o L) mm_Model_image 74 lv (.ref 45 :: st) (sx pl kp I A) P ↔ rn (lt_G o L) mm_Model_image 77 lv (.int (I 45 8) :: st) (sx pl kp I A) P := rx_get (h := "") (ci := 10) (k := 8) dq_Model_image_74 (by decide +kernel) ho (up_b (by decide)) rfl rfl (fl_i (by decide))
theorem dq_Model_image_77 : decode (km_c mm_Model_image) 77 = .ok (.iastore, 1) := by decide +kernel
theorem sq_Model_image_77 (ho : sx_o o pl kp) (hk : ak L a = 0) (hu : sx_up pl kp a = true) (hc : c < ln L a) (hn : ln L a < 2 ^ 31) : rn (lt_G o L) mm_Model_image 77 lv (.int x :: .int (nI c) :: .ref a :: st) (sx pl kp I A) P ↔ rn (lt_G o L) mm_Model_image 78 lv st (sx pl kp I (u2 A a c x)) P := rx_ist dq_Model_image_77 ho hk hu hc hn
theorem dq_Model_image_78 : decode (km_c mm_Model_image) 78 = .ok (.aload_n 0, 1) := by decide +kernel
theorem sq_Model_image_78 : rn G mm_Model_image 78 [some (.ref z), a1] st S P ↔ rn G mm_Model_image 79 [some (.ref z), a1] (.ref z :: st) S P := rn_s dq_Model_image_78 rfl rfl rfl
theorem dq_Model_image_79 : decode (km_c mm_Model_image) 79 = .ok (.getfield 62, 3) := by decide +kernel
theorem sq_Model_image_79_45 (ho : sx_o o pl kp) : rn (lt_G o L) mm_Model_image 79 lv (.ref 45 :: st) (sx pl kp I A) P ↔ rn (lt_G o L) mm_Model_image 82 lv (.ref 61 :: st) (sx pl kp I A) P := rx_get (h := "") (ci := 10) (k := 26) dq_Model_image_79 (by decide +kernel) ho (up_b (by decide)) rfl rfl (fl_r (by decide) (by decide) (by decide) (by decide))
theorem dq_Model_image_82 : decode (km_c mm_Model_image) 82 = .ok (.iconst 5, 1) := by decide +kernel
theorem sq_Model_image_82 : rn G mm_Model_image 82 lv st S P ↔ rn G mm_Model_image 83 lv (.int (nI 5) :: st) S P := rn_s dq_Model_image_82 rfl rfl rfl
theorem dq_Model_image_83 : decode (km_c mm_Model_image) 83 = .ok (.aload_n 0, 1) := by decide +kernel
theorem sq_Model_image_83 : rn G mm_Model_image 83 [some (.ref z), a1] st S P ↔ rn G mm_Model_image 84 [some (.ref z), a1] (.ref z :: st) S P := rn_s dq_Model_image_83 rfl rfl rfl
theorem dq_Model_image_84 : decode (km_c mm_Model_image) 84 = .ok (.getfield 29, 3) := by decide +kernel
theorem sq_Model_image_84_45 (ho : sx_o o pl kp) : rn (lt_G o L) mm_Model_image 84 lv (.ref 45 :: st) (sx pl kp I A) P ↔ rn (lt_G o L) mm_Model_image 87 lv (.int (I 45 10) :: st) (sx pl kp I A) P := rx_get (h := "") (ci := 10) (k := 10) dq_Model_image_84 (by decide +kernel) ho (up_b (by decide)) rfl rfl (fl_i (by decide))
theorem dq_Model_image_87 : decode (km_c mm_Model_image) 87 = .ok (.iastore, 1) := by decide +kernel
theorem sq_Model_image_87 (ho : sx_o o pl kp) (hk : ak L a = 0) (hu : sx_up pl kp a = true) (hc : c < ln L a) (hn : ln L a < 2 ^ 31) : rn (lt_G o L) mm_Model_image 87 lv (.int x :: .int (nI c) :: .ref a :: st) (sx pl kp I A) P ↔ rn (lt_G o L) mm_Model_image 88 lv st (sx pl kp I (u2 A a c x)) P := rx_ist dq_Model_image_87 ho hk hu hc hn
theorem dq_Model_image_88 : decode (km_c mm_Model_image) 88 = .ok (.aload_n 0, 1) := by decide +kernel
theorem sq_Model_image_88 : rn G mm_Model_image 88 [some (.ref z), a1] st S P ↔ rn G mm_Model_image 89 [some (.ref z), a1] (.ref z :: st) S P := rn_s dq_Model_image_88 rfl rfl rfl
theorem dq_Model_image_89 : decode (km_c mm_Model_image) 89 = .ok (.iconst 1, 1) := by decide +kernel
theorem sq_Model_image_89 : rn G mm_Model_image 89 lv st S P ↔ rn G mm_Model_image 90 lv (.int (nI 1) :: st) S P := rn_s dq_Model_image_89 rfl rfl rfl
theorem dq_Model_image_90 : decode (km_c mm_Model_image) 90 = .ok (.putfield 259, 3) := by decide +kernel
theorem sq_Model_image_90_45 (ho : sx_o o pl kp) (hx : x = 0 ∨ x = 1) : rn (lt_G o L) mm_Model_image 90 lv (.int x :: .ref 45 :: st) (sx pl kp I A) P ↔ rn (lt_G o L) mm_Model_image 93 lv st (sx pl kp (u2 I 45 24 x) A) P := rx_putZ (h := "") (ci := 10) (k := 24) dq_Model_image_90 (by decide +kernel) ho (up_b (by decide)) rfl rfl (by decide) (by decide) hx
theorem dq_Model_image_93 : decode (km_c mm_Model_image) 93 = .ok (.iconst 1, 1) := by decide +kernel
theorem sq_Model_image_93 : rn G mm_Model_image 93 lv st S P ↔ rn G mm_Model_image 94 lv (.int (nI 1) :: st) S P := rn_s dq_Model_image_93 rfl rfl rfl
theorem dq_Model_image_94 : decode (km_c mm_Model_image) 94 = .ok (.ireturn, 1) := by decide +kernel
theorem sq_Model_image_94 : rn G mm_Model_image 94 lv [.int x] S P ↔ P (some (.int x)) S := rn_ir dq_Model_image_94 rfl
end SQ
