section SQ
variable {o pl kp : Bool} {L : Nat} {I A : Nat → Nat → Int32} {G : kg_G} {S : ks_S} {lv : List (Option Value)} {st : List Value} {P : Option Value → ks_S → Prop} {x x2 : Int32} {y y2 : Int64} {z z2 c a : Nat} {a0 a1 a2 a3 a4 a5 a6 a7 a8 a9 a10 a11 a12 a13 a14 a15 a16 a17 a18 a19 a20 a21 a22 a23 : Option Value}
theorem dq_Villages_add_0 : decode (km_c mm_Villages_add) 0 = .ok (.aload_n 0, 1) := by decide +kernel
theorem sq_Villages_add_0 : rn G mm_Villages_add 0 [some (.ref z), a1, a2] st S P ↔ rn G mm_Villages_add 1 [some (.ref z), a1, a2] (.ref z :: st) S P := rn_s dq_Villages_add_0 rfl rfl rfl
theorem dq_Villages_add_1 : decode (km_c mm_Villages_add) 1 = .ok (.getfield 18, 3) := by decide +kernel
theorem sq_Villages_add_1_9 (ho : sx_o o pl kp) : rn (lt_G o L) mm_Villages_add 1 lv (.ref 9 :: st) (sx pl kp I A) P ↔ rn (lt_G o L) mm_Villages_add 4 lv (.int (I 9 2) :: st) (sx pl kp I A) P := rx_get (h := "") (ci := 5) (k := 2) dq_Villages_add_1 (by decide +kernel) ho (up_b (by decide)) rfl rfl (fl_i (by decide))
theorem sq_Villages_add_1_42 (ho : sx_o o pl kp) : rn (lt_G o L) mm_Villages_add 1 lv (.ref 42 :: st) (sx pl kp I A) P ↔ rn (lt_G o L) mm_Villages_add 4 lv (.int (I 42 2) :: st) (sx pl kp I A) P := rx_get (h := "") (ci := 5) (k := 2) dq_Villages_add_1 (by decide +kernel) ho (up_b (by decide)) rfl rfl (fl_i (by decide))
theorem sq_Villages_add_1_144 (ho : sx_o o pl true) : rn (lt_G o L) mm_Villages_add 1 lv (.ref 144 :: st) (sx pl true I A) P ↔ rn (lt_G o L) mm_Villages_add 4 lv (.int (I 144 2) :: st) (sx pl true I A) P := rx_get (h := "") (ci := 5) (k := 2) dq_Villages_add_1 (by decide +kernel) ho (up_k (by decide) (by decide)) rfl rfl (fl_i (by decide))
theorem dq_Villages_add_4 : decode (km_c mm_Villages_add) 4 = .ok (.bipush 6, 2) := by decide +kernel
theorem sq_Villages_add_4 : rn G mm_Villages_add 4 lv st S P ↔ rn G mm_Villages_add 6 lv (.int (nI 6) :: st) S P := rn_s dq_Villages_add_4 rfl rfl rfl
theorem dq_Villages_add_6 : decode (km_c mm_Villages_add) 6 = .ok (.if_icmp .lt 6, 3) := by decide +kernel
theorem sq_Villages_add_6 : rn G mm_Villages_add 6 lv (.int x2 :: .int x :: st) S P ↔ ((x < x2 → rn G mm_Villages_add 12 lv st S P) ∧ (¬ (x < x2) → rn G mm_Villages_add 9 lv st S P)) := rn_b (off := 6) dq_Villages_add_6 rfl rfl rfl rfl
theorem dq_Villages_add_9 : decode (km_c mm_Villages_add) 9 = .ok (.bipush (-3), 2) := by decide +kernel
theorem sq_Villages_add_9 : rn G mm_Villages_add 9 lv st S P ↔ rn G mm_Villages_add 11 lv (.int ((-3)) :: st) S P := rn_s dq_Villages_add_9 rfl rfl rfl
theorem dq_Villages_add_11 : decode (km_c mm_Villages_add) 11 = .ok (.ireturn, 1) := by decide +kernel
theorem sq_Villages_add_11 : rn G mm_Villages_add 11 lv [.int x] S P ↔ P (some (.int x)) S := rn_ir dq_Villages_add_11 rfl
theorem dq_Villages_add_12 : decode (km_c mm_Villages_add) 12 = .ok (.aload_n 0, 1) := by decide +kernel
theorem sq_Villages_add_12 : rn G mm_Villages_add 12 [some (.ref z), a1, a2] st S P ↔ rn G mm_Villages_add 13 [some (.ref z), a1, a2] (.ref z :: st) S P := rn_s dq_Villages_add_12 rfl rfl rfl
theorem dq_Villages_add_13 : decode (km_c mm_Villages_add) 13 = .ok (.getfield 9, 3) := by decide +kernel
theorem sq_Villages_add_13_9 (ho : sx_o o pl kp) : rn (lt_G o L) mm_Villages_add 13 lv (.ref 9 :: st) (sx pl kp I A) P ↔ rn (lt_G o L) mm_Villages_add 16 lv (.ref 10 :: st) (sx pl kp I A) P := rx_get (h := "") (ci := 5) (k := 0) dq_Villages_add_13 (by decide +kernel) ho (up_b (by decide)) rfl rfl (fl_r (by decide) (by decide) (by decide) (by decide))
theorem sq_Villages_add_13_42 (ho : sx_o o pl kp) : rn (lt_G o L) mm_Villages_add 13 lv (.ref 42 :: st) (sx pl kp I A) P ↔ rn (lt_G o L) mm_Villages_add 16 lv (.ref 43 :: st) (sx pl kp I A) P := rx_get (h := "") (ci := 5) (k := 0) dq_Villages_add_13 (by decide +kernel) ho (up_b (by decide)) rfl rfl (fl_r (by decide) (by decide) (by decide) (by decide))
theorem sq_Villages_add_13_144 (ho : sx_o o pl true) : rn (lt_G o L) mm_Villages_add 13 lv (.ref 144 :: st) (sx pl true I A) P ↔ rn (lt_G o L) mm_Villages_add 16 lv (.ref 145 :: st) (sx pl true I A) P := rx_get (h := "") (ci := 5) (k := 0) dq_Villages_add_13 (by decide +kernel) ho (up_k (by decide) (by decide)) rfl rfl (fl_k (by decide) (by decide))
theorem dq_Villages_add_16 : decode (km_c mm_Villages_add) 16 = .ok (.aload_n 0, 1) := by decide +kernel
theorem sq_Villages_add_16 : rn G mm_Villages_add 16 [some (.ref z), a1, a2] st S P ↔ rn G mm_Villages_add 17 [some (.ref z), a1, a2] (.ref z :: st) S P := rn_s dq_Villages_add_16 rfl rfl rfl
theorem dq_Villages_add_17 : decode (km_c mm_Villages_add) 17 = .ok (.getfield 18, 3) := by decide +kernel
theorem sq_Villages_add_17_9 (ho : sx_o o pl kp) : rn (lt_G o L) mm_Villages_add 17 lv (.ref 9 :: st) (sx pl kp I A) P ↔ rn (lt_G o L) mm_Villages_add 20 lv (.int (I 9 2) :: st) (sx pl kp I A) P := rx_get (h := "") (ci := 5) (k := 2) dq_Villages_add_17 (by decide +kernel) ho (up_b (by decide)) rfl rfl (fl_i (by decide))
theorem sq_Villages_add_17_42 (ho : sx_o o pl kp) : rn (lt_G o L) mm_Villages_add 17 lv (.ref 42 :: st) (sx pl kp I A) P ↔ rn (lt_G o L) mm_Villages_add 20 lv (.int (I 42 2) :: st) (sx pl kp I A) P := rx_get (h := "") (ci := 5) (k := 2) dq_Villages_add_17 (by decide +kernel) ho (up_b (by decide)) rfl rfl (fl_i (by decide))
theorem sq_Villages_add_17_144 (ho : sx_o o pl true) : rn (lt_G o L) mm_Villages_add 17 lv (.ref 144 :: st) (sx pl true I A) P ↔ rn (lt_G o L) mm_Villages_add 20 lv (.int (I 144 2) :: st) (sx pl true I A) P := rx_get (h := "") (ci := 5) (k := 2) dq_Villages_add_17 (by decide +kernel) ho (up_k (by decide) (by decide)) rfl rfl (fl_i (by decide))
theorem dq_Villages_add_20 : decode (km_c mm_Villages_add) 20 = .ok (.iload_n 1, 1) := by decide +kernel
theorem sq_Villages_add_20 : rn G mm_Villages_add 20 [a0, some (.int x), a2] st S P ↔ rn G mm_Villages_add 21 [a0, some (.int x), a2] (.int x :: st) S P := rn_s dq_Villages_add_20 rfl rfl rfl
theorem dq_Villages_add_21 : decode (km_c mm_Villages_add) 21 = .ok (.iastore, 1) := by decide +kernel
theorem sq_Villages_add_21 (ho : sx_o o pl kp) (hk : ak L a = 0) (hu : sx_up pl kp a = true) (hc : c < ln L a) (hn : ln L a < 2 ^ 31) : rn (lt_G o L) mm_Villages_add 21 lv (.int x :: .int (nI c) :: .ref a :: st) (sx pl kp I A) P ↔ rn (lt_G o L) mm_Villages_add 22 lv st (sx pl kp I (u2 A a c x)) P := rx_ist dq_Villages_add_21 ho hk hu hc hn
theorem dq_Villages_add_22 : decode (km_c mm_Villages_add) 22 = .ok (.aload_n 0, 1) := by decide +kernel
theorem sq_Villages_add_22 : rn G mm_Villages_add 22 [some (.ref z), a1, a2] st S P ↔ rn G mm_Villages_add 23 [some (.ref z), a1, a2] (.ref z :: st) S P := rn_s dq_Villages_add_22 rfl rfl rfl
theorem dq_Villages_add_23 : decode (km_c mm_Villages_add) 23 = .ok (.getfield 15, 3) := by decide +kernel
theorem sq_Villages_add_23_9 (ho : sx_o o pl kp) : rn (lt_G o L) mm_Villages_add 23 lv (.ref 9 :: st) (sx pl kp I A) P ↔ rn (lt_G o L) mm_Villages_add 26 lv (.ref 11 :: st) (sx pl kp I A) P := rx_get (h := "") (ci := 5) (k := 1) dq_Villages_add_23 (by decide +kernel) ho (up_b (by decide)) rfl rfl (fl_r (by decide) (by decide) (by decide) (by decide))
theorem sq_Villages_add_23_42 (ho : sx_o o pl kp) : rn (lt_G o L) mm_Villages_add 23 lv (.ref 42 :: st) (sx pl kp I A) P ↔ rn (lt_G o L) mm_Villages_add 26 lv (.ref 44 :: st) (sx pl kp I A) P := rx_get (h := "") (ci := 5) (k := 1) dq_Villages_add_23 (by decide +kernel) ho (up_b (by decide)) rfl rfl (fl_r (by decide) (by decide) (by decide) (by decide))
theorem sq_Villages_add_23_144 (ho : sx_o o pl true) : rn (lt_G o L) mm_Villages_add 23 lv (.ref 144 :: st) (sx pl true I A) P ↔ rn (lt_G o L) mm_Villages_add 26 lv (.ref 146 :: st) (sx pl true I A) P := rx_get (h := "") (ci := 5) (k := 1) dq_Villages_add_23 (by decide +kernel) ho (up_k (by decide) (by decide)) rfl rfl (fl_k (by decide) (by decide))
theorem dq_Villages_add_26 : decode (km_c mm_Villages_add) 26 = .ok (.aload_n 0, 1) := by decide +kernel
theorem sq_Villages_add_26 : rn G mm_Villages_add 26 [some (.ref z), a1, a2] st S P ↔ rn G mm_Villages_add 27 [some (.ref z), a1, a2] (.ref z :: st) S P := rn_s dq_Villages_add_26 rfl rfl rfl
theorem dq_Villages_add_27 : decode (km_c mm_Villages_add) 27 = .ok (.getfield 18, 3) := by decide +kernel
theorem sq_Villages_add_27_9 (ho : sx_o o pl kp) : rn (lt_G o L) mm_Villages_add 27 lv (.ref 9 :: st) (sx pl kp I A) P ↔ rn (lt_G o L) mm_Villages_add 30 lv (.int (I 9 2) :: st) (sx pl kp I A) P := rx_get (h := "") (ci := 5) (k := 2) dq_Villages_add_27 (by decide +kernel) ho (up_b (by decide)) rfl rfl (fl_i (by decide))
theorem sq_Villages_add_27_42 (ho : sx_o o pl kp) : rn (lt_G o L) mm_Villages_add 27 lv (.ref 42 :: st) (sx pl kp I A) P ↔ rn (lt_G o L) mm_Villages_add 30 lv (.int (I 42 2) :: st) (sx pl kp I A) P := rx_get (h := "") (ci := 5) (k := 2) dq_Villages_add_27 (by decide +kernel) ho (up_b (by decide)) rfl rfl (fl_i (by decide))
theorem sq_Villages_add_27_144 (ho : sx_o o pl true) : rn (lt_G o L) mm_Villages_add 27 lv (.ref 144 :: st) (sx pl true I A) P ↔ rn (lt_G o L) mm_Villages_add 30 lv (.int (I 144 2) :: st) (sx pl true I A) P := rx_get (h := "") (ci := 5) (k := 2) dq_Villages_add_27 (by decide +kernel) ho (up_k (by decide) (by decide)) rfl rfl (fl_i (by decide))
theorem dq_Villages_add_30 : decode (km_c mm_Villages_add) 30 = .ok (.iload_n 2, 1) := by decide +kernel
theorem sq_Villages_add_30 : rn G mm_Villages_add 30 [a0, a1, some (.int x)] st S P ↔ rn G mm_Villages_add 31 [a0, a1, some (.int x)] (.int x :: st) S P := rn_s dq_Villages_add_30 rfl rfl rfl
theorem dq_Villages_add_31 : decode (km_c mm_Villages_add) 31 = .ok (.iastore, 1) := by decide +kernel
theorem sq_Villages_add_31 (ho : sx_o o pl kp) (hk : ak L a = 0) (hu : sx_up pl kp a = true) (hc : c < ln L a) (hn : ln L a < 2 ^ 31) : rn (lt_G o L) mm_Villages_add 31 lv (.int x :: .int (nI c) :: .ref a :: st) (sx pl kp I A) P ↔ rn (lt_G o L) mm_Villages_add 32 lv st (sx pl kp I (u2 A a c x)) P := rx_ist dq_Villages_add_31 ho hk hu hc hn
theorem dq_Villages_add_32 : decode (km_c mm_Villages_add) 32 = .ok (.aload_n 0, 1) := by decide +kernel
theorem sq_Villages_add_32 : rn G mm_Villages_add 32 [some (.ref z), a1, a2] st S P ↔ rn G mm_Villages_add 33 [some (.ref z), a1, a2] (.ref z :: st) S P := rn_s dq_Villages_add_32 rfl rfl rfl
theorem dq_Villages_add_33 : decode (km_c mm_Villages_add) 33 = .ok (.dup, 1) := by decide +kernel
theorem sq_Villages_add_33i : rn G mm_Villages_add 33 lv (.int x :: st) S P ↔ rn G mm_Villages_add 34 lv (.int x :: .int x :: st) S P := rn_s dq_Villages_add_33 rfl rfl rfl
theorem sq_Villages_add_33r : rn G mm_Villages_add 33 lv (.ref z :: st) S P ↔ rn G mm_Villages_add 34 lv (.ref z :: .ref z :: st) S P := rn_s dq_Villages_add_33 rfl rfl rfl
theorem dq_Villages_add_34 : decode (km_c mm_Villages_add) 34 = .ok (.getfield 18, 3) := by decide +kernel
theorem sq_Villages_add_34_9 (ho : sx_o o pl kp) : rn (lt_G o L) mm_Villages_add 34 lv (.ref 9 :: st) (sx pl kp I A) P ↔ rn (lt_G o L) mm_Villages_add 37 lv (.int (I 9 2) :: st) (sx pl kp I A) P := rx_get (h := "") (ci := 5) (k := 2) dq_Villages_add_34 (by decide +kernel) ho (up_b (by decide)) rfl rfl (fl_i (by decide))
theorem sq_Villages_add_34_42 (ho : sx_o o pl kp) : rn (lt_G o L) mm_Villages_add 34 lv (.ref 42 :: st) (sx pl kp I A) P ↔ rn (lt_G o L) mm_Villages_add 37 lv (.int (I 42 2) :: st) (sx pl kp I A) P := rx_get (h := "") (ci := 5) (k := 2) dq_Villages_add_34 (by decide +kernel) ho (up_b (by decide)) rfl rfl (fl_i (by decide))
theorem sq_Villages_add_34_144 (ho : sx_o o pl true) : rn (lt_G o L) mm_Villages_add 34 lv (.ref 144 :: st) (sx pl true I A) P ↔ rn (lt_G o L) mm_Villages_add 37 lv (.int (I 144 2) :: st) (sx pl true I A) P := rx_get (h := "") (ci := 5) (k := 2) dq_Villages_add_34 (by decide +kernel) ho (up_k (by decide) (by decide)) rfl rfl (fl_i (by decide))
theorem dq_Villages_add_37 : decode (km_c mm_Villages_add) 37 = .ok (.iconst 1, 1) := by decide +kernel
theorem sq_Villages_add_37 : rn G mm_Villages_add 37 lv st S P ↔ rn G mm_Villages_add 38 lv (.int (nI 1) :: st) S P := rn_s dq_Villages_add_37 rfl rfl rfl
theorem dq_Villages_add_38 : decode (km_c mm_Villages_add) 38 = .ok (.iadd, 1) := by decide +kernel
theorem sq_Villages_add_38 : rn G mm_Villages_add 38 lv (.int x2 :: .int x :: st) S P ↔ rn G mm_Villages_add 39 lv (.int (x + x2) :: st) S P := rn_s dq_Villages_add_38 rfl rfl rfl
theorem dq_Villages_add_39 : decode (km_c mm_Villages_add) 39 = .ok (.putfield 18, 3) := by decide +kernel
theorem sq_Villages_add_39_9 (ho : sx_o o pl kp) : rn (lt_G o L) mm_Villages_add 39 lv (.int x :: .ref 9 :: st) (sx pl kp I A) P ↔ rn (lt_G o L) mm_Villages_add 42 lv st (sx pl kp (u2 I 9 2 x) A) P := rx_put (h := "") (ci := 5) (k := 2) dq_Villages_add_39 (by decide +kernel) ho (up_b (by decide)) rfl rfl (by decide) (by decide)
theorem sq_Villages_add_39_42 (ho : sx_o o pl kp) : rn (lt_G o L) mm_Villages_add 39 lv (.int x :: .ref 42 :: st) (sx pl kp I A) P ↔ rn (lt_G o L) mm_Villages_add 42 lv st (sx pl kp (u2 I 42 2 x) A) P := rx_put (h := "") (ci := 5) (k := 2) dq_Villages_add_39 (by decide +kernel) ho (up_b (by decide)) rfl rfl (by decide) (by decide)
theorem sq_Villages_add_39_144 (ho : sx_o o pl true) : rn (lt_G o L) mm_Villages_add 39 lv (.int x :: .ref 144 :: st) (sx pl true I A) P ↔ rn (lt_G o L) mm_Villages_add 42 lv st (sx pl true (u2 I 144 2 x) A) P := rx_put (h := "") (ci := 5) (k := 2) dq_Villages_add_39 (by decide +kernel) ho (up_k (by decide) (by decide)) rfl rfl (by decide) (by decide)
theorem dq_Villages_add_42 : decode (km_c mm_Villages_add) 42 = .ok (.aload_n 0, 1) := by decide +kernel
theorem sq_Villages_add_42 : rn G mm_Villages_add 42 [some (.ref z), a1, a2] st S P ↔ rn G mm_Villages_add 43 [some (.ref z), a1, a2] (.ref z :: st) S P := rn_s dq_Villages_add_42 rfl rfl rfl
theorem dq_Villages_add_43 : decode (km_c mm_Villages_add) 43 = .ok (.getfield 18, 3) := by decide +kernel
theorem sq_Villages_add_43_9 (ho : sx_o o pl kp) : rn (lt_G o L) mm_Villages_add 43 lv (.ref 9 :: st) (sx pl kp I A) P ↔ rn (lt_G o L) mm_Villages_add 46 lv (.int (I 9 2) :: st) (sx pl kp I A) P := rx_get (h := "") (ci := 5) (k := 2) dq_Villages_add_43 (by decide +kernel) ho (up_b (by decide)) rfl rfl (fl_i (by decide))
theorem sq_Villages_add_43_42 (ho : sx_o o pl kp) : rn (lt_G o L) mm_Villages_add 43 lv (.ref 42 :: st) (sx pl kp I A) P ↔ rn (lt_G o L) mm_Villages_add 46 lv (.int (I 42 2) :: st) (sx pl kp I A) P := rx_get (h := "") (ci := 5) (k := 2) dq_Villages_add_43 (by decide +kernel) ho (up_b (by decide)) rfl rfl (fl_i (by decide))
theorem sq_Villages_add_43_144 (ho : sx_o o pl true) : rn (lt_G o L) mm_Villages_add 43 lv (.ref 144 :: st) (sx pl true I A) P ↔ rn (lt_G o L) mm_Villages_add 46 lv (.int (I 144 2) :: st) (sx pl true I A) P := rx_get (h := "") (ci := 5) (k := 2) dq_Villages_add_43 (by decide +kernel) ho (up_k (by decide) (by decide)) rfl rfl (fl_i (by decide))
theorem dq_Villages_add_46 : decode (km_c mm_Villages_add) 46 = .ok (.iconst 1, 1) := by decide +kernel
theorem sq_Villages_add_46 : rn G mm_Villages_add 46 lv st S P ↔ rn G mm_Villages_add 47 lv (.int (nI 1) :: st) S P := rn_s dq_Villages_add_46 rfl rfl rfl
theorem dq_Villages_add_47 : decode (km_c mm_Villages_add) 47 = .ok (.isub, 1) := by decide +kernel
theorem sq_Villages_add_47 : rn G mm_Villages_add 47 lv (.int x2 :: .int x :: st) S P ↔ rn G mm_Villages_add 48 lv (.int (x - x2) :: st) S P := rn_s dq_Villages_add_47 rfl rfl rfl
theorem dq_Villages_add_48 : decode (km_c mm_Villages_add) 48 = .ok (.ireturn, 1) := by decide +kernel
theorem sq_Villages_add_48 : rn G mm_Villages_add 48 lv [.int x] S P ↔ P (some (.int x)) S := rn_ir dq_Villages_add_48 rfl
theorem dq_Villages_copy_0 : decode (km_c mm_Villages_copy) 0 = .ok (.aload_n 1, 1) := by decide +kernel
theorem sq_Villages_copy_0 : rn G mm_Villages_copy 0 [a0, some (.ref z)] st S P ↔ rn G mm_Villages_copy 1 [a0, some (.ref z)] (.ref z :: st) S P := rn_s dq_Villages_copy_0 rfl rfl rfl
theorem dq_Villages_copy_1 : decode (km_c mm_Villages_copy) 1 = .ok (.getfield 9, 3) := by decide +kernel
theorem sq_Villages_copy_1_9 (ho : sx_o o pl kp) : rn (lt_G o L) mm_Villages_copy 1 lv (.ref 9 :: st) (sx pl kp I A) P ↔ rn (lt_G o L) mm_Villages_copy 4 lv (.ref 10 :: st) (sx pl kp I A) P := rx_get (h := "") (ci := 5) (k := 0) dq_Villages_copy_1 (by decide +kernel) ho (up_b (by decide)) rfl rfl (fl_r (by decide) (by decide) (by decide) (by decide))
theorem sq_Villages_copy_1_42 (ho : sx_o o pl kp) : rn (lt_G o L) mm_Villages_copy 1 lv (.ref 42 :: st) (sx pl kp I A) P ↔ rn (lt_G o L) mm_Villages_copy 4 lv (.ref 43 :: st) (sx pl kp I A) P := rx_get (h := "") (ci := 5) (k := 0) dq_Villages_copy_1 (by decide +kernel) ho (up_b (by decide)) rfl rfl (fl_r (by decide) (by decide) (by decide) (by decide))
theorem sq_Villages_copy_1_144 (ho : sx_o o pl true) : rn (lt_G o L) mm_Villages_copy 1 lv (.ref 144 :: st) (sx pl true I A) P ↔ rn (lt_G o L) mm_Villages_copy 4 lv (.ref 145 :: st) (sx pl true I A) P := rx_get (h := "") (ci := 5) (k := 0) dq_Villages_copy_1 (by decide +kernel) ho (up_k (by decide) (by decide)) rfl rfl (fl_k (by decide) (by decide))
theorem dq_Villages_copy_4 : decode (km_c mm_Villages_copy) 4 = .ok (.iconst 0, 1) := by decide +kernel
theorem sq_Villages_copy_4 : rn G mm_Villages_copy 4 lv st S P ↔ rn G mm_Villages_copy 5 lv (.int (nI 0) :: st) S P := rn_s dq_Villages_copy_4 rfl rfl rfl
theorem dq_Villages_copy_5 : decode (km_c mm_Villages_copy) 5 = .ok (.aload_n 0, 1) := by decide +kernel
theorem sq_Villages_copy_5 : rn G mm_Villages_copy 5 [some (.ref z), a1] st S P ↔ rn G mm_Villages_copy 6 [some (.ref z), a1] (.ref z :: st) S P := rn_s dq_Villages_copy_5 rfl rfl rfl
theorem dq_Villages_copy_6 : decode (km_c mm_Villages_copy) 6 = .ok (.getfield 9, 3) := by decide +kernel
theorem sq_Villages_copy_6_9 (ho : sx_o o pl kp) : rn (lt_G o L) mm_Villages_copy 6 lv (.ref 9 :: st) (sx pl kp I A) P ↔ rn (lt_G o L) mm_Villages_copy 9 lv (.ref 10 :: st) (sx pl kp I A) P := rx_get (h := "") (ci := 5) (k := 0) dq_Villages_copy_6 (by decide +kernel) ho (up_b (by decide)) rfl rfl (fl_r (by decide) (by decide) (by decide) (by decide))
theorem sq_Villages_copy_6_42 (ho : sx_o o pl kp) : rn (lt_G o L) mm_Villages_copy 6 lv (.ref 42 :: st) (sx pl kp I A) P ↔ rn (lt_G o L) mm_Villages_copy 9 lv (.ref 43 :: st) (sx pl kp I A) P := rx_get (h := "") (ci := 5) (k := 0) dq_Villages_copy_6 (by decide +kernel) ho (up_b (by decide)) rfl rfl (fl_r (by decide) (by decide) (by decide) (by decide))
theorem sq_Villages_copy_6_144 (ho : sx_o o pl true) : rn (lt_G o L) mm_Villages_copy 6 lv (.ref 144 :: st) (sx pl true I A) P ↔ rn (lt_G o L) mm_Villages_copy 9 lv (.ref 145 :: st) (sx pl true I A) P := rx_get (h := "") (ci := 5) (k := 0) dq_Villages_copy_6 (by decide +kernel) ho (up_k (by decide) (by decide)) rfl rfl (fl_k (by decide) (by decide))
theorem dq_Villages_copy_9 : decode (km_c mm_Villages_copy) 9 = .ok (.iconst 0, 1) := by decide +kernel
theorem sq_Villages_copy_9 : rn G mm_Villages_copy 9 lv st S P ↔ rn G mm_Villages_copy 10 lv (.int (nI 0) :: st) S P := rn_s dq_Villages_copy_9 rfl rfl rfl
theorem dq_Villages_copy_10 : decode (km_c mm_Villages_copy) 10 = .ok (.bipush 6, 2) := by decide +kernel
theorem sq_Villages_copy_10 : rn G mm_Villages_copy 10 lv st S P ↔ rn G mm_Villages_copy 12 lv (.int (nI 6) :: st) S P := rn_s dq_Villages_copy_10 rfl rfl rfl
theorem dq_Villages_copy_12 : decode (km_c mm_Villages_copy) 12 = .ok (.invokestatic 22, 3) := by decide +kernel
theorem dq_Villages_copy_15 : decode (km_c mm_Villages_copy) 15 = .ok (.aload_n 1, 1) := by decide +kernel
theorem sq_Villages_copy_15 : rn G mm_Villages_copy 15 [a0, some (.ref z)] st S P ↔ rn G mm_Villages_copy 16 [a0, some (.ref z)] (.ref z :: st) S P := rn_s dq_Villages_copy_15 rfl rfl rfl
theorem dq_Villages_copy_16 : decode (km_c mm_Villages_copy) 16 = .ok (.getfield 15, 3) := by decide +kernel
theorem sq_Villages_copy_16_9 (ho : sx_o o pl kp) : rn (lt_G o L) mm_Villages_copy 16 lv (.ref 9 :: st) (sx pl kp I A) P ↔ rn (lt_G o L) mm_Villages_copy 19 lv (.ref 11 :: st) (sx pl kp I A) P := rx_get (h := "") (ci := 5) (k := 1) dq_Villages_copy_16 (by decide +kernel) ho (up_b (by decide)) rfl rfl (fl_r (by decide) (by decide) (by decide) (by decide))
theorem sq_Villages_copy_16_42 (ho : sx_o o pl kp) : rn (lt_G o L) mm_Villages_copy 16 lv (.ref 42 :: st) (sx pl kp I A) P ↔ rn (lt_G o L) mm_Villages_copy 19 lv (.ref 44 :: st) (sx pl kp I A) P := rx_get (h := "") (ci := 5) (k := 1) dq_Villages_copy_16 (by decide +kernel) ho (up_b (by decide)) rfl rfl (fl_r (by decide) (by decide) (by decide) (by decide))
theorem sq_Villages_copy_16_144 (ho : sx_o o pl true) : rn (lt_G o L) mm_Villages_copy 16 lv (.ref 144 :: st) (sx pl true I A) P ↔ rn (lt_G o L) mm_Villages_copy 19 lv (.ref 146 :: st) (sx pl true I A) P := rx_get (h := "") (ci := 5) (k := 1) dq_Villages_copy_16 (by decide +kernel) ho (up_k (by decide) (by decide)) rfl rfl (fl_k (by decide) (by decide))
theorem dq_Villages_copy_19 : decode (km_c mm_Villages_copy) 19 = .ok (.iconst 0, 1) := by decide +kernel
theorem sq_Villages_copy_19 : rn G mm_Villages_copy 19 lv st S P ↔ rn G mm_Villages_copy 20 lv (.int (nI 0) :: st) S P := rn_s dq_Villages_copy_19 rfl rfl rfl
theorem dq_Villages_copy_20 : decode (km_c mm_Villages_copy) 20 = .ok (.aload_n 0, 1) := by decide +kernel
theorem sq_Villages_copy_20 : rn G mm_Villages_copy 20 [some (.ref z), a1] st S P ↔ rn G mm_Villages_copy 21 [some (.ref z), a1] (.ref z :: st) S P := rn_s dq_Villages_copy_20 rfl rfl rfl
theorem dq_Villages_copy_21 : decode (km_c mm_Villages_copy) 21 = .ok (.getfield 15, 3) := by decide +kernel
theorem sq_Villages_copy_21_9 (ho : sx_o o pl kp) : rn (lt_G o L) mm_Villages_copy 21 lv (.ref 9 :: st) (sx pl kp I A) P ↔ rn (lt_G o L) mm_Villages_copy 24 lv (.ref 11 :: st) (sx pl kp I A) P := rx_get (h := "") (ci := 5) (k := 1) dq_Villages_copy_21 (by decide +kernel) ho (up_b (by decide)) rfl rfl (fl_r (by decide) (by decide) (by decide) (by decide))
theorem sq_Villages_copy_21_42 (ho : sx_o o pl kp) : rn (lt_G o L) mm_Villages_copy 21 lv (.ref 42 :: st) (sx pl kp I A) P ↔ rn (lt_G o L) mm_Villages_copy 24 lv (.ref 44 :: st) (sx pl kp I A) P := rx_get (h := "") (ci := 5) (k := 1) dq_Villages_copy_21 (by decide +kernel) ho (up_b (by decide)) rfl rfl (fl_r (by decide) (by decide) (by decide) (by decide))
theorem sq_Villages_copy_21_144 (ho : sx_o o pl true) : rn (lt_G o L) mm_Villages_copy 21 lv (.ref 144 :: st) (sx pl true I A) P ↔ rn (lt_G o L) mm_Villages_copy 24 lv (.ref 146 :: st) (sx pl true I A) P := rx_get (h := "") (ci := 5) (k := 1) dq_Villages_copy_21 (by decide +kernel) ho (up_k (by decide) (by decide)) rfl rfl (fl_k (by decide) (by decide))
theorem dq_Villages_copy_24 : decode (km_c mm_Villages_copy) 24 = .ok (.iconst 0, 1) := by decide +kernel
theorem sq_Villages_copy_24 : rn G mm_Villages_copy 24 lv st S P ↔ rn G mm_Villages_copy 25 lv (.int (nI 0) :: st) S P := rn_s dq_Villages_copy_24 rfl rfl rfl
theorem dq_Villages_copy_25 : decode (km_c mm_Villages_copy) 25 = .ok (.bipush 6, 2) := by decide +kernel
theorem sq_Villages_copy_25 : rn G mm_Villages_copy 25 lv st S P ↔ rn G mm_Villages_copy 27 lv (.int (nI 6) :: st) S P := rn_s dq_Villages_copy_25 rfl rfl rfl
theorem dq_Villages_copy_27 : decode (km_c mm_Villages_copy) 27 = .ok (.invokestatic 22, 3) := by decide +kernel
theorem dq_Villages_copy_30 : decode (km_c mm_Villages_copy) 30 = .ok (.aload_n 0, 1) := by decide +kernel
theorem sq_Villages_copy_30 : rn G mm_Villages_copy 30 [some (.ref z), a1] st S P ↔ rn G mm_Villages_copy 31 [some (.ref z), a1] (.ref z :: st) S P := rn_s dq_Villages_copy_30 rfl rfl rfl
theorem dq_Villages_copy_31 : decode (km_c mm_Villages_copy) 31 = .ok (.aload_n 1, 1) := by decide +kernel
theorem sq_Villages_copy_31 : rn G mm_Villages_copy 31 [a0, some (.ref z)] st S P ↔ rn G mm_Villages_copy 32 [a0, some (.ref z)] (.ref z :: st) S P := rn_s dq_Villages_copy_31 rfl rfl rfl
theorem dq_Villages_copy_32 : decode (km_c mm_Villages_copy) 32 = .ok (.getfield 18, 3) := by decide +kernel
theorem sq_Villages_copy_32_9 (ho : sx_o o pl kp) : rn (lt_G o L) mm_Villages_copy 32 lv (.ref 9 :: st) (sx pl kp I A) P ↔ rn (lt_G o L) mm_Villages_copy 35 lv (.int (I 9 2) :: st) (sx pl kp I A) P := rx_get (h := "") (ci := 5) (k := 2) dq_Villages_copy_32 (by decide +kernel) ho (up_b (by decide)) rfl rfl (fl_i (by decide))
theorem sq_Villages_copy_32_42 (ho : sx_o o pl kp) : rn (lt_G o L) mm_Villages_copy 32 lv (.ref 42 :: st) (sx pl kp I A) P ↔ rn (lt_G o L) mm_Villages_copy 35 lv (.int (I 42 2) :: st) (sx pl kp I A) P := rx_get (h := "") (ci := 5) (k := 2) dq_Villages_copy_32 (by decide +kernel) ho (up_b (by decide)) rfl rfl (fl_i (by decide))
theorem sq_Villages_copy_32_144 (ho : sx_o o pl true) : rn (lt_G o L) mm_Villages_copy 32 lv (.ref 144 :: st) (sx pl true I A) P ↔ rn (lt_G o L) mm_Villages_copy 35 lv (.int (I 144 2) :: st) (sx pl true I A) P := rx_get (h := "") (ci := 5) (k := 2) dq_Villages_copy_32 (by decide +kernel) ho (up_k (by decide) (by decide)) rfl rfl (fl_i (by decide))
theorem dq_Villages_copy_35 : decode (km_c mm_Villages_copy) 35 = .ok (.putfield 18, 3) := by decide +kernel
theorem sq_Villages_copy_35_9 (ho : sx_o o pl kp) : rn (lt_G o L) mm_Villages_copy 35 lv (.int x :: .ref 9 :: st) (sx pl kp I A) P ↔ rn (lt_G o L) mm_Villages_copy 38 lv st (sx pl kp (u2 I 9 2 x) A) P := rx_put (h := "") (ci := 5) (k := 2) dq_Villages_copy_35 (by decide +kernel) ho (up_b (by decide)) rfl rfl (by decide) (by decide)
theorem sq_Villages_copy_35_42 (ho : sx_o o pl kp) : rn (lt_G o L) mm_Villages_copy 35 lv (.int x :: .ref 42 :: st) (sx pl kp I A) P ↔ rn (lt_G o L) mm_Villages_copy 38 lv st (sx pl kp (u2 I 42 2 x) A) P := rx_put (h := "") (ci := 5) (k := 2) dq_Villages_copy_35 (by decide +kernel) ho (up_b (by decide)) rfl rfl (by decide) (by decide)
theorem sq_Villages_copy_35_144 (ho : sx_o o pl true) : rn (lt_G o L) mm_Villages_copy 35 lv (.int x :: .ref 144 :: st) (sx pl true I A) P ↔ rn (lt_G o L) mm_Villages_copy 38 lv st (sx pl true (u2 I 144 2 x) A) P := rx_put (h := "") (ci := 5) (k := 2) dq_Villages_copy_35 (by decide +kernel) ho (up_k (by decide) (by decide)) rfl rfl (by decide) (by decide)
theorem dq_Villages_copy_38 : decode (km_c mm_Villages_copy) 38 = .ok (.return_, 1) := by decide +kernel
theorem sq_Villages_copy_38 : rn G mm_Villages_copy 38 lv [] S P ↔ P none S := rn_vr dq_Villages_copy_38 rfl
theorem dq_Villages_sets_0 : decode (km_c mm_Villages_sets) 0 = .ok (.iconst 1, 1) := by decide +kernel
theorem sq_Villages_sets_0 : rn G mm_Villages_sets 0 lv st S P ↔ rn G mm_Villages_sets 1 lv (.int (nI 1) :: st) S P := rn_s dq_Villages_sets_0 rfl rfl rfl
theorem dq_Villages_sets_1 : decode (km_c mm_Villages_sets) 1 = .ok (.aload_n 0, 1) := by decide +kernel
theorem sq_Villages_sets_1 : rn G mm_Villages_sets 1 [some (.ref z)] st S P ↔ rn G mm_Villages_sets 2 [some (.ref z)] (.ref z :: st) S P := rn_s dq_Villages_sets_1 rfl rfl rfl
theorem dq_Villages_sets_2 : decode (km_c mm_Villages_sets) 2 = .ok (.getfield 18, 3) := by decide +kernel
theorem sq_Villages_sets_2_9 (ho : sx_o o pl kp) : rn (lt_G o L) mm_Villages_sets 2 lv (.ref 9 :: st) (sx pl kp I A) P ↔ rn (lt_G o L) mm_Villages_sets 5 lv (.int (I 9 2) :: st) (sx pl kp I A) P := rx_get (h := "") (ci := 5) (k := 2) dq_Villages_sets_2 (by decide +kernel) ho (up_b (by decide)) rfl rfl (fl_i (by decide))
theorem sq_Villages_sets_2_42 (ho : sx_o o pl kp) : rn (lt_G o L) mm_Villages_sets 2 lv (.ref 42 :: st) (sx pl kp I A) P ↔ rn (lt_G o L) mm_Villages_sets 5 lv (.int (I 42 2) :: st) (sx pl kp I A) P := rx_get (h := "") (ci := 5) (k := 2) dq_Villages_sets_2 (by decide +kernel) ho (up_b (by decide)) rfl rfl (fl_i (by decide))
theorem sq_Villages_sets_2_144 (ho : sx_o o pl true) : rn (lt_G o L) mm_Villages_sets 2 lv (.ref 144 :: st) (sx pl true I A) P ↔ rn (lt_G o L) mm_Villages_sets 5 lv (.int (I 144 2) :: st) (sx pl true I A) P := rx_get (h := "") (ci := 5) (k := 2) dq_Villages_sets_2 (by decide +kernel) ho (up_k (by decide) (by decide)) rfl rfl (fl_i (by decide))
theorem dq_Villages_sets_5 : decode (km_c mm_Villages_sets) 5 = .ok (.ishl, 1) := by decide +kernel
theorem sq_Villages_sets_5 : rn G mm_Villages_sets 5 lv (.int x2 :: .int x :: st) S P ↔ rn G mm_Villages_sets 6 lv (.int (x <<< (x2 &&& 31)) :: st) S P := rn_s dq_Villages_sets_5 rfl rfl rfl
theorem dq_Villages_sets_6 : decode (km_c mm_Villages_sets) 6 = .ok (.ireturn, 1) := by decide +kernel
theorem sq_Villages_sets_6 : rn G mm_Villages_sets 6 lv [.int x] S P ↔ P (some (.int x)) S := rn_ir dq_Villages_sets_6 rfl
theorem dq_Villages_servedFrom_0 : decode (km_c mm_Villages_servedFrom) 0 = .ok (.iconst 0, 1) := by decide +kernel
theorem sq_Villages_servedFrom_0 : rn G mm_Villages_servedFrom 0 lv st S P ↔ rn G mm_Villages_servedFrom 1 lv (.int (nI 0) :: st) S P := rn_s dq_Villages_servedFrom_0 rfl rfl rfl
theorem dq_Villages_servedFrom_1 : decode (km_c mm_Villages_servedFrom) 1 = .ok (.istore_n 2, 1) := by decide +kernel
theorem sq_Villages_servedFrom_1n : rn G mm_Villages_servedFrom 1 [a0, none, a2, a3, a4, a5] (.int x :: st) S P ↔ rn G mm_Villages_servedFrom 2 [a0, none, some (.int x), a3, a4, a5] st S P := rn_s dq_Villages_servedFrom_1 rfl rfl rfl
theorem sq_Villages_servedFrom_1i : rn G mm_Villages_servedFrom 1 [a0, some (.int x2), a2, a3, a4, a5] (.int x :: st) S P ↔ rn G mm_Villages_servedFrom 2 [a0, some (.int x2), some (.int x), a3, a4, a5] st S P := rn_s dq_Villages_servedFrom_1 rfl rfl rfl
theorem sq_Villages_servedFrom_1r : rn G mm_Villages_servedFrom 1 [a0, some (.ref z2), a2, a3, a4, a5] (.int x :: st) S P ↔ rn G mm_Villages_servedFrom 2 [a0, some (.ref z2), some (.int x), a3, a4, a5] st S P := rn_s dq_Villages_servedFrom_1 rfl rfl rfl
theorem dq_Villages_servedFrom_2 : decode (km_c mm_Villages_servedFrom) 2 = .ok (.iconst 0, 1) := by decide +kernel
theorem sq_Villages_servedFrom_2 : rn G mm_Villages_servedFrom 2 lv st S P ↔ rn G mm_Villages_servedFrom 3 lv (.int (nI 0) :: st) S P := rn_s dq_Villages_servedFrom_2 rfl rfl rfl
theorem dq_Villages_servedFrom_3 : decode (km_c mm_Villages_servedFrom) 3 = .ok (.istore_n 3, 1) := by decide +kernel
theorem sq_Villages_servedFrom_3n : rn G mm_Villages_servedFrom 3 [a0, a1, none, a3, a4, a5] (.int x :: st) S P ↔ rn G mm_Villages_servedFrom 4 [a0, a1, none, some (.int x), a4, a5] st S P := rn_s dq_Villages_servedFrom_3 rfl rfl rfl
theorem sq_Villages_servedFrom_3i : rn G mm_Villages_servedFrom 3 [a0, a1, some (.int x2), a3, a4, a5] (.int x :: st) S P ↔ rn G mm_Villages_servedFrom 4 [a0, a1, some (.int x2), some (.int x), a4, a5] st S P := rn_s dq_Villages_servedFrom_3 rfl rfl rfl
theorem sq_Villages_servedFrom_3r : rn G mm_Villages_servedFrom 3 [a0, a1, some (.ref z2), a3, a4, a5] (.int x :: st) S P ↔ rn G mm_Villages_servedFrom 4 [a0, a1, some (.ref z2), some (.int x), a4, a5] st S P := rn_s dq_Villages_servedFrom_3 rfl rfl rfl
theorem dq_Villages_servedFrom_4 : decode (km_c mm_Villages_servedFrom) 4 = .ok (.iload_n 3, 1) := by decide +kernel
theorem sq_Villages_servedFrom_4 : rn G mm_Villages_servedFrom 4 [a0, a1, a2, some (.int x), a4, a5] st S P ↔ rn G mm_Villages_servedFrom 5 [a0, a1, a2, some (.int x), a4, a5] (.int x :: st) S P := rn_s dq_Villages_servedFrom_4 rfl rfl rfl
theorem dq_Villages_servedFrom_5 : decode (km_c mm_Villages_servedFrom) 5 = .ok (.aload_n 0, 1) := by decide +kernel
theorem sq_Villages_servedFrom_5 : rn G mm_Villages_servedFrom 5 [some (.ref z), a1, a2, a3, a4, a5] st S P ↔ rn G mm_Villages_servedFrom 6 [some (.ref z), a1, a2, a3, a4, a5] (.ref z :: st) S P := rn_s dq_Villages_servedFrom_5 rfl rfl rfl
theorem dq_Villages_servedFrom_6 : decode (km_c mm_Villages_servedFrom) 6 = .ok (.getfield 18, 3) := by decide +kernel
theorem sq_Villages_servedFrom_6_9 (ho : sx_o o pl kp) : rn (lt_G o L) mm_Villages_servedFrom 6 lv (.ref 9 :: st) (sx pl kp I A) P ↔ rn (lt_G o L) mm_Villages_servedFrom 9 lv (.int (I 9 2) :: st) (sx pl kp I A) P := rx_get (h := "") (ci := 5) (k := 2) dq_Villages_servedFrom_6 (by decide +kernel) ho (up_b (by decide)) rfl rfl (fl_i (by decide))
theorem sq_Villages_servedFrom_6_42 (ho : sx_o o pl kp) : rn (lt_G o L) mm_Villages_servedFrom 6 lv (.ref 42 :: st) (sx pl kp I A) P ↔ rn (lt_G o L) mm_Villages_servedFrom 9 lv (.int (I 42 2) :: st) (sx pl kp I A) P := rx_get (h := "") (ci := 5) (k := 2) dq_Villages_servedFrom_6 (by decide +kernel) ho (up_b (by decide)) rfl rfl (fl_i (by decide))
theorem sq_Villages_servedFrom_6_144 (ho : sx_o o pl true) : rn (lt_G o L) mm_Villages_servedFrom 6 lv (.ref 144 :: st) (sx pl true I A) P ↔ rn (lt_G o L) mm_Villages_servedFrom 9 lv (.int (I 144 2) :: st) (sx pl true I A) P := rx_get (h := "") (ci := 5) (k := 2) dq_Villages_servedFrom_6 (by decide +kernel) ho (up_k (by decide) (by decide)) rfl rfl (fl_i (by decide))
theorem dq_Villages_servedFrom_9 : decode (km_c mm_Villages_servedFrom) 9 = .ok (.if_icmp .ge 64, 3) := by decide +kernel
theorem sq_Villages_servedFrom_9 : rn G mm_Villages_servedFrom 9 lv (.int x2 :: .int x :: st) S P ↔ ((x2 ≤ x → rn G mm_Villages_servedFrom 73 lv st S P) ∧ (¬ (x2 ≤ x) → rn G mm_Villages_servedFrom 12 lv st S P)) := rn_b (off := 64) dq_Villages_servedFrom_9 rfl rfl rfl rfl
theorem dq_Villages_servedFrom_12 : decode (km_c mm_Villages_servedFrom) 12 = .ok (.aload_n 0, 1) := by decide +kernel
theorem sq_Villages_servedFrom_12 : rn G mm_Villages_servedFrom 12 [some (.ref z), a1, a2, a3, a4, a5] st S P ↔ rn G mm_Villages_servedFrom 13 [some (.ref z), a1, a2, a3, a4, a5] (.ref z :: st) S P := rn_s dq_Villages_servedFrom_12 rfl rfl rfl
theorem dq_Villages_servedFrom_13 : decode (km_c mm_Villages_servedFrom) 13 = .ok (.getfield 9, 3) := by decide +kernel
theorem sq_Villages_servedFrom_13_9 (ho : sx_o o pl kp) : rn (lt_G o L) mm_Villages_servedFrom 13 lv (.ref 9 :: st) (sx pl kp I A) P ↔ rn (lt_G o L) mm_Villages_servedFrom 16 lv (.ref 10 :: st) (sx pl kp I A) P := rx_get (h := "") (ci := 5) (k := 0) dq_Villages_servedFrom_13 (by decide +kernel) ho (up_b (by decide)) rfl rfl (fl_r (by decide) (by decide) (by decide) (by decide))
theorem sq_Villages_servedFrom_13_42 (ho : sx_o o pl kp) : rn (lt_G o L) mm_Villages_servedFrom 13 lv (.ref 42 :: st) (sx pl kp I A) P ↔ rn (lt_G o L) mm_Villages_servedFrom 16 lv (.ref 43 :: st) (sx pl kp I A) P := rx_get (h := "") (ci := 5) (k := 0) dq_Villages_servedFrom_13 (by decide +kernel) ho (up_b (by decide)) rfl rfl (fl_r (by decide) (by decide) (by decide) (by decide))
theorem sq_Villages_servedFrom_13_144 (ho : sx_o o pl true) : rn (lt_G o L) mm_Villages_servedFrom 13 lv (.ref 144 :: st) (sx pl true I A) P ↔ rn (lt_G o L) mm_Villages_servedFrom 16 lv (.ref 145 :: st) (sx pl true I A) P := rx_get (h := "") (ci := 5) (k := 0) dq_Villages_servedFrom_13 (by decide +kernel) ho (up_k (by decide) (by decide)) rfl rfl (fl_k (by decide) (by decide))
theorem dq_Villages_servedFrom_16 : decode (km_c mm_Villages_servedFrom) 16 = .ok (.iload_n 3, 1) := by decide +kernel
theorem sq_Villages_servedFrom_16 : rn G mm_Villages_servedFrom 16 [a0, a1, a2, some (.int x), a4, a5] st S P ↔ rn G mm_Villages_servedFrom 17 [a0, a1, a2, some (.int x), a4, a5] (.int x :: st) S P := rn_s dq_Villages_servedFrom_16 rfl rfl rfl
theorem dq_Villages_servedFrom_17 : decode (km_c mm_Villages_servedFrom) 17 = .ok (.iaload, 1) := by decide +kernel
theorem sq_Villages_servedFrom_17 (ho : sx_o o pl kp) (hk : ak L a = 0) (hu : sx_up pl kp a = true ∨ 1000 ≤ a) (hc : c < ln L a) (hn : ln L a < 2 ^ 31) : rn (lt_G o L) mm_Villages_servedFrom 17 lv (.int (nI c) :: .ref a :: st) (sx pl kp I A) P ↔ rn (lt_G o L) mm_Villages_servedFrom 18 lv (.int (A a c) :: st) (sx pl kp I A) P := rx_ild dq_Villages_servedFrom_17 ho hk hu hc hn
theorem dq_Villages_servedFrom_18 : decode (km_c mm_Villages_servedFrom) 18 = .ok (.bipush 7, 2) := by decide +kernel
theorem sq_Villages_servedFrom_18 : rn G mm_Villages_servedFrom 18 lv st S P ↔ rn G mm_Villages_servedFrom 20 lv (.int (nI 7) :: st) S P := rn_s dq_Villages_servedFrom_18 rfl rfl rfl
theorem dq_Villages_servedFrom_20 : decode (km_c mm_Villages_servedFrom) 20 = .ok (.idiv, 1) := by decide +kernel
theorem sq_Villages_servedFrom_20 (hz : ¬ x2 = 0) : rn G mm_Villages_servedFrom 20 lv (.int x2 :: .int x :: st) S P ↔ rn G mm_Villages_servedFrom 21 lv (.int (x / x2) :: st) S P := rn_s dq_Villages_servedFrom_20 rfl rfl (if_neg hz)
theorem dq_Villages_servedFrom_21 : decode (km_c mm_Villages_servedFrom) 21 = .ok (.iload_n 1, 1) := by decide +kernel
theorem sq_Villages_servedFrom_21 : rn G mm_Villages_servedFrom 21 [a0, some (.int x), a2, a3, a4, a5] st S P ↔ rn G mm_Villages_servedFrom 22 [a0, some (.int x), a2, a3, a4, a5] (.int x :: st) S P := rn_s dq_Villages_servedFrom_21 rfl rfl rfl
theorem dq_Villages_servedFrom_22 : decode (km_c mm_Villages_servedFrom) 22 = .ok (.bipush 7, 2) := by decide +kernel
theorem sq_Villages_servedFrom_22 : rn G mm_Villages_servedFrom 22 lv st S P ↔ rn G mm_Villages_servedFrom 24 lv (.int (nI 7) :: st) S P := rn_s dq_Villages_servedFrom_22 rfl rfl rfl
theorem dq_Villages_servedFrom_24 : decode (km_c mm_Villages_servedFrom) 24 = .ok (.idiv, 1) := by decide +kernel
theorem sq_Villages_servedFrom_24 (hz : ¬ x2 = 0) : rn G mm_Villages_servedFrom 24 lv (.int x2 :: .int x :: st) S P ↔ rn G mm_Villages_servedFrom 25 lv (.int (x / x2) :: st) S P := rn_s dq_Villages_servedFrom_24 rfl rfl (if_neg hz)
theorem dq_Villages_servedFrom_25 : decode (km_c mm_Villages_servedFrom) 25 = .ok (.isub, 1) := by decide +kernel
theorem sq_Villages_servedFrom_25 : rn G mm_Villages_servedFrom 25 lv (.int x2 :: .int x :: st) S P ↔ rn G mm_Villages_servedFrom 26 lv (.int (x - x2) :: st) S P := rn_s dq_Villages_servedFrom_25 rfl rfl rfl
theorem dq_Villages_servedFrom_26 : decode (km_c mm_Villages_servedFrom) 26 = .ok (.invokestatic 28, 3) := by decide +kernel
theorem sq_Villages_servedFrom_26 (hst : kx_cat st ≤ 8) : rn G mm_Villages_servedFrom 26 lv (.int x :: st) S P ↔ rn G mm_Villages_servedFrom 29 lv (.int (if 0 ≤ x then x else 0 - x) :: st) S P := rn_mm dq_Villages_servedFrom_26 (by decide) (w := 2) (by decide) (if_pos ⟨by decide, Nat.le_trans (Nat.add_le_add_right hst 13) (by decide)⟩)
theorem dq_Villages_servedFrom_29 : decode (km_c mm_Villages_servedFrom) 29 = .ok (.istore 4, 2) := by decide +kernel
theorem sq_Villages_servedFrom_29n : rn G mm_Villages_servedFrom 29 [a0, a1, a2, none, a4, a5] (.int x :: st) S P ↔ rn G mm_Villages_servedFrom 31 [a0, a1, a2, none, some (.int x), a5] st S P := rn_s dq_Villages_servedFrom_29 rfl rfl rfl
theorem sq_Villages_servedFrom_29i : rn G mm_Villages_servedFrom 29 [a0, a1, a2, some (.int x2), a4, a5] (.int x :: st) S P ↔ rn G mm_Villages_servedFrom 31 [a0, a1, a2, some (.int x2), some (.int x), a5] st S P := rn_s dq_Villages_servedFrom_29 rfl rfl rfl
theorem sq_Villages_servedFrom_29r : rn G mm_Villages_servedFrom 29 [a0, a1, a2, some (.ref z2), a4, a5] (.int x :: st) S P ↔ rn G mm_Villages_servedFrom 31 [a0, a1, a2, some (.ref z2), some (.int x), a5] st S P := rn_s dq_Villages_servedFrom_29 rfl rfl rfl
theorem dq_Villages_servedFrom_31 : decode (km_c mm_Villages_servedFrom) 31 = .ok (.aload_n 0, 1) := by decide +kernel
theorem sq_Villages_servedFrom_31 : rn G mm_Villages_servedFrom 31 [some (.ref z), a1, a2, a3, a4, a5] st S P ↔ rn G mm_Villages_servedFrom 32 [some (.ref z), a1, a2, a3, a4, a5] (.ref z :: st) S P := rn_s dq_Villages_servedFrom_31 rfl rfl rfl
theorem dq_Villages_servedFrom_32 : decode (km_c mm_Villages_servedFrom) 32 = .ok (.getfield 9, 3) := by decide +kernel
theorem sq_Villages_servedFrom_32_9 (ho : sx_o o pl kp) : rn (lt_G o L) mm_Villages_servedFrom 32 lv (.ref 9 :: st) (sx pl kp I A) P ↔ rn (lt_G o L) mm_Villages_servedFrom 35 lv (.ref 10 :: st) (sx pl kp I A) P := rx_get (h := "") (ci := 5) (k := 0) dq_Villages_servedFrom_32 (by decide +kernel) ho (up_b (by decide)) rfl rfl (fl_r (by decide) (by decide) (by decide) (by decide))
theorem sq_Villages_servedFrom_32_42 (ho : sx_o o pl kp) : rn (lt_G o L) mm_Villages_servedFrom 32 lv (.ref 42 :: st) (sx pl kp I A) P ↔ rn (lt_G o L) mm_Villages_servedFrom 35 lv (.ref 43 :: st) (sx pl kp I A) P := rx_get (h := "") (ci := 5) (k := 0) dq_Villages_servedFrom_32 (by decide +kernel) ho (up_b (by decide)) rfl rfl (fl_r (by decide) (by decide) (by decide) (by decide))
theorem sq_Villages_servedFrom_32_144 (ho : sx_o o pl true) : rn (lt_G o L) mm_Villages_servedFrom 32 lv (.ref 144 :: st) (sx pl true I A) P ↔ rn (lt_G o L) mm_Villages_servedFrom 35 lv (.ref 145 :: st) (sx pl true I A) P := rx_get (h := "") (ci := 5) (k := 0) dq_Villages_servedFrom_32 (by decide +kernel) ho (up_k (by decide) (by decide)) rfl rfl (fl_k (by decide) (by decide))
theorem dq_Villages_servedFrom_35 : decode (km_c mm_Villages_servedFrom) 35 = .ok (.iload_n 3, 1) := by decide +kernel
theorem sq_Villages_servedFrom_35 : rn G mm_Villages_servedFrom 35 [a0, a1, a2, some (.int x), a4, a5] st S P ↔ rn G mm_Villages_servedFrom 36 [a0, a1, a2, some (.int x), a4, a5] (.int x :: st) S P := rn_s dq_Villages_servedFrom_35 rfl rfl rfl
theorem dq_Villages_servedFrom_36 : decode (km_c mm_Villages_servedFrom) 36 = .ok (.iaload, 1) := by decide +kernel
theorem sq_Villages_servedFrom_36 (ho : sx_o o pl kp) (hk : ak L a = 0) (hu : sx_up pl kp a = true ∨ 1000 ≤ a) (hc : c < ln L a) (hn : ln L a < 2 ^ 31) : rn (lt_G o L) mm_Villages_servedFrom 36 lv (.int (nI c) :: .ref a :: st) (sx pl kp I A) P ↔ rn (lt_G o L) mm_Villages_servedFrom 37 lv (.int (A a c) :: st) (sx pl kp I A) P := rx_ild dq_Villages_servedFrom_36 ho hk hu hc hn
theorem dq_Villages_servedFrom_37 : decode (km_c mm_Villages_servedFrom) 37 = .ok (.bipush 7, 2) := by decide +kernel
theorem sq_Villages_servedFrom_37 : rn G mm_Villages_servedFrom 37 lv st S P ↔ rn G mm_Villages_servedFrom 39 lv (.int (nI 7) :: st) S P := rn_s dq_Villages_servedFrom_37 rfl rfl rfl
theorem dq_Villages_servedFrom_39 : decode (km_c mm_Villages_servedFrom) 39 = .ok (.irem, 1) := by decide +kernel
theorem sq_Villages_servedFrom_39 (hz : ¬ x2 = 0) : rn G mm_Villages_servedFrom 39 lv (.int x2 :: .int x :: st) S P ↔ rn G mm_Villages_servedFrom 40 lv (.int (x - x / x2 * x2) :: st) S P := rn_s dq_Villages_servedFrom_39 rfl rfl (if_neg hz)
theorem dq_Villages_servedFrom_40 : decode (km_c mm_Villages_servedFrom) 40 = .ok (.iload_n 1, 1) := by decide +kernel
theorem sq_Villages_servedFrom_40 : rn G mm_Villages_servedFrom 40 [a0, some (.int x), a2, a3, a4, a5] st S P ↔ rn G mm_Villages_servedFrom 41 [a0, some (.int x), a2, a3, a4, a5] (.int x :: st) S P := rn_s dq_Villages_servedFrom_40 rfl rfl rfl
theorem dq_Villages_servedFrom_41 : decode (km_c mm_Villages_servedFrom) 41 = .ok (.bipush 7, 2) := by decide +kernel
theorem sq_Villages_servedFrom_41 : rn G mm_Villages_servedFrom 41 lv st S P ↔ rn G mm_Villages_servedFrom 43 lv (.int (nI 7) :: st) S P := rn_s dq_Villages_servedFrom_41 rfl rfl rfl
theorem dq_Villages_servedFrom_43 : decode (km_c mm_Villages_servedFrom) 43 = .ok (.irem, 1) := by decide +kernel
theorem sq_Villages_servedFrom_43 (hz : ¬ x2 = 0) : rn G mm_Villages_servedFrom 43 lv (.int x2 :: .int x :: st) S P ↔ rn G mm_Villages_servedFrom 44 lv (.int (x - x / x2 * x2) :: st) S P := rn_s dq_Villages_servedFrom_43 rfl rfl (if_neg hz)
theorem dq_Villages_servedFrom_44 : decode (km_c mm_Villages_servedFrom) 44 = .ok (.isub, 1) := by decide +kernel
theorem sq_Villages_servedFrom_44 : rn G mm_Villages_servedFrom 44 lv (.int x2 :: .int x :: st) S P ↔ rn G mm_Villages_servedFrom 45 lv (.int (x - x2) :: st) S P := rn_s dq_Villages_servedFrom_44 rfl rfl rfl
theorem dq_Villages_servedFrom_45 : decode (km_c mm_Villages_servedFrom) 45 = .ok (.invokestatic 28, 3) := by decide +kernel
theorem sq_Villages_servedFrom_45 (hst : kx_cat st ≤ 8) : rn G mm_Villages_servedFrom 45 lv (.int x :: st) S P ↔ rn G mm_Villages_servedFrom 48 lv (.int (if 0 ≤ x then x else 0 - x) :: st) S P := rn_mm dq_Villages_servedFrom_45 (by decide) (w := 2) (by decide) (if_pos ⟨by decide, Nat.le_trans (Nat.add_le_add_right hst 13) (by decide)⟩)
theorem dq_Villages_servedFrom_48 : decode (km_c mm_Villages_servedFrom) 48 = .ok (.istore 5, 2) := by decide +kernel
theorem sq_Villages_servedFrom_48n : rn G mm_Villages_servedFrom 48 [a0, a1, a2, a3, none, a5] (.int x :: st) S P ↔ rn G mm_Villages_servedFrom 50 [a0, a1, a2, a3, none, some (.int x)] st S P := rn_s dq_Villages_servedFrom_48 rfl rfl rfl
theorem sq_Villages_servedFrom_48i : rn G mm_Villages_servedFrom 48 [a0, a1, a2, a3, some (.int x2), a5] (.int x :: st) S P ↔ rn G mm_Villages_servedFrom 50 [a0, a1, a2, a3, some (.int x2), some (.int x)] st S P := rn_s dq_Villages_servedFrom_48 rfl rfl rfl
theorem sq_Villages_servedFrom_48r : rn G mm_Villages_servedFrom 48 [a0, a1, a2, a3, some (.ref z2), a5] (.int x :: st) S P ↔ rn G mm_Villages_servedFrom 50 [a0, a1, a2, a3, some (.ref z2), some (.int x)] st S P := rn_s dq_Villages_servedFrom_48 rfl rfl rfl
theorem dq_Villages_servedFrom_50 : decode (km_c mm_Villages_servedFrom) 50 = .ok (.iload 4, 2) := by decide +kernel
theorem sq_Villages_servedFrom_50 : rn G mm_Villages_servedFrom 50 [a0, a1, a2, a3, some (.int x), a5] st S P ↔ rn G mm_Villages_servedFrom 52 [a0, a1, a2, a3, some (.int x), a5] (.int x :: st) S P := rn_s dq_Villages_servedFrom_50 rfl rfl rfl
theorem dq_Villages_servedFrom_52 : decode (km_c mm_Villages_servedFrom) 52 = .ok (.iload 5, 2) := by decide +kernel
theorem sq_Villages_servedFrom_52 : rn G mm_Villages_servedFrom 52 [a0, a1, a2, a3, a4, some (.int x)] st S P ↔ rn G mm_Villages_servedFrom 54 [a0, a1, a2, a3, a4, some (.int x)] (.int x :: st) S P := rn_s dq_Villages_servedFrom_52 rfl rfl rfl
theorem dq_Villages_servedFrom_54 : decode (km_c mm_Villages_servedFrom) 54 = .ok (.invokestatic 34, 3) := by decide +kernel
theorem sq_Villages_servedFrom_54 (hst : kx_cat st ≤ 8) : rn G mm_Villages_servedFrom 54 lv (.int x2 :: .int x :: st) S P ↔ rn G mm_Villages_servedFrom 57 lv (.int (if x < x2 then x2 else x) :: st) S P := rn_mm dq_Villages_servedFrom_54 (by decide) (w := 0) (by decide) (if_pos ⟨by decide, Nat.le_trans (Nat.add_le_add_right hst 13) (by decide)⟩)
theorem dq_Villages_servedFrom_57 : decode (km_c mm_Villages_servedFrom) 57 = .ok (.iconst 1, 1) := by decide +kernel
theorem sq_Villages_servedFrom_57 : rn G mm_Villages_servedFrom 57 lv st S P ↔ rn G mm_Villages_servedFrom 58 lv (.int (nI 1) :: st) S P := rn_s dq_Villages_servedFrom_57 rfl rfl rfl
theorem dq_Villages_servedFrom_58 : decode (km_c mm_Villages_servedFrom) 58 = .ok (.if_icmp .gt 9, 3) := by decide +kernel
theorem sq_Villages_servedFrom_58 : rn G mm_Villages_servedFrom 58 lv (.int x2 :: .int x :: st) S P ↔ ((x2 < x → rn G mm_Villages_servedFrom 67 lv st S P) ∧ (¬ (x2 < x) → rn G mm_Villages_servedFrom 61 lv st S P)) := rn_b (off := 9) dq_Villages_servedFrom_58 rfl rfl rfl rfl
theorem dq_Villages_servedFrom_61 : decode (km_c mm_Villages_servedFrom) 61 = .ok (.iload_n 2, 1) := by decide +kernel
theorem sq_Villages_servedFrom_61 : rn G mm_Villages_servedFrom 61 [a0, a1, some (.int x), a3, a4, a5] st S P ↔ rn G mm_Villages_servedFrom 62 [a0, a1, some (.int x), a3, a4, a5] (.int x :: st) S P := rn_s dq_Villages_servedFrom_61 rfl rfl rfl
theorem dq_Villages_servedFrom_62 : decode (km_c mm_Villages_servedFrom) 62 = .ok (.iconst 1, 1) := by decide +kernel
theorem sq_Villages_servedFrom_62 : rn G mm_Villages_servedFrom 62 lv st S P ↔ rn G mm_Villages_servedFrom 63 lv (.int (nI 1) :: st) S P := rn_s dq_Villages_servedFrom_62 rfl rfl rfl
theorem dq_Villages_servedFrom_63 : decode (km_c mm_Villages_servedFrom) 63 = .ok (.iload_n 3, 1) := by decide +kernel
theorem sq_Villages_servedFrom_63 : rn G mm_Villages_servedFrom 63 [a0, a1, a2, some (.int x), a4, a5] st S P ↔ rn G mm_Villages_servedFrom 64 [a0, a1, a2, some (.int x), a4, a5] (.int x :: st) S P := rn_s dq_Villages_servedFrom_63 rfl rfl rfl
theorem dq_Villages_servedFrom_64 : decode (km_c mm_Villages_servedFrom) 64 = .ok (.ishl, 1) := by decide +kernel
theorem sq_Villages_servedFrom_64 : rn G mm_Villages_servedFrom 64 lv (.int x2 :: .int x :: st) S P ↔ rn G mm_Villages_servedFrom 65 lv (.int (x <<< (x2 &&& 31)) :: st) S P := rn_s dq_Villages_servedFrom_64 rfl rfl rfl
theorem dq_Villages_servedFrom_65 : decode (km_c mm_Villages_servedFrom) 65 = .ok (.ior, 1) := by decide +kernel
theorem sq_Villages_servedFrom_65 : rn G mm_Villages_servedFrom 65 lv (.int x2 :: .int x :: st) S P ↔ rn G mm_Villages_servedFrom 66 lv (.int (x ||| x2) :: st) S P := rn_s dq_Villages_servedFrom_65 rfl rfl rfl
theorem dq_Villages_servedFrom_66 : decode (km_c mm_Villages_servedFrom) 66 = .ok (.istore_n 2, 1) := by decide +kernel
theorem sq_Villages_servedFrom_66n : rn G mm_Villages_servedFrom 66 [a0, none, a2, a3, a4, a5] (.int x :: st) S P ↔ rn G mm_Villages_servedFrom 67 [a0, none, some (.int x), a3, a4, a5] st S P := rn_s dq_Villages_servedFrom_66 rfl rfl rfl
theorem sq_Villages_servedFrom_66i : rn G mm_Villages_servedFrom 66 [a0, some (.int x2), a2, a3, a4, a5] (.int x :: st) S P ↔ rn G mm_Villages_servedFrom 67 [a0, some (.int x2), some (.int x), a3, a4, a5] st S P := rn_s dq_Villages_servedFrom_66 rfl rfl rfl
theorem sq_Villages_servedFrom_66r : rn G mm_Villages_servedFrom 66 [a0, some (.ref z2), a2, a3, a4, a5] (.int x :: st) S P ↔ rn G mm_Villages_servedFrom 67 [a0, some (.ref z2), some (.int x), a3, a4, a5] st S P := rn_s dq_Villages_servedFrom_66 rfl rfl rfl
theorem dq_Villages_servedFrom_67 : decode (km_c mm_Villages_servedFrom) 67 = .ok (.iinc 3 1, 3) := by decide +kernel
theorem sq_Villages_servedFrom_67n : rn G mm_Villages_servedFrom 67 [a0, a1, none, some (.int x), a4, a5] st S P ↔ rn G mm_Villages_servedFrom 70 [a0, a1, none, some (.int (x + nI 1)), a4, a5] st S P := rn_s dq_Villages_servedFrom_67 rfl rfl rfl
theorem sq_Villages_servedFrom_67i : rn G mm_Villages_servedFrom 67 [a0, a1, some (.int x2), some (.int x), a4, a5] st S P ↔ rn G mm_Villages_servedFrom 70 [a0, a1, some (.int x2), some (.int (x + nI 1)), a4, a5] st S P := rn_s dq_Villages_servedFrom_67 rfl rfl rfl
theorem sq_Villages_servedFrom_67r : rn G mm_Villages_servedFrom 67 [a0, a1, some (.ref z2), some (.int x), a4, a5] st S P ↔ rn G mm_Villages_servedFrom 70 [a0, a1, some (.ref z2), some (.int (x + nI 1)), a4, a5] st S P := rn_s dq_Villages_servedFrom_67 rfl rfl rfl
theorem dq_Villages_servedFrom_70 : decode (km_c mm_Villages_servedFrom) 70 = .ok (.goto (-66), 3) := by decide +kernel
theorem sq_Villages_servedFrom_70 : rn G mm_Villages_servedFrom 70 lv st S P ↔ rn G mm_Villages_servedFrom 4 lv st S P := rn_s dq_Villages_servedFrom_70 rfl rfl rfl
theorem dq_Villages_servedFrom_73 : decode (km_c mm_Villages_servedFrom) 73 = .ok (.iload_n 2, 1) := by decide +kernel
theorem sq_Villages_servedFrom_73 : rn G mm_Villages_servedFrom 73 [a0, a1, some (.int x), a3, a4, a5] st S P ↔ rn G mm_Villages_servedFrom 74 [a0, a1, some (.int x), a3, a4, a5] (.int x :: st) S P := rn_s dq_Villages_servedFrom_73 rfl rfl rfl
theorem dq_Villages_servedFrom_74 : decode (km_c mm_Villages_servedFrom) 74 = .ok (.ireturn, 1) := by decide +kernel
theorem sq_Villages_servedFrom_74 : rn G mm_Villages_servedFrom 74 lv [.int x] S P ↔ P (some (.int x)) S := rn_ir dq_Villages_servedFrom_74 rfl
theorem dq_Villages_loadsOf_0 : decode (km_c mm_Villages_loadsOf) 0 = .ok (.iconst 0, 1) := by decide +kernel
theorem sq_Villages_loadsOf_0 : rn G mm_Villages_loadsOf 0 lv st S P ↔ rn G mm_Villages_loadsOf 1 lv (.int (nI 0) :: st) S P := rn_s dq_Villages_loadsOf_0 rfl rfl rfl
theorem dq_Villages_loadsOf_1 : decode (km_c mm_Villages_loadsOf) 1 = .ok (.istore_n 2, 1) := by decide +kernel
theorem sq_Villages_loadsOf_1n : rn G mm_Villages_loadsOf 1 [a0, none, a2, a3] (.int x :: st) S P ↔ rn G mm_Villages_loadsOf 2 [a0, none, some (.int x), a3] st S P := rn_s dq_Villages_loadsOf_1 rfl rfl rfl
theorem sq_Villages_loadsOf_1i : rn G mm_Villages_loadsOf 1 [a0, some (.int x2), a2, a3] (.int x :: st) S P ↔ rn G mm_Villages_loadsOf 2 [a0, some (.int x2), some (.int x), a3] st S P := rn_s dq_Villages_loadsOf_1 rfl rfl rfl
theorem sq_Villages_loadsOf_1r : rn G mm_Villages_loadsOf 1 [a0, some (.ref z2), a2, a3] (.int x :: st) S P ↔ rn G mm_Villages_loadsOf 2 [a0, some (.ref z2), some (.int x), a3] st S P := rn_s dq_Villages_loadsOf_1 rfl rfl rfl
theorem dq_Villages_loadsOf_2 : decode (km_c mm_Villages_loadsOf) 2 = .ok (.iconst 0, 1) := by decide +kernel
theorem sq_Villages_loadsOf_2 : rn G mm_Villages_loadsOf 2 lv st S P ↔ rn G mm_Villages_loadsOf 3 lv (.int (nI 0) :: st) S P := rn_s dq_Villages_loadsOf_2 rfl rfl rfl
theorem dq_Villages_loadsOf_3 : decode (km_c mm_Villages_loadsOf) 3 = .ok (.istore_n 3, 1) := by decide +kernel
theorem sq_Villages_loadsOf_3n : rn G mm_Villages_loadsOf 3 [a0, a1, none, a3] (.int x :: st) S P ↔ rn G mm_Villages_loadsOf 4 [a0, a1, none, some (.int x)] st S P := rn_s dq_Villages_loadsOf_3 rfl rfl rfl
theorem sq_Villages_loadsOf_3i : rn G mm_Villages_loadsOf 3 [a0, a1, some (.int x2), a3] (.int x :: st) S P ↔ rn G mm_Villages_loadsOf 4 [a0, a1, some (.int x2), some (.int x)] st S P := rn_s dq_Villages_loadsOf_3 rfl rfl rfl
theorem sq_Villages_loadsOf_3r : rn G mm_Villages_loadsOf 3 [a0, a1, some (.ref z2), a3] (.int x :: st) S P ↔ rn G mm_Villages_loadsOf 4 [a0, a1, some (.ref z2), some (.int x)] st S P := rn_s dq_Villages_loadsOf_3 rfl rfl rfl
theorem dq_Villages_loadsOf_4 : decode (km_c mm_Villages_loadsOf) 4 = .ok (.iload_n 3, 1) := by decide +kernel
theorem sq_Villages_loadsOf_4 : rn G mm_Villages_loadsOf 4 [a0, a1, a2, some (.int x)] st S P ↔ rn G mm_Villages_loadsOf 5 [a0, a1, a2, some (.int x)] (.int x :: st) S P := rn_s dq_Villages_loadsOf_4 rfl rfl rfl
theorem dq_Villages_loadsOf_5 : decode (km_c mm_Villages_loadsOf) 5 = .ok (.aload_n 0, 1) := by decide +kernel
theorem sq_Villages_loadsOf_5 : rn G mm_Villages_loadsOf 5 [some (.ref z), a1, a2, a3] st S P ↔ rn G mm_Villages_loadsOf 6 [some (.ref z), a1, a2, a3] (.ref z :: st) S P := rn_s dq_Villages_loadsOf_5 rfl rfl rfl
theorem dq_Villages_loadsOf_6 : decode (km_c mm_Villages_loadsOf) 6 = .ok (.getfield 18, 3) := by decide +kernel
theorem sq_Villages_loadsOf_6_9 (ho : sx_o o pl kp) : rn (lt_G o L) mm_Villages_loadsOf 6 lv (.ref 9 :: st) (sx pl kp I A) P ↔ rn (lt_G o L) mm_Villages_loadsOf 9 lv (.int (I 9 2) :: st) (sx pl kp I A) P := rx_get (h := "") (ci := 5) (k := 2) dq_Villages_loadsOf_6 (by decide +kernel) ho (up_b (by decide)) rfl rfl (fl_i (by decide))
theorem sq_Villages_loadsOf_6_42 (ho : sx_o o pl kp) : rn (lt_G o L) mm_Villages_loadsOf 6 lv (.ref 42 :: st) (sx pl kp I A) P ↔ rn (lt_G o L) mm_Villages_loadsOf 9 lv (.int (I 42 2) :: st) (sx pl kp I A) P := rx_get (h := "") (ci := 5) (k := 2) dq_Villages_loadsOf_6 (by decide +kernel) ho (up_b (by decide)) rfl rfl (fl_i (by decide))
theorem sq_Villages_loadsOf_6_144 (ho : sx_o o pl true) : rn (lt_G o L) mm_Villages_loadsOf 6 lv (.ref 144 :: st) (sx pl true I A) P ↔ rn (lt_G o L) mm_Villages_loadsOf 9 lv (.int (I 144 2) :: st) (sx pl true I A) P := rx_get (h := "") (ci := 5) (k := 2) dq_Villages_loadsOf_6 (by decide +kernel) ho (up_k (by decide) (by decide)) rfl rfl (fl_i (by decide))
theorem dq_Villages_loadsOf_9 : decode (km_c mm_Villages_loadsOf) 9 = .ok (.if_icmp .ge 24, 3) := by decide +kernel
theorem sq_Villages_loadsOf_9 : rn G mm_Villages_loadsOf 9 lv (.int x2 :: .int x :: st) S P ↔ ((x2 ≤ x → rn G mm_Villages_loadsOf 33 lv st S P) ∧ (¬ (x2 ≤ x) → rn G mm_Villages_loadsOf 12 lv st S P)) := rn_b (off := 24) dq_Villages_loadsOf_9 rfl rfl rfl rfl
theorem dq_Villages_loadsOf_12 : decode (km_c mm_Villages_loadsOf) 12 = .ok (.iload_n 2, 1) := by decide +kernel
theorem sq_Villages_loadsOf_12 : rn G mm_Villages_loadsOf 12 [a0, a1, some (.int x), a3] st S P ↔ rn G mm_Villages_loadsOf 13 [a0, a1, some (.int x), a3] (.int x :: st) S P := rn_s dq_Villages_loadsOf_12 rfl rfl rfl
theorem dq_Villages_loadsOf_13 : decode (km_c mm_Villages_loadsOf) 13 = .ok (.aload_n 0, 1) := by decide +kernel
theorem sq_Villages_loadsOf_13 : rn G mm_Villages_loadsOf 13 [some (.ref z), a1, a2, a3] st S P ↔ rn G mm_Villages_loadsOf 14 [some (.ref z), a1, a2, a3] (.ref z :: st) S P := rn_s dq_Villages_loadsOf_13 rfl rfl rfl
theorem dq_Villages_loadsOf_14 : decode (km_c mm_Villages_loadsOf) 14 = .ok (.getfield 15, 3) := by decide +kernel
theorem sq_Villages_loadsOf_14_9 (ho : sx_o o pl kp) : rn (lt_G o L) mm_Villages_loadsOf 14 lv (.ref 9 :: st) (sx pl kp I A) P ↔ rn (lt_G o L) mm_Villages_loadsOf 17 lv (.ref 11 :: st) (sx pl kp I A) P := rx_get (h := "") (ci := 5) (k := 1) dq_Villages_loadsOf_14 (by decide +kernel) ho (up_b (by decide)) rfl rfl (fl_r (by decide) (by decide) (by decide) (by decide))
theorem sq_Villages_loadsOf_14_42 (ho : sx_o o pl kp) : rn (lt_G o L) mm_Villages_loadsOf 14 lv (.ref 42 :: st) (sx pl kp I A) P ↔ rn (lt_G o L) mm_Villages_loadsOf 17 lv (.ref 44 :: st) (sx pl kp I A) P := rx_get (h := "") (ci := 5) (k := 1) dq_Villages_loadsOf_14 (by decide +kernel) ho (up_b (by decide)) rfl rfl (fl_r (by decide) (by decide) (by decide) (by decide))
theorem sq_Villages_loadsOf_14_144 (ho : sx_o o pl true) : rn (lt_G o L) mm_Villages_loadsOf 14 lv (.ref 144 :: st) (sx pl true I A) P ↔ rn (lt_G o L) mm_Villages_loadsOf 17 lv (.ref 146 :: st) (sx pl true I A) P := rx_get (h := "") (ci := 5) (k := 1) dq_Villages_loadsOf_14 (by decide +kernel) ho (up_k (by decide) (by decide)) rfl rfl (fl_k (by decide) (by decide))
theorem dq_Villages_loadsOf_17 : decode (km_c mm_Villages_loadsOf) 17 = .ok (.iload_n 3, 1) := by decide +kernel
theorem sq_Villages_loadsOf_17 : rn G mm_Villages_loadsOf 17 [a0, a1, a2, some (.int x)] st S P ↔ rn G mm_Villages_loadsOf 18 [a0, a1, a2, some (.int x)] (.int x :: st) S P := rn_s dq_Villages_loadsOf_17 rfl rfl rfl
theorem dq_Villages_loadsOf_18 : decode (km_c mm_Villages_loadsOf) 18 = .ok (.iaload, 1) := by decide +kernel
theorem sq_Villages_loadsOf_18 (ho : sx_o o pl kp) (hk : ak L a = 0) (hu : sx_up pl kp a = true ∨ 1000 ≤ a) (hc : c < ln L a) (hn : ln L a < 2 ^ 31) : rn (lt_G o L) mm_Villages_loadsOf 18 lv (.int (nI c) :: .ref a :: st) (sx pl kp I A) P ↔ rn (lt_G o L) mm_Villages_loadsOf 19 lv (.int (A a c) :: st) (sx pl kp I A) P := rx_ild dq_Villages_loadsOf_18 ho hk hu hc hn
theorem dq_Villages_loadsOf_19 : decode (km_c mm_Villages_loadsOf) 19 = .ok (.iload_n 1, 1) := by decide +kernel
theorem sq_Villages_loadsOf_19 : rn G mm_Villages_loadsOf 19 [a0, some (.int x), a2, a3] st S P ↔ rn G mm_Villages_loadsOf 20 [a0, some (.int x), a2, a3] (.int x :: st) S P := rn_s dq_Villages_loadsOf_19 rfl rfl rfl
theorem dq_Villages_loadsOf_20 : decode (km_c mm_Villages_loadsOf) 20 = .ok (.iload_n 3, 1) := by decide +kernel
theorem sq_Villages_loadsOf_20 : rn G mm_Villages_loadsOf 20 [a0, a1, a2, some (.int x)] st S P ↔ rn G mm_Villages_loadsOf 21 [a0, a1, a2, some (.int x)] (.int x :: st) S P := rn_s dq_Villages_loadsOf_20 rfl rfl rfl
theorem dq_Villages_loadsOf_21 : decode (km_c mm_Villages_loadsOf) 21 = .ok (.ishr, 1) := by decide +kernel
theorem sq_Villages_loadsOf_21 : rn G mm_Villages_loadsOf 21 lv (.int x2 :: .int x :: st) S P ↔ rn G mm_Villages_loadsOf 22 lv (.int (x >>> (x2 &&& 31)) :: st) S P := rn_s dq_Villages_loadsOf_21 rfl rfl rfl
theorem dq_Villages_loadsOf_22 : decode (km_c mm_Villages_loadsOf) 22 = .ok (.iconst 1, 1) := by decide +kernel
theorem sq_Villages_loadsOf_22 : rn G mm_Villages_loadsOf 22 lv st S P ↔ rn G mm_Villages_loadsOf 23 lv (.int (nI 1) :: st) S P := rn_s dq_Villages_loadsOf_22 rfl rfl rfl
theorem dq_Villages_loadsOf_23 : decode (km_c mm_Villages_loadsOf) 23 = .ok (.iand, 1) := by decide +kernel
theorem sq_Villages_loadsOf_23 : rn G mm_Villages_loadsOf 23 lv (.int x2 :: .int x :: st) S P ↔ rn G mm_Villages_loadsOf 24 lv (.int (x &&& x2) :: st) S P := rn_s dq_Villages_loadsOf_23 rfl rfl rfl
theorem dq_Villages_loadsOf_24 : decode (km_c mm_Villages_loadsOf) 24 = .ok (.imul, 1) := by decide +kernel
theorem sq_Villages_loadsOf_24 : rn G mm_Villages_loadsOf 24 lv (.int x2 :: .int x :: st) S P ↔ rn G mm_Villages_loadsOf 25 lv (.int (x * x2) :: st) S P := rn_s dq_Villages_loadsOf_24 rfl rfl rfl
theorem dq_Villages_loadsOf_25 : decode (km_c mm_Villages_loadsOf) 25 = .ok (.iadd, 1) := by decide +kernel
theorem sq_Villages_loadsOf_25 : rn G mm_Villages_loadsOf 25 lv (.int x2 :: .int x :: st) S P ↔ rn G mm_Villages_loadsOf 26 lv (.int (x + x2) :: st) S P := rn_s dq_Villages_loadsOf_25 rfl rfl rfl
theorem dq_Villages_loadsOf_26 : decode (km_c mm_Villages_loadsOf) 26 = .ok (.istore_n 2, 1) := by decide +kernel
theorem sq_Villages_loadsOf_26n : rn G mm_Villages_loadsOf 26 [a0, none, a2, a3] (.int x :: st) S P ↔ rn G mm_Villages_loadsOf 27 [a0, none, some (.int x), a3] st S P := rn_s dq_Villages_loadsOf_26 rfl rfl rfl
theorem sq_Villages_loadsOf_26i : rn G mm_Villages_loadsOf 26 [a0, some (.int x2), a2, a3] (.int x :: st) S P ↔ rn G mm_Villages_loadsOf 27 [a0, some (.int x2), some (.int x), a3] st S P := rn_s dq_Villages_loadsOf_26 rfl rfl rfl
theorem sq_Villages_loadsOf_26r : rn G mm_Villages_loadsOf 26 [a0, some (.ref z2), a2, a3] (.int x :: st) S P ↔ rn G mm_Villages_loadsOf 27 [a0, some (.ref z2), some (.int x), a3] st S P := rn_s dq_Villages_loadsOf_26 rfl rfl rfl
theorem dq_Villages_loadsOf_27 : decode (km_c mm_Villages_loadsOf) 27 = .ok (.iinc 3 1, 3) := by decide +kernel
theorem sq_Villages_loadsOf_27n : rn G mm_Villages_loadsOf 27 [a0, a1, none, some (.int x)] st S P ↔ rn G mm_Villages_loadsOf 30 [a0, a1, none, some (.int (x + nI 1))] st S P := rn_s dq_Villages_loadsOf_27 rfl rfl rfl
theorem sq_Villages_loadsOf_27i : rn G mm_Villages_loadsOf 27 [a0, a1, some (.int x2), some (.int x)] st S P ↔ rn G mm_Villages_loadsOf 30 [a0, a1, some (.int x2), some (.int (x + nI 1))] st S P := rn_s dq_Villages_loadsOf_27 rfl rfl rfl
theorem sq_Villages_loadsOf_27r : rn G mm_Villages_loadsOf 27 [a0, a1, some (.ref z2), some (.int x)] st S P ↔ rn G mm_Villages_loadsOf 30 [a0, a1, some (.ref z2), some (.int (x + nI 1))] st S P := rn_s dq_Villages_loadsOf_27 rfl rfl rfl
theorem dq_Villages_loadsOf_30 : decode (km_c mm_Villages_loadsOf) 30 = .ok (.goto (-26), 3) := by decide +kernel
theorem sq_Villages_loadsOf_30 : rn G mm_Villages_loadsOf 30 lv st S P ↔ rn G mm_Villages_loadsOf 4 lv st S P := rn_s dq_Villages_loadsOf_30 rfl rfl rfl
theorem dq_Villages_loadsOf_33 : decode (km_c mm_Villages_loadsOf) 33 = .ok (.iload_n 2, 1) := by decide +kernel
theorem sq_Villages_loadsOf_33 : rn G mm_Villages_loadsOf 33 [a0, a1, some (.int x), a3] st S P ↔ rn G mm_Villages_loadsOf 34 [a0, a1, some (.int x), a3] (.int x :: st) S P := rn_s dq_Villages_loadsOf_33 rfl rfl rfl
theorem dq_Villages_loadsOf_34 : decode (km_c mm_Villages_loadsOf) 34 = .ok (.ireturn, 1) := by decide +kernel
theorem sq_Villages_loadsOf_34 : rn G mm_Villages_loadsOf 34 lv [.int x] S P ↔ P (some (.int x)) S := rn_ir dq_Villages_loadsOf_34 rfl
theorem dq_Water_init_0 : decode (km_c mm_Water_init) 0 = .ok (.aload_n 0, 1) := by decide +kernel
theorem sq_Water_init_0 : rn G mm_Water_init 0 [some (.ref z)] st S P ↔ rn G mm_Water_init 1 [some (.ref z)] (.ref z :: st) S P := rn_s dq_Water_init_0 rfl rfl rfl
theorem dq_Water_init_1 : decode (km_c mm_Water_init) 1 = .ok (.invokespecial 3, 3) := by decide +kernel
theorem dq_Water_init_4 : decode (km_c mm_Water_init) 4 = .ok (.aload_n 0, 1) := by decide +kernel
theorem sq_Water_init_4 : rn G mm_Water_init 4 [some (.ref z)] st S P ↔ rn G mm_Water_init 5 [some (.ref z)] (.ref z :: st) S P := rn_s dq_Water_init_4 rfl rfl rfl
theorem dq_Water_init_5 : decode (km_c mm_Water_init) 5 = .ok (.bipush 49, 2) := by decide +kernel
theorem sq_Water_init_5 : rn G mm_Water_init 5 lv st S P ↔ rn G mm_Water_init 7 lv (.int (nI 49) :: st) S P := rn_s dq_Water_init_5 rfl rfl rfl
theorem dq_Water_init_7 : decode (km_c mm_Water_init) 7 = .ok (.newarray .int, 2) := by decide +kernel
theorem dq_Water_init_9 : decode (km_c mm_Water_init) 9 = .ok (.putfield 9, 3) := by decide +kernel
theorem dq_Water_init_12 : decode (km_c mm_Water_init) 12 = .ok (.aload_n 0, 1) := by decide +kernel
theorem sq_Water_init_12 : rn G mm_Water_init 12 [some (.ref z)] st S P ↔ rn G mm_Water_init 13 [some (.ref z)] (.ref z :: st) S P := rn_s dq_Water_init_12 rfl rfl rfl
theorem dq_Water_init_13 : decode (km_c mm_Water_init) 13 = .ok (.bipush 49, 2) := by decide +kernel
theorem sq_Water_init_13 : rn G mm_Water_init 13 lv st S P ↔ rn G mm_Water_init 15 lv (.int (nI 49) :: st) S P := rn_s dq_Water_init_13 rfl rfl rfl
theorem dq_Water_init_15 : decode (km_c mm_Water_init) 15 = .ok (.newarray .int, 2) := by decide +kernel
theorem dq_Water_init_17 : decode (km_c mm_Water_init) 17 = .ok (.putfield 15, 3) := by decide +kernel
theorem dq_Water_init_20 : decode (km_c mm_Water_init) 20 = .ok (.aload_n 0, 1) := by decide +kernel
theorem sq_Water_init_20 : rn G mm_Water_init 20 [some (.ref z)] st S P ↔ rn G mm_Water_init 21 [some (.ref z)] (.ref z :: st) S P := rn_s dq_Water_init_20 rfl rfl rfl
theorem dq_Water_init_21 : decode (km_c mm_Water_init) 21 = .ok (.bipush 49, 2) := by decide +kernel
theorem sq_Water_init_21 : rn G mm_Water_init 21 lv st S P ↔ rn G mm_Water_init 23 lv (.int (nI 49) :: st) S P := rn_s dq_Water_init_21 rfl rfl rfl
theorem dq_Water_init_23 : decode (km_c mm_Water_init) 23 = .ok (.newarray .int, 2) := by decide +kernel
theorem dq_Water_init_25 : decode (km_c mm_Water_init) 25 = .ok (.putfield 18, 3) := by decide +kernel
theorem dq_Water_init_28 : decode (km_c mm_Water_init) 28 = .ok (.aload_n 0, 1) := by decide +kernel
theorem sq_Water_init_28 : rn G mm_Water_init 28 [some (.ref z)] st S P ↔ rn G mm_Water_init 29 [some (.ref z)] (.ref z :: st) S P := rn_s dq_Water_init_28 rfl rfl rfl
theorem dq_Water_init_29 : decode (km_c mm_Water_init) 29 = .ok (.iconst 0, 1) := by decide +kernel
theorem sq_Water_init_29 : rn G mm_Water_init 29 lv st S P ↔ rn G mm_Water_init 30 lv (.int (nI 0) :: st) S P := rn_s dq_Water_init_29 rfl rfl rfl
theorem dq_Water_init_30 : decode (km_c mm_Water_init) 30 = .ok (.putfield 21, 3) := by decide +kernel
theorem sq_Water_init_30_16 (ho : sx_o o pl kp) : rn (lt_G o L) mm_Water_init 30 lv (.int x :: .ref 16 :: st) (sx pl kp I A) P ↔ rn (lt_G o L) mm_Water_init 33 lv st (sx pl kp (u2 I 16 3 x) A) P := rx_put (h := "") (ci := 6) (k := 3) dq_Water_init_30 (by decide +kernel) ho (up_b (by decide)) rfl rfl (by decide) (by decide)
theorem sq_Water_init_30_20 (ho : sx_o o pl kp) : rn (lt_G o L) mm_Water_init 30 lv (.int x :: .ref 20 :: st) (sx pl kp I A) P ↔ rn (lt_G o L) mm_Water_init 33 lv st (sx pl kp (u2 I 20 3 x) A) P := rx_put (h := "") (ci := 6) (k := 3) dq_Water_init_30 (by decide +kernel) ho (up_b (by decide)) rfl rfl (by decide) (by decide)
theorem dq_Water_init_33 : decode (km_c mm_Water_init) 33 = .ok (.return_, 1) := by decide +kernel
theorem sq_Water_init_33 : rn G mm_Water_init 33 lv [] S P ↔ P none S := rn_vr dq_Water_init_33 rfl
theorem dq_Water_rise_0 : decode (km_c mm_Water_rise) 0 = .ok (.aload_n 0, 1) := by decide +kernel
theorem sq_Water_rise_0 : rn G mm_Water_rise 0 [some (.ref z), a1, a2, a3, a4, a5] st S P ↔ rn G mm_Water_rise 1 [some (.ref z), a1, a2, a3, a4, a5] (.ref z :: st) S P := rn_s dq_Water_rise_0 rfl rfl rfl
theorem dq_Water_rise_1 : decode (km_c mm_Water_rise) 1 = .ok (.getfield 9, 3) := by decide +kernel
theorem sq_Water_rise_1_16 (ho : sx_o o pl kp) : rn (lt_G o L) mm_Water_rise 1 lv (.ref 16 :: st) (sx pl kp I A) P ↔ rn (lt_G o L) mm_Water_rise 4 lv (.ref 17 :: st) (sx pl kp I A) P := rx_get (h := "") (ci := 6) (k := 0) dq_Water_rise_1 (by decide +kernel) ho (up_b (by decide)) rfl rfl (fl_r (by decide) (by decide) (by decide) (by decide))
theorem sq_Water_rise_1_20 (ho : sx_o o pl kp) : rn (lt_G o L) mm_Water_rise 1 lv (.ref 20 :: st) (sx pl kp I A) P ↔ rn (lt_G o L) mm_Water_rise 4 lv (.ref 21 :: st) (sx pl kp I A) P := rx_get (h := "") (ci := 6) (k := 0) dq_Water_rise_1 (by decide +kernel) ho (up_b (by decide)) rfl rfl (fl_r (by decide) (by decide) (by decide) (by decide))
theorem dq_Water_rise_4 : decode (km_c mm_Water_rise) 4 = .ok (.iconst 0, 1) := by decide +kernel
theorem sq_Water_rise_4 : rn G mm_Water_rise 4 lv st S P ↔ rn G mm_Water_rise 5 lv (.int (nI 0) :: st) S P := rn_s dq_Water_rise_4 rfl rfl rfl
theorem dq_Water_rise_5 : decode (km_c mm_Water_rise) 5 = .ok (.invokestatic 25, 3) := by decide +kernel
theorem sq_Water_rise_5 {z1 : Nat} {x2 : Int32} {v : Option Value} {S2 : ks_S} (hc : ev G mm_Arrays_fill [.ref z1, .int x2] S v S2) (hst : kx_cat st ≤ 8) : rn G mm_Water_rise 5 lv (.int x2 :: .ref z1 :: st) S P ↔ rn G mm_Water_rise 8 lv (v.toList ++ st) S2 P := rn_cs (k := 1) (host := "") (E' := mm_Arrays_fill) dq_Water_rise_5 (by decide) (by decide) rfl (ok_v rfl (by decide) (by decide) (Nat.le_add_left _ _) hst (Nat.le_of_ble_eq_true rfl) (Or.inl rfl)) rfl rfl hc
theorem dq_Water_rise_8 : decode (km_c mm_Water_rise) 8 = .ok (.aload_n 0, 1) := by decide +kernel
theorem sq_Water_rise_8 : rn G mm_Water_rise 8 [some (.ref z), a1, a2, a3, a4, a5] st S P ↔ rn G mm_Water_rise 9 [some (.ref z), a1, a2, a3, a4, a5] (.ref z :: st) S P := rn_s dq_Water_rise_8 rfl rfl rfl
theorem dq_Water_rise_9 : decode (km_c mm_Water_rise) 9 = .ok (.iconst 0, 1) := by decide +kernel
theorem sq_Water_rise_9 : rn G mm_Water_rise 9 lv st S P ↔ rn G mm_Water_rise 10 lv (.int (nI 0) :: st) S P := rn_s dq_Water_rise_9 rfl rfl rfl
theorem dq_Water_rise_10 : decode (km_c mm_Water_rise) 10 = .ok (.putfield 21, 3) := by decide +kernel
theorem sq_Water_rise_10_16 (ho : sx_o o pl kp) : rn (lt_G o L) mm_Water_rise 10 lv (.int x :: .ref 16 :: st) (sx pl kp I A) P ↔ rn (lt_G o L) mm_Water_rise 13 lv st (sx pl kp (u2 I 16 3 x) A) P := rx_put (h := "") (ci := 6) (k := 3) dq_Water_rise_10 (by decide +kernel) ho (up_b (by decide)) rfl rfl (by decide) (by decide)
theorem sq_Water_rise_10_20 (ho : sx_o o pl kp) : rn (lt_G o L) mm_Water_rise 10 lv (.int x :: .ref 20 :: st) (sx pl kp I A) P ↔ rn (lt_G o L) mm_Water_rise 13 lv st (sx pl kp (u2 I 20 3 x) A) P := rx_put (h := "") (ci := 6) (k := 3) dq_Water_rise_10 (by decide +kernel) ho (up_b (by decide)) rfl rfl (by decide) (by decide)
theorem dq_Water_rise_13 : decode (km_c mm_Water_rise) 13 = .ok (.iconst 0, 1) := by decide +kernel
theorem sq_Water_rise_13 : rn G mm_Water_rise 13 lv st S P ↔ rn G mm_Water_rise 14 lv (.int (nI 0) :: st) S P := rn_s dq_Water_rise_13 rfl rfl rfl
theorem dq_Water_rise_14 : decode (km_c mm_Water_rise) 14 = .ok (.istore_n 3, 1) := by decide +kernel
theorem sq_Water_rise_14n : rn G mm_Water_rise 14 [a0, a1, none, a3, a4, a5] (.int x :: st) S P ↔ rn G mm_Water_rise 15 [a0, a1, none, some (.int x), a4, a5] st S P := rn_s dq_Water_rise_14 rfl rfl rfl
theorem sq_Water_rise_14i : rn G mm_Water_rise 14 [a0, a1, some (.int x2), a3, a4, a5] (.int x :: st) S P ↔ rn G mm_Water_rise 15 [a0, a1, some (.int x2), some (.int x), a4, a5] st S P := rn_s dq_Water_rise_14 rfl rfl rfl
theorem sq_Water_rise_14r : rn G mm_Water_rise 14 [a0, a1, some (.ref z2), a3, a4, a5] (.int x :: st) S P ↔ rn G mm_Water_rise 15 [a0, a1, some (.ref z2), some (.int x), a4, a5] st S P := rn_s dq_Water_rise_14 rfl rfl rfl
theorem dq_Water_rise_15 : decode (km_c mm_Water_rise) 15 = .ok (.iload_n 3, 1) := by decide +kernel
theorem sq_Water_rise_15 : rn G mm_Water_rise 15 [a0, a1, a2, some (.int x), a4, a5] st S P ↔ rn G mm_Water_rise 16 [a0, a1, a2, some (.int x), a4, a5] (.int x :: st) S P := rn_s dq_Water_rise_15 rfl rfl rfl
theorem dq_Water_rise_16 : decode (km_c mm_Water_rise) 16 = .ok (.bipush 49, 2) := by decide +kernel
theorem sq_Water_rise_16 : rn G mm_Water_rise 16 lv st S P ↔ rn G mm_Water_rise 18 lv (.int (nI 49) :: st) S P := rn_s dq_Water_rise_16 rfl rfl rfl
theorem dq_Water_rise_18 : decode (km_c mm_Water_rise) 18 = .ok (.if_icmp .ge 28, 3) := by decide +kernel
theorem sq_Water_rise_18 : rn G mm_Water_rise 18 lv (.int x2 :: .int x :: st) S P ↔ ((x2 ≤ x → rn G mm_Water_rise 46 lv st S P) ∧ (¬ (x2 ≤ x) → rn G mm_Water_rise 21 lv st S P)) := rn_b (off := 28) dq_Water_rise_18 rfl rfl rfl rfl
theorem dq_Water_rise_21 : decode (km_c mm_Water_rise) 21 = .ok (.aload_n 1, 1) := by decide +kernel
theorem sq_Water_rise_21 : rn G mm_Water_rise 21 [a0, some (.ref z), a2, a3, a4, a5] st S P ↔ rn G mm_Water_rise 22 [a0, some (.ref z), a2, a3, a4, a5] (.ref z :: st) S P := rn_s dq_Water_rise_21 rfl rfl rfl
theorem dq_Water_rise_22 : decode (km_c mm_Water_rise) 22 = .ok (.getfield 31, 3) := by decide +kernel
theorem sq_Water_rise_22_2 (ho : sx_o o pl kp) : rn (lt_G o L) mm_Water_rise 22 lv (.ref 2 :: st) (sx pl kp I A) P ↔ rn (lt_G o L) mm_Water_rise 25 lv (.ref 3 :: st) (sx pl kp I A) P := rx_get (h := "DeltaRoad") (ci := 0) (k := 0) dq_Water_rise_22 (by decide +kernel) ho (up_b (by decide)) rfl rfl (fl_r (by decide) (by decide) (by decide) (by decide))
theorem sq_Water_rise_22_35 (ho : sx_o o pl kp) : rn (lt_G o L) mm_Water_rise 22 lv (.ref 35 :: st) (sx pl kp I A) P ↔ rn (lt_G o L) mm_Water_rise 25 lv (.ref 36 :: st) (sx pl kp I A) P := rx_get (h := "DeltaRoad") (ci := 0) (k := 0) dq_Water_rise_22 (by decide +kernel) ho (up_b (by decide)) rfl rfl (fl_r (by decide) (by decide) (by decide) (by decide))
theorem sq_Water_rise_22_137 (ho : sx_o o pl true) : rn (lt_G o L) mm_Water_rise 22 lv (.ref 137 :: st) (sx pl true I A) P ↔ rn (lt_G o L) mm_Water_rise 25 lv (.ref 138 :: st) (sx pl true I A) P := rx_get (h := "DeltaRoad") (ci := 0) (k := 0) dq_Water_rise_22 (by decide +kernel) ho (up_k (by decide) (by decide)) rfl rfl (fl_k (by decide) (by decide))
theorem dq_Water_rise_25 : decode (km_c mm_Water_rise) 25 = .ok (.iconst 4, 1) := by decide +kernel
theorem sq_Water_rise_25 : rn G mm_Water_rise 25 lv st S P ↔ rn G mm_Water_rise 26 lv (.int (nI 4) :: st) S P := rn_s dq_Water_rise_25 rfl rfl rfl
theorem dq_Water_rise_26 : decode (km_c mm_Water_rise) 26 = .ok (.aaload, 1) := by decide +kernel
theorem sq_Water_rise_26 (ho : sx_o o pl kp) (hk : ak L a = 3) (hu : sx_up pl kp a = true) (hc : c < ln L a) (hn : ln L a < 2 ^ 31) : rn (lt_G o L) mm_Water_rise 26 lv (.int (nI c) :: .ref a :: st) (sx pl kp I A) P ↔ rn (lt_G o L) mm_Water_rise 27 lv (.ref (ab L a + c) :: st) (sx pl kp I A) P := rx_ald dq_Water_rise_26 ho hk hu hc hn
theorem dq_Water_rise_27 : decode (km_c mm_Water_rise) 27 = .ok (.iload_n 3, 1) := by decide +kernel
theorem sq_Water_rise_27 : rn G mm_Water_rise 27 [a0, a1, a2, some (.int x), a4, a5] st S P ↔ rn G mm_Water_rise 28 [a0, a1, a2, some (.int x), a4, a5] (.int x :: st) S P := rn_s dq_Water_rise_27 rfl rfl rfl
theorem dq_Water_rise_28 : decode (km_c mm_Water_rise) 28 = .ok (.iaload, 1) := by decide +kernel
theorem sq_Water_rise_28 (ho : sx_o o pl kp) (hk : ak L a = 0) (hu : sx_up pl kp a = true ∨ 1000 ≤ a) (hc : c < ln L a) (hn : ln L a < 2 ^ 31) : rn (lt_G o L) mm_Water_rise 28 lv (.int (nI c) :: .ref a :: st) (sx pl kp I A) P ↔ rn (lt_G o L) mm_Water_rise 29 lv (.int (A a c) :: st) (sx pl kp I A) P := rx_ild dq_Water_rise_28 ho hk hu hc hn
theorem dq_Water_rise_29 : decode (km_c mm_Water_rise) 29 = .ok (.iconst 1, 1) := by decide +kernel
theorem sq_Water_rise_29 : rn G mm_Water_rise 29 lv st S P ↔ rn G mm_Water_rise 30 lv (.int (nI 1) :: st) S P := rn_s dq_Water_rise_29 rfl rfl rfl
theorem dq_Water_rise_30 : decode (km_c mm_Water_rise) 30 = .ok (.if_icmp .ne 10, 3) := by decide +kernel
theorem sq_Water_rise_30 : rn G mm_Water_rise 30 lv (.int x2 :: .int x :: st) S P ↔ ((¬ x = x2 → rn G mm_Water_rise 40 lv st S P) ∧ (¬ (¬ x = x2) → rn G mm_Water_rise 33 lv st S P)) := rn_b (off := 10) dq_Water_rise_30 rfl rfl rfl rfl
theorem dq_Water_rise_33 : decode (km_c mm_Water_rise) 33 = .ok (.aload_n 0, 1) := by decide +kernel
theorem sq_Water_rise_33 : rn G mm_Water_rise 33 [some (.ref z), a1, a2, a3, a4, a5] st S P ↔ rn G mm_Water_rise 34 [some (.ref z), a1, a2, a3, a4, a5] (.ref z :: st) S P := rn_s dq_Water_rise_33 rfl rfl rfl
theorem dq_Water_rise_34 : decode (km_c mm_Water_rise) 34 = .ok (.aload_n 1, 1) := by decide +kernel
theorem sq_Water_rise_34 : rn G mm_Water_rise 34 [a0, some (.ref z), a2, a3, a4, a5] st S P ↔ rn G mm_Water_rise 35 [a0, some (.ref z), a2, a3, a4, a5] (.ref z :: st) S P := rn_s dq_Water_rise_34 rfl rfl rfl
theorem dq_Water_rise_35 : decode (km_c mm_Water_rise) 35 = .ok (.iload_n 2, 1) := by decide +kernel
theorem sq_Water_rise_35 : rn G mm_Water_rise 35 [a0, a1, some (.int x), a3, a4, a5] st S P ↔ rn G mm_Water_rise 36 [a0, a1, some (.int x), a3, a4, a5] (.int x :: st) S P := rn_s dq_Water_rise_35 rfl rfl rfl
theorem dq_Water_rise_36 : decode (km_c mm_Water_rise) 36 = .ok (.iload_n 3, 1) := by decide +kernel
theorem sq_Water_rise_36 : rn G mm_Water_rise 36 [a0, a1, a2, some (.int x), a4, a5] st S P ↔ rn G mm_Water_rise 37 [a0, a1, a2, some (.int x), a4, a5] (.int x :: st) S P := rn_s dq_Water_rise_36 rfl rfl rfl
theorem dq_Water_rise_37 : decode (km_c mm_Water_rise) 37 = .ok (.invokevirtual 37, 3) := by decide +kernel
theorem sq_Water_rise_37_16 {z1 : Nat} {x2 : Int32} {x3 : Int32} {v : Option Value} {S2 : ks_S} (hc : ev (lt_G o L) mm_Water_reach [.ref 16, .ref z1, .int x2, .int x3] (sx pl kp I A) v S2) (ho : sx_o o pl kp) (hst : kx_cat st ≤ 8) : rn (lt_G o L) mm_Water_rise 37 lv (.int x3 :: .int x2 :: .ref z1 :: .ref 16 :: st) (sx pl kp I A) P ↔ rn (lt_G o L) mm_Water_rise 40 lv (v.toList ++ st) S2 P := rn_cv (k := 0) (host := "") (E' := mm_Water_reach) dq_Water_rise_37 rfl (ok_v rfl (by decide) (by decide) (Nat.le_add_left _ _) hst (Nat.le_of_ble_eq_true rfl) (Or.inr (rc_v ho (up_b (by decide)) rfl))) rfl rfl hc
theorem sq_Water_rise_37_20 {z1 : Nat} {x2 : Int32} {x3 : Int32} {v : Option Value} {S2 : ks_S} (hc : ev (lt_G o L) mm_Water_reach [.ref 20, .ref z1, .int x2, .int x3] (sx pl kp I A) v S2) (ho : sx_o o pl kp) (hst : kx_cat st ≤ 8) : rn (lt_G o L) mm_Water_rise 37 lv (.int x3 :: .int x2 :: .ref z1 :: .ref 20 :: st) (sx pl kp I A) P ↔ rn (lt_G o L) mm_Water_rise 40 lv (v.toList ++ st) S2 P := rn_cv (k := 0) (host := "") (E' := mm_Water_reach) dq_Water_rise_37 rfl (ok_v rfl (by decide) (by decide) (Nat.le_add_left _ _) hst (Nat.le_of_ble_eq_true rfl) (Or.inr (rc_v ho (up_b (by decide)) rfl))) rfl rfl hc
theorem dq_Water_rise_40 : decode (km_c mm_Water_rise) 40 = .ok (.iinc 3 1, 3) := by decide +kernel
theorem sq_Water_rise_40n : rn G mm_Water_rise 40 [a0, a1, none, some (.int x), a4, a5] st S P ↔ rn G mm_Water_rise 43 [a0, a1, none, some (.int (x + nI 1)), a4, a5] st S P := rn_s dq_Water_rise_40 rfl rfl rfl
theorem sq_Water_rise_40i : rn G mm_Water_rise 40 [a0, a1, some (.int x2), some (.int x), a4, a5] st S P ↔ rn G mm_Water_rise 43 [a0, a1, some (.int x2), some (.int (x + nI 1)), a4, a5] st S P := rn_s dq_Water_rise_40 rfl rfl rfl
theorem sq_Water_rise_40r : rn G mm_Water_rise 40 [a0, a1, some (.ref z2), some (.int x), a4, a5] st S P ↔ rn G mm_Water_rise 43 [a0, a1, some (.ref z2), some (.int (x + nI 1)), a4, a5] st S P := rn_s dq_Water_rise_40 rfl rfl rfl
theorem dq_Water_rise_43 : decode (km_c mm_Water_rise) 43 = .ok (.goto (-28), 3) := by decide +kernel
theorem sq_Water_rise_43 : rn G mm_Water_rise 43 lv st S P ↔ rn G mm_Water_rise 15 lv st S P := rn_s dq_Water_rise_43 rfl rfl rfl
theorem dq_Water_rise_46 : decode (km_c mm_Water_rise) 46 = .ok (.iconst 0, 1) := by decide +kernel
theorem sq_Water_rise_46 : rn G mm_Water_rise 46 lv st S P ↔ rn G mm_Water_rise 47 lv (.int (nI 0) :: st) S P := rn_s dq_Water_rise_46 rfl rfl rfl
theorem dq_Water_rise_47 : decode (km_c mm_Water_rise) 47 = .ok (.istore_n 3, 1) := by decide +kernel
theorem sq_Water_rise_47n : rn G mm_Water_rise 47 [a0, a1, none, a3, a4, a5] (.int x :: st) S P ↔ rn G mm_Water_rise 48 [a0, a1, none, some (.int x), a4, a5] st S P := rn_s dq_Water_rise_47 rfl rfl rfl
theorem sq_Water_rise_47i : rn G mm_Water_rise 47 [a0, a1, some (.int x2), a3, a4, a5] (.int x :: st) S P ↔ rn G mm_Water_rise 48 [a0, a1, some (.int x2), some (.int x), a4, a5] st S P := rn_s dq_Water_rise_47 rfl rfl rfl
theorem sq_Water_rise_47r : rn G mm_Water_rise 47 [a0, a1, some (.ref z2), a3, a4, a5] (.int x :: st) S P ↔ rn G mm_Water_rise 48 [a0, a1, some (.ref z2), some (.int x), a4, a5] st S P := rn_s dq_Water_rise_47 rfl rfl rfl
theorem dq_Water_rise_48 : decode (km_c mm_Water_rise) 48 = .ok (.iload_n 3, 1) := by decide +kernel
theorem sq_Water_rise_48 : rn G mm_Water_rise 48 [a0, a1, a2, some (.int x), a4, a5] st S P ↔ rn G mm_Water_rise 49 [a0, a1, a2, some (.int x), a4, a5] (.int x :: st) S P := rn_s dq_Water_rise_48 rfl rfl rfl
theorem dq_Water_rise_49 : decode (km_c mm_Water_rise) 49 = .ok (.aload_n 0, 1) := by decide +kernel
theorem sq_Water_rise_49 : rn G mm_Water_rise 49 [some (.ref z), a1, a2, a3, a4, a5] st S P ↔ rn G mm_Water_rise 50 [some (.ref z), a1, a2, a3, a4, a5] (.ref z :: st) S P := rn_s dq_Water_rise_49 rfl rfl rfl
theorem dq_Water_rise_50 : decode (km_c mm_Water_rise) 50 = .ok (.getfield 21, 3) := by decide +kernel
theorem sq_Water_rise_50_16 (ho : sx_o o pl kp) : rn (lt_G o L) mm_Water_rise 50 lv (.ref 16 :: st) (sx pl kp I A) P ↔ rn (lt_G o L) mm_Water_rise 53 lv (.int (I 16 3) :: st) (sx pl kp I A) P := rx_get (h := "") (ci := 6) (k := 3) dq_Water_rise_50 (by decide +kernel) ho (up_b (by decide)) rfl rfl (fl_i (by decide))
theorem sq_Water_rise_50_20 (ho : sx_o o pl kp) : rn (lt_G o L) mm_Water_rise 50 lv (.ref 20 :: st) (sx pl kp I A) P ↔ rn (lt_G o L) mm_Water_rise 53 lv (.int (I 20 3) :: st) (sx pl kp I A) P := rx_get (h := "") (ci := 6) (k := 3) dq_Water_rise_50 (by decide +kernel) ho (up_b (by decide)) rfl rfl (fl_i (by decide))
theorem dq_Water_rise_53 : decode (km_c mm_Water_rise) 53 = .ok (.if_icmp .ge 56, 3) := by decide +kernel
theorem sq_Water_rise_53 : rn G mm_Water_rise 53 lv (.int x2 :: .int x :: st) S P ↔ ((x2 ≤ x → rn G mm_Water_rise 109 lv st S P) ∧ (¬ (x2 ≤ x) → rn G mm_Water_rise 56 lv st S P)) := rn_b (off := 56) dq_Water_rise_53 rfl rfl rfl rfl
theorem dq_Water_rise_56 : decode (km_c mm_Water_rise) 56 = .ok (.iload_n 3, 1) := by decide +kernel
theorem sq_Water_rise_56 : rn G mm_Water_rise 56 [a0, a1, a2, some (.int x), a4, a5] st S P ↔ rn G mm_Water_rise 57 [a0, a1, a2, some (.int x), a4, a5] (.int x :: st) S P := rn_s dq_Water_rise_56 rfl rfl rfl
theorem dq_Water_rise_57 : decode (km_c mm_Water_rise) 57 = .ok (.bipush 49, 2) := by decide +kernel
theorem sq_Water_rise_57 : rn G mm_Water_rise 57 lv st S P ↔ rn G mm_Water_rise 59 lv (.int (nI 49) :: st) S P := rn_s dq_Water_rise_57 rfl rfl rfl
theorem dq_Water_rise_59 : decode (km_c mm_Water_rise) 59 = .ok (.if_icmp .ge 50, 3) := by decide +kernel
theorem sq_Water_rise_59 : rn G mm_Water_rise 59 lv (.int x2 :: .int x :: st) S P ↔ ((x2 ≤ x → rn G mm_Water_rise 109 lv st S P) ∧ (¬ (x2 ≤ x) → rn G mm_Water_rise 62 lv st S P)) := rn_b (off := 50) dq_Water_rise_59 rfl rfl rfl rfl
theorem dq_Water_rise_62 : decode (km_c mm_Water_rise) 62 = .ok (.iconst 0, 1) := by decide +kernel
theorem sq_Water_rise_62 : rn G mm_Water_rise 62 lv st S P ↔ rn G mm_Water_rise 63 lv (.int (nI 0) :: st) S P := rn_s dq_Water_rise_62 rfl rfl rfl
theorem dq_Water_rise_63 : decode (km_c mm_Water_rise) 63 = .ok (.istore 4, 2) := by decide +kernel
theorem sq_Water_rise_63n : rn G mm_Water_rise 63 [a0, a1, a2, none, a4, a5] (.int x :: st) S P ↔ rn G mm_Water_rise 65 [a0, a1, a2, none, some (.int x), a5] st S P := rn_s dq_Water_rise_63 rfl rfl rfl
theorem sq_Water_rise_63i : rn G mm_Water_rise 63 [a0, a1, a2, some (.int x2), a4, a5] (.int x :: st) S P ↔ rn G mm_Water_rise 65 [a0, a1, a2, some (.int x2), some (.int x), a5] st S P := rn_s dq_Water_rise_63 rfl rfl rfl
theorem sq_Water_rise_63r : rn G mm_Water_rise 63 [a0, a1, a2, some (.ref z2), a4, a5] (.int x :: st) S P ↔ rn G mm_Water_rise 65 [a0, a1, a2, some (.ref z2), some (.int x), a5] st S P := rn_s dq_Water_rise_63 rfl rfl rfl
theorem dq_Water_rise_65 : decode (km_c mm_Water_rise) 65 = .ok (.iload 4, 2) := by decide +kernel
theorem sq_Water_rise_65 : rn G mm_Water_rise 65 [a0, a1, a2, a3, some (.int x), a5] st S P ↔ rn G mm_Water_rise 67 [a0, a1, a2, a3, some (.int x), a5] (.int x :: st) S P := rn_s dq_Water_rise_65 rfl rfl rfl
theorem dq_Water_rise_67 : decode (km_c mm_Water_rise) 67 = .ok (.iconst 4, 1) := by decide +kernel
theorem sq_Water_rise_67 : rn G mm_Water_rise 67 lv st S P ↔ rn G mm_Water_rise 68 lv (.int (nI 4) :: st) S P := rn_s dq_Water_rise_67 rfl rfl rfl
theorem dq_Water_rise_68 : decode (km_c mm_Water_rise) 68 = .ok (.if_icmp .ge 35, 3) := by decide +kernel
theorem sq_Water_rise_68 : rn G mm_Water_rise 68 lv (.int x2 :: .int x :: st) S P ↔ ((x2 ≤ x → rn G mm_Water_rise 103 lv st S P) ∧ (¬ (x2 ≤ x) → rn G mm_Water_rise 71 lv st S P)) := rn_b (off := 35) dq_Water_rise_68 rfl rfl rfl rfl
theorem dq_Water_rise_71 : decode (km_c mm_Water_rise) 71 = .ok (.aload_n 0, 1) := by decide +kernel
theorem sq_Water_rise_71 : rn G mm_Water_rise 71 [some (.ref z), a1, a2, a3, a4, a5] st S P ↔ rn G mm_Water_rise 72 [some (.ref z), a1, a2, a3, a4, a5] (.ref z :: st) S P := rn_s dq_Water_rise_71 rfl rfl rfl
theorem dq_Water_rise_72 : decode (km_c mm_Water_rise) 72 = .ok (.getfield 15, 3) := by decide +kernel
theorem sq_Water_rise_72_16 (ho : sx_o o pl kp) : rn (lt_G o L) mm_Water_rise 72 lv (.ref 16 :: st) (sx pl kp I A) P ↔ rn (lt_G o L) mm_Water_rise 75 lv (.ref 18 :: st) (sx pl kp I A) P := rx_get (h := "") (ci := 6) (k := 1) dq_Water_rise_72 (by decide +kernel) ho (up_b (by decide)) rfl rfl (fl_r (by decide) (by decide) (by decide) (by decide))
theorem sq_Water_rise_72_20 (ho : sx_o o pl kp) : rn (lt_G o L) mm_Water_rise 72 lv (.ref 20 :: st) (sx pl kp I A) P ↔ rn (lt_G o L) mm_Water_rise 75 lv (.ref 22 :: st) (sx pl kp I A) P := rx_get (h := "") (ci := 6) (k := 1) dq_Water_rise_72 (by decide +kernel) ho (up_b (by decide)) rfl rfl (fl_r (by decide) (by decide) (by decide) (by decide))
theorem dq_Water_rise_75 : decode (km_c mm_Water_rise) 75 = .ok (.iload_n 3, 1) := by decide +kernel
theorem sq_Water_rise_75 : rn G mm_Water_rise 75 [a0, a1, a2, some (.int x), a4, a5] st S P ↔ rn G mm_Water_rise 76 [a0, a1, a2, some (.int x), a4, a5] (.int x :: st) S P := rn_s dq_Water_rise_75 rfl rfl rfl
theorem dq_Water_rise_76 : decode (km_c mm_Water_rise) 76 = .ok (.iaload, 1) := by decide +kernel
theorem sq_Water_rise_76 (ho : sx_o o pl kp) (hk : ak L a = 0) (hu : sx_up pl kp a = true ∨ 1000 ≤ a) (hc : c < ln L a) (hn : ln L a < 2 ^ 31) : rn (lt_G o L) mm_Water_rise 76 lv (.int (nI c) :: .ref a :: st) (sx pl kp I A) P ↔ rn (lt_G o L) mm_Water_rise 77 lv (.int (A a c) :: st) (sx pl kp I A) P := rx_ild dq_Water_rise_76 ho hk hu hc hn
theorem dq_Water_rise_77 : decode (km_c mm_Water_rise) 77 = .ok (.iload 4, 2) := by decide +kernel
theorem sq_Water_rise_77 : rn G mm_Water_rise 77 [a0, a1, a2, a3, some (.int x), a5] st S P ↔ rn G mm_Water_rise 79 [a0, a1, a2, a3, some (.int x), a5] (.int x :: st) S P := rn_s dq_Water_rise_77 rfl rfl rfl
theorem dq_Water_rise_79 : decode (km_c mm_Water_rise) 79 = .ok (.invokestatic 41, 3) := by decide +kernel
theorem sq_Water_rise_79 {x1 : Int32} {x2 : Int32} {v : Option Value} {S2 : ks_S} (hc : ev G mm_Road_cellAt [.int x1, .int x2] S v S2) (hst : kx_cat st ≤ 8) : rn G mm_Water_rise 79 lv (.int x2 :: .int x1 :: st) S P ↔ rn G mm_Water_rise 82 lv (v.toList ++ st) S2 P := rn_cs (k := 1) (host := "DeltaRoad") (E' := mm_Road_cellAt) dq_Water_rise_79 (by decide) (by decide) rfl (ok_v rfl (by decide) (by decide) (Nat.le_add_left _ _) hst (Nat.le_of_ble_eq_true rfl) (Or.inl rfl)) rfl rfl hc
theorem dq_Water_rise_82 : decode (km_c mm_Water_rise) 82 = .ok (.istore 5, 2) := by decide +kernel
theorem sq_Water_rise_82n : rn G mm_Water_rise 82 [a0, a1, a2, a3, none, a5] (.int x :: st) S P ↔ rn G mm_Water_rise 84 [a0, a1, a2, a3, none, some (.int x)] st S P := rn_s dq_Water_rise_82 rfl rfl rfl
theorem sq_Water_rise_82i : rn G mm_Water_rise 82 [a0, a1, a2, a3, some (.int x2), a5] (.int x :: st) S P ↔ rn G mm_Water_rise 84 [a0, a1, a2, a3, some (.int x2), some (.int x)] st S P := rn_s dq_Water_rise_82 rfl rfl rfl
theorem sq_Water_rise_82r : rn G mm_Water_rise 82 [a0, a1, a2, a3, some (.ref z2), a5] (.int x :: st) S P ↔ rn G mm_Water_rise 84 [a0, a1, a2, a3, some (.ref z2), some (.int x)] st S P := rn_s dq_Water_rise_82 rfl rfl rfl
theorem dq_Water_rise_84 : decode (km_c mm_Water_rise) 84 = .ok (.iload 5, 2) := by decide +kernel
theorem sq_Water_rise_84 : rn G mm_Water_rise 84 [a0, a1, a2, a3, a4, some (.int x)] st S P ↔ rn G mm_Water_rise 86 [a0, a1, a2, a3, a4, some (.int x)] (.int x :: st) S P := rn_s dq_Water_rise_84 rfl rfl rfl
theorem dq_Water_rise_86 : decode (km_c mm_Water_rise) 86 = .ok (.ifCond .lt 11, 3) := by decide +kernel
theorem sq_Water_rise_86 : rn G mm_Water_rise 86 lv (.int x :: st) S P ↔ ((x < 0 → rn G mm_Water_rise 97 lv st S P) ∧ (¬ (x < 0) → rn G mm_Water_rise 89 lv st S P)) := rn_b (off := 11) dq_Water_rise_86 rfl rfl rfl rfl
theorem dq_Water_rise_89 : decode (km_c mm_Water_rise) 89 = .ok (.aload_n 0, 1) := by decide +kernel
theorem sq_Water_rise_89 : rn G mm_Water_rise 89 [some (.ref z), a1, a2, a3, a4, a5] st S P ↔ rn G mm_Water_rise 90 [some (.ref z), a1, a2, a3, a4, a5] (.ref z :: st) S P := rn_s dq_Water_rise_89 rfl rfl rfl
theorem dq_Water_rise_90 : decode (km_c mm_Water_rise) 90 = .ok (.aload_n 1, 1) := by decide +kernel
theorem sq_Water_rise_90 : rn G mm_Water_rise 90 [a0, some (.ref z), a2, a3, a4, a5] st S P ↔ rn G mm_Water_rise 91 [a0, some (.ref z), a2, a3, a4, a5] (.ref z :: st) S P := rn_s dq_Water_rise_90 rfl rfl rfl
theorem dq_Water_rise_91 : decode (km_c mm_Water_rise) 91 = .ok (.iload_n 2, 1) := by decide +kernel
theorem sq_Water_rise_91 : rn G mm_Water_rise 91 [a0, a1, some (.int x), a3, a4, a5] st S P ↔ rn G mm_Water_rise 92 [a0, a1, some (.int x), a3, a4, a5] (.int x :: st) S P := rn_s dq_Water_rise_91 rfl rfl rfl
theorem dq_Water_rise_92 : decode (km_c mm_Water_rise) 92 = .ok (.iload 5, 2) := by decide +kernel
theorem sq_Water_rise_92 : rn G mm_Water_rise 92 [a0, a1, a2, a3, a4, some (.int x)] st S P ↔ rn G mm_Water_rise 94 [a0, a1, a2, a3, a4, some (.int x)] (.int x :: st) S P := rn_s dq_Water_rise_92 rfl rfl rfl
theorem dq_Water_rise_94 : decode (km_c mm_Water_rise) 94 = .ok (.invokevirtual 37, 3) := by decide +kernel
theorem sq_Water_rise_94_16 {z1 : Nat} {x2 : Int32} {x3 : Int32} {v : Option Value} {S2 : ks_S} (hc : ev (lt_G o L) mm_Water_reach [.ref 16, .ref z1, .int x2, .int x3] (sx pl kp I A) v S2) (ho : sx_o o pl kp) (hst : kx_cat st ≤ 8) : rn (lt_G o L) mm_Water_rise 94 lv (.int x3 :: .int x2 :: .ref z1 :: .ref 16 :: st) (sx pl kp I A) P ↔ rn (lt_G o L) mm_Water_rise 97 lv (v.toList ++ st) S2 P := rn_cv (k := 0) (host := "") (E' := mm_Water_reach) dq_Water_rise_94 rfl (ok_v rfl (by decide) (by decide) (Nat.le_add_left _ _) hst (Nat.le_of_ble_eq_true rfl) (Or.inr (rc_v ho (up_b (by decide)) rfl))) rfl rfl hc
theorem sq_Water_rise_94_20 {z1 : Nat} {x2 : Int32} {x3 : Int32} {v : Option Value} {S2 : ks_S} (hc : ev (lt_G o L) mm_Water_reach [.ref 20, .ref z1, .int x2, .int x3] (sx pl kp I A) v S2) (ho : sx_o o pl kp) (hst : kx_cat st ≤ 8) : rn (lt_G o L) mm_Water_rise 94 lv (.int x3 :: .int x2 :: .ref z1 :: .ref 20 :: st) (sx pl kp I A) P ↔ rn (lt_G o L) mm_Water_rise 97 lv (v.toList ++ st) S2 P := rn_cv (k := 0) (host := "") (E' := mm_Water_reach) dq_Water_rise_94 rfl (ok_v rfl (by decide) (by decide) (Nat.le_add_left _ _) hst (Nat.le_of_ble_eq_true rfl) (Or.inr (rc_v ho (up_b (by decide)) rfl))) rfl rfl hc
theorem dq_Water_rise_97 : decode (km_c mm_Water_rise) 97 = .ok (.iinc 4 1, 3) := by decide +kernel
theorem sq_Water_rise_97n : rn G mm_Water_rise 97 [a0, a1, a2, none, some (.int x), a5] st S P ↔ rn G mm_Water_rise 100 [a0, a1, a2, none, some (.int (x + nI 1)), a5] st S P := rn_s dq_Water_rise_97 rfl rfl rfl
theorem sq_Water_rise_97i : rn G mm_Water_rise 97 [a0, a1, a2, some (.int x2), some (.int x), a5] st S P ↔ rn G mm_Water_rise 100 [a0, a1, a2, some (.int x2), some (.int (x + nI 1)), a5] st S P := rn_s dq_Water_rise_97 rfl rfl rfl
theorem sq_Water_rise_97r : rn G mm_Water_rise 97 [a0, a1, a2, some (.ref z2), some (.int x), a5] st S P ↔ rn G mm_Water_rise 100 [a0, a1, a2, some (.ref z2), some (.int (x + nI 1)), a5] st S P := rn_s dq_Water_rise_97 rfl rfl rfl
theorem dq_Water_rise_100 : decode (km_c mm_Water_rise) 100 = .ok (.goto (-35), 3) := by decide +kernel
theorem sq_Water_rise_100 : rn G mm_Water_rise 100 lv st S P ↔ rn G mm_Water_rise 65 lv st S P := rn_s dq_Water_rise_100 rfl rfl rfl
theorem dq_Water_rise_103 : decode (km_c mm_Water_rise) 103 = .ok (.iinc 3 1, 3) := by decide +kernel
theorem sq_Water_rise_103n : rn G mm_Water_rise 103 [a0, a1, none, some (.int x), a4, a5] st S P ↔ rn G mm_Water_rise 106 [a0, a1, none, some (.int (x + nI 1)), a4, a5] st S P := rn_s dq_Water_rise_103 rfl rfl rfl
theorem sq_Water_rise_103i : rn G mm_Water_rise 103 [a0, a1, some (.int x2), some (.int x), a4, a5] st S P ↔ rn G mm_Water_rise 106 [a0, a1, some (.int x2), some (.int (x + nI 1)), a4, a5] st S P := rn_s dq_Water_rise_103 rfl rfl rfl
theorem sq_Water_rise_103r : rn G mm_Water_rise 103 [a0, a1, some (.ref z2), some (.int x), a4, a5] st S P ↔ rn G mm_Water_rise 106 [a0, a1, some (.ref z2), some (.int (x + nI 1)), a4, a5] st S P := rn_s dq_Water_rise_103 rfl rfl rfl
theorem dq_Water_rise_106 : decode (km_c mm_Water_rise) 106 = .ok (.goto (-58), 3) := by decide +kernel
theorem sq_Water_rise_106 : rn G mm_Water_rise 106 lv st S P ↔ rn G mm_Water_rise 48 lv st S P := rn_s dq_Water_rise_106 rfl rfl rfl
theorem dq_Water_rise_109 : decode (km_c mm_Water_rise) 109 = .ok (.return_, 1) := by decide +kernel
theorem sq_Water_rise_109 : rn G mm_Water_rise 109 lv [] S P ↔ P none S := rn_vr dq_Water_rise_109 rfl
theorem dq_Water_reach_0 : decode (km_c mm_Water_reach) 0 = .ok (.iload_n 2, 1) := by decide +kernel
theorem sq_Water_reach_0 : rn G mm_Water_reach 0 [a0, a1, some (.int x), a3, a4] st S P ↔ rn G mm_Water_reach 1 [a0, a1, some (.int x), a3, a4] (.int x :: st) S P := rn_s dq_Water_reach_0 rfl rfl rfl
theorem dq_Water_reach_1 : decode (km_c mm_Water_reach) 1 = .ok (.aload_n 1, 1) := by decide +kernel
theorem sq_Water_reach_1 : rn G mm_Water_reach 1 [a0, some (.ref z), a2, a3, a4] st S P ↔ rn G mm_Water_reach 2 [a0, some (.ref z), a2, a3, a4] (.ref z :: st) S P := rn_s dq_Water_reach_1 rfl rfl rfl
theorem dq_Water_reach_2 : decode (km_c mm_Water_reach) 2 = .ok (.iload_n 3, 1) := by decide +kernel
theorem sq_Water_reach_2 : rn G mm_Water_reach 2 [a0, a1, a2, some (.int x), a4] st S P ↔ rn G mm_Water_reach 3 [a0, a1, a2, some (.int x), a4] (.int x :: st) S P := rn_s dq_Water_reach_2 rfl rfl rfl
theorem dq_Water_reach_3 : decode (km_c mm_Water_reach) 3 = .ok (.invokevirtual 45, 3) := by decide +kernel
theorem sq_Water_reach_3_2 {x1 : Int32} {v : Option Value} {S2 : ks_S} (hc : ev (lt_G o L) mm_Ground_top [.ref 2, .int x1] (sx pl kp I A) v S2) (ho : sx_o o pl kp) (hst : kx_cat st ≤ 8) : rn (lt_G o L) mm_Water_reach 3 lv (.int x1 :: .ref 2 :: st) (sx pl kp I A) P ↔ rn (lt_G o L) mm_Water_reach 6 lv (v.toList ++ st) S2 P := rn_cv (k := 0) (host := "") (E' := mm_Ground_top) dq_Water_reach_3 rfl (ok_v rfl (by decide) (by decide) (Nat.le_add_left _ _) hst (Nat.le_of_ble_eq_true rfl) (Or.inr (rc_v ho (up_b (by decide)) rfl))) rfl rfl hc
theorem sq_Water_reach_3_35 {x1 : Int32} {v : Option Value} {S2 : ks_S} (hc : ev (lt_G o L) mm_Ground_top [.ref 35, .int x1] (sx pl kp I A) v S2) (ho : sx_o o pl kp) (hst : kx_cat st ≤ 8) : rn (lt_G o L) mm_Water_reach 3 lv (.int x1 :: .ref 35 :: st) (sx pl kp I A) P ↔ rn (lt_G o L) mm_Water_reach 6 lv (v.toList ++ st) S2 P := rn_cv (k := 0) (host := "") (E' := mm_Ground_top) dq_Water_reach_3 rfl (ok_v rfl (by decide) (by decide) (Nat.le_add_left _ _) hst (Nat.le_of_ble_eq_true rfl) (Or.inr (rc_v ho (up_b (by decide)) rfl))) rfl rfl hc
theorem sq_Water_reach_3_137 {x1 : Int32} {v : Option Value} {S2 : ks_S} (hc : ev (lt_G o L) mm_Ground_top [.ref 137, .int x1] (sx pl true I A) v S2) (ho : sx_o o pl true) (hst : kx_cat st ≤ 8) : rn (lt_G o L) mm_Water_reach 3 lv (.int x1 :: .ref 137 :: st) (sx pl true I A) P ↔ rn (lt_G o L) mm_Water_reach 6 lv (v.toList ++ st) S2 P := rn_cv (k := 0) (host := "") (E' := mm_Ground_top) dq_Water_reach_3 rfl (ok_v rfl (by decide) (by decide) (Nat.le_add_left _ _) hst (Nat.le_of_ble_eq_true rfl) (Or.inr (rc_v ho (up_k (by decide) (by decide)) rfl))) rfl rfl hc
theorem dq_Water_reach_6 : decode (km_c mm_Water_reach) 6 = .ok (.isub, 1) := by decide +kernel
theorem sq_Water_reach_6 : rn G mm_Water_reach 6 lv (.int x2 :: .int x :: st) S P ↔ rn G mm_Water_reach 7 lv (.int (x - x2) :: st) S P := rn_s dq_Water_reach_6 rfl rfl rfl
theorem dq_Water_reach_7 : decode (km_c mm_Water_reach) 7 = .ok (.istore 4, 2) := by decide +kernel
theorem sq_Water_reach_7n : rn G mm_Water_reach 7 [a0, a1, a2, none, a4] (.int x :: st) S P ↔ rn G mm_Water_reach 9 [a0, a1, a2, none, some (.int x)] st S P := rn_s dq_Water_reach_7 rfl rfl rfl
theorem sq_Water_reach_7i : rn G mm_Water_reach 7 [a0, a1, a2, some (.int x2), a4] (.int x :: st) S P ↔ rn G mm_Water_reach 9 [a0, a1, a2, some (.int x2), some (.int x)] st S P := rn_s dq_Water_reach_7 rfl rfl rfl
theorem sq_Water_reach_7r : rn G mm_Water_reach 7 [a0, a1, a2, some (.ref z2), a4] (.int x :: st) S P ↔ rn G mm_Water_reach 9 [a0, a1, a2, some (.ref z2), some (.int x)] st S P := rn_s dq_Water_reach_7 rfl rfl rfl
theorem dq_Water_reach_9 : decode (km_c mm_Water_reach) 9 = .ok (.iload 4, 2) := by decide +kernel
theorem sq_Water_reach_9 : rn G mm_Water_reach 9 [a0, a1, a2, a3, some (.int x)] st S P ↔ rn G mm_Water_reach 11 [a0, a1, a2, a3, some (.int x)] (.int x :: st) S P := rn_s dq_Water_reach_9 rfl rfl rfl
theorem dq_Water_reach_11 : decode (km_c mm_Water_reach) 11 = .ok (.ifCond .le 49, 3) := by decide +kernel
theorem sq_Water_reach_11 : rn G mm_Water_reach 11 lv (.int x :: st) S P ↔ ((x ≤ 0 → rn G mm_Water_reach 60 lv st S P) ∧ (¬ (x ≤ 0) → rn G mm_Water_reach 14 lv st S P)) := rn_b (off := 49) dq_Water_reach_11 rfl rfl rfl rfl
theorem dq_Water_reach_14 : decode (km_c mm_Water_reach) 14 = .ok (.aload_n 0, 1) := by decide +kernel
theorem sq_Water_reach_14 : rn G mm_Water_reach 14 [some (.ref z), a1, a2, a3, a4] st S P ↔ rn G mm_Water_reach 15 [some (.ref z), a1, a2, a3, a4] (.ref z :: st) S P := rn_s dq_Water_reach_14 rfl rfl rfl
theorem dq_Water_reach_15 : decode (km_c mm_Water_reach) 15 = .ok (.getfield 9, 3) := by decide +kernel
theorem sq_Water_reach_15_16 (ho : sx_o o pl kp) : rn (lt_G o L) mm_Water_reach 15 lv (.ref 16 :: st) (sx pl kp I A) P ↔ rn (lt_G o L) mm_Water_reach 18 lv (.ref 17 :: st) (sx pl kp I A) P := rx_get (h := "") (ci := 6) (k := 0) dq_Water_reach_15 (by decide +kernel) ho (up_b (by decide)) rfl rfl (fl_r (by decide) (by decide) (by decide) (by decide))
theorem sq_Water_reach_15_20 (ho : sx_o o pl kp) : rn (lt_G o L) mm_Water_reach 15 lv (.ref 20 :: st) (sx pl kp I A) P ↔ rn (lt_G o L) mm_Water_reach 18 lv (.ref 21 :: st) (sx pl kp I A) P := rx_get (h := "") (ci := 6) (k := 0) dq_Water_reach_15 (by decide +kernel) ho (up_b (by decide)) rfl rfl (fl_r (by decide) (by decide) (by decide) (by decide))
theorem dq_Water_reach_18 : decode (km_c mm_Water_reach) 18 = .ok (.iload_n 3, 1) := by decide +kernel
theorem sq_Water_reach_18 : rn G mm_Water_reach 18 [a0, a1, a2, some (.int x), a4] st S P ↔ rn G mm_Water_reach 19 [a0, a1, a2, some (.int x), a4] (.int x :: st) S P := rn_s dq_Water_reach_18 rfl rfl rfl
theorem dq_Water_reach_19 : decode (km_c mm_Water_reach) 19 = .ok (.iaload, 1) := by decide +kernel
theorem sq_Water_reach_19 (ho : sx_o o pl kp) (hk : ak L a = 0) (hu : sx_up pl kp a = true ∨ 1000 ≤ a) (hc : c < ln L a) (hn : ln L a < 2 ^ 31) : rn (lt_G o L) mm_Water_reach 19 lv (.int (nI c) :: .ref a :: st) (sx pl kp I A) P ↔ rn (lt_G o L) mm_Water_reach 20 lv (.int (A a c) :: st) (sx pl kp I A) P := rx_ild dq_Water_reach_19 ho hk hu hc hn
theorem dq_Water_reach_20 : decode (km_c mm_Water_reach) 20 = .ok (.ifCond .ne 40, 3) := by decide +kernel
theorem sq_Water_reach_20 : rn G mm_Water_reach 20 lv (.int x :: st) S P ↔ ((¬ x = 0 → rn G mm_Water_reach 60 lv st S P) ∧ (¬ (¬ x = 0) → rn G mm_Water_reach 23 lv st S P)) := rn_b (off := 40) dq_Water_reach_20 rfl rfl rfl rfl
theorem dq_Water_reach_23 : decode (km_c mm_Water_reach) 23 = .ok (.aload_n 0, 1) := by decide +kernel
theorem sq_Water_reach_23 : rn G mm_Water_reach 23 [some (.ref z), a1, a2, a3, a4] st S P ↔ rn G mm_Water_reach 24 [some (.ref z), a1, a2, a3, a4] (.ref z :: st) S P := rn_s dq_Water_reach_23 rfl rfl rfl
theorem dq_Water_reach_24 : decode (km_c mm_Water_reach) 24 = .ok (.getfield 21, 3) := by decide +kernel
theorem sq_Water_reach_24_16 (ho : sx_o o pl kp) : rn (lt_G o L) mm_Water_reach 24 lv (.ref 16 :: st) (sx pl kp I A) P ↔ rn (lt_G o L) mm_Water_reach 27 lv (.int (I 16 3) :: st) (sx pl kp I A) P := rx_get (h := "") (ci := 6) (k := 3) dq_Water_reach_24 (by decide +kernel) ho (up_b (by decide)) rfl rfl (fl_i (by decide))
theorem sq_Water_reach_24_20 (ho : sx_o o pl kp) : rn (lt_G o L) mm_Water_reach 24 lv (.ref 20 :: st) (sx pl kp I A) P ↔ rn (lt_G o L) mm_Water_reach 27 lv (.int (I 20 3) :: st) (sx pl kp I A) P := rx_get (h := "") (ci := 6) (k := 3) dq_Water_reach_24 (by decide +kernel) ho (up_b (by decide)) rfl rfl (fl_i (by decide))
theorem dq_Water_reach_27 : decode (km_c mm_Water_reach) 27 = .ok (.bipush 49, 2) := by decide +kernel
theorem sq_Water_reach_27 : rn G mm_Water_reach 27 lv st S P ↔ rn G mm_Water_reach 29 lv (.int (nI 49) :: st) S P := rn_s dq_Water_reach_27 rfl rfl rfl
theorem dq_Water_reach_29 : decode (km_c mm_Water_reach) 29 = .ok (.if_icmp .ge 31, 3) := by decide +kernel
theorem sq_Water_reach_29 : rn G mm_Water_reach 29 lv (.int x2 :: .int x :: st) S P ↔ ((x2 ≤ x → rn G mm_Water_reach 60 lv st S P) ∧ (¬ (x2 ≤ x) → rn G mm_Water_reach 32 lv st S P)) := rn_b (off := 31) dq_Water_reach_29 rfl rfl rfl rfl
theorem dq_Water_reach_32 : decode (km_c mm_Water_reach) 32 = .ok (.aload_n 0, 1) := by decide +kernel
theorem sq_Water_reach_32 : rn G mm_Water_reach 32 [some (.ref z), a1, a2, a3, a4] st S P ↔ rn G mm_Water_reach 33 [some (.ref z), a1, a2, a3, a4] (.ref z :: st) S P := rn_s dq_Water_reach_32 rfl rfl rfl
theorem dq_Water_reach_33 : decode (km_c mm_Water_reach) 33 = .ok (.getfield 9, 3) := by decide +kernel
theorem sq_Water_reach_33_16 (ho : sx_o o pl kp) : rn (lt_G o L) mm_Water_reach 33 lv (.ref 16 :: st) (sx pl kp I A) P ↔ rn (lt_G o L) mm_Water_reach 36 lv (.ref 17 :: st) (sx pl kp I A) P := rx_get (h := "") (ci := 6) (k := 0) dq_Water_reach_33 (by decide +kernel) ho (up_b (by decide)) rfl rfl (fl_r (by decide) (by decide) (by decide) (by decide))
theorem sq_Water_reach_33_20 (ho : sx_o o pl kp) : rn (lt_G o L) mm_Water_reach 33 lv (.ref 20 :: st) (sx pl kp I A) P ↔ rn (lt_G o L) mm_Water_reach 36 lv (.ref 21 :: st) (sx pl kp I A) P := rx_get (h := "") (ci := 6) (k := 0) dq_Water_reach_33 (by decide +kernel) ho (up_b (by decide)) rfl rfl (fl_r (by decide) (by decide) (by decide) (by decide))
theorem dq_Water_reach_36 : decode (km_c mm_Water_reach) 36 = .ok (.iload_n 3, 1) := by decide +kernel
theorem sq_Water_reach_36 : rn G mm_Water_reach 36 [a0, a1, a2, some (.int x), a4] st S P ↔ rn G mm_Water_reach 37 [a0, a1, a2, some (.int x), a4] (.int x :: st) S P := rn_s dq_Water_reach_36 rfl rfl rfl
theorem dq_Water_reach_37 : decode (km_c mm_Water_reach) 37 = .ok (.iload 4, 2) := by decide +kernel
theorem sq_Water_reach_37 : rn G mm_Water_reach 37 [a0, a1, a2, a3, some (.int x)] st S P ↔ rn G mm_Water_reach 39 [a0, a1, a2, a3, some (.int x)] (.int x :: st) S P := rn_s dq_Water_reach_37 rfl rfl rfl
theorem dq_Water_reach_39 : decode (km_c mm_Water_reach) 39 = .ok (.iastore, 1) := by decide +kernel
theorem sq_Water_reach_39 (ho : sx_o o pl kp) (hk : ak L a = 0) (hu : sx_up pl kp a = true) (hc : c < ln L a) (hn : ln L a < 2 ^ 31) : rn (lt_G o L) mm_Water_reach 39 lv (.int x :: .int (nI c) :: .ref a :: st) (sx pl kp I A) P ↔ rn (lt_G o L) mm_Water_reach 40 lv st (sx pl kp I (u2 A a c x)) P := rx_ist dq_Water_reach_39 ho hk hu hc hn
theorem dq_Water_reach_40 : decode (km_c mm_Water_reach) 40 = .ok (.aload_n 0, 1) := by decide +kernel
theorem sq_Water_reach_40 : rn G mm_Water_reach 40 [some (.ref z), a1, a2, a3, a4] st S P ↔ rn G mm_Water_reach 41 [some (.ref z), a1, a2, a3, a4] (.ref z :: st) S P := rn_s dq_Water_reach_40 rfl rfl rfl
theorem dq_Water_reach_41 : decode (km_c mm_Water_reach) 41 = .ok (.getfield 15, 3) := by decide +kernel
theorem sq_Water_reach_41_16 (ho : sx_o o pl kp) : rn (lt_G o L) mm_Water_reach 41 lv (.ref 16 :: st) (sx pl kp I A) P ↔ rn (lt_G o L) mm_Water_reach 44 lv (.ref 18 :: st) (sx pl kp I A) P := rx_get (h := "") (ci := 6) (k := 1) dq_Water_reach_41 (by decide +kernel) ho (up_b (by decide)) rfl rfl (fl_r (by decide) (by decide) (by decide) (by decide))
theorem sq_Water_reach_41_20 (ho : sx_o o pl kp) : rn (lt_G o L) mm_Water_reach 41 lv (.ref 20 :: st) (sx pl kp I A) P ↔ rn (lt_G o L) mm_Water_reach 44 lv (.ref 22 :: st) (sx pl kp I A) P := rx_get (h := "") (ci := 6) (k := 1) dq_Water_reach_41 (by decide +kernel) ho (up_b (by decide)) rfl rfl (fl_r (by decide) (by decide) (by decide) (by decide))
theorem dq_Water_reach_44 : decode (km_c mm_Water_reach) 44 = .ok (.aload_n 0, 1) := by decide +kernel
theorem sq_Water_reach_44 : rn G mm_Water_reach 44 [some (.ref z), a1, a2, a3, a4] st S P ↔ rn G mm_Water_reach 45 [some (.ref z), a1, a2, a3, a4] (.ref z :: st) S P := rn_s dq_Water_reach_44 rfl rfl rfl
theorem dq_Water_reach_45 : decode (km_c mm_Water_reach) 45 = .ok (.getfield 21, 3) := by decide +kernel
theorem sq_Water_reach_45_16 (ho : sx_o o pl kp) : rn (lt_G o L) mm_Water_reach 45 lv (.ref 16 :: st) (sx pl kp I A) P ↔ rn (lt_G o L) mm_Water_reach 48 lv (.int (I 16 3) :: st) (sx pl kp I A) P := rx_get (h := "") (ci := 6) (k := 3) dq_Water_reach_45 (by decide +kernel) ho (up_b (by decide)) rfl rfl (fl_i (by decide))
theorem sq_Water_reach_45_20 (ho : sx_o o pl kp) : rn (lt_G o L) mm_Water_reach 45 lv (.ref 20 :: st) (sx pl kp I A) P ↔ rn (lt_G o L) mm_Water_reach 48 lv (.int (I 20 3) :: st) (sx pl kp I A) P := rx_get (h := "") (ci := 6) (k := 3) dq_Water_reach_45 (by decide +kernel) ho (up_b (by decide)) rfl rfl (fl_i (by decide))
theorem dq_Water_reach_48 : decode (km_c mm_Water_reach) 48 = .ok (.iload_n 3, 1) := by decide +kernel
theorem sq_Water_reach_48 : rn G mm_Water_reach 48 [a0, a1, a2, some (.int x), a4] st S P ↔ rn G mm_Water_reach 49 [a0, a1, a2, some (.int x), a4] (.int x :: st) S P := rn_s dq_Water_reach_48 rfl rfl rfl
theorem dq_Water_reach_49 : decode (km_c mm_Water_reach) 49 = .ok (.iastore, 1) := by decide +kernel
theorem sq_Water_reach_49 (ho : sx_o o pl kp) (hk : ak L a = 0) (hu : sx_up pl kp a = true) (hc : c < ln L a) (hn : ln L a < 2 ^ 31) : rn (lt_G o L) mm_Water_reach 49 lv (.int x :: .int (nI c) :: .ref a :: st) (sx pl kp I A) P ↔ rn (lt_G o L) mm_Water_reach 50 lv st (sx pl kp I (u2 A a c x)) P := rx_ist dq_Water_reach_49 ho hk hu hc hn
theorem dq_Water_reach_50 : decode (km_c mm_Water_reach) 50 = .ok (.aload_n 0, 1) := by decide +kernel
theorem sq_Water_reach_50 : rn G mm_Water_reach 50 [some (.ref z), a1, a2, a3, a4] st S P ↔ rn G mm_Water_reach 51 [some (.ref z), a1, a2, a3, a4] (.ref z :: st) S P := rn_s dq_Water_reach_50 rfl rfl rfl
theorem dq_Water_reach_51 : decode (km_c mm_Water_reach) 51 = .ok (.dup, 1) := by decide +kernel
theorem sq_Water_reach_51i : rn G mm_Water_reach 51 lv (.int x :: st) S P ↔ rn G mm_Water_reach 52 lv (.int x :: .int x :: st) S P := rn_s dq_Water_reach_51 rfl rfl rfl
theorem sq_Water_reach_51r : rn G mm_Water_reach 51 lv (.ref z :: st) S P ↔ rn G mm_Water_reach 52 lv (.ref z :: .ref z :: st) S P := rn_s dq_Water_reach_51 rfl rfl rfl
theorem dq_Water_reach_52 : decode (km_c mm_Water_reach) 52 = .ok (.getfield 21, 3) := by decide +kernel
theorem sq_Water_reach_52_16 (ho : sx_o o pl kp) : rn (lt_G o L) mm_Water_reach 52 lv (.ref 16 :: st) (sx pl kp I A) P ↔ rn (lt_G o L) mm_Water_reach 55 lv (.int (I 16 3) :: st) (sx pl kp I A) P := rx_get (h := "") (ci := 6) (k := 3) dq_Water_reach_52 (by decide +kernel) ho (up_b (by decide)) rfl rfl (fl_i (by decide))
theorem sq_Water_reach_52_20 (ho : sx_o o pl kp) : rn (lt_G o L) mm_Water_reach 52 lv (.ref 20 :: st) (sx pl kp I A) P ↔ rn (lt_G o L) mm_Water_reach 55 lv (.int (I 20 3) :: st) (sx pl kp I A) P := rx_get (h := "") (ci := 6) (k := 3) dq_Water_reach_52 (by decide +kernel) ho (up_b (by decide)) rfl rfl (fl_i (by decide))
theorem dq_Water_reach_55 : decode (km_c mm_Water_reach) 55 = .ok (.iconst 1, 1) := by decide +kernel
theorem sq_Water_reach_55 : rn G mm_Water_reach 55 lv st S P ↔ rn G mm_Water_reach 56 lv (.int (nI 1) :: st) S P := rn_s dq_Water_reach_55 rfl rfl rfl
theorem dq_Water_reach_56 : decode (km_c mm_Water_reach) 56 = .ok (.iadd, 1) := by decide +kernel
theorem sq_Water_reach_56 : rn G mm_Water_reach 56 lv (.int x2 :: .int x :: st) S P ↔ rn G mm_Water_reach 57 lv (.int (x + x2) :: st) S P := rn_s dq_Water_reach_56 rfl rfl rfl
theorem dq_Water_reach_57 : decode (km_c mm_Water_reach) 57 = .ok (.putfield 21, 3) := by decide +kernel
theorem sq_Water_reach_57_16 (ho : sx_o o pl kp) : rn (lt_G o L) mm_Water_reach 57 lv (.int x :: .ref 16 :: st) (sx pl kp I A) P ↔ rn (lt_G o L) mm_Water_reach 60 lv st (sx pl kp (u2 I 16 3 x) A) P := rx_put (h := "") (ci := 6) (k := 3) dq_Water_reach_57 (by decide +kernel) ho (up_b (by decide)) rfl rfl (by decide) (by decide)
theorem sq_Water_reach_57_20 (ho : sx_o o pl kp) : rn (lt_G o L) mm_Water_reach 57 lv (.int x :: .ref 20 :: st) (sx pl kp I A) P ↔ rn (lt_G o L) mm_Water_reach 60 lv st (sx pl kp (u2 I 20 3 x) A) P := rx_put (h := "") (ci := 6) (k := 3) dq_Water_reach_57 (by decide +kernel) ho (up_b (by decide)) rfl rfl (by decide) (by decide)
theorem dq_Water_reach_60 : decode (km_c mm_Water_reach) 60 = .ok (.return_, 1) := by decide +kernel
theorem sq_Water_reach_60 : rn G mm_Water_reach 60 lv [] S P ↔ P none S := rn_vr dq_Water_reach_60 rfl
theorem dq_Water_wetCells_0 : decode (km_c mm_Water_wetCells) 0 = .ok (.aload_n 0, 1) := by decide +kernel
theorem sq_Water_wetCells_0 : rn G mm_Water_wetCells 0 [some (.ref z)] st S P ↔ rn G mm_Water_wetCells 1 [some (.ref z)] (.ref z :: st) S P := rn_s dq_Water_wetCells_0 rfl rfl rfl
theorem dq_Water_wetCells_1 : decode (km_c mm_Water_wetCells) 1 = .ok (.getfield 21, 3) := by decide +kernel
theorem sq_Water_wetCells_1_16 (ho : sx_o o pl kp) : rn (lt_G o L) mm_Water_wetCells 1 lv (.ref 16 :: st) (sx pl kp I A) P ↔ rn (lt_G o L) mm_Water_wetCells 4 lv (.int (I 16 3) :: st) (sx pl kp I A) P := rx_get (h := "") (ci := 6) (k := 3) dq_Water_wetCells_1 (by decide +kernel) ho (up_b (by decide)) rfl rfl (fl_i (by decide))
theorem sq_Water_wetCells_1_20 (ho : sx_o o pl kp) : rn (lt_G o L) mm_Water_wetCells 1 lv (.ref 20 :: st) (sx pl kp I A) P ↔ rn (lt_G o L) mm_Water_wetCells 4 lv (.int (I 20 3) :: st) (sx pl kp I A) P := rx_get (h := "") (ci := 6) (k := 3) dq_Water_wetCells_1 (by decide +kernel) ho (up_b (by decide)) rfl rfl (fl_i (by decide))
theorem dq_Water_wetCells_4 : decode (km_c mm_Water_wetCells) 4 = .ok (.ireturn, 1) := by decide +kernel
theorem sq_Water_wetCells_4 : rn G mm_Water_wetCells 4 lv [.int x] S P ↔ P (some (.int x)) S := rn_ir dq_Water_wetCells_4 rfl
theorem dq_Water_carryMud_0 : decode (km_c mm_Water_carryMud) 0 = .ok (.aload_n 1, 1) := by decide +kernel
theorem sq_Water_carryMud_0 : rn G mm_Water_carryMud 0 [a0, some (.ref z), a2, a3, a4, a5] st S P ↔ rn G mm_Water_carryMud 1 [a0, some (.ref z), a2, a3, a4, a5] (.ref z :: st) S P := rn_s dq_Water_carryMud_0 rfl rfl rfl
theorem dq_Water_carryMud_1 : decode (km_c mm_Water_carryMud) 1 = .ok (.getfield 31, 3) := by decide +kernel
theorem sq_Water_carryMud_1_2 (ho : sx_o o pl kp) : rn (lt_G o L) mm_Water_carryMud 1 lv (.ref 2 :: st) (sx pl kp I A) P ↔ rn (lt_G o L) mm_Water_carryMud 4 lv (.ref 3 :: st) (sx pl kp I A) P := rx_get (h := "DeltaRoad") (ci := 0) (k := 0) dq_Water_carryMud_1 (by decide +kernel) ho (up_b (by decide)) rfl rfl (fl_r (by decide) (by decide) (by decide) (by decide))
theorem sq_Water_carryMud_1_35 (ho : sx_o o pl kp) : rn (lt_G o L) mm_Water_carryMud 1 lv (.ref 35 :: st) (sx pl kp I A) P ↔ rn (lt_G o L) mm_Water_carryMud 4 lv (.ref 36 :: st) (sx pl kp I A) P := rx_get (h := "DeltaRoad") (ci := 0) (k := 0) dq_Water_carryMud_1 (by decide +kernel) ho (up_b (by decide)) rfl rfl (fl_r (by decide) (by decide) (by decide) (by decide))
theorem sq_Water_carryMud_1_137 (ho : sx_o o pl true) : rn (lt_G o L) mm_Water_carryMud 1 lv (.ref 137 :: st) (sx pl true I A) P ↔ rn (lt_G o L) mm_Water_carryMud 4 lv (.ref 138 :: st) (sx pl true I A) P := rx_get (h := "DeltaRoad") (ci := 0) (k := 0) dq_Water_carryMud_1 (by decide +kernel) ho (up_k (by decide) (by decide)) rfl rfl (fl_k (by decide) (by decide))
theorem dq_Water_carryMud_4 : decode (km_c mm_Water_carryMud) 4 = .ok (.iconst 1, 1) := by decide +kernel
theorem sq_Water_carryMud_4 : rn G mm_Water_carryMud 4 lv st S P ↔ rn G mm_Water_carryMud 5 lv (.int (nI 1) :: st) S P := rn_s dq_Water_carryMud_4 rfl rfl rfl
theorem dq_Water_carryMud_5 : decode (km_c mm_Water_carryMud) 5 = .ok (.aaload, 1) := by decide +kernel
theorem sq_Water_carryMud_5 (ho : sx_o o pl kp) (hk : ak L a = 3) (hu : sx_up pl kp a = true) (hc : c < ln L a) (hn : ln L a < 2 ^ 31) : rn (lt_G o L) mm_Water_carryMud 5 lv (.int (nI c) :: .ref a :: st) (sx pl kp I A) P ↔ rn (lt_G o L) mm_Water_carryMud 6 lv (.ref (ab L a + c) :: st) (sx pl kp I A) P := rx_ald dq_Water_carryMud_5 ho hk hu hc hn
theorem dq_Water_carryMud_6 : decode (km_c mm_Water_carryMud) 6 = .ok (.astore_n 2, 1) := by decide +kernel
theorem sq_Water_carryMud_6n : rn G mm_Water_carryMud 6 [a0, none, a2, a3, a4, a5] (.ref z :: st) S P ↔ rn G mm_Water_carryMud 7 [a0, none, some (.ref z), a3, a4, a5] st S P := rn_s dq_Water_carryMud_6 rfl rfl rfl
theorem sq_Water_carryMud_6i : rn G mm_Water_carryMud 6 [a0, some (.int x2), a2, a3, a4, a5] (.ref z :: st) S P ↔ rn G mm_Water_carryMud 7 [a0, some (.int x2), some (.ref z), a3, a4, a5] st S P := rn_s dq_Water_carryMud_6 rfl rfl rfl
theorem sq_Water_carryMud_6r : rn G mm_Water_carryMud 6 [a0, some (.ref z2), a2, a3, a4, a5] (.ref z :: st) S P ↔ rn G mm_Water_carryMud 7 [a0, some (.ref z2), some (.ref z), a3, a4, a5] st S P := rn_s dq_Water_carryMud_6 rfl rfl rfl
theorem dq_Water_carryMud_7 : decode (km_c mm_Water_carryMud) 7 = .ok (.iconst 0, 1) := by decide +kernel
theorem sq_Water_carryMud_7 : rn G mm_Water_carryMud 7 lv st S P ↔ rn G mm_Water_carryMud 8 lv (.int (nI 0) :: st) S P := rn_s dq_Water_carryMud_7 rfl rfl rfl
theorem dq_Water_carryMud_8 : decode (km_c mm_Water_carryMud) 8 = .ok (.istore_n 3, 1) := by decide +kernel
theorem sq_Water_carryMud_8n : rn G mm_Water_carryMud 8 [a0, a1, none, a3, a4, a5] (.int x :: st) S P ↔ rn G mm_Water_carryMud 9 [a0, a1, none, some (.int x), a4, a5] st S P := rn_s dq_Water_carryMud_8 rfl rfl rfl
theorem sq_Water_carryMud_8i : rn G mm_Water_carryMud 8 [a0, a1, some (.int x2), a3, a4, a5] (.int x :: st) S P ↔ rn G mm_Water_carryMud 9 [a0, a1, some (.int x2), some (.int x), a4, a5] st S P := rn_s dq_Water_carryMud_8 rfl rfl rfl
theorem sq_Water_carryMud_8r : rn G mm_Water_carryMud 8 [a0, a1, some (.ref z2), a3, a4, a5] (.int x :: st) S P ↔ rn G mm_Water_carryMud 9 [a0, a1, some (.ref z2), some (.int x), a4, a5] st S P := rn_s dq_Water_carryMud_8 rfl rfl rfl
theorem dq_Water_carryMud_9 : decode (km_c mm_Water_carryMud) 9 = .ok (.iload_n 3, 1) := by decide +kernel
theorem sq_Water_carryMud_9 : rn G mm_Water_carryMud 9 [a0, a1, a2, some (.int x), a4, a5] st S P ↔ rn G mm_Water_carryMud 10 [a0, a1, a2, some (.int x), a4, a5] (.int x :: st) S P := rn_s dq_Water_carryMud_9 rfl rfl rfl
theorem dq_Water_carryMud_10 : decode (km_c mm_Water_carryMud) 10 = .ok (.bipush 49, 2) := by decide +kernel
theorem sq_Water_carryMud_10 : rn G mm_Water_carryMud 10 lv st S P ↔ rn G mm_Water_carryMud 12 lv (.int (nI 49) :: st) S P := rn_s dq_Water_carryMud_10 rfl rfl rfl
theorem dq_Water_carryMud_12 : decode (km_c mm_Water_carryMud) 12 = .ok (.if_icmp .ge 51, 3) := by decide +kernel
theorem sq_Water_carryMud_12 : rn G mm_Water_carryMud 12 lv (.int x2 :: .int x :: st) S P ↔ ((x2 ≤ x → rn G mm_Water_carryMud 63 lv st S P) ∧ (¬ (x2 ≤ x) → rn G mm_Water_carryMud 15 lv st S P)) := rn_b (off := 51) dq_Water_carryMud_12 rfl rfl rfl rfl
theorem dq_Water_carryMud_15 : decode (km_c mm_Water_carryMud) 15 = .ok (.aload_n 0, 1) := by decide +kernel
theorem sq_Water_carryMud_15 : rn G mm_Water_carryMud 15 [some (.ref z), a1, a2, a3, a4, a5] st S P ↔ rn G mm_Water_carryMud 16 [some (.ref z), a1, a2, a3, a4, a5] (.ref z :: st) S P := rn_s dq_Water_carryMud_15 rfl rfl rfl
theorem dq_Water_carryMud_16 : decode (km_c mm_Water_carryMud) 16 = .ok (.getfield 9, 3) := by decide +kernel
theorem sq_Water_carryMud_16_16 (ho : sx_o o pl kp) : rn (lt_G o L) mm_Water_carryMud 16 lv (.ref 16 :: st) (sx pl kp I A) P ↔ rn (lt_G o L) mm_Water_carryMud 19 lv (.ref 17 :: st) (sx pl kp I A) P := rx_get (h := "") (ci := 6) (k := 0) dq_Water_carryMud_16 (by decide +kernel) ho (up_b (by decide)) rfl rfl (fl_r (by decide) (by decide) (by decide) (by decide))
theorem sq_Water_carryMud_16_20 (ho : sx_o o pl kp) : rn (lt_G o L) mm_Water_carryMud 16 lv (.ref 20 :: st) (sx pl kp I A) P ↔ rn (lt_G o L) mm_Water_carryMud 19 lv (.ref 21 :: st) (sx pl kp I A) P := rx_get (h := "") (ci := 6) (k := 0) dq_Water_carryMud_16 (by decide +kernel) ho (up_b (by decide)) rfl rfl (fl_r (by decide) (by decide) (by decide) (by decide))
theorem dq_Water_carryMud_19 : decode (km_c mm_Water_carryMud) 19 = .ok (.iload_n 3, 1) := by decide +kernel
theorem sq_Water_carryMud_19 : rn G mm_Water_carryMud 19 [a0, a1, a2, some (.int x), a4, a5] st S P ↔ rn G mm_Water_carryMud 20 [a0, a1, a2, some (.int x), a4, a5] (.int x :: st) S P := rn_s dq_Water_carryMud_19 rfl rfl rfl
theorem dq_Water_carryMud_20 : decode (km_c mm_Water_carryMud) 20 = .ok (.iaload, 1) := by decide +kernel
theorem sq_Water_carryMud_20 (ho : sx_o o pl kp) (hk : ak L a = 0) (hu : sx_up pl kp a = true ∨ 1000 ≤ a) (hc : c < ln L a) (hn : ln L a < 2 ^ 31) : rn (lt_G o L) mm_Water_carryMud 20 lv (.int (nI c) :: .ref a :: st) (sx pl kp I A) P ↔ rn (lt_G o L) mm_Water_carryMud 21 lv (.int (A a c) :: st) (sx pl kp I A) P := rx_ild dq_Water_carryMud_20 ho hk hu hc hn
theorem dq_Water_carryMud_21 : decode (km_c mm_Water_carryMud) 21 = .ok (.ifCond .le 13, 3) := by decide +kernel
theorem sq_Water_carryMud_21 : rn G mm_Water_carryMud 21 lv (.int x :: st) S P ↔ ((x ≤ 0 → rn G mm_Water_carryMud 34 lv st S P) ∧ (¬ (x ≤ 0) → rn G mm_Water_carryMud 24 lv st S P)) := rn_b (off := 13) dq_Water_carryMud_21 rfl rfl rfl rfl
theorem dq_Water_carryMud_24 : decode (km_c mm_Water_carryMud) 24 = .ok (.aload_n 2, 1) := by decide +kernel
theorem sq_Water_carryMud_24 : rn G mm_Water_carryMud 24 [a0, a1, some (.ref z), a3, a4, a5] st S P ↔ rn G mm_Water_carryMud 25 [a0, a1, some (.ref z), a3, a4, a5] (.ref z :: st) S P := rn_s dq_Water_carryMud_24 rfl rfl rfl
theorem dq_Water_carryMud_25 : decode (km_c mm_Water_carryMud) 25 = .ok (.iload_n 3, 1) := by decide +kernel
theorem sq_Water_carryMud_25 : rn G mm_Water_carryMud 25 [a0, a1, a2, some (.int x), a4, a5] st S P ↔ rn G mm_Water_carryMud 26 [a0, a1, a2, some (.int x), a4, a5] (.int x :: st) S P := rn_s dq_Water_carryMud_25 rfl rfl rfl
theorem dq_Water_carryMud_26 : decode (km_c mm_Water_carryMud) 26 = .ok (.iaload, 1) := by decide +kernel
theorem sq_Water_carryMud_26 (ho : sx_o o pl kp) (hk : ak L a = 0) (hu : sx_up pl kp a = true ∨ 1000 ≤ a) (hc : c < ln L a) (hn : ln L a < 2 ^ 31) : rn (lt_G o L) mm_Water_carryMud 26 lv (.int (nI c) :: .ref a :: st) (sx pl kp I A) P ↔ rn (lt_G o L) mm_Water_carryMud 27 lv (.int (A a c) :: st) (sx pl kp I A) P := rx_ild dq_Water_carryMud_26 ho hk hu hc hn
theorem dq_Water_carryMud_27 : decode (km_c mm_Water_carryMud) 27 = .ok (.ifCond .le 7, 3) := by decide +kernel
theorem sq_Water_carryMud_27 : rn G mm_Water_carryMud 27 lv (.int x :: st) S P ↔ ((x ≤ 0 → rn G mm_Water_carryMud 34 lv st S P) ∧ (¬ (x ≤ 0) → rn G mm_Water_carryMud 30 lv st S P)) := rn_b (off := 7) dq_Water_carryMud_27 rfl rfl rfl rfl
theorem dq_Water_carryMud_30 : decode (km_c mm_Water_carryMud) 30 = .ok (.iconst 1, 1) := by decide +kernel
theorem sq_Water_carryMud_30 : rn G mm_Water_carryMud 30 lv st S P ↔ rn G mm_Water_carryMud 31 lv (.int (nI 1) :: st) S P := rn_s dq_Water_carryMud_30 rfl rfl rfl
theorem dq_Water_carryMud_31 : decode (km_c mm_Water_carryMud) 31 = .ok (.goto 4, 3) := by decide +kernel
theorem sq_Water_carryMud_31 : rn G mm_Water_carryMud 31 lv st S P ↔ rn G mm_Water_carryMud 35 lv st S P := rn_s dq_Water_carryMud_31 rfl rfl rfl
theorem dq_Water_carryMud_34 : decode (km_c mm_Water_carryMud) 34 = .ok (.iconst 0, 1) := by decide +kernel
theorem sq_Water_carryMud_34 : rn G mm_Water_carryMud 34 lv st S P ↔ rn G mm_Water_carryMud 35 lv (.int (nI 0) :: st) S P := rn_s dq_Water_carryMud_34 rfl rfl rfl
theorem dq_Water_carryMud_35 : decode (km_c mm_Water_carryMud) 35 = .ok (.istore 4, 2) := by decide +kernel
theorem sq_Water_carryMud_35n : rn G mm_Water_carryMud 35 [a0, a1, a2, none, a4, a5] (.int x :: st) S P ↔ rn G mm_Water_carryMud 37 [a0, a1, a2, none, some (.int x), a5] st S P := rn_s dq_Water_carryMud_35 rfl rfl rfl
theorem sq_Water_carryMud_35i : rn G mm_Water_carryMud 35 [a0, a1, a2, some (.int x2), a4, a5] (.int x :: st) S P ↔ rn G mm_Water_carryMud 37 [a0, a1, a2, some (.int x2), some (.int x), a5] st S P := rn_s dq_Water_carryMud_35 rfl rfl rfl
theorem sq_Water_carryMud_35r : rn G mm_Water_carryMud 35 [a0, a1, a2, some (.ref z2), a4, a5] (.int x :: st) S P ↔ rn G mm_Water_carryMud 37 [a0, a1, a2, some (.ref z2), some (.int x), a5] st S P := rn_s dq_Water_carryMud_35 rfl rfl rfl
theorem dq_Water_carryMud_37 : decode (km_c mm_Water_carryMud) 37 = .ok (.aload_n 0, 1) := by decide +kernel
theorem sq_Water_carryMud_37 : rn G mm_Water_carryMud 37 [some (.ref z), a1, a2, a3, a4, a5] st S P ↔ rn G mm_Water_carryMud 38 [some (.ref z), a1, a2, a3, a4, a5] (.ref z :: st) S P := rn_s dq_Water_carryMud_37 rfl rfl rfl
theorem dq_Water_carryMud_38 : decode (km_c mm_Water_carryMud) 38 = .ok (.getfield 18, 3) := by decide +kernel
theorem sq_Water_carryMud_38_16 (ho : sx_o o pl kp) : rn (lt_G o L) mm_Water_carryMud 38 lv (.ref 16 :: st) (sx pl kp I A) P ↔ rn (lt_G o L) mm_Water_carryMud 41 lv (.ref 19 :: st) (sx pl kp I A) P := rx_get (h := "") (ci := 6) (k := 2) dq_Water_carryMud_38 (by decide +kernel) ho (up_b (by decide)) rfl rfl (fl_r (by decide) (by decide) (by decide) (by decide))
theorem sq_Water_carryMud_38_20 (ho : sx_o o pl kp) : rn (lt_G o L) mm_Water_carryMud 38 lv (.ref 20 :: st) (sx pl kp I A) P ↔ rn (lt_G o L) mm_Water_carryMud 41 lv (.ref 23 :: st) (sx pl kp I A) P := rx_get (h := "") (ci := 6) (k := 2) dq_Water_carryMud_38 (by decide +kernel) ho (up_b (by decide)) rfl rfl (fl_r (by decide) (by decide) (by decide) (by decide))
theorem dq_Water_carryMud_41 : decode (km_c mm_Water_carryMud) 41 = .ok (.iload_n 3, 1) := by decide +kernel
theorem sq_Water_carryMud_41 : rn G mm_Water_carryMud 41 [a0, a1, a2, some (.int x), a4, a5] st S P ↔ rn G mm_Water_carryMud 42 [a0, a1, a2, some (.int x), a4, a5] (.int x :: st) S P := rn_s dq_Water_carryMud_41 rfl rfl rfl
theorem dq_Water_carryMud_42 : decode (km_c mm_Water_carryMud) 42 = .ok (.iload 4, 2) := by decide +kernel
theorem sq_Water_carryMud_42 : rn G mm_Water_carryMud 42 [a0, a1, a2, a3, some (.int x), a5] st S P ↔ rn G mm_Water_carryMud 44 [a0, a1, a2, a3, some (.int x), a5] (.int x :: st) S P := rn_s dq_Water_carryMud_42 rfl rfl rfl
theorem dq_Water_carryMud_44 : decode (km_c mm_Water_carryMud) 44 = .ok (.ifCond .eq 11, 3) := by decide +kernel
theorem sq_Water_carryMud_44 : rn G mm_Water_carryMud 44 lv (.int x :: st) S P ↔ ((x = 0 → rn G mm_Water_carryMud 55 lv st S P) ∧ (¬ (x = 0) → rn G mm_Water_carryMud 47 lv st S P)) := rn_b (off := 11) dq_Water_carryMud_44 rfl rfl rfl rfl
theorem dq_Water_carryMud_47 : decode (km_c mm_Water_carryMud) 47 = .ok (.aload_n 1, 1) := by decide +kernel
theorem sq_Water_carryMud_47 : rn G mm_Water_carryMud 47 [a0, some (.ref z), a2, a3, a4, a5] st S P ↔ rn G mm_Water_carryMud 48 [a0, some (.ref z), a2, a3, a4, a5] (.ref z :: st) S P := rn_s dq_Water_carryMud_47 rfl rfl rfl
theorem dq_Water_carryMud_48 : decode (km_c mm_Water_carryMud) 48 = .ok (.iload_n 3, 1) := by decide +kernel
theorem sq_Water_carryMud_48 : rn G mm_Water_carryMud 48 [a0, a1, a2, some (.int x), a4, a5] st S P ↔ rn G mm_Water_carryMud 49 [a0, a1, a2, some (.int x), a4, a5] (.int x :: st) S P := rn_s dq_Water_carryMud_48 rfl rfl rfl
theorem dq_Water_carryMud_49 : decode (km_c mm_Water_carryMud) 49 = .ok (.invokestatic 62, 3) := by decide +kernel
theorem sq_Water_carryMud_49 {z1 : Nat} {x2 : Int32} {v : Option Value} {S2 : ks_S} (hc : ev G mm_Water_lowestNext [.ref z1, .int x2] S v S2) (hst : kx_cat st ≤ 8) : rn G mm_Water_carryMud 49 lv (.int x2 :: .ref z1 :: st) S P ↔ rn G mm_Water_carryMud 52 lv (v.toList ++ st) S2 P := rn_cs (k := 1) (host := "") (E' := mm_Water_lowestNext) dq_Water_carryMud_49 (by decide) (by decide) rfl (ok_v rfl (by decide) (by decide) (Nat.le_add_left _ _) hst (Nat.le_of_ble_eq_true rfl) (Or.inl rfl)) rfl rfl hc
theorem dq_Water_carryMud_52 : decode (km_c mm_Water_carryMud) 52 = .ok (.goto 4, 3) := by decide +kernel
theorem sq_Water_carryMud_52 : rn G mm_Water_carryMud 52 lv st S P ↔ rn G mm_Water_carryMud 56 lv st S P := rn_s dq_Water_carryMud_52 rfl rfl rfl
theorem dq_Water_carryMud_55 : decode (km_c mm_Water_carryMud) 55 = .ok (.iconst (-1), 1) := by decide +kernel
theorem sq_Water_carryMud_55 : rn G mm_Water_carryMud 55 lv st S P ↔ rn G mm_Water_carryMud 56 lv (.int ((-1)) :: st) S P := rn_s dq_Water_carryMud_55 rfl rfl rfl
theorem dq_Water_carryMud_56 : decode (km_c mm_Water_carryMud) 56 = .ok (.iastore, 1) := by decide +kernel
theorem sq_Water_carryMud_56 (ho : sx_o o pl kp) (hk : ak L a = 0) (hu : sx_up pl kp a = true) (hc : c < ln L a) (hn : ln L a < 2 ^ 31) : rn (lt_G o L) mm_Water_carryMud 56 lv (.int x :: .int (nI c) :: .ref a :: st) (sx pl kp I A) P ↔ rn (lt_G o L) mm_Water_carryMud 57 lv st (sx pl kp I (u2 A a c x)) P := rx_ist dq_Water_carryMud_56 ho hk hu hc hn
theorem dq_Water_carryMud_57 : decode (km_c mm_Water_carryMud) 57 = .ok (.iinc 3 1, 3) := by decide +kernel
theorem sq_Water_carryMud_57n : rn G mm_Water_carryMud 57 [a0, a1, none, some (.int x), a4, a5] st S P ↔ rn G mm_Water_carryMud 60 [a0, a1, none, some (.int (x + nI 1)), a4, a5] st S P := rn_s dq_Water_carryMud_57 rfl rfl rfl
theorem sq_Water_carryMud_57i : rn G mm_Water_carryMud 57 [a0, a1, some (.int x2), some (.int x), a4, a5] st S P ↔ rn G mm_Water_carryMud 60 [a0, a1, some (.int x2), some (.int (x + nI 1)), a4, a5] st S P := rn_s dq_Water_carryMud_57 rfl rfl rfl
theorem sq_Water_carryMud_57r : rn G mm_Water_carryMud 57 [a0, a1, some (.ref z2), some (.int x), a4, a5] st S P ↔ rn G mm_Water_carryMud 60 [a0, a1, some (.ref z2), some (.int (x + nI 1)), a4, a5] st S P := rn_s dq_Water_carryMud_57 rfl rfl rfl
theorem dq_Water_carryMud_60 : decode (km_c mm_Water_carryMud) 60 = .ok (.goto (-51), 3) := by decide +kernel
theorem sq_Water_carryMud_60 : rn G mm_Water_carryMud 60 lv st S P ↔ rn G mm_Water_carryMud 9 lv st S P := rn_s dq_Water_carryMud_60 rfl rfl rfl
theorem dq_Water_carryMud_63 : decode (km_c mm_Water_carryMud) 63 = .ok (.iconst 0, 1) := by decide +kernel
theorem sq_Water_carryMud_63 : rn G mm_Water_carryMud 63 lv st S P ↔ rn G mm_Water_carryMud 64 lv (.int (nI 0) :: st) S P := rn_s dq_Water_carryMud_63 rfl rfl rfl
theorem dq_Water_carryMud_64 : decode (km_c mm_Water_carryMud) 64 = .ok (.istore_n 3, 1) := by decide +kernel
theorem sq_Water_carryMud_64n : rn G mm_Water_carryMud 64 [a0, a1, none, a3, a4, a5] (.int x :: st) S P ↔ rn G mm_Water_carryMud 65 [a0, a1, none, some (.int x), a4, a5] st S P := rn_s dq_Water_carryMud_64 rfl rfl rfl
theorem sq_Water_carryMud_64i : rn G mm_Water_carryMud 64 [a0, a1, some (.int x2), a3, a4, a5] (.int x :: st) S P ↔ rn G mm_Water_carryMud 65 [a0, a1, some (.int x2), some (.int x), a4, a5] st S P := rn_s dq_Water_carryMud_64 rfl rfl rfl
theorem sq_Water_carryMud_64r : rn G mm_Water_carryMud 64 [a0, a1, some (.ref z2), a3, a4, a5] (.int x :: st) S P ↔ rn G mm_Water_carryMud 65 [a0, a1, some (.ref z2), some (.int x), a4, a5] st S P := rn_s dq_Water_carryMud_64 rfl rfl rfl
theorem dq_Water_carryMud_65 : decode (km_c mm_Water_carryMud) 65 = .ok (.iconst 0, 1) := by decide +kernel
theorem sq_Water_carryMud_65 : rn G mm_Water_carryMud 65 lv st S P ↔ rn G mm_Water_carryMud 66 lv (.int (nI 0) :: st) S P := rn_s dq_Water_carryMud_65 rfl rfl rfl
theorem dq_Water_carryMud_66 : decode (km_c mm_Water_carryMud) 66 = .ok (.istore 4, 2) := by decide +kernel
theorem sq_Water_carryMud_66n : rn G mm_Water_carryMud 66 [a0, a1, a2, none, a4, a5] (.int x :: st) S P ↔ rn G mm_Water_carryMud 68 [a0, a1, a2, none, some (.int x), a5] st S P := rn_s dq_Water_carryMud_66 rfl rfl rfl
theorem sq_Water_carryMud_66i : rn G mm_Water_carryMud 66 [a0, a1, a2, some (.int x2), a4, a5] (.int x :: st) S P ↔ rn G mm_Water_carryMud 68 [a0, a1, a2, some (.int x2), some (.int x), a5] st S P := rn_s dq_Water_carryMud_66 rfl rfl rfl
theorem sq_Water_carryMud_66r : rn G mm_Water_carryMud 66 [a0, a1, a2, some (.ref z2), a4, a5] (.int x :: st) S P ↔ rn G mm_Water_carryMud 68 [a0, a1, a2, some (.ref z2), some (.int x), a5] st S P := rn_s dq_Water_carryMud_66 rfl rfl rfl
theorem dq_Water_carryMud_68 : decode (km_c mm_Water_carryMud) 68 = .ok (.iload 4, 2) := by decide +kernel
theorem sq_Water_carryMud_68 : rn G mm_Water_carryMud 68 [a0, a1, a2, a3, some (.int x), a5] st S P ↔ rn G mm_Water_carryMud 70 [a0, a1, a2, a3, some (.int x), a5] (.int x :: st) S P := rn_s dq_Water_carryMud_68 rfl rfl rfl
theorem dq_Water_carryMud_70 : decode (km_c mm_Water_carryMud) 70 = .ok (.bipush 49, 2) := by decide +kernel
theorem sq_Water_carryMud_70 : rn G mm_Water_carryMud 70 lv st S P ↔ rn G mm_Water_carryMud 72 lv (.int (nI 49) :: st) S P := rn_s dq_Water_carryMud_70 rfl rfl rfl
theorem dq_Water_carryMud_72 : decode (km_c mm_Water_carryMud) 72 = .ok (.if_icmp .ge 51, 3) := by decide +kernel
theorem sq_Water_carryMud_72 : rn G mm_Water_carryMud 72 lv (.int x2 :: .int x :: st) S P ↔ ((x2 ≤ x → rn G mm_Water_carryMud 123 lv st S P) ∧ (¬ (x2 ≤ x) → rn G mm_Water_carryMud 75 lv st S P)) := rn_b (off := 51) dq_Water_carryMud_72 rfl rfl rfl rfl
theorem dq_Water_carryMud_75 : decode (km_c mm_Water_carryMud) 75 = .ok (.aload_n 0, 1) := by decide +kernel
theorem sq_Water_carryMud_75 : rn G mm_Water_carryMud 75 [some (.ref z), a1, a2, a3, a4, a5] st S P ↔ rn G mm_Water_carryMud 76 [some (.ref z), a1, a2, a3, a4, a5] (.ref z :: st) S P := rn_s dq_Water_carryMud_75 rfl rfl rfl
theorem dq_Water_carryMud_76 : decode (km_c mm_Water_carryMud) 76 = .ok (.getfield 18, 3) := by decide +kernel
theorem sq_Water_carryMud_76_16 (ho : sx_o o pl kp) : rn (lt_G o L) mm_Water_carryMud 76 lv (.ref 16 :: st) (sx pl kp I A) P ↔ rn (lt_G o L) mm_Water_carryMud 79 lv (.ref 19 :: st) (sx pl kp I A) P := rx_get (h := "") (ci := 6) (k := 2) dq_Water_carryMud_76 (by decide +kernel) ho (up_b (by decide)) rfl rfl (fl_r (by decide) (by decide) (by decide) (by decide))
theorem sq_Water_carryMud_76_20 (ho : sx_o o pl kp) : rn (lt_G o L) mm_Water_carryMud 76 lv (.ref 20 :: st) (sx pl kp I A) P ↔ rn (lt_G o L) mm_Water_carryMud 79 lv (.ref 23 :: st) (sx pl kp I A) P := rx_get (h := "") (ci := 6) (k := 2) dq_Water_carryMud_76 (by decide +kernel) ho (up_b (by decide)) rfl rfl (fl_r (by decide) (by decide) (by decide) (by decide))
theorem dq_Water_carryMud_79 : decode (km_c mm_Water_carryMud) 79 = .ok (.iload 4, 2) := by decide +kernel
theorem sq_Water_carryMud_79 : rn G mm_Water_carryMud 79 [a0, a1, a2, a3, some (.int x), a5] st S P ↔ rn G mm_Water_carryMud 81 [a0, a1, a2, a3, some (.int x), a5] (.int x :: st) S P := rn_s dq_Water_carryMud_79 rfl rfl rfl
theorem dq_Water_carryMud_81 : decode (km_c mm_Water_carryMud) 81 = .ok (.iaload, 1) := by decide +kernel
theorem sq_Water_carryMud_81 (ho : sx_o o pl kp) (hk : ak L a = 0) (hu : sx_up pl kp a = true ∨ 1000 ≤ a) (hc : c < ln L a) (hn : ln L a < 2 ^ 31) : rn (lt_G o L) mm_Water_carryMud 81 lv (.int (nI c) :: .ref a :: st) (sx pl kp I A) P ↔ rn (lt_G o L) mm_Water_carryMud 82 lv (.int (A a c) :: st) (sx pl kp I A) P := rx_ild dq_Water_carryMud_81 ho hk hu hc hn
theorem dq_Water_carryMud_82 : decode (km_c mm_Water_carryMud) 82 = .ok (.istore 5, 2) := by decide +kernel
theorem sq_Water_carryMud_82n : rn G mm_Water_carryMud 82 [a0, a1, a2, a3, none, a5] (.int x :: st) S P ↔ rn G mm_Water_carryMud 84 [a0, a1, a2, a3, none, some (.int x)] st S P := rn_s dq_Water_carryMud_82 rfl rfl rfl
theorem sq_Water_carryMud_82i : rn G mm_Water_carryMud 82 [a0, a1, a2, a3, some (.int x2), a5] (.int x :: st) S P ↔ rn G mm_Water_carryMud 84 [a0, a1, a2, a3, some (.int x2), some (.int x)] st S P := rn_s dq_Water_carryMud_82 rfl rfl rfl
theorem sq_Water_carryMud_82r : rn G mm_Water_carryMud 82 [a0, a1, a2, a3, some (.ref z2), a5] (.int x :: st) S P ↔ rn G mm_Water_carryMud 84 [a0, a1, a2, a3, some (.ref z2), some (.int x)] st S P := rn_s dq_Water_carryMud_82 rfl rfl rfl
theorem dq_Water_carryMud_84 : decode (km_c mm_Water_carryMud) 84 = .ok (.iload 5, 2) := by decide +kernel
theorem sq_Water_carryMud_84 : rn G mm_Water_carryMud 84 [a0, a1, a2, a3, a4, some (.int x)] st S P ↔ rn G mm_Water_carryMud 86 [a0, a1, a2, a3, a4, some (.int x)] (.int x :: st) S P := rn_s dq_Water_carryMud_84 rfl rfl rfl
theorem dq_Water_carryMud_86 : decode (km_c mm_Water_carryMud) 86 = .ok (.ifCond .lt 31, 3) := by decide +kernel
theorem sq_Water_carryMud_86 : rn G mm_Water_carryMud 86 lv (.int x :: st) S P ↔ ((x < 0 → rn G mm_Water_carryMud 117 lv st S P) ∧ (¬ (x < 0) → rn G mm_Water_carryMud 89 lv st S P)) := rn_b (off := 31) dq_Water_carryMud_86 rfl rfl rfl rfl
theorem dq_Water_carryMud_89 : decode (km_c mm_Water_carryMud) 89 = .ok (.aload_n 2, 1) := by decide +kernel
theorem sq_Water_carryMud_89 : rn G mm_Water_carryMud 89 [a0, a1, some (.ref z), a3, a4, a5] st S P ↔ rn G mm_Water_carryMud 90 [a0, a1, some (.ref z), a3, a4, a5] (.ref z :: st) S P := rn_s dq_Water_carryMud_89 rfl rfl rfl
theorem dq_Water_carryMud_90 : decode (km_c mm_Water_carryMud) 90 = .ok (.iload 5, 2) := by decide +kernel
theorem sq_Water_carryMud_90 : rn G mm_Water_carryMud 90 [a0, a1, a2, a3, a4, some (.int x)] st S P ↔ rn G mm_Water_carryMud 92 [a0, a1, a2, a3, a4, some (.int x)] (.int x :: st) S P := rn_s dq_Water_carryMud_90 rfl rfl rfl
theorem dq_Water_carryMud_92 : decode (km_c mm_Water_carryMud) 92 = .ok (.iaload, 1) := by decide +kernel
theorem sq_Water_carryMud_92 (ho : sx_o o pl kp) (hk : ak L a = 0) (hu : sx_up pl kp a = true ∨ 1000 ≤ a) (hc : c < ln L a) (hn : ln L a < 2 ^ 31) : rn (lt_G o L) mm_Water_carryMud 92 lv (.int (nI c) :: .ref a :: st) (sx pl kp I A) P ↔ rn (lt_G o L) mm_Water_carryMud 93 lv (.int (A a c) :: st) (sx pl kp I A) P := rx_ild dq_Water_carryMud_92 ho hk hu hc hn
theorem dq_Water_carryMud_93 : decode (km_c mm_Water_carryMud) 93 = .ok (.bipush 9, 2) := by decide +kernel
theorem sq_Water_carryMud_93 : rn G mm_Water_carryMud 93 lv st S P ↔ rn G mm_Water_carryMud 95 lv (.int (nI 9) :: st) S P := rn_s dq_Water_carryMud_93 rfl rfl rfl
theorem dq_Water_carryMud_95 : decode (km_c mm_Water_carryMud) 95 = .ok (.if_icmp .ge 22, 3) := by decide +kernel
theorem sq_Water_carryMud_95 : rn G mm_Water_carryMud 95 lv (.int x2 :: .int x :: st) S P ↔ ((x2 ≤ x → rn G mm_Water_carryMud 117 lv st S P) ∧ (¬ (x2 ≤ x) → rn G mm_Water_carryMud 98 lv st S P)) := rn_b (off := 22) dq_Water_carryMud_95 rfl rfl rfl rfl
theorem dq_Water_carryMud_98 : decode (km_c mm_Water_carryMud) 98 = .ok (.aload_n 2, 1) := by decide +kernel
theorem sq_Water_carryMud_98 : rn G mm_Water_carryMud 98 [a0, a1, some (.ref z), a3, a4, a5] st S P ↔ rn G mm_Water_carryMud 99 [a0, a1, some (.ref z), a3, a4, a5] (.ref z :: st) S P := rn_s dq_Water_carryMud_98 rfl rfl rfl
theorem dq_Water_carryMud_99 : decode (km_c mm_Water_carryMud) 99 = .ok (.iload 4, 2) := by decide +kernel
theorem sq_Water_carryMud_99 : rn G mm_Water_carryMud 99 [a0, a1, a2, a3, some (.int x), a5] st S P ↔ rn G mm_Water_carryMud 101 [a0, a1, a2, a3, some (.int x), a5] (.int x :: st) S P := rn_s dq_Water_carryMud_99 rfl rfl rfl
theorem dq_Water_carryMud_101 : decode (km_c mm_Water_carryMud) 101 = .ok (.dup2, 1) := by decide +kernel
theorem sq_Water_carryMud_101 : rn G mm_Water_carryMud 101 lv (.int x :: .ref z :: st) S P ↔ rn G mm_Water_carryMud 102 lv (.int x :: .ref z :: .int x :: .ref z :: st) S P := rn_s dq_Water_carryMud_101 rfl rfl rfl
theorem dq_Water_carryMud_102 : decode (km_c mm_Water_carryMud) 102 = .ok (.iaload, 1) := by decide +kernel
theorem sq_Water_carryMud_102 (ho : sx_o o pl kp) (hk : ak L a = 0) (hu : sx_up pl kp a = true ∨ 1000 ≤ a) (hc : c < ln L a) (hn : ln L a < 2 ^ 31) : rn (lt_G o L) mm_Water_carryMud 102 lv (.int (nI c) :: .ref a :: st) (sx pl kp I A) P ↔ rn (lt_G o L) mm_Water_carryMud 103 lv (.int (A a c) :: st) (sx pl kp I A) P := rx_ild dq_Water_carryMud_102 ho hk hu hc hn
theorem dq_Water_carryMud_103 : decode (km_c mm_Water_carryMud) 103 = .ok (.iconst 1, 1) := by decide +kernel
theorem sq_Water_carryMud_103 : rn G mm_Water_carryMud 103 lv st S P ↔ rn G mm_Water_carryMud 104 lv (.int (nI 1) :: st) S P := rn_s dq_Water_carryMud_103 rfl rfl rfl
theorem dq_Water_carryMud_104 : decode (km_c mm_Water_carryMud) 104 = .ok (.isub, 1) := by decide +kernel
theorem sq_Water_carryMud_104 : rn G mm_Water_carryMud 104 lv (.int x2 :: .int x :: st) S P ↔ rn G mm_Water_carryMud 105 lv (.int (x - x2) :: st) S P := rn_s dq_Water_carryMud_104 rfl rfl rfl
theorem dq_Water_carryMud_105 : decode (km_c mm_Water_carryMud) 105 = .ok (.iastore, 1) := by decide +kernel
theorem sq_Water_carryMud_105 (ho : sx_o o pl kp) (hk : ak L a = 0) (hu : sx_up pl kp a = true) (hc : c < ln L a) (hn : ln L a < 2 ^ 31) : rn (lt_G o L) mm_Water_carryMud 105 lv (.int x :: .int (nI c) :: .ref a :: st) (sx pl kp I A) P ↔ rn (lt_G o L) mm_Water_carryMud 106 lv st (sx pl kp I (u2 A a c x)) P := rx_ist dq_Water_carryMud_105 ho hk hu hc hn
theorem dq_Water_carryMud_106 : decode (km_c mm_Water_carryMud) 106 = .ok (.aload_n 2, 1) := by decide +kernel
theorem sq_Water_carryMud_106 : rn G mm_Water_carryMud 106 [a0, a1, some (.ref z), a3, a4, a5] st S P ↔ rn G mm_Water_carryMud 107 [a0, a1, some (.ref z), a3, a4, a5] (.ref z :: st) S P := rn_s dq_Water_carryMud_106 rfl rfl rfl
theorem dq_Water_carryMud_107 : decode (km_c mm_Water_carryMud) 107 = .ok (.iload 5, 2) := by decide +kernel
theorem sq_Water_carryMud_107 : rn G mm_Water_carryMud 107 [a0, a1, a2, a3, a4, some (.int x)] st S P ↔ rn G mm_Water_carryMud 109 [a0, a1, a2, a3, a4, some (.int x)] (.int x :: st) S P := rn_s dq_Water_carryMud_107 rfl rfl rfl
theorem dq_Water_carryMud_109 : decode (km_c mm_Water_carryMud) 109 = .ok (.dup2, 1) := by decide +kernel
theorem sq_Water_carryMud_109 : rn G mm_Water_carryMud 109 lv (.int x :: .ref z :: st) S P ↔ rn G mm_Water_carryMud 110 lv (.int x :: .ref z :: .int x :: .ref z :: st) S P := rn_s dq_Water_carryMud_109 rfl rfl rfl
theorem dq_Water_carryMud_110 : decode (km_c mm_Water_carryMud) 110 = .ok (.iaload, 1) := by decide +kernel
theorem sq_Water_carryMud_110 (ho : sx_o o pl kp) (hk : ak L a = 0) (hu : sx_up pl kp a = true ∨ 1000 ≤ a) (hc : c < ln L a) (hn : ln L a < 2 ^ 31) : rn (lt_G o L) mm_Water_carryMud 110 lv (.int (nI c) :: .ref a :: st) (sx pl kp I A) P ↔ rn (lt_G o L) mm_Water_carryMud 111 lv (.int (A a c) :: st) (sx pl kp I A) P := rx_ild dq_Water_carryMud_110 ho hk hu hc hn
theorem dq_Water_carryMud_111 : decode (km_c mm_Water_carryMud) 111 = .ok (.iconst 1, 1) := by decide +kernel
theorem sq_Water_carryMud_111 : rn G mm_Water_carryMud 111 lv st S P ↔ rn G mm_Water_carryMud 112 lv (.int (nI 1) :: st) S P := rn_s dq_Water_carryMud_111 rfl rfl rfl
theorem dq_Water_carryMud_112 : decode (km_c mm_Water_carryMud) 112 = .ok (.iadd, 1) := by decide +kernel
theorem sq_Water_carryMud_112 : rn G mm_Water_carryMud 112 lv (.int x2 :: .int x :: st) S P ↔ rn G mm_Water_carryMud 113 lv (.int (x + x2) :: st) S P := rn_s dq_Water_carryMud_112 rfl rfl rfl
theorem dq_Water_carryMud_113 : decode (km_c mm_Water_carryMud) 113 = .ok (.iastore, 1) := by decide +kernel
theorem sq_Water_carryMud_113 (ho : sx_o o pl kp) (hk : ak L a = 0) (hu : sx_up pl kp a = true) (hc : c < ln L a) (hn : ln L a < 2 ^ 31) : rn (lt_G o L) mm_Water_carryMud 113 lv (.int x :: .int (nI c) :: .ref a :: st) (sx pl kp I A) P ↔ rn (lt_G o L) mm_Water_carryMud 114 lv st (sx pl kp I (u2 A a c x)) P := rx_ist dq_Water_carryMud_113 ho hk hu hc hn
theorem dq_Water_carryMud_114 : decode (km_c mm_Water_carryMud) 114 = .ok (.iinc 3 1, 3) := by decide +kernel
theorem sq_Water_carryMud_114n : rn G mm_Water_carryMud 114 [a0, a1, none, some (.int x), a4, a5] st S P ↔ rn G mm_Water_carryMud 117 [a0, a1, none, some (.int (x + nI 1)), a4, a5] st S P := rn_s dq_Water_carryMud_114 rfl rfl rfl
theorem sq_Water_carryMud_114i : rn G mm_Water_carryMud 114 [a0, a1, some (.int x2), some (.int x), a4, a5] st S P ↔ rn G mm_Water_carryMud 117 [a0, a1, some (.int x2), some (.int (x + nI 1)), a4, a5] st S P := rn_s dq_Water_carryMud_114 rfl rfl rfl
theorem sq_Water_carryMud_114r : rn G mm_Water_carryMud 114 [a0, a1, some (.ref z2), some (.int x), a4, a5] st S P ↔ rn G mm_Water_carryMud 117 [a0, a1, some (.ref z2), some (.int (x + nI 1)), a4, a5] st S P := rn_s dq_Water_carryMud_114 rfl rfl rfl
theorem dq_Water_carryMud_117 : decode (km_c mm_Water_carryMud) 117 = .ok (.iinc 4 1, 3) := by decide +kernel
theorem sq_Water_carryMud_117n : rn G mm_Water_carryMud 117 [a0, a1, a2, none, some (.int x), a5] st S P ↔ rn G mm_Water_carryMud 120 [a0, a1, a2, none, some (.int (x + nI 1)), a5] st S P := rn_s dq_Water_carryMud_117 rfl rfl rfl
theorem sq_Water_carryMud_117i : rn G mm_Water_carryMud 117 [a0, a1, a2, some (.int x2), some (.int x), a5] st S P ↔ rn G mm_Water_carryMud 120 [a0, a1, a2, some (.int x2), some (.int (x + nI 1)), a5] st S P := rn_s dq_Water_carryMud_117 rfl rfl rfl
theorem sq_Water_carryMud_117r : rn G mm_Water_carryMud 117 [a0, a1, a2, some (.ref z2), some (.int x), a5] st S P ↔ rn G mm_Water_carryMud 120 [a0, a1, a2, some (.ref z2), some (.int (x + nI 1)), a5] st S P := rn_s dq_Water_carryMud_117 rfl rfl rfl
theorem dq_Water_carryMud_120 : decode (km_c mm_Water_carryMud) 120 = .ok (.goto (-52), 3) := by decide +kernel
theorem sq_Water_carryMud_120 : rn G mm_Water_carryMud 120 lv st S P ↔ rn G mm_Water_carryMud 68 lv st S P := rn_s dq_Water_carryMud_120 rfl rfl rfl
theorem dq_Water_carryMud_123 : decode (km_c mm_Water_carryMud) 123 = .ok (.iload_n 3, 1) := by decide +kernel
theorem sq_Water_carryMud_123 : rn G mm_Water_carryMud 123 [a0, a1, a2, some (.int x), a4, a5] st S P ↔ rn G mm_Water_carryMud 124 [a0, a1, a2, some (.int x), a4, a5] (.int x :: st) S P := rn_s dq_Water_carryMud_123 rfl rfl rfl
theorem dq_Water_carryMud_124 : decode (km_c mm_Water_carryMud) 124 = .ok (.ireturn, 1) := by decide +kernel
theorem sq_Water_carryMud_124 : rn G mm_Water_carryMud 124 lv [.int x] S P ↔ P (some (.int x)) S := rn_ir dq_Water_carryMud_124 rfl
theorem dq_Water_lowestNext_0 : decode (km_c mm_Water_lowestNext) 0 = .ok (.iconst (-1), 1) := by decide +kernel
theorem sq_Water_lowestNext_0 : rn G mm_Water_lowestNext 0 lv st S P ↔ rn G mm_Water_lowestNext 1 lv (.int ((-1)) :: st) S P := rn_s dq_Water_lowestNext_0 rfl rfl rfl
theorem dq_Water_lowestNext_1 : decode (km_c mm_Water_lowestNext) 1 = .ok (.istore_n 2, 1) := by decide +kernel
theorem sq_Water_lowestNext_1n : rn G mm_Water_lowestNext 1 [a0, none, a2, a3, a4, a5] (.int x :: st) S P ↔ rn G mm_Water_lowestNext 2 [a0, none, some (.int x), a3, a4, a5] st S P := rn_s dq_Water_lowestNext_1 rfl rfl rfl
theorem sq_Water_lowestNext_1i : rn G mm_Water_lowestNext 1 [a0, some (.int x2), a2, a3, a4, a5] (.int x :: st) S P ↔ rn G mm_Water_lowestNext 2 [a0, some (.int x2), some (.int x), a3, a4, a5] st S P := rn_s dq_Water_lowestNext_1 rfl rfl rfl
theorem sq_Water_lowestNext_1r : rn G mm_Water_lowestNext 1 [a0, some (.ref z2), a2, a3, a4, a5] (.int x :: st) S P ↔ rn G mm_Water_lowestNext 2 [a0, some (.ref z2), some (.int x), a3, a4, a5] st S P := rn_s dq_Water_lowestNext_1 rfl rfl rfl
theorem dq_Water_lowestNext_2 : decode (km_c mm_Water_lowestNext) 2 = .ok (.aload_n 0, 1) := by decide +kernel
theorem sq_Water_lowestNext_2 : rn G mm_Water_lowestNext 2 [some (.ref z), a1, a2, a3, a4, a5] st S P ↔ rn G mm_Water_lowestNext 3 [some (.ref z), a1, a2, a3, a4, a5] (.ref z :: st) S P := rn_s dq_Water_lowestNext_2 rfl rfl rfl
theorem dq_Water_lowestNext_3 : decode (km_c mm_Water_lowestNext) 3 = .ok (.iload_n 1, 1) := by decide +kernel
theorem sq_Water_lowestNext_3 : rn G mm_Water_lowestNext 3 [a0, some (.int x), a2, a3, a4, a5] st S P ↔ rn G mm_Water_lowestNext 4 [a0, some (.int x), a2, a3, a4, a5] (.int x :: st) S P := rn_s dq_Water_lowestNext_3 rfl rfl rfl
theorem dq_Water_lowestNext_4 : decode (km_c mm_Water_lowestNext) 4 = .ok (.invokevirtual 45, 3) := by decide +kernel
theorem sq_Water_lowestNext_4_2 {x1 : Int32} {v : Option Value} {S2 : ks_S} (hc : ev (lt_G o L) mm_Ground_top [.ref 2, .int x1] (sx pl kp I A) v S2) (ho : sx_o o pl kp) (hst : kx_cat st ≤ 8) : rn (lt_G o L) mm_Water_lowestNext 4 lv (.int x1 :: .ref 2 :: st) (sx pl kp I A) P ↔ rn (lt_G o L) mm_Water_lowestNext 7 lv (v.toList ++ st) S2 P := rn_cv (k := 0) (host := "") (E' := mm_Ground_top) dq_Water_lowestNext_4 rfl (ok_v rfl (by decide) (by decide) (Nat.le_add_left _ _) hst (Nat.le_of_ble_eq_true rfl) (Or.inr (rc_v ho (up_b (by decide)) rfl))) rfl rfl hc
theorem sq_Water_lowestNext_4_35 {x1 : Int32} {v : Option Value} {S2 : ks_S} (hc : ev (lt_G o L) mm_Ground_top [.ref 35, .int x1] (sx pl kp I A) v S2) (ho : sx_o o pl kp) (hst : kx_cat st ≤ 8) : rn (lt_G o L) mm_Water_lowestNext 4 lv (.int x1 :: .ref 35 :: st) (sx pl kp I A) P ↔ rn (lt_G o L) mm_Water_lowestNext 7 lv (v.toList ++ st) S2 P := rn_cv (k := 0) (host := "") (E' := mm_Ground_top) dq_Water_lowestNext_4 rfl (ok_v rfl (by decide) (by decide) (Nat.le_add_left _ _) hst (Nat.le_of_ble_eq_true rfl) (Or.inr (rc_v ho (up_b (by decide)) rfl))) rfl rfl hc
theorem sq_Water_lowestNext_4_137 {x1 : Int32} {v : Option Value} {S2 : ks_S} (hc : ev (lt_G o L) mm_Ground_top [.ref 137, .int x1] (sx pl true I A) v S2) (ho : sx_o o pl true) (hst : kx_cat st ≤ 8) : rn (lt_G o L) mm_Water_lowestNext 4 lv (.int x1 :: .ref 137 :: st) (sx pl true I A) P ↔ rn (lt_G o L) mm_Water_lowestNext 7 lv (v.toList ++ st) S2 P := rn_cv (k := 0) (host := "") (E' := mm_Ground_top) dq_Water_lowestNext_4 rfl (ok_v rfl (by decide) (by decide) (Nat.le_add_left _ _) hst (Nat.le_of_ble_eq_true rfl) (Or.inr (rc_v ho (up_k (by decide) (by decide)) rfl))) rfl rfl hc
theorem dq_Water_lowestNext_7 : decode (km_c mm_Water_lowestNext) 7 = .ok (.istore_n 3, 1) := by decide +kernel
theorem sq_Water_lowestNext_7n : rn G mm_Water_lowestNext 7 [a0, a1, none, a3, a4, a5] (.int x :: st) S P ↔ rn G mm_Water_lowestNext 8 [a0, a1, none, some (.int x), a4, a5] st S P := rn_s dq_Water_lowestNext_7 rfl rfl rfl
theorem sq_Water_lowestNext_7i : rn G mm_Water_lowestNext 7 [a0, a1, some (.int x2), a3, a4, a5] (.int x :: st) S P ↔ rn G mm_Water_lowestNext 8 [a0, a1, some (.int x2), some (.int x), a4, a5] st S P := rn_s dq_Water_lowestNext_7 rfl rfl rfl
theorem sq_Water_lowestNext_7r : rn G mm_Water_lowestNext 7 [a0, a1, some (.ref z2), a3, a4, a5] (.int x :: st) S P ↔ rn G mm_Water_lowestNext 8 [a0, a1, some (.ref z2), some (.int x), a4, a5] st S P := rn_s dq_Water_lowestNext_7 rfl rfl rfl
theorem dq_Water_lowestNext_8 : decode (km_c mm_Water_lowestNext) 8 = .ok (.iconst 0, 1) := by decide +kernel
theorem sq_Water_lowestNext_8 : rn G mm_Water_lowestNext 8 lv st S P ↔ rn G mm_Water_lowestNext 9 lv (.int (nI 0) :: st) S P := rn_s dq_Water_lowestNext_8 rfl rfl rfl
theorem dq_Water_lowestNext_9 : decode (km_c mm_Water_lowestNext) 9 = .ok (.istore 4, 2) := by decide +kernel
theorem sq_Water_lowestNext_9n : rn G mm_Water_lowestNext 9 [a0, a1, a2, none, a4, a5] (.int x :: st) S P ↔ rn G mm_Water_lowestNext 11 [a0, a1, a2, none, some (.int x), a5] st S P := rn_s dq_Water_lowestNext_9 rfl rfl rfl
theorem sq_Water_lowestNext_9i : rn G mm_Water_lowestNext 9 [a0, a1, a2, some (.int x2), a4, a5] (.int x :: st) S P ↔ rn G mm_Water_lowestNext 11 [a0, a1, a2, some (.int x2), some (.int x), a5] st S P := rn_s dq_Water_lowestNext_9 rfl rfl rfl
theorem sq_Water_lowestNext_9r : rn G mm_Water_lowestNext 9 [a0, a1, a2, some (.ref z2), a4, a5] (.int x :: st) S P ↔ rn G mm_Water_lowestNext 11 [a0, a1, a2, some (.ref z2), some (.int x), a5] st S P := rn_s dq_Water_lowestNext_9 rfl rfl rfl
theorem dq_Water_lowestNext_11 : decode (km_c mm_Water_lowestNext) 11 = .ok (.iload 4, 2) := by decide +kernel
theorem sq_Water_lowestNext_11 : rn G mm_Water_lowestNext 11 [a0, a1, a2, a3, some (.int x), a5] st S P ↔ rn G mm_Water_lowestNext 13 [a0, a1, a2, a3, some (.int x), a5] (.int x :: st) S P := rn_s dq_Water_lowestNext_11 rfl rfl rfl
theorem dq_Water_lowestNext_13 : decode (km_c mm_Water_lowestNext) 13 = .ok (.iconst 4, 1) := by decide +kernel
theorem sq_Water_lowestNext_13 : rn G mm_Water_lowestNext 13 lv st S P ↔ rn G mm_Water_lowestNext 14 lv (.int (nI 4) :: st) S P := rn_s dq_Water_lowestNext_13 rfl rfl rfl
theorem dq_Water_lowestNext_14 : decode (km_c mm_Water_lowestNext) 14 = .ok (.if_icmp .ge 42, 3) := by decide +kernel
theorem sq_Water_lowestNext_14 : rn G mm_Water_lowestNext 14 lv (.int x2 :: .int x :: st) S P ↔ ((x2 ≤ x → rn G mm_Water_lowestNext 56 lv st S P) ∧ (¬ (x2 ≤ x) → rn G mm_Water_lowestNext 17 lv st S P)) := rn_b (off := 42) dq_Water_lowestNext_14 rfl rfl rfl rfl
theorem dq_Water_lowestNext_17 : decode (km_c mm_Water_lowestNext) 17 = .ok (.iload_n 1, 1) := by decide +kernel
theorem sq_Water_lowestNext_17 : rn G mm_Water_lowestNext 17 [a0, some (.int x), a2, a3, a4, a5] st S P ↔ rn G mm_Water_lowestNext 18 [a0, some (.int x), a2, a3, a4, a5] (.int x :: st) S P := rn_s dq_Water_lowestNext_17 rfl rfl rfl
theorem dq_Water_lowestNext_18 : decode (km_c mm_Water_lowestNext) 18 = .ok (.iload 4, 2) := by decide +kernel
theorem sq_Water_lowestNext_18 : rn G mm_Water_lowestNext 18 [a0, a1, a2, a3, some (.int x), a5] st S P ↔ rn G mm_Water_lowestNext 20 [a0, a1, a2, a3, some (.int x), a5] (.int x :: st) S P := rn_s dq_Water_lowestNext_18 rfl rfl rfl
theorem dq_Water_lowestNext_20 : decode (km_c mm_Water_lowestNext) 20 = .ok (.invokestatic 41, 3) := by decide +kernel
theorem sq_Water_lowestNext_20 {x1 : Int32} {x2 : Int32} {v : Option Value} {S2 : ks_S} (hc : ev G mm_Road_cellAt [.int x1, .int x2] S v S2) (hst : kx_cat st ≤ 8) : rn G mm_Water_lowestNext 20 lv (.int x2 :: .int x1 :: st) S P ↔ rn G mm_Water_lowestNext 23 lv (v.toList ++ st) S2 P := rn_cs (k := 1) (host := "DeltaRoad") (E' := mm_Road_cellAt) dq_Water_lowestNext_20 (by decide) (by decide) rfl (ok_v rfl (by decide) (by decide) (Nat.le_add_left _ _) hst (Nat.le_of_ble_eq_true rfl) (Or.inl rfl)) rfl rfl hc
theorem dq_Water_lowestNext_23 : decode (km_c mm_Water_lowestNext) 23 = .ok (.istore 5, 2) := by decide +kernel
theorem sq_Water_lowestNext_23n : rn G mm_Water_lowestNext 23 [a0, a1, a2, a3, none, a5] (.int x :: st) S P ↔ rn G mm_Water_lowestNext 25 [a0, a1, a2, a3, none, some (.int x)] st S P := rn_s dq_Water_lowestNext_23 rfl rfl rfl
theorem sq_Water_lowestNext_23i : rn G mm_Water_lowestNext 23 [a0, a1, a2, a3, some (.int x2), a5] (.int x :: st) S P ↔ rn G mm_Water_lowestNext 25 [a0, a1, a2, a3, some (.int x2), some (.int x)] st S P := rn_s dq_Water_lowestNext_23 rfl rfl rfl
theorem sq_Water_lowestNext_23r : rn G mm_Water_lowestNext 23 [a0, a1, a2, a3, some (.ref z2), a5] (.int x :: st) S P ↔ rn G mm_Water_lowestNext 25 [a0, a1, a2, a3, some (.ref z2), some (.int x)] st S P := rn_s dq_Water_lowestNext_23 rfl rfl rfl
theorem dq_Water_lowestNext_25 : decode (km_c mm_Water_lowestNext) 25 = .ok (.iload 5, 2) := by decide +kernel
theorem sq_Water_lowestNext_25 : rn G mm_Water_lowestNext 25 [a0, a1, a2, a3, a4, some (.int x)] st S P ↔ rn G mm_Water_lowestNext 27 [a0, a1, a2, a3, a4, some (.int x)] (.int x :: st) S P := rn_s dq_Water_lowestNext_25 rfl rfl rfl
theorem dq_Water_lowestNext_27 : decode (km_c mm_Water_lowestNext) 27 = .ok (.ifCond .lt 23, 3) := by decide +kernel
theorem sq_Water_lowestNext_27 : rn G mm_Water_lowestNext 27 lv (.int x :: st) S P ↔ ((x < 0 → rn G mm_Water_lowestNext 50 lv st S P) ∧ (¬ (x < 0) → rn G mm_Water_lowestNext 30 lv st S P)) := rn_b (off := 23) dq_Water_lowestNext_27 rfl rfl rfl rfl
theorem dq_Water_lowestNext_30 : decode (km_c mm_Water_lowestNext) 30 = .ok (.aload_n 0, 1) := by decide +kernel
theorem sq_Water_lowestNext_30 : rn G mm_Water_lowestNext 30 [some (.ref z), a1, a2, a3, a4, a5] st S P ↔ rn G mm_Water_lowestNext 31 [some (.ref z), a1, a2, a3, a4, a5] (.ref z :: st) S P := rn_s dq_Water_lowestNext_30 rfl rfl rfl
theorem dq_Water_lowestNext_31 : decode (km_c mm_Water_lowestNext) 31 = .ok (.iload 5, 2) := by decide +kernel
theorem sq_Water_lowestNext_31 : rn G mm_Water_lowestNext 31 [a0, a1, a2, a3, a4, some (.int x)] st S P ↔ rn G mm_Water_lowestNext 33 [a0, a1, a2, a3, a4, some (.int x)] (.int x :: st) S P := rn_s dq_Water_lowestNext_31 rfl rfl rfl
theorem dq_Water_lowestNext_33 : decode (km_c mm_Water_lowestNext) 33 = .ok (.invokevirtual 45, 3) := by decide +kernel
theorem sq_Water_lowestNext_33_2 {x1 : Int32} {v : Option Value} {S2 : ks_S} (hc : ev (lt_G o L) mm_Ground_top [.ref 2, .int x1] (sx pl kp I A) v S2) (ho : sx_o o pl kp) (hst : kx_cat st ≤ 8) : rn (lt_G o L) mm_Water_lowestNext 33 lv (.int x1 :: .ref 2 :: st) (sx pl kp I A) P ↔ rn (lt_G o L) mm_Water_lowestNext 36 lv (v.toList ++ st) S2 P := rn_cv (k := 0) (host := "") (E' := mm_Ground_top) dq_Water_lowestNext_33 rfl (ok_v rfl (by decide) (by decide) (Nat.le_add_left _ _) hst (Nat.le_of_ble_eq_true rfl) (Or.inr (rc_v ho (up_b (by decide)) rfl))) rfl rfl hc
theorem sq_Water_lowestNext_33_35 {x1 : Int32} {v : Option Value} {S2 : ks_S} (hc : ev (lt_G o L) mm_Ground_top [.ref 35, .int x1] (sx pl kp I A) v S2) (ho : sx_o o pl kp) (hst : kx_cat st ≤ 8) : rn (lt_G o L) mm_Water_lowestNext 33 lv (.int x1 :: .ref 35 :: st) (sx pl kp I A) P ↔ rn (lt_G o L) mm_Water_lowestNext 36 lv (v.toList ++ st) S2 P := rn_cv (k := 0) (host := "") (E' := mm_Ground_top) dq_Water_lowestNext_33 rfl (ok_v rfl (by decide) (by decide) (Nat.le_add_left _ _) hst (Nat.le_of_ble_eq_true rfl) (Or.inr (rc_v ho (up_b (by decide)) rfl))) rfl rfl hc
theorem sq_Water_lowestNext_33_137 {x1 : Int32} {v : Option Value} {S2 : ks_S} (hc : ev (lt_G o L) mm_Ground_top [.ref 137, .int x1] (sx pl true I A) v S2) (ho : sx_o o pl true) (hst : kx_cat st ≤ 8) : rn (lt_G o L) mm_Water_lowestNext 33 lv (.int x1 :: .ref 137 :: st) (sx pl true I A) P ↔ rn (lt_G o L) mm_Water_lowestNext 36 lv (v.toList ++ st) S2 P := rn_cv (k := 0) (host := "") (E' := mm_Ground_top) dq_Water_lowestNext_33 rfl (ok_v rfl (by decide) (by decide) (Nat.le_add_left _ _) hst (Nat.le_of_ble_eq_true rfl) (Or.inr (rc_v ho (up_k (by decide) (by decide)) rfl))) rfl rfl hc
theorem dq_Water_lowestNext_36 : decode (km_c mm_Water_lowestNext) 36 = .ok (.iload_n 3, 1) := by decide +kernel
theorem sq_Water_lowestNext_36 : rn G mm_Water_lowestNext 36 [a0, a1, a2, some (.int x), a4, a5] st S P ↔ rn G mm_Water_lowestNext 37 [a0, a1, a2, some (.int x), a4, a5] (.int x :: st) S P := rn_s dq_Water_lowestNext_36 rfl rfl rfl
theorem dq_Water_lowestNext_37 : decode (km_c mm_Water_lowestNext) 37 = .ok (.if_icmp .ge 13, 3) := by decide +kernel
theorem sq_Water_lowestNext_37 : rn G mm_Water_lowestNext 37 lv (.int x2 :: .int x :: st) S P ↔ ((x2 ≤ x → rn G mm_Water_lowestNext 50 lv st S P) ∧ (¬ (x2 ≤ x) → rn G mm_Water_lowestNext 40 lv st S P)) := rn_b (off := 13) dq_Water_lowestNext_37 rfl rfl rfl rfl
theorem dq_Water_lowestNext_40 : decode (km_c mm_Water_lowestNext) 40 = .ok (.aload_n 0, 1) := by decide +kernel
theorem sq_Water_lowestNext_40 : rn G mm_Water_lowestNext 40 [some (.ref z), a1, a2, a3, a4, a5] st S P ↔ rn G mm_Water_lowestNext 41 [some (.ref z), a1, a2, a3, a4, a5] (.ref z :: st) S P := rn_s dq_Water_lowestNext_40 rfl rfl rfl
theorem dq_Water_lowestNext_41 : decode (km_c mm_Water_lowestNext) 41 = .ok (.iload 5, 2) := by decide +kernel
theorem sq_Water_lowestNext_41 : rn G mm_Water_lowestNext 41 [a0, a1, a2, a3, a4, some (.int x)] st S P ↔ rn G mm_Water_lowestNext 43 [a0, a1, a2, a3, a4, some (.int x)] (.int x :: st) S P := rn_s dq_Water_lowestNext_41 rfl rfl rfl
theorem dq_Water_lowestNext_43 : decode (km_c mm_Water_lowestNext) 43 = .ok (.invokevirtual 45, 3) := by decide +kernel
theorem sq_Water_lowestNext_43_2 {x1 : Int32} {v : Option Value} {S2 : ks_S} (hc : ev (lt_G o L) mm_Ground_top [.ref 2, .int x1] (sx pl kp I A) v S2) (ho : sx_o o pl kp) (hst : kx_cat st ≤ 8) : rn (lt_G o L) mm_Water_lowestNext 43 lv (.int x1 :: .ref 2 :: st) (sx pl kp I A) P ↔ rn (lt_G o L) mm_Water_lowestNext 46 lv (v.toList ++ st) S2 P := rn_cv (k := 0) (host := "") (E' := mm_Ground_top) dq_Water_lowestNext_43 rfl (ok_v rfl (by decide) (by decide) (Nat.le_add_left _ _) hst (Nat.le_of_ble_eq_true rfl) (Or.inr (rc_v ho (up_b (by decide)) rfl))) rfl rfl hc
theorem sq_Water_lowestNext_43_35 {x1 : Int32} {v : Option Value} {S2 : ks_S} (hc : ev (lt_G o L) mm_Ground_top [.ref 35, .int x1] (sx pl kp I A) v S2) (ho : sx_o o pl kp) (hst : kx_cat st ≤ 8) : rn (lt_G o L) mm_Water_lowestNext 43 lv (.int x1 :: .ref 35 :: st) (sx pl kp I A) P ↔ rn (lt_G o L) mm_Water_lowestNext 46 lv (v.toList ++ st) S2 P := rn_cv (k := 0) (host := "") (E' := mm_Ground_top) dq_Water_lowestNext_43 rfl (ok_v rfl (by decide) (by decide) (Nat.le_add_left _ _) hst (Nat.le_of_ble_eq_true rfl) (Or.inr (rc_v ho (up_b (by decide)) rfl))) rfl rfl hc
theorem sq_Water_lowestNext_43_137 {x1 : Int32} {v : Option Value} {S2 : ks_S} (hc : ev (lt_G o L) mm_Ground_top [.ref 137, .int x1] (sx pl true I A) v S2) (ho : sx_o o pl true) (hst : kx_cat st ≤ 8) : rn (lt_G o L) mm_Water_lowestNext 43 lv (.int x1 :: .ref 137 :: st) (sx pl true I A) P ↔ rn (lt_G o L) mm_Water_lowestNext 46 lv (v.toList ++ st) S2 P := rn_cv (k := 0) (host := "") (E' := mm_Ground_top) dq_Water_lowestNext_43 rfl (ok_v rfl (by decide) (by decide) (Nat.le_add_left _ _) hst (Nat.le_of_ble_eq_true rfl) (Or.inr (rc_v ho (up_k (by decide) (by decide)) rfl))) rfl rfl hc
theorem dq_Water_lowestNext_46 : decode (km_c mm_Water_lowestNext) 46 = .ok (.istore_n 3, 1) := by decide +kernel
theorem sq_Water_lowestNext_46n : rn G mm_Water_lowestNext 46 [a0, a1, none, a3, a4, a5] (.int x :: st) S P ↔ rn G mm_Water_lowestNext 47 [a0, a1, none, some (.int x), a4, a5] st S P := rn_s dq_Water_lowestNext_46 rfl rfl rfl
theorem sq_Water_lowestNext_46i : rn G mm_Water_lowestNext 46 [a0, a1, some (.int x2), a3, a4, a5] (.int x :: st) S P ↔ rn G mm_Water_lowestNext 47 [a0, a1, some (.int x2), some (.int x), a4, a5] st S P := rn_s dq_Water_lowestNext_46 rfl rfl rfl
theorem sq_Water_lowestNext_46r : rn G mm_Water_lowestNext 46 [a0, a1, some (.ref z2), a3, a4, a5] (.int x :: st) S P ↔ rn G mm_Water_lowestNext 47 [a0, a1, some (.ref z2), some (.int x), a4, a5] st S P := rn_s dq_Water_lowestNext_46 rfl rfl rfl
theorem dq_Water_lowestNext_47 : decode (km_c mm_Water_lowestNext) 47 = .ok (.iload 5, 2) := by decide +kernel
theorem sq_Water_lowestNext_47 : rn G mm_Water_lowestNext 47 [a0, a1, a2, a3, a4, some (.int x)] st S P ↔ rn G mm_Water_lowestNext 49 [a0, a1, a2, a3, a4, some (.int x)] (.int x :: st) S P := rn_s dq_Water_lowestNext_47 rfl rfl rfl
theorem dq_Water_lowestNext_49 : decode (km_c mm_Water_lowestNext) 49 = .ok (.istore_n 2, 1) := by decide +kernel
theorem sq_Water_lowestNext_49n : rn G mm_Water_lowestNext 49 [a0, none, a2, a3, a4, a5] (.int x :: st) S P ↔ rn G mm_Water_lowestNext 50 [a0, none, some (.int x), a3, a4, a5] st S P := rn_s dq_Water_lowestNext_49 rfl rfl rfl
theorem sq_Water_lowestNext_49i : rn G mm_Water_lowestNext 49 [a0, some (.int x2), a2, a3, a4, a5] (.int x :: st) S P ↔ rn G mm_Water_lowestNext 50 [a0, some (.int x2), some (.int x), a3, a4, a5] st S P := rn_s dq_Water_lowestNext_49 rfl rfl rfl
theorem sq_Water_lowestNext_49r : rn G mm_Water_lowestNext 49 [a0, some (.ref z2), a2, a3, a4, a5] (.int x :: st) S P ↔ rn G mm_Water_lowestNext 50 [a0, some (.ref z2), some (.int x), a3, a4, a5] st S P := rn_s dq_Water_lowestNext_49 rfl rfl rfl
theorem dq_Water_lowestNext_50 : decode (km_c mm_Water_lowestNext) 50 = .ok (.iinc 4 1, 3) := by decide +kernel
theorem sq_Water_lowestNext_50n : rn G mm_Water_lowestNext 50 [a0, a1, a2, none, some (.int x), a5] st S P ↔ rn G mm_Water_lowestNext 53 [a0, a1, a2, none, some (.int (x + nI 1)), a5] st S P := rn_s dq_Water_lowestNext_50 rfl rfl rfl
theorem sq_Water_lowestNext_50i : rn G mm_Water_lowestNext 50 [a0, a1, a2, some (.int x2), some (.int x), a5] st S P ↔ rn G mm_Water_lowestNext 53 [a0, a1, a2, some (.int x2), some (.int (x + nI 1)), a5] st S P := rn_s dq_Water_lowestNext_50 rfl rfl rfl
theorem sq_Water_lowestNext_50r : rn G mm_Water_lowestNext 50 [a0, a1, a2, some (.ref z2), some (.int x), a5] st S P ↔ rn G mm_Water_lowestNext 53 [a0, a1, a2, some (.ref z2), some (.int (x + nI 1)), a5] st S P := rn_s dq_Water_lowestNext_50 rfl rfl rfl
theorem dq_Water_lowestNext_53 : decode (km_c mm_Water_lowestNext) 53 = .ok (.goto (-42), 3) := by decide +kernel
theorem sq_Water_lowestNext_53 : rn G mm_Water_lowestNext 53 lv st S P ↔ rn G mm_Water_lowestNext 11 lv st S P := rn_s dq_Water_lowestNext_53 rfl rfl rfl
theorem dq_Water_lowestNext_56 : decode (km_c mm_Water_lowestNext) 56 = .ok (.iload_n 2, 1) := by decide +kernel
theorem sq_Water_lowestNext_56 : rn G mm_Water_lowestNext 56 [a0, a1, some (.int x), a3, a4, a5] st S P ↔ rn G mm_Water_lowestNext 57 [a0, a1, some (.int x), a3, a4, a5] (.int x :: st) S P := rn_s dq_Water_lowestNext_56 rfl rfl rfl
theorem dq_Water_lowestNext_57 : decode (km_c mm_Water_lowestNext) 57 = .ok (.ireturn, 1) := by decide +kernel
theorem sq_Water_lowestNext_57 : rn G mm_Water_lowestNext 57 lv [.int x] S P ↔ P (some (.int x)) S := rn_ir dq_Water_lowestNext_57 rfl
theorem dq_Water_deepest_0 : decode (km_c mm_Water_deepest) 0 = .ok (.iconst 0, 1) := by decide +kernel
theorem sq_Water_deepest_0 : rn G mm_Water_deepest 0 lv st S P ↔ rn G mm_Water_deepest 1 lv (.int (nI 0) :: st) S P := rn_s dq_Water_deepest_0 rfl rfl rfl
theorem dq_Water_deepest_1 : decode (km_c mm_Water_deepest) 1 = .ok (.istore_n 2, 1) := by decide +kernel
theorem sq_Water_deepest_1n : rn G mm_Water_deepest 1 [a0, none, a2, a3] (.int x :: st) S P ↔ rn G mm_Water_deepest 2 [a0, none, some (.int x), a3] st S P := rn_s dq_Water_deepest_1 rfl rfl rfl
theorem sq_Water_deepest_1i : rn G mm_Water_deepest 1 [a0, some (.int x2), a2, a3] (.int x :: st) S P ↔ rn G mm_Water_deepest 2 [a0, some (.int x2), some (.int x), a3] st S P := rn_s dq_Water_deepest_1 rfl rfl rfl
theorem sq_Water_deepest_1r : rn G mm_Water_deepest 1 [a0, some (.ref z2), a2, a3] (.int x :: st) S P ↔ rn G mm_Water_deepest 2 [a0, some (.ref z2), some (.int x), a3] st S P := rn_s dq_Water_deepest_1 rfl rfl rfl
theorem dq_Water_deepest_2 : decode (km_c mm_Water_deepest) 2 = .ok (.iconst 0, 1) := by decide +kernel
theorem sq_Water_deepest_2 : rn G mm_Water_deepest 2 lv st S P ↔ rn G mm_Water_deepest 3 lv (.int (nI 0) :: st) S P := rn_s dq_Water_deepest_2 rfl rfl rfl
theorem dq_Water_deepest_3 : decode (km_c mm_Water_deepest) 3 = .ok (.istore_n 3, 1) := by decide +kernel
theorem sq_Water_deepest_3n : rn G mm_Water_deepest 3 [a0, a1, none, a3] (.int x :: st) S P ↔ rn G mm_Water_deepest 4 [a0, a1, none, some (.int x)] st S P := rn_s dq_Water_deepest_3 rfl rfl rfl
theorem sq_Water_deepest_3i : rn G mm_Water_deepest 3 [a0, a1, some (.int x2), a3] (.int x :: st) S P ↔ rn G mm_Water_deepest 4 [a0, a1, some (.int x2), some (.int x)] st S P := rn_s dq_Water_deepest_3 rfl rfl rfl
theorem sq_Water_deepest_3r : rn G mm_Water_deepest 3 [a0, a1, some (.ref z2), a3] (.int x :: st) S P ↔ rn G mm_Water_deepest 4 [a0, a1, some (.ref z2), some (.int x)] st S P := rn_s dq_Water_deepest_3 rfl rfl rfl
theorem dq_Water_deepest_4 : decode (km_c mm_Water_deepest) 4 = .ok (.iload_n 3, 1) := by decide +kernel
theorem sq_Water_deepest_4 : rn G mm_Water_deepest 4 [a0, a1, a2, some (.int x)] st S P ↔ rn G mm_Water_deepest 5 [a0, a1, a2, some (.int x)] (.int x :: st) S P := rn_s dq_Water_deepest_4 rfl rfl rfl
theorem dq_Water_deepest_5 : decode (km_c mm_Water_deepest) 5 = .ok (.aload_n 1, 1) := by decide +kernel
theorem sq_Water_deepest_5 : rn G mm_Water_deepest 5 [a0, some (.ref z), a2, a3] st S P ↔ rn G mm_Water_deepest 6 [a0, some (.ref z), a2, a3] (.ref z :: st) S P := rn_s dq_Water_deepest_5 rfl rfl rfl
theorem dq_Water_deepest_6 : decode (km_c mm_Water_deepest) 6 = .ok (.getfield 49, 3) := by decide +kernel
theorem sq_Water_deepest_6_12 (ho : sx_o o pl kp) : rn (lt_G o L) mm_Water_deepest 6 lv (.ref 12 :: st) (sx pl kp I A) P ↔ rn (lt_G o L) mm_Water_deepest 9 lv (.int (I 12 1) :: st) (sx pl kp I A) P := rx_get (h := "DeltaRoad") (ci := 1) (k := 1) dq_Water_deepest_6 (by decide +kernel) ho (up_b (by decide)) rfl rfl (fl_i (by decide))
theorem sq_Water_deepest_6_147 (ho : sx_o o pl true) : rn (lt_G o L) mm_Water_deepest 6 lv (.ref 147 :: st) (sx pl true I A) P ↔ rn (lt_G o L) mm_Water_deepest 9 lv (.int (I 147 1) :: st) (sx pl true I A) P := rx_get (h := "DeltaRoad") (ci := 1) (k := 1) dq_Water_deepest_6 (by decide +kernel) ho (up_k (by decide) (by decide)) rfl rfl (fl_i (by decide))
theorem dq_Water_deepest_9 : decode (km_c mm_Water_deepest) 9 = .ok (.if_icmp .ge 25, 3) := by decide +kernel
theorem sq_Water_deepest_9 : rn G mm_Water_deepest 9 lv (.int x2 :: .int x :: st) S P ↔ ((x2 ≤ x → rn G mm_Water_deepest 34 lv st S P) ∧ (¬ (x2 ≤ x) → rn G mm_Water_deepest 12 lv st S P)) := rn_b (off := 25) dq_Water_deepest_9 rfl rfl rfl rfl
theorem dq_Water_deepest_12 : decode (km_c mm_Water_deepest) 12 = .ok (.iload_n 2, 1) := by decide +kernel
theorem sq_Water_deepest_12 : rn G mm_Water_deepest 12 [a0, a1, some (.int x), a3] st S P ↔ rn G mm_Water_deepest 13 [a0, a1, some (.int x), a3] (.int x :: st) S P := rn_s dq_Water_deepest_12 rfl rfl rfl
theorem dq_Water_deepest_13 : decode (km_c mm_Water_deepest) 13 = .ok (.aload_n 0, 1) := by decide +kernel
theorem sq_Water_deepest_13 : rn G mm_Water_deepest 13 [some (.ref z), a1, a2, a3] st S P ↔ rn G mm_Water_deepest 14 [some (.ref z), a1, a2, a3] (.ref z :: st) S P := rn_s dq_Water_deepest_13 rfl rfl rfl
theorem dq_Water_deepest_14 : decode (km_c mm_Water_deepest) 14 = .ok (.getfield 9, 3) := by decide +kernel
theorem sq_Water_deepest_14_16 (ho : sx_o o pl kp) : rn (lt_G o L) mm_Water_deepest 14 lv (.ref 16 :: st) (sx pl kp I A) P ↔ rn (lt_G o L) mm_Water_deepest 17 lv (.ref 17 :: st) (sx pl kp I A) P := rx_get (h := "") (ci := 6) (k := 0) dq_Water_deepest_14 (by decide +kernel) ho (up_b (by decide)) rfl rfl (fl_r (by decide) (by decide) (by decide) (by decide))
theorem sq_Water_deepest_14_20 (ho : sx_o o pl kp) : rn (lt_G o L) mm_Water_deepest 14 lv (.ref 20 :: st) (sx pl kp I A) P ↔ rn (lt_G o L) mm_Water_deepest 17 lv (.ref 21 :: st) (sx pl kp I A) P := rx_get (h := "") (ci := 6) (k := 0) dq_Water_deepest_14 (by decide +kernel) ho (up_b (by decide)) rfl rfl (fl_r (by decide) (by decide) (by decide) (by decide))
theorem dq_Water_deepest_17 : decode (km_c mm_Water_deepest) 17 = .ok (.aload_n 1, 1) := by decide +kernel
theorem sq_Water_deepest_17 : rn G mm_Water_deepest 17 [a0, some (.ref z), a2, a3] st S P ↔ rn G mm_Water_deepest 18 [a0, some (.ref z), a2, a3] (.ref z :: st) S P := rn_s dq_Water_deepest_17 rfl rfl rfl
theorem dq_Water_deepest_18 : decode (km_c mm_Water_deepest) 18 = .ok (.getfield 54, 3) := by decide +kernel
theorem sq_Water_deepest_18_12 (ho : sx_o o pl kp) : rn (lt_G o L) mm_Water_deepest 18 lv (.ref 12 :: st) (sx pl kp I A) P ↔ rn (lt_G o L) mm_Water_deepest 21 lv (.ref 13 :: st) (sx pl kp I A) P := rx_get (h := "DeltaRoad") (ci := 1) (k := 0) dq_Water_deepest_18 (by decide +kernel) ho (up_b (by decide)) rfl rfl (fl_r (by decide) (by decide) (by decide) (by decide))
theorem sq_Water_deepest_18_147 (ho : sx_o o pl true) : rn (lt_G o L) mm_Water_deepest 18 lv (.ref 147 :: st) (sx pl true I A) P ↔ rn (lt_G o L) mm_Water_deepest 21 lv (.ref 148 :: st) (sx pl true I A) P := rx_get (h := "DeltaRoad") (ci := 1) (k := 0) dq_Water_deepest_18 (by decide +kernel) ho (up_k (by decide) (by decide)) rfl rfl (fl_k (by decide) (by decide))
theorem dq_Water_deepest_21 : decode (km_c mm_Water_deepest) 21 = .ok (.iload_n 3, 1) := by decide +kernel
theorem sq_Water_deepest_21 : rn G mm_Water_deepest 21 [a0, a1, a2, some (.int x)] st S P ↔ rn G mm_Water_deepest 22 [a0, a1, a2, some (.int x)] (.int x :: st) S P := rn_s dq_Water_deepest_21 rfl rfl rfl
theorem dq_Water_deepest_22 : decode (km_c mm_Water_deepest) 22 = .ok (.iaload, 1) := by decide +kernel
theorem sq_Water_deepest_22 (ho : sx_o o pl kp) (hk : ak L a = 0) (hu : sx_up pl kp a = true ∨ 1000 ≤ a) (hc : c < ln L a) (hn : ln L a < 2 ^ 31) : rn (lt_G o L) mm_Water_deepest 22 lv (.int (nI c) :: .ref a :: st) (sx pl kp I A) P ↔ rn (lt_G o L) mm_Water_deepest 23 lv (.int (A a c) :: st) (sx pl kp I A) P := rx_ild dq_Water_deepest_22 ho hk hu hc hn
theorem dq_Water_deepest_23 : decode (km_c mm_Water_deepest) 23 = .ok (.iaload, 1) := by decide +kernel
theorem sq_Water_deepest_23 (ho : sx_o o pl kp) (hk : ak L a = 0) (hu : sx_up pl kp a = true ∨ 1000 ≤ a) (hc : c < ln L a) (hn : ln L a < 2 ^ 31) : rn (lt_G o L) mm_Water_deepest 23 lv (.int (nI c) :: .ref a :: st) (sx pl kp I A) P ↔ rn (lt_G o L) mm_Water_deepest 24 lv (.int (A a c) :: st) (sx pl kp I A) P := rx_ild dq_Water_deepest_23 ho hk hu hc hn
theorem dq_Water_deepest_24 : decode (km_c mm_Water_deepest) 24 = .ok (.invokestatic 57, 3) := by decide +kernel
theorem sq_Water_deepest_24 (hst : kx_cat st ≤ 8) : rn G mm_Water_deepest 24 lv (.int x2 :: .int x :: st) S P ↔ rn G mm_Water_deepest 27 lv (.int (if x < x2 then x2 else x) :: st) S P := rn_mm dq_Water_deepest_24 (by decide) (w := 0) (by decide) (if_pos ⟨by decide, Nat.le_trans (Nat.add_le_add_right hst 13) (by decide)⟩)
theorem dq_Water_deepest_27 : decode (km_c mm_Water_deepest) 27 = .ok (.istore_n 2, 1) := by decide +kernel
theorem sq_Water_deepest_27n : rn G mm_Water_deepest 27 [a0, none, a2, a3] (.int x :: st) S P ↔ rn G mm_Water_deepest 28 [a0, none, some (.int x), a3] st S P := rn_s dq_Water_deepest_27 rfl rfl rfl
theorem sq_Water_deepest_27i : rn G mm_Water_deepest 27 [a0, some (.int x2), a2, a3] (.int x :: st) S P ↔ rn G mm_Water_deepest 28 [a0, some (.int x2), some (.int x), a3] st S P := rn_s dq_Water_deepest_27 rfl rfl rfl
theorem sq_Water_deepest_27r : rn G mm_Water_deepest 27 [a0, some (.ref z2), a2, a3] (.int x :: st) S P ↔ rn G mm_Water_deepest 28 [a0, some (.ref z2), some (.int x), a3] st S P := rn_s dq_Water_deepest_27 rfl rfl rfl
theorem dq_Water_deepest_28 : decode (km_c mm_Water_deepest) 28 = .ok (.iinc 3 1, 3) := by decide +kernel
theorem sq_Water_deepest_28n : rn G mm_Water_deepest 28 [a0, a1, none, some (.int x)] st S P ↔ rn G mm_Water_deepest 31 [a0, a1, none, some (.int (x + nI 1))] st S P := rn_s dq_Water_deepest_28 rfl rfl rfl
theorem sq_Water_deepest_28i : rn G mm_Water_deepest 28 [a0, a1, some (.int x2), some (.int x)] st S P ↔ rn G mm_Water_deepest 31 [a0, a1, some (.int x2), some (.int (x + nI 1))] st S P := rn_s dq_Water_deepest_28 rfl rfl rfl
theorem sq_Water_deepest_28r : rn G mm_Water_deepest 28 [a0, a1, some (.ref z2), some (.int x)] st S P ↔ rn G mm_Water_deepest 31 [a0, a1, some (.ref z2), some (.int (x + nI 1))] st S P := rn_s dq_Water_deepest_28 rfl rfl rfl
theorem dq_Water_deepest_31 : decode (km_c mm_Water_deepest) 31 = .ok (.goto (-27), 3) := by decide +kernel
theorem sq_Water_deepest_31 : rn G mm_Water_deepest 31 lv st S P ↔ rn G mm_Water_deepest 4 lv st S P := rn_s dq_Water_deepest_31 rfl rfl rfl
theorem dq_Water_deepest_34 : decode (km_c mm_Water_deepest) 34 = .ok (.iload_n 2, 1) := by decide +kernel
theorem sq_Water_deepest_34 : rn G mm_Water_deepest 34 [a0, a1, some (.int x), a3] st S P ↔ rn G mm_Water_deepest 35 [a0, a1, some (.int x), a3] (.int x :: st) S P := rn_s dq_Water_deepest_34 rfl rfl rfl
theorem dq_Water_deepest_35 : decode (km_c mm_Water_deepest) 35 = .ok (.ireturn, 1) := by decide +kernel
theorem sq_Water_deepest_35 : rn G mm_Water_deepest 35 lv [.int x] S P ↔ P (some (.int x)) S := rn_ir dq_Water_deepest_35 rfl
theorem dq_Water_wetCellsOf_0 : decode (km_c mm_Water_wetCellsOf) 0 = .ok (.iconst 0, 1) := by decide +kernel
theorem sq_Water_wetCellsOf_0 : rn G mm_Water_wetCellsOf 0 lv st S P ↔ rn G mm_Water_wetCellsOf 1 lv (.int (nI 0) :: st) S P := rn_s dq_Water_wetCellsOf_0 rfl rfl rfl
theorem dq_Water_wetCellsOf_1 : decode (km_c mm_Water_wetCellsOf) 1 = .ok (.istore_n 2, 1) := by decide +kernel
theorem sq_Water_wetCellsOf_1n : rn G mm_Water_wetCellsOf 1 [a0, none, a2, a3] (.int x :: st) S P ↔ rn G mm_Water_wetCellsOf 2 [a0, none, some (.int x), a3] st S P := rn_s dq_Water_wetCellsOf_1 rfl rfl rfl
theorem sq_Water_wetCellsOf_1i : rn G mm_Water_wetCellsOf 1 [a0, some (.int x2), a2, a3] (.int x :: st) S P ↔ rn G mm_Water_wetCellsOf 2 [a0, some (.int x2), some (.int x), a3] st S P := rn_s dq_Water_wetCellsOf_1 rfl rfl rfl
theorem sq_Water_wetCellsOf_1r : rn G mm_Water_wetCellsOf 1 [a0, some (.ref z2), a2, a3] (.int x :: st) S P ↔ rn G mm_Water_wetCellsOf 2 [a0, some (.ref z2), some (.int x), a3] st S P := rn_s dq_Water_wetCellsOf_1 rfl rfl rfl
theorem dq_Water_wetCellsOf_2 : decode (km_c mm_Water_wetCellsOf) 2 = .ok (.iconst 0, 1) := by decide +kernel
theorem sq_Water_wetCellsOf_2 : rn G mm_Water_wetCellsOf 2 lv st S P ↔ rn G mm_Water_wetCellsOf 3 lv (.int (nI 0) :: st) S P := rn_s dq_Water_wetCellsOf_2 rfl rfl rfl
theorem dq_Water_wetCellsOf_3 : decode (km_c mm_Water_wetCellsOf) 3 = .ok (.istore_n 3, 1) := by decide +kernel
theorem sq_Water_wetCellsOf_3n : rn G mm_Water_wetCellsOf 3 [a0, a1, none, a3] (.int x :: st) S P ↔ rn G mm_Water_wetCellsOf 4 [a0, a1, none, some (.int x)] st S P := rn_s dq_Water_wetCellsOf_3 rfl rfl rfl
theorem sq_Water_wetCellsOf_3i : rn G mm_Water_wetCellsOf 3 [a0, a1, some (.int x2), a3] (.int x :: st) S P ↔ rn G mm_Water_wetCellsOf 4 [a0, a1, some (.int x2), some (.int x)] st S P := rn_s dq_Water_wetCellsOf_3 rfl rfl rfl
theorem sq_Water_wetCellsOf_3r : rn G mm_Water_wetCellsOf 3 [a0, a1, some (.ref z2), a3] (.int x :: st) S P ↔ rn G mm_Water_wetCellsOf 4 [a0, a1, some (.ref z2), some (.int x)] st S P := rn_s dq_Water_wetCellsOf_3 rfl rfl rfl
theorem dq_Water_wetCellsOf_4 : decode (km_c mm_Water_wetCellsOf) 4 = .ok (.iload_n 3, 1) := by decide +kernel
theorem sq_Water_wetCellsOf_4 : rn G mm_Water_wetCellsOf 4 [a0, a1, a2, some (.int x)] st S P ↔ rn G mm_Water_wetCellsOf 5 [a0, a1, a2, some (.int x)] (.int x :: st) S P := rn_s dq_Water_wetCellsOf_4 rfl rfl rfl
theorem dq_Water_wetCellsOf_5 : decode (km_c mm_Water_wetCellsOf) 5 = .ok (.aload_n 1, 1) := by decide +kernel
theorem sq_Water_wetCellsOf_5 : rn G mm_Water_wetCellsOf 5 [a0, some (.ref z), a2, a3] st S P ↔ rn G mm_Water_wetCellsOf 6 [a0, some (.ref z), a2, a3] (.ref z :: st) S P := rn_s dq_Water_wetCellsOf_5 rfl rfl rfl
theorem dq_Water_wetCellsOf_6 : decode (km_c mm_Water_wetCellsOf) 6 = .ok (.getfield 49, 3) := by decide +kernel
theorem sq_Water_wetCellsOf_6_12 (ho : sx_o o pl kp) : rn (lt_G o L) mm_Water_wetCellsOf 6 lv (.ref 12 :: st) (sx pl kp I A) P ↔ rn (lt_G o L) mm_Water_wetCellsOf 9 lv (.int (I 12 1) :: st) (sx pl kp I A) P := rx_get (h := "DeltaRoad") (ci := 1) (k := 1) dq_Water_wetCellsOf_6 (by decide +kernel) ho (up_b (by decide)) rfl rfl (fl_i (by decide))
theorem sq_Water_wetCellsOf_6_147 (ho : sx_o o pl true) : rn (lt_G o L) mm_Water_wetCellsOf 6 lv (.ref 147 :: st) (sx pl true I A) P ↔ rn (lt_G o L) mm_Water_wetCellsOf 9 lv (.int (I 147 1) :: st) (sx pl true I A) P := rx_get (h := "DeltaRoad") (ci := 1) (k := 1) dq_Water_wetCellsOf_6 (by decide +kernel) ho (up_k (by decide) (by decide)) rfl rfl (fl_i (by decide))
theorem dq_Water_wetCellsOf_9 : decode (km_c mm_Water_wetCellsOf) 9 = .ok (.if_icmp .ge 26, 3) := by decide +kernel
theorem sq_Water_wetCellsOf_9 : rn G mm_Water_wetCellsOf 9 lv (.int x2 :: .int x :: st) S P ↔ ((x2 ≤ x → rn G mm_Water_wetCellsOf 35 lv st S P) ∧ (¬ (x2 ≤ x) → rn G mm_Water_wetCellsOf 12 lv st S P)) := rn_b (off := 26) dq_Water_wetCellsOf_9 rfl rfl rfl rfl
theorem dq_Water_wetCellsOf_12 : decode (km_c mm_Water_wetCellsOf) 12 = .ok (.aload_n 0, 1) := by decide +kernel
theorem sq_Water_wetCellsOf_12 : rn G mm_Water_wetCellsOf 12 [some (.ref z), a1, a2, a3] st S P ↔ rn G mm_Water_wetCellsOf 13 [some (.ref z), a1, a2, a3] (.ref z :: st) S P := rn_s dq_Water_wetCellsOf_12 rfl rfl rfl
theorem dq_Water_wetCellsOf_13 : decode (km_c mm_Water_wetCellsOf) 13 = .ok (.getfield 9, 3) := by decide +kernel
theorem sq_Water_wetCellsOf_13_16 (ho : sx_o o pl kp) : rn (lt_G o L) mm_Water_wetCellsOf 13 lv (.ref 16 :: st) (sx pl kp I A) P ↔ rn (lt_G o L) mm_Water_wetCellsOf 16 lv (.ref 17 :: st) (sx pl kp I A) P := rx_get (h := "") (ci := 6) (k := 0) dq_Water_wetCellsOf_13 (by decide +kernel) ho (up_b (by decide)) rfl rfl (fl_r (by decide) (by decide) (by decide) (by decide))
theorem sq_Water_wetCellsOf_13_20 (ho : sx_o o pl kp) : rn (lt_G o L) mm_Water_wetCellsOf 13 lv (.ref 20 :: st) (sx pl kp I A) P ↔ rn (lt_G o L) mm_Water_wetCellsOf 16 lv (.ref 21 :: st) (sx pl kp I A) P := rx_get (h := "") (ci := 6) (k := 0) dq_Water_wetCellsOf_13 (by decide +kernel) ho (up_b (by decide)) rfl rfl (fl_r (by decide) (by decide) (by decide) (by decide))
theorem dq_Water_wetCellsOf_16 : decode (km_c mm_Water_wetCellsOf) 16 = .ok (.aload_n 1, 1) := by decide +kernel
theorem sq_Water_wetCellsOf_16 : rn G mm_Water_wetCellsOf 16 [a0, some (.ref z), a2, a3] st S P ↔ rn G mm_Water_wetCellsOf 17 [a0, some (.ref z), a2, a3] (.ref z :: st) S P := rn_s dq_Water_wetCellsOf_16 rfl rfl rfl
theorem dq_Water_wetCellsOf_17 : decode (km_c mm_Water_wetCellsOf) 17 = .ok (.getfield 54, 3) := by decide +kernel
theorem sq_Water_wetCellsOf_17_12 (ho : sx_o o pl kp) : rn (lt_G o L) mm_Water_wetCellsOf 17 lv (.ref 12 :: st) (sx pl kp I A) P ↔ rn (lt_G o L) mm_Water_wetCellsOf 20 lv (.ref 13 :: st) (sx pl kp I A) P := rx_get (h := "DeltaRoad") (ci := 1) (k := 0) dq_Water_wetCellsOf_17 (by decide +kernel) ho (up_b (by decide)) rfl rfl (fl_r (by decide) (by decide) (by decide) (by decide))
theorem sq_Water_wetCellsOf_17_147 (ho : sx_o o pl true) : rn (lt_G o L) mm_Water_wetCellsOf 17 lv (.ref 147 :: st) (sx pl true I A) P ↔ rn (lt_G o L) mm_Water_wetCellsOf 20 lv (.ref 148 :: st) (sx pl true I A) P := rx_get (h := "DeltaRoad") (ci := 1) (k := 0) dq_Water_wetCellsOf_17 (by decide +kernel) ho (up_k (by decide) (by decide)) rfl rfl (fl_k (by decide) (by decide))
theorem dq_Water_wetCellsOf_20 : decode (km_c mm_Water_wetCellsOf) 20 = .ok (.iload_n 3, 1) := by decide +kernel
theorem sq_Water_wetCellsOf_20 : rn G mm_Water_wetCellsOf 20 [a0, a1, a2, some (.int x)] st S P ↔ rn G mm_Water_wetCellsOf 21 [a0, a1, a2, some (.int x)] (.int x :: st) S P := rn_s dq_Water_wetCellsOf_20 rfl rfl rfl
theorem dq_Water_wetCellsOf_21 : decode (km_c mm_Water_wetCellsOf) 21 = .ok (.iaload, 1) := by decide +kernel
theorem sq_Water_wetCellsOf_21 (ho : sx_o o pl kp) (hk : ak L a = 0) (hu : sx_up pl kp a = true ∨ 1000 ≤ a) (hc : c < ln L a) (hn : ln L a < 2 ^ 31) : rn (lt_G o L) mm_Water_wetCellsOf 21 lv (.int (nI c) :: .ref a :: st) (sx pl kp I A) P ↔ rn (lt_G o L) mm_Water_wetCellsOf 22 lv (.int (A a c) :: st) (sx pl kp I A) P := rx_ild dq_Water_wetCellsOf_21 ho hk hu hc hn
theorem dq_Water_wetCellsOf_22 : decode (km_c mm_Water_wetCellsOf) 22 = .ok (.iaload, 1) := by decide +kernel
theorem sq_Water_wetCellsOf_22 (ho : sx_o o pl kp) (hk : ak L a = 0) (hu : sx_up pl kp a = true ∨ 1000 ≤ a) (hc : c < ln L a) (hn : ln L a < 2 ^ 31) : rn (lt_G o L) mm_Water_wetCellsOf 22 lv (.int (nI c) :: .ref a :: st) (sx pl kp I A) P ↔ rn (lt_G o L) mm_Water_wetCellsOf 23 lv (.int (A a c) :: st) (sx pl kp I A) P := rx_ild dq_Water_wetCellsOf_22 ho hk hu hc hn
theorem dq_Water_wetCellsOf_23 : decode (km_c mm_Water_wetCellsOf) 23 = .ok (.ifCond .le 6, 3) := by decide +kernel
theorem sq_Water_wetCellsOf_23 : rn G mm_Water_wetCellsOf 23 lv (.int x :: st) S P ↔ ((x ≤ 0 → rn G mm_Water_wetCellsOf 29 lv st S P) ∧ (¬ (x ≤ 0) → rn G mm_Water_wetCellsOf 26 lv st S P)) := rn_b (off := 6) dq_Water_wetCellsOf_23 rfl rfl rfl rfl
theorem dq_Water_wetCellsOf_26 : decode (km_c mm_Water_wetCellsOf) 26 = .ok (.iinc 2 1, 3) := by decide +kernel
theorem sq_Water_wetCellsOf_26n : rn G mm_Water_wetCellsOf 26 [a0, none, some (.int x), a3] st S P ↔ rn G mm_Water_wetCellsOf 29 [a0, none, some (.int (x + nI 1)), a3] st S P := rn_s dq_Water_wetCellsOf_26 rfl rfl rfl
theorem sq_Water_wetCellsOf_26i : rn G mm_Water_wetCellsOf 26 [a0, some (.int x2), some (.int x), a3] st S P ↔ rn G mm_Water_wetCellsOf 29 [a0, some (.int x2), some (.int (x + nI 1)), a3] st S P := rn_s dq_Water_wetCellsOf_26 rfl rfl rfl
theorem sq_Water_wetCellsOf_26r : rn G mm_Water_wetCellsOf 26 [a0, some (.ref z2), some (.int x), a3] st S P ↔ rn G mm_Water_wetCellsOf 29 [a0, some (.ref z2), some (.int (x + nI 1)), a3] st S P := rn_s dq_Water_wetCellsOf_26 rfl rfl rfl
theorem dq_Water_wetCellsOf_29 : decode (km_c mm_Water_wetCellsOf) 29 = .ok (.iinc 3 1, 3) := by decide +kernel
theorem sq_Water_wetCellsOf_29n : rn G mm_Water_wetCellsOf 29 [a0, a1, none, some (.int x)] st S P ↔ rn G mm_Water_wetCellsOf 32 [a0, a1, none, some (.int (x + nI 1))] st S P := rn_s dq_Water_wetCellsOf_29 rfl rfl rfl
theorem sq_Water_wetCellsOf_29i : rn G mm_Water_wetCellsOf 29 [a0, a1, some (.int x2), some (.int x)] st S P ↔ rn G mm_Water_wetCellsOf 32 [a0, a1, some (.int x2), some (.int (x + nI 1))] st S P := rn_s dq_Water_wetCellsOf_29 rfl rfl rfl
theorem sq_Water_wetCellsOf_29r : rn G mm_Water_wetCellsOf 29 [a0, a1, some (.ref z2), some (.int x)] st S P ↔ rn G mm_Water_wetCellsOf 32 [a0, a1, some (.ref z2), some (.int (x + nI 1))] st S P := rn_s dq_Water_wetCellsOf_29 rfl rfl rfl
theorem dq_Water_wetCellsOf_32 : decode (km_c mm_Water_wetCellsOf) 32 = .ok (.goto (-28), 3) := by decide +kernel
theorem sq_Water_wetCellsOf_32 : rn G mm_Water_wetCellsOf 32 lv st S P ↔ rn G mm_Water_wetCellsOf 4 lv st S P := rn_s dq_Water_wetCellsOf_32 rfl rfl rfl
theorem dq_Water_wetCellsOf_35 : decode (km_c mm_Water_wetCellsOf) 35 = .ok (.iload_n 2, 1) := by decide +kernel
theorem sq_Water_wetCellsOf_35 : rn G mm_Water_wetCellsOf 35 [a0, a1, some (.int x), a3] st S P ↔ rn G mm_Water_wetCellsOf 36 [a0, a1, some (.int x), a3] (.int x :: st) S P := rn_s dq_Water_wetCellsOf_35 rfl rfl rfl
theorem dq_Water_wetCellsOf_36 : decode (km_c mm_Water_wetCellsOf) 36 = .ok (.ireturn, 1) := by decide +kernel
theorem sq_Water_wetCellsOf_36 : rn G mm_Water_wetCellsOf 36 lv [.int x] S P ↔ P (some (.int x)) S := rn_ir dq_Water_wetCellsOf_36 rfl
theorem dq_Weather_init_0 : decode (km_c mm_Weather_init) 0 = .ok (.aload_n 0, 1) := by decide +kernel
theorem sq_Weather_init_0 : rn G mm_Weather_init 0 [some (.ref z)] st S P ↔ rn G mm_Weather_init 1 [some (.ref z)] (.ref z :: st) S P := rn_s dq_Weather_init_0 rfl rfl rfl
theorem dq_Weather_init_1 : decode (km_c mm_Weather_init) 1 = .ok (.invokespecial 3, 3) := by decide +kernel
theorem dq_Weather_init_4 : decode (km_c mm_Weather_init) 4 = .ok (.aload_n 0, 1) := by decide +kernel
theorem sq_Weather_init_4 : rn G mm_Weather_init 4 [some (.ref z)] st S P ↔ rn G mm_Weather_init 5 [some (.ref z)] (.ref z :: st) S P := rn_s dq_Weather_init_4 rfl rfl rfl
theorem dq_Weather_init_5 : decode (km_c mm_Weather_init) 5 = .ok (.bipush 41, 2) := by decide +kernel
theorem sq_Weather_init_5 : rn G mm_Weather_init 5 lv st S P ↔ rn G mm_Weather_init 7 lv (.int (nI 41) :: st) S P := rn_s dq_Weather_init_5 rfl rfl rfl
theorem dq_Weather_init_7 : decode (km_c mm_Weather_init) 7 = .ok (.newarray .int, 2) := by decide +kernel
theorem dq_Weather_init_9 : decode (km_c mm_Weather_init) 9 = .ok (.putfield 9, 3) := by decide +kernel
theorem dq_Weather_init_12 : decode (km_c mm_Weather_init) 12 = .ok (.aload_n 0, 1) := by decide +kernel
theorem sq_Weather_init_12 : rn G mm_Weather_init 12 [some (.ref z)] st S P ↔ rn G mm_Weather_init 13 [some (.ref z)] (.ref z :: st) S P := rn_s dq_Weather_init_12 rfl rfl rfl
theorem dq_Weather_init_13 : decode (km_c mm_Weather_init) 13 = .ok (.iconst 1, 1) := by decide +kernel
theorem sq_Weather_init_13 : rn G mm_Weather_init 13 lv st S P ↔ rn G mm_Weather_init 14 lv (.int (nI 1) :: st) S P := rn_s dq_Weather_init_13 rfl rfl rfl
theorem dq_Weather_init_14 : decode (km_c mm_Weather_init) 14 = .ok (.putfield 15, 3) := by decide +kernel
theorem sq_Weather_init_14_14 (ho : sx_o o pl kp) : rn (lt_G o L) mm_Weather_init 14 lv (.int x :: .ref 14 :: st) (sx pl kp I A) P ↔ rn (lt_G o L) mm_Weather_init 17 lv st (sx pl kp (u2 I 14 1 x) A) P := rx_put (h := "") (ci := 7) (k := 1) dq_Weather_init_14 (by decide +kernel) ho (up_b (by decide)) rfl rfl (by decide) (by decide)
theorem sq_Weather_init_14_149 (ho : sx_o o pl true) : rn (lt_G o L) mm_Weather_init 14 lv (.int x :: .ref 149 :: st) (sx pl true I A) P ↔ rn (lt_G o L) mm_Weather_init 17 lv st (sx pl true (u2 I 149 1 x) A) P := rx_put (h := "") (ci := 7) (k := 1) dq_Weather_init_14 (by decide +kernel) ho (up_k (by decide) (by decide)) rfl rfl (by decide) (by decide)
theorem dq_Weather_init_17 : decode (km_c mm_Weather_init) 17 = .ok (.return_, 1) := by decide +kernel
theorem sq_Weather_init_17 : rn G mm_Weather_init 17 lv [] S P ↔ P none S := rn_vr dq_Weather_init_17 rfl
theorem dq_Weather_total_0 : decode (km_c mm_Weather_total) 0 = .ok (.aload_n 0, 1) := by decide +kernel
theorem sq_Weather_total_0 : rn G mm_Weather_total 0 [some (.ref z)] st S P ↔ rn G mm_Weather_total 1 [some (.ref z)] (.ref z :: st) S P := rn_s dq_Weather_total_0 rfl rfl rfl
theorem dq_Weather_total_1 : decode (km_c mm_Weather_total) 1 = .ok (.bipush 41, 2) := by decide +kernel
theorem sq_Weather_total_1 : rn G mm_Weather_total 1 lv st S P ↔ rn G mm_Weather_total 3 lv (.int (nI 41) :: st) S P := rn_s dq_Weather_total_1 rfl rfl rfl
theorem dq_Weather_total_3 : decode (km_c mm_Weather_total) 3 = .ok (.invokevirtual 25, 3) := by decide +kernel
theorem sq_Weather_total_3_14 {x1 : Int32} {v : Option Value} {S2 : ks_S} (hc : ev (lt_G o L) mm_Weather_totalBelow [.ref 14, .int x1] (sx pl kp I A) v S2) (ho : sx_o o pl kp) (hst : kx_cat st ≤ 8) : rn (lt_G o L) mm_Weather_total 3 lv (.int x1 :: .ref 14 :: st) (sx pl kp I A) P ↔ rn (lt_G o L) mm_Weather_total 6 lv (v.toList ++ st) S2 P := rn_cv (k := 0) (host := "") (E' := mm_Weather_totalBelow) dq_Weather_total_3 rfl (ok_v rfl (by decide) (by decide) (Nat.le_add_left _ _) hst (Nat.le_of_ble_eq_true rfl) (Or.inr (rc_v ho (up_b (by decide)) rfl))) rfl rfl hc
theorem sq_Weather_total_3_149 {x1 : Int32} {v : Option Value} {S2 : ks_S} (hc : ev (lt_G o L) mm_Weather_totalBelow [.ref 149, .int x1] (sx pl true I A) v S2) (ho : sx_o o pl true) (hst : kx_cat st ≤ 8) : rn (lt_G o L) mm_Weather_total 3 lv (.int x1 :: .ref 149 :: st) (sx pl true I A) P ↔ rn (lt_G o L) mm_Weather_total 6 lv (v.toList ++ st) S2 P := rn_cv (k := 0) (host := "") (E' := mm_Weather_totalBelow) dq_Weather_total_3 rfl (ok_v rfl (by decide) (by decide) (Nat.le_add_left _ _) hst (Nat.le_of_ble_eq_true rfl) (Or.inr (rc_v ho (up_k (by decide) (by decide)) rfl))) rfl rfl hc
theorem dq_Weather_total_6 : decode (km_c mm_Weather_total) 6 = .ok (.ireturn, 1) := by decide +kernel
theorem sq_Weather_total_6 : rn G mm_Weather_total 6 lv [.int x] S P ↔ P (some (.int x)) S := rn_ir dq_Weather_total_6 rfl
theorem dq_Weather_totalBelow_0 : decode (km_c mm_Weather_totalBelow) 0 = .ok (.iconst 0, 1) := by decide +kernel
theorem sq_Weather_totalBelow_0 : rn G mm_Weather_totalBelow 0 lv st S P ↔ rn G mm_Weather_totalBelow 1 lv (.int (nI 0) :: st) S P := rn_s dq_Weather_totalBelow_0 rfl rfl rfl
theorem dq_Weather_totalBelow_1 : decode (km_c mm_Weather_totalBelow) 1 = .ok (.istore_n 2, 1) := by decide +kernel
theorem sq_Weather_totalBelow_1n : rn G mm_Weather_totalBelow 1 [a0, none, a2, a3] (.int x :: st) S P ↔ rn G mm_Weather_totalBelow 2 [a0, none, some (.int x), a3] st S P := rn_s dq_Weather_totalBelow_1 rfl rfl rfl
theorem sq_Weather_totalBelow_1i : rn G mm_Weather_totalBelow 1 [a0, some (.int x2), a2, a3] (.int x :: st) S P ↔ rn G mm_Weather_totalBelow 2 [a0, some (.int x2), some (.int x), a3] st S P := rn_s dq_Weather_totalBelow_1 rfl rfl rfl
theorem sq_Weather_totalBelow_1r : rn G mm_Weather_totalBelow 1 [a0, some (.ref z2), a2, a3] (.int x :: st) S P ↔ rn G mm_Weather_totalBelow 2 [a0, some (.ref z2), some (.int x), a3] st S P := rn_s dq_Weather_totalBelow_1 rfl rfl rfl
theorem dq_Weather_totalBelow_2 : decode (km_c mm_Weather_totalBelow) 2 = .ok (.iconst 0, 1) := by decide +kernel
theorem sq_Weather_totalBelow_2 : rn G mm_Weather_totalBelow 2 lv st S P ↔ rn G mm_Weather_totalBelow 3 lv (.int (nI 0) :: st) S P := rn_s dq_Weather_totalBelow_2 rfl rfl rfl
theorem dq_Weather_totalBelow_3 : decode (km_c mm_Weather_totalBelow) 3 = .ok (.istore_n 3, 1) := by decide +kernel
theorem sq_Weather_totalBelow_3n : rn G mm_Weather_totalBelow 3 [a0, a1, none, a3] (.int x :: st) S P ↔ rn G mm_Weather_totalBelow 4 [a0, a1, none, some (.int x)] st S P := rn_s dq_Weather_totalBelow_3 rfl rfl rfl
theorem sq_Weather_totalBelow_3i : rn G mm_Weather_totalBelow 3 [a0, a1, some (.int x2), a3] (.int x :: st) S P ↔ rn G mm_Weather_totalBelow 4 [a0, a1, some (.int x2), some (.int x)] st S P := rn_s dq_Weather_totalBelow_3 rfl rfl rfl
theorem sq_Weather_totalBelow_3r : rn G mm_Weather_totalBelow 3 [a0, a1, some (.ref z2), a3] (.int x :: st) S P ↔ rn G mm_Weather_totalBelow 4 [a0, a1, some (.ref z2), some (.int x)] st S P := rn_s dq_Weather_totalBelow_3 rfl rfl rfl
theorem dq_Weather_totalBelow_4 : decode (km_c mm_Weather_totalBelow) 4 = .ok (.iload_n 3, 1) := by decide +kernel
theorem sq_Weather_totalBelow_4 : rn G mm_Weather_totalBelow 4 [a0, a1, a2, some (.int x)] st S P ↔ rn G mm_Weather_totalBelow 5 [a0, a1, a2, some (.int x)] (.int x :: st) S P := rn_s dq_Weather_totalBelow_4 rfl rfl rfl
theorem dq_Weather_totalBelow_5 : decode (km_c mm_Weather_totalBelow) 5 = .ok (.iload_n 1, 1) := by decide +kernel
theorem sq_Weather_totalBelow_5 : rn G mm_Weather_totalBelow 5 [a0, some (.int x), a2, a3] st S P ↔ rn G mm_Weather_totalBelow 6 [a0, some (.int x), a2, a3] (.int x :: st) S P := rn_s dq_Weather_totalBelow_5 rfl rfl rfl
theorem dq_Weather_totalBelow_6 : decode (km_c mm_Weather_totalBelow) 6 = .ok (.if_icmp .ge 24, 3) := by decide +kernel
theorem sq_Weather_totalBelow_6 : rn G mm_Weather_totalBelow 6 lv (.int x2 :: .int x :: st) S P ↔ ((x2 ≤ x → rn G mm_Weather_totalBelow 30 lv st S P) ∧ (¬ (x2 ≤ x) → rn G mm_Weather_totalBelow 9 lv st S P)) := rn_b (off := 24) dq_Weather_totalBelow_6 rfl rfl rfl rfl
theorem dq_Weather_totalBelow_9 : decode (km_c mm_Weather_totalBelow) 9 = .ok (.iload_n 3, 1) := by decide +kernel
theorem sq_Weather_totalBelow_9 : rn G mm_Weather_totalBelow 9 [a0, a1, a2, some (.int x)] st S P ↔ rn G mm_Weather_totalBelow 10 [a0, a1, a2, some (.int x)] (.int x :: st) S P := rn_s dq_Weather_totalBelow_9 rfl rfl rfl
theorem dq_Weather_totalBelow_10 : decode (km_c mm_Weather_totalBelow) 10 = .ok (.bipush 40, 2) := by decide +kernel
theorem sq_Weather_totalBelow_10 : rn G mm_Weather_totalBelow 10 lv st S P ↔ rn G mm_Weather_totalBelow 12 lv (.int (nI 40) :: st) S P := rn_s dq_Weather_totalBelow_10 rfl rfl rfl
theorem dq_Weather_totalBelow_12 : decode (km_c mm_Weather_totalBelow) 12 = .ok (.if_icmp .gt 18, 3) := by decide +kernel
theorem sq_Weather_totalBelow_12 : rn G mm_Weather_totalBelow 12 lv (.int x2 :: .int x :: st) S P ↔ ((x2 < x → rn G mm_Weather_totalBelow 30 lv st S P) ∧ (¬ (x2 < x) → rn G mm_Weather_totalBelow 15 lv st S P)) := rn_b (off := 18) dq_Weather_totalBelow_12 rfl rfl rfl rfl
theorem dq_Weather_totalBelow_15 : decode (km_c mm_Weather_totalBelow) 15 = .ok (.iload_n 2, 1) := by decide +kernel
theorem sq_Weather_totalBelow_15 : rn G mm_Weather_totalBelow 15 [a0, a1, some (.int x), a3] st S P ↔ rn G mm_Weather_totalBelow 16 [a0, a1, some (.int x), a3] (.int x :: st) S P := rn_s dq_Weather_totalBelow_15 rfl rfl rfl
theorem dq_Weather_totalBelow_16 : decode (km_c mm_Weather_totalBelow) 16 = .ok (.aload_n 0, 1) := by decide +kernel
theorem sq_Weather_totalBelow_16 : rn G mm_Weather_totalBelow 16 [some (.ref z), a1, a2, a3] st S P ↔ rn G mm_Weather_totalBelow 17 [some (.ref z), a1, a2, a3] (.ref z :: st) S P := rn_s dq_Weather_totalBelow_16 rfl rfl rfl
theorem dq_Weather_totalBelow_17 : decode (km_c mm_Weather_totalBelow) 17 = .ok (.getfield 9, 3) := by decide +kernel
theorem sq_Weather_totalBelow_17_14 (ho : sx_o o pl kp) : rn (lt_G o L) mm_Weather_totalBelow 17 lv (.ref 14 :: st) (sx pl kp I A) P ↔ rn (lt_G o L) mm_Weather_totalBelow 20 lv (.ref 15 :: st) (sx pl kp I A) P := rx_get (h := "") (ci := 7) (k := 0) dq_Weather_totalBelow_17 (by decide +kernel) ho (up_b (by decide)) rfl rfl (fl_r (by decide) (by decide) (by decide) (by decide))
theorem sq_Weather_totalBelow_17_149 (ho : sx_o o pl true) : rn (lt_G o L) mm_Weather_totalBelow 17 lv (.ref 149 :: st) (sx pl true I A) P ↔ rn (lt_G o L) mm_Weather_totalBelow 20 lv (.ref 150 :: st) (sx pl true I A) P := rx_get (h := "") (ci := 7) (k := 0) dq_Weather_totalBelow_17 (by decide +kernel) ho (up_k (by decide) (by decide)) rfl rfl (fl_k (by decide) (by decide))
theorem dq_Weather_totalBelow_20 : decode (km_c mm_Weather_totalBelow) 20 = .ok (.iload_n 3, 1) := by decide +kernel
theorem sq_Weather_totalBelow_20 : rn G mm_Weather_totalBelow 20 [a0, a1, a2, some (.int x)] st S P ↔ rn G mm_Weather_totalBelow 21 [a0, a1, a2, some (.int x)] (.int x :: st) S P := rn_s dq_Weather_totalBelow_20 rfl rfl rfl
theorem dq_Weather_totalBelow_21 : decode (km_c mm_Weather_totalBelow) 21 = .ok (.iaload, 1) := by decide +kernel
theorem sq_Weather_totalBelow_21 (ho : sx_o o pl kp) (hk : ak L a = 0) (hu : sx_up pl kp a = true ∨ 1000 ≤ a) (hc : c < ln L a) (hn : ln L a < 2 ^ 31) : rn (lt_G o L) mm_Weather_totalBelow 21 lv (.int (nI c) :: .ref a :: st) (sx pl kp I A) P ↔ rn (lt_G o L) mm_Weather_totalBelow 22 lv (.int (A a c) :: st) (sx pl kp I A) P := rx_ild dq_Weather_totalBelow_21 ho hk hu hc hn
theorem dq_Weather_totalBelow_22 : decode (km_c mm_Weather_totalBelow) 22 = .ok (.iadd, 1) := by decide +kernel
theorem sq_Weather_totalBelow_22 : rn G mm_Weather_totalBelow 22 lv (.int x2 :: .int x :: st) S P ↔ rn G mm_Weather_totalBelow 23 lv (.int (x + x2) :: st) S P := rn_s dq_Weather_totalBelow_22 rfl rfl rfl
theorem dq_Weather_totalBelow_23 : decode (km_c mm_Weather_totalBelow) 23 = .ok (.istore_n 2, 1) := by decide +kernel
theorem sq_Weather_totalBelow_23n : rn G mm_Weather_totalBelow 23 [a0, none, a2, a3] (.int x :: st) S P ↔ rn G mm_Weather_totalBelow 24 [a0, none, some (.int x), a3] st S P := rn_s dq_Weather_totalBelow_23 rfl rfl rfl
theorem sq_Weather_totalBelow_23i : rn G mm_Weather_totalBelow 23 [a0, some (.int x2), a2, a3] (.int x :: st) S P ↔ rn G mm_Weather_totalBelow 24 [a0, some (.int x2), some (.int x), a3] st S P := rn_s dq_Weather_totalBelow_23 rfl rfl rfl
theorem sq_Weather_totalBelow_23r : rn G mm_Weather_totalBelow 23 [a0, some (.ref z2), a2, a3] (.int x :: st) S P ↔ rn G mm_Weather_totalBelow 24 [a0, some (.ref z2), some (.int x), a3] st S P := rn_s dq_Weather_totalBelow_23 rfl rfl rfl
theorem dq_Weather_totalBelow_24 : decode (km_c mm_Weather_totalBelow) 24 = .ok (.iinc 3 1, 3) := by decide +kernel
theorem sq_Weather_totalBelow_24n : rn G mm_Weather_totalBelow 24 [a0, a1, none, some (.int x)] st S P ↔ rn G mm_Weather_totalBelow 27 [a0, a1, none, some (.int (x + nI 1))] st S P := rn_s dq_Weather_totalBelow_24 rfl rfl rfl
theorem sq_Weather_totalBelow_24i : rn G mm_Weather_totalBelow 24 [a0, a1, some (.int x2), some (.int x)] st S P ↔ rn G mm_Weather_totalBelow 27 [a0, a1, some (.int x2), some (.int (x + nI 1))] st S P := rn_s dq_Weather_totalBelow_24 rfl rfl rfl
theorem sq_Weather_totalBelow_24r : rn G mm_Weather_totalBelow 24 [a0, a1, some (.ref z2), some (.int x)] st S P ↔ rn G mm_Weather_totalBelow 27 [a0, a1, some (.ref z2), some (.int (x + nI 1))] st S P := rn_s dq_Weather_totalBelow_24 rfl rfl rfl
theorem dq_Weather_totalBelow_27 : decode (km_c mm_Weather_totalBelow) 27 = .ok (.goto (-23), 3) := by decide +kernel
theorem sq_Weather_totalBelow_27 : rn G mm_Weather_totalBelow 27 lv st S P ↔ rn G mm_Weather_totalBelow 4 lv st S P := rn_s dq_Weather_totalBelow_27 rfl rfl rfl
theorem dq_Weather_totalBelow_30 : decode (km_c mm_Weather_totalBelow) 30 = .ok (.iload_n 2, 1) := by decide +kernel
theorem sq_Weather_totalBelow_30 : rn G mm_Weather_totalBelow 30 [a0, a1, some (.int x), a3] st S P ↔ rn G mm_Weather_totalBelow 31 [a0, a1, some (.int x), a3] (.int x :: st) S P := rn_s dq_Weather_totalBelow_30 rfl rfl rfl
theorem dq_Weather_totalBelow_31 : decode (km_c mm_Weather_totalBelow) 31 = .ok (.ireturn, 1) := by decide +kernel
theorem sq_Weather_totalBelow_31 : rn G mm_Weather_totalBelow 31 lv [.int x] S P ↔ P (some (.int x)) S := rn_ir dq_Weather_totalBelow_31 rfl
end SQ
